/-! the law's cases -/
set_option maxRecDepth 100000 in
theorem zcmp_self (x : Int) : zcmp x x = 0 := by
  unfold zcmp
  rw [if_neg (by omega), if_pos rfl]
section LXROWS
variable {Γ : GG} {M M' : MT} {pc : Nat} {lo : List (Option AV)} {st : List AV} {σ : HS} {cu su : Nat} {Q : Res → HS → Prop}
set_option maxRecDepth 100000 in
theorem zcSX1 {idx : Nat} {h0 : Nat × Nat × Nat × Nat} {ht : List (Nat × Nat × Nat × Nat)} {x0 : AV} (d : decode (mB M) pc = .ok (.invokestatic idx, 3)) (hh : mH M' = h0 :: ht) (he : zCeS M' 1) (hlk : Cond.methodLink (mY M).cls idx (mY M') ∈ BIG) (hrm : zRm M M' cu su) (hhm : mH M = []) (hcat : zcat st ≤ 8) (k : zM Γ M' [x0] σ (zk Γ M pc lo st (cu + mC M') (su + mS M') Q)) : zW Γ M pc lo (x0 :: st) σ cu su Q :=
  zW_callSX (av := [x0]) d hh he hlk hrm rfl rfl hcat (zM_mono k (zk_zc hhm hrm.2.2.1 hrm.2.2.2))
set_option maxRecDepth 100000 in
theorem zcSX2 {idx : Nat} {h0 : Nat × Nat × Nat × Nat} {ht : List (Nat × Nat × Nat × Nat)} {x0 x1 : AV} (d : decode (mB M) pc = .ok (.invokestatic idx, 3)) (hh : mH M' = h0 :: ht) (he : zCeS M' 2) (hlk : Cond.methodLink (mY M).cls idx (mY M') ∈ BIG) (hrm : zRm M M' cu su) (hhm : mH M = []) (hcat : zcat st ≤ 8) (k : zM Γ M' [x0, x1] σ (zk Γ M pc lo st (cu + mC M') (su + mS M') Q)) : zW Γ M pc lo (x1 :: x0 :: st) σ cu su Q :=
  zW_callSX (av := [x0, x1]) d hh he hlk hrm rfl rfl hcat (zM_mono k (zk_zc hhm hrm.2.2.1 hrm.2.2.2))
set_option maxRecDepth 100000 in
theorem zcSX3 {idx : Nat} {h0 : Nat × Nat × Nat × Nat} {ht : List (Nat × Nat × Nat × Nat)} {x0 x1 x2 : AV} (d : decode (mB M) pc = .ok (.invokestatic idx, 3)) (hh : mH M' = h0 :: ht) (he : zCeS M' 3) (hlk : Cond.methodLink (mY M).cls idx (mY M') ∈ BIG) (hrm : zRm M M' cu su) (hhm : mH M = []) (hcat : zcat st ≤ 8) (k : zM Γ M' [x0, x1, x2] σ (zk Γ M pc lo st (cu + mC M') (su + mS M') Q)) : zW Γ M pc lo (x2 :: x1 :: x0 :: st) σ cu su Q :=
  zW_callSX (av := [x0, x1, x2]) d hh he hlk hrm rfl rfl hcat (zM_mono k (zk_zc hhm hrm.2.2.1 hrm.2.2.2))
set_option maxRecDepth 100000 in
theorem zcSX4 {idx : Nat} {h0 : Nat × Nat × Nat × Nat} {ht : List (Nat × Nat × Nat × Nat)} {x0 x1 x2 x3 : AV} (d : decode (mB M) pc = .ok (.invokestatic idx, 3)) (hh : mH M' = h0 :: ht) (he : zCeS M' 4) (hlk : Cond.methodLink (mY M).cls idx (mY M') ∈ BIG) (hrm : zRm M M' cu su) (hhm : mH M = []) (hcat : zcat st ≤ 8) (k : zM Γ M' [x0, x1, x2, x3] σ (zk Γ M pc lo st (cu + mC M') (su + mS M') Q)) : zW Γ M pc lo (x3 :: x2 :: x1 :: x0 :: st) σ cu su Q :=
  zW_callSX (av := [x0, x1, x2, x3]) d hh he hlk hrm rfl rfl hcat (zM_mono k (zk_zc hhm hrm.2.2.1 hrm.2.2.2))
set_option maxRecDepth 100000 in
theorem zcSX5 {idx : Nat} {h0 : Nat × Nat × Nat × Nat} {ht : List (Nat × Nat × Nat × Nat)} {x0 x1 x2 x3 x4 : AV} (d : decode (mB M) pc = .ok (.invokestatic idx, 3)) (hh : mH M' = h0 :: ht) (he : zCeS M' 5) (hlk : Cond.methodLink (mY M).cls idx (mY M') ∈ BIG) (hrm : zRm M M' cu su) (hhm : mH M = []) (hcat : zcat st ≤ 8) (k : zM Γ M' [x0, x1, x2, x3, x4] σ (zk Γ M pc lo st (cu + mC M') (su + mS M') Q)) : zW Γ M pc lo (x4 :: x3 :: x2 :: x1 :: x0 :: st) σ cu su Q :=
  zW_callSX (av := [x0, x1, x2, x3, x4]) d hh he hlk hrm rfl rfl hcat (zM_mono k (zk_zc hhm hrm.2.2.1 hrm.2.2.2))
set_option maxRecDepth 100000 in
theorem zcSX6 {idx : Nat} {h0 : Nat × Nat × Nat × Nat} {ht : List (Nat × Nat × Nat × Nat)} {x0 x1 x2 x3 x4 x5 : AV} (d : decode (mB M) pc = .ok (.invokestatic idx, 3)) (hh : mH M' = h0 :: ht) (he : zCeS M' 6) (hlk : Cond.methodLink (mY M).cls idx (mY M') ∈ BIG) (hrm : zRm M M' cu su) (hhm : mH M = []) (hcat : zcat st ≤ 8) (k : zM Γ M' [x0, x1, x2, x3, x4, x5] σ (zk Γ M pc lo st (cu + mC M') (su + mS M') Q)) : zW Γ M pc lo (x5 :: x4 :: x3 :: x2 :: x1 :: x0 :: st) σ cu su Q :=
  zW_callSX (av := [x0, x1, x2, x3, x4, x5]) d hh he hlk hrm rfl rfl hcat (zM_mono k (zk_zc hhm hrm.2.2.1 hrm.2.2.2))
set_option maxRecDepth 100000 in
theorem zcSX7 {idx : Nat} {h0 : Nat × Nat × Nat × Nat} {ht : List (Nat × Nat × Nat × Nat)} {x0 x1 x2 x3 x4 x5 x6 : AV} (d : decode (mB M) pc = .ok (.invokestatic idx, 3)) (hh : mH M' = h0 :: ht) (he : zCeS M' 7) (hlk : Cond.methodLink (mY M).cls idx (mY M') ∈ BIG) (hrm : zRm M M' cu su) (hhm : mH M = []) (hcat : zcat st ≤ 8) (k : zM Γ M' [x0, x1, x2, x3, x4, x5, x6] σ (zk Γ M pc lo st (cu + mC M') (su + mS M') Q)) : zW Γ M pc lo (x6 :: x5 :: x4 :: x3 :: x2 :: x1 :: x0 :: st) σ cu su Q :=
  zW_callSX (av := [x0, x1, x2, x3, x4, x5, x6]) d hh he hlk hrm rfl rfl hcat (zM_mono k (zk_zc hhm hrm.2.2.1 hrm.2.2.2))
end LXROWS
section LAW
variable {Γ : GG} {σ σ' : HS} {cu su : Nat} {Q : Res → HS → Prop} {x y z i : Nat} {A : AA} {z5 z6 z7 : Option AV}
/-- the script's entries -/
def sx (Γ : GG) (j : Nat) : Int := (gx Γ j).toInt
set_option maxRecDepth 100000 in
theorem sx_in (Γ : GG) (j : Nat) : InR (sx Γ j) := InR_of _
set_option maxRecDepth 100000 in
theorem zsI {M : MT} {pc : Nat} {lo : List (Option AV)} {st : List AV} {iz : Int} {j : Nat} (d : decode (mB M) pc = .ok (.iaload, 1)) (hn : gL Γ ≤ 3072) (hj : iz = (j : Int)) (h : j < gL Γ) (k : zW Γ M (pc + 1) lo (vI (sx Γ j) :: st) σ cu su Q) : zW Γ M pc lo (vI iz :: vR (some (gb Γ)) :: st) σ cu su Q := by
  subst hj
  exact zW_sld d (by omega) (by omega) (by omega) k
/-- what holds at the head of the law's loop -/
def LHd (Γ : GG) (σ : HS) (x y z : Nat) (A : AA) : Prop := CI σ x A ∧ RI σ y A ∧ AO A ∧ zK σ z = (14, 1) ∧ gL Γ ≤ 3072 ∧ ((z < x ∨ x + 521 ≤ z) ∧ (z < y ∨ y + 18 ≤ z)) ∧ (y + 18 ≤ x ∨ x + 521 ≤ y)
set_option maxRecDepth 100000 in
theorem LHd.step {σ1 σ2 : HS} {A' : AA} (h : LHd Γ σ x y z A) (m1 : Mx σ σ1 (lzz x z)) (h1 : CI σ1 x A') (hz : zK σ1 z = (14, 1)) (hR : RI σ2 y A') (m2 : Md σ1 σ2 (yr y)) (ao : AO A') : LHd Γ σ2 x y z A' := by
  obtain ⟨a1, a2, a3, a4, a6, b, a9⟩ := h
  exact ⟨h1.out m2 (fun a g1 g2 q => by unfold yr at q; omega), hR, ao, by rw [m2.K]; exact hz, a6, b, a9⟩
set_option maxRecDepth 100000 in
theorem aq_wordLength {r : Int} (ao : AO A) : AO (o_wordLength A r).2.2 := by
  unfold o_wordLength
  try unfold g2
  try unfold g1
  try unfold gg2
  try unfold gg1
  repeat' split
  all_goals exact ao
set_option maxRecDepth 100000 in
theorem aq_letter {r i : Int} (ao : AO A) : AO (o_letter A r i).2.2 := by
  unfold o_letter
  try unfold g2
  try unfold g1
  try unfold gg2
  try unfold gg1
  repeat' split
  all_goals exact ao
set_option maxRecDepth 100000 in
theorem aq_areEqual {r s : Int} (ao : AO A) : AO (o_areEqual A r s).2.2 := by
  unfold o_areEqual
  try unfold g2
  try unfold g1
  try unfold gg2
  try unfold gg1
  repeat' split
  all_goals exact ao
set_option maxRecDepth 100000 in
theorem aq_areInverse {r s : Int} (ao : AO A) : AO (o_areInverse A r s).2.2 := by
  unfold o_areInverse
  try unfold g2
  try unfold g1
  try unfold gg2
  try unfold gg1
  repeat' split
  all_goals exact ao
set_option maxRecDepth 100000 in
theorem aq_compare {r s : Int} (ao : AO A) : AO (o_compare A r s).2.2 := by
  unfold o_compare
  try unfold g2
  try unfold g1
  try unfold gg2
  try unfold gg1
  repeat' split
  all_goals exact ao
set_option maxRecDepth 100000 in
theorem aq_exponentSum {r i : Int} (ao : AO A) : AO (o_exponentSum A r i).2.2 := by
  unfold o_exponentSum
  try unfold g2
  try unfold g1
  try unfold gg2
  try unfold gg1
  repeat' split
  all_goals exact ao
set_option maxRecDepth 100000 in
theorem aq_commonPrefix {r s : Int} (ao : AO A) : AO (o_commonPrefix A r s).2.2 := by
  unfold o_commonPrefix
  try unfold g2
  try unfold g1
  try unfold gg2
  try unfold gg1
  repeat' split
  all_goals exact ao
set_option maxRecDepth 100000 in
theorem aq_cancellation {r s : Int} (ao : AO A) : AO (o_cancellation A r s).2.2 := by
  unfold o_cancellation
  try unfold g2
  try unfold g1
  try unfold gg2
  try unfold gg1
  repeat' split
  all_goals exact ao
set_option maxRecDepth 100000 in
theorem aq_doCommute {r s : Int} (ao : AO A) : AO (o_doCommute A r s).2.2 := by
  unfold o_doCommute
  try unfold g2
  try unfold g1
  try unfold gg2
  try unfold gg1
  repeat' split
  all_goals exact ao
set_option maxRecDepth 100000 in
theorem aq_coreLength {r : Int} (ao : AO A) : AO (o_coreLength A r).2.2 := by
  unfold o_coreLength
  try unfold g2
  try unfold g1
  try unfold gg2
  try unfold gg1
  repeat' split
  all_goals exact ao
set_option maxRecDepth 100000 in
theorem aq_coreLetter {r i : Int} (ao : AO A) : AO (o_coreLetter A r i).2.2 := by
  unfold o_coreLetter
  try unfold g2
  try unfold g1
  try unfold gg2
  try unfold gg1
  repeat' split
  all_goals exact ao
set_option maxRecDepth 100000 in
theorem aq_areConjugate {r s : Int} (ao : AO A) : AO (o_areConjugate A r s).2.2 := by
  unfold o_areConjugate
  try unfold g2
  try unfold g1
  try unfold gg2
  try unfold gg1
  repeat' split
  all_goals exact ao
set_option maxRecDepth 100000 in
theorem aq_rotation {r s : Int} (ao : AO A) : AO (o_rotation A r s).2.2 := by
  unfold o_rotation
  try unfold g2
  try unfold g1
  try unfold gg2
  try unfold gg1
  repeat' split
  all_goals exact ao
set_option maxRecDepth 100000 in
theorem aq_rootExponent {r : Int} (ao : AO A) : AO (o_rootExponent A r).2.2 := by
  unfold o_rootExponent
  try unfold g2
  try unfold g1
  try unfold gg2
  try unfold gg1
  repeat' split
  all_goals exact ao
set_option maxRecDepth 100000 in
theorem aq_magnusDegree {r : Int} (ao : AO A) : AO (o_magnusDegree A r).2.2 := by
  unfold o_magnusDegree
  try unfold g2
  try unfold g1
  try unfold gg2
  try unfold gg1
  repeat' split
  all_goals exact ao
set_option maxRecDepth 100000 in
theorem aq_magnusCoefficient {r a b : Int} (ao : AO A) : AO (o_magnusCoefficient A r a b).2.2 := by
  unfold o_magnusCoefficient
  try unfold g2
  try unfold g1
  try unfold gg2
  try unfold gg1
  repeat' split
  all_goals exact ao
set_option maxRecDepth 100000 in
theorem aq_magnusNorm {r d : Int} (ao : AO A) : AO (o_magnusNorm A r d).2.2 := by
  unfold o_magnusNorm
  try unfold g2
  try unfold g1
  try unfold gg2
  try unfold gg1
  repeat' split
  all_goals exact ao
set_option maxRecDepth 100000 in
theorem aq_generatingWordCount {g : Int} (ao : AO A) : AO (o_generatingWordCount A g).2.2 := by
  unfold o_generatingWordCount
  try unfold g2
  try unfold g1
  try unfold gg2
  try unfold gg1
  repeat' split
  all_goals exact ao
set_option maxRecDepth 100000 in
theorem aq_vertexCount {g : Int} (ao : AO A) : AO (o_vertexCount A g).2.2 := by
  unfold o_vertexCount
  try unfold g2
  try unfold g1
  try unfold gg2
  try unfold gg1
  repeat' split
  all_goals exact ao
set_option maxRecDepth 100000 in
theorem aq_edgeCount {g : Int} (ao : AO A) : AO (o_edgeCount A g).2.2 := by
  unfold o_edgeCount
  try unfold g2
  try unfold g1
  try unfold gg2
  try unfold gg1
  repeat' split
  all_goals exact ao
set_option maxRecDepth 100000 in
theorem aq_neighbour {g v c : Int} (ao : AO A) : AO (o_neighbour A g v c).2.2 := by
  unfold o_neighbour
  try unfold g2
  try unfold g1
  try unfold gg2
  try unfold gg1
  repeat' split
  all_goals exact ao
set_option maxRecDepth 100000 in
theorem aq_subgroupRank {g : Int} (ao : AO A) : AO (o_subgroupRank A g).2.2 := by
  unfold o_subgroupRank
  try unfold g2
  try unfold g1
  try unfold gg2
  try unfold gg1
  repeat' split
  all_goals exact ao
set_option maxRecDepth 100000 in
theorem aq_index {g : Int} (ao : AO A) : AO (o_index A g).2.2 := by
  unfold o_index
  try unfold g2
  try unfold g1
  try unfold gg2
  try unfold gg1
  repeat' split
  all_goals exact ao
set_option maxRecDepth 100000 in
theorem aq_contains {g r : Int} (ao : AO A) : AO (o_contains A g r).2.2 := by
  unfold o_contains
  try unfold g2
  try unfold g1
  try unfold gg2
  try unfold gg1
  repeat' split
  all_goals exact ao
set_option maxRecDepth 100000 in
theorem aq_reachedVertex {g r : Int} (ao : AO A) : AO (o_reachedVertex A g r).2.2 := by
  unfold o_reachedVertex
  try unfold g2
  try unfold g1
  try unfold gg2
  try unfold gg1
  repeat' split
  all_goals exact ao
set_option maxRecDepth 100000 in
theorem aq_smallestPower {g r : Int} (ao : AO A) : AO (o_smallestPower A g r).2.2 := by
  unfold o_smallestPower
  try unfold g2
  try unfold g1
  try unfold gg2
  try unfold gg1
  repeat' split
  all_goals exact ao
set_option maxRecDepth 100000 in
theorem aq_isNormal {g : Int} (ao : AO A) : AO (o_isNormal A g).2.2 := by
  unfold o_isNormal
  try unfold g2
  try unfold g1
  try unfold gg2
  try unfold gg1
  repeat' split
  all_goals exact ao
set_option maxRecDepth 100000 in
theorem aq_containsSubgroup {g f : Int} (ao : AO A) : AO (o_containsSubgroup A g f).2.2 := by
  unfold o_containsSubgroup
  try unfold g2
  try unfold g1
  try unfold gg2
  try unfold gg1
  repeat' split
  all_goals exact ao
set_option maxRecDepth 100000 in
theorem aq_representativeLength {g v : Int} (ao : AO A) : AO (o_representativeLength A g v).2.2 := by
  unfold o_representativeLength
  try unfold g2
  try unfold g1
  try unfold gg2
  try unfold gg1
  repeat' split
  all_goals exact ao
set_option maxRecDepth 100000 in
theorem aq_formatWord {r : Int} (ao : AO A) : AO (o_formatWord A r).2.2 := by
  unfold o_formatWord
  try unfold g2
  try unfold g1
  try unfold gg2
  try unfold gg1
  repeat' split
  all_goals exact ao
set_option maxRecDepth 100000 in
theorem aq_formatBasisWord {g k : Int} (ao : AO A) : AO (o_formatBasisWord A g k).2.2 := by
  unfold o_formatBasisWord
  try unfold g2
  try unfold g1
  try unfold gg2
  try unfold gg1
  repeat' split
  all_goals exact ao
set_option maxRecDepth 100000 in
theorem aq_formatRepresentative {g v : Int} (ao : AO A) : AO (o_formatRepresentative A g v).2.2 := by
  unfold o_formatRepresentative
  try unfold g2
  try unfold g1
  try unfold gg2
  try unfold gg1
  repeat' split
  all_goals exact ao
set_option maxRecDepth 100000 in
theorem aq_formattedCharacter {i : Int} (ao : AO A) : AO (o_formattedCharacter A i).2.2 := by
  unfold o_formattedCharacter
  try unfold g2
  try unfold g1
  try unfold gg2
  try unfold gg1
  repeat' split
  all_goals exact ao
set_option maxRecDepth 100000 in
theorem w_0_append (h : LHd Γ σ x y z A) (hi : i + 6 ≤ gL Γ) (hc : cu ≤ 600000) (hs : su ≤ 7200000) (k : ∀ σ' A' cu' su' z5 z6 z7, LHd Γ σ' x y z A' → cu' ≤ cu + 20 → su' ≤ su + 150 → zW Γ mLaw 3534 [some (vR (some (gb Γ))), some (vR (some x)), some (vR (some y)), some (vR (some z)), some (vI i), z5, z6, z7] [] σ' cu' su' Q) : zW Γ mLaw 272 [some (vR (some (gb Γ))), some (vR (some x)), some (vR (some y)), some (vR (some z)), some (vI i), z5, z6, z7] [] σ cu su Q := by
  obtain ⟨a1, a2, a3, a4, a6, ⟨b4, b5⟩, a9⟩ := id h
  have hIn : ∀ j, InR (sx Γ j) := sx_in Γ
  have hr9 := a3.1.1.2
  have on := on_append (A := A) (v0 := sx Γ (i + 1)) (v1 := sx Γ (i + 2)) (v2 := sx Γ (i + 3)) (v3 := sx Γ (i + 4)) (v4 := sx Γ (i + 5))
  have aoo := ao_append (A := A) (v0 := sx Γ (i + 1)) (v1 := sx Γ (i + 2)) (v2 := sx Γ (i + 3)) (v3 := sx Γ (i + 4)) (v4 := sx Γ (i + 5)) a3
  refine zW_aload_n dL_law_272 rfl ?_
  refine zW_aload_n dL_law_273 rfl ?_
  refine zW_iload dL_law_274 rfl ?_
  refine zW_iconst dL_law_276 ?_
  refine zW_iadd dL_law_277 ?_
  refine zsI (j := i + 1) dL_law_278 a6 (by omega) (by omega) ?_
  refine zW_aload_n dL_law_279 rfl ?_
  refine zW_iload dL_law_280 rfl ?_
  refine zW_iconst dL_law_282 ?_
  refine zW_iadd dL_law_283 ?_
  refine zsI (j := i + 2) dL_law_284 a6 (by omega) (by omega) ?_
  refine zW_aload_n dL_law_285 rfl ?_
  refine zW_iload dL_law_286 rfl ?_
  refine zW_iconst dL_law_288 ?_
  refine zW_iadd dL_law_289 ?_
  refine zsI (j := i + 3) dL_law_290 a6 (by omega) (by omega) ?_
  refine zW_aload_n dL_law_291 rfl ?_
  refine zW_iload dL_law_292 rfl ?_
  refine zW_iconst dL_law_294 ?_
  refine zW_iadd dL_law_295 ?_
  refine zsI (j := i + 4) dL_law_296 a6 (by omega) (by omega) ?_
  refine zW_aload_n dL_law_297 rfl ?_
  refine zW_iload dL_law_298 rfl ?_
  refine zW_iconst dL_law_300 ?_
  refine zW_iadd dL_law_301 ?_
  refine zsI (j := i + 5) dL_law_302 a6 (by omega) (by omega) ?_
  refine zW_aload_n dL_law_303 rfl ?_
  refine zcSX7 dL_law_304 rfl eL_append b517 ⟨by decide, by decide, (by show cu + 0 + 1 ≤ 601024; omega), (by show su + 0 + 6 ≤ 7293034; omega)⟩ rfl (Nat.le_of_ble_eq_true rfl) (l_append a1 a4 b4  (fun σ1 h1 m1 hz1 e1 => ?_))
  have r1 : RI σ1 y A := a2.out m1 (fun a g1 g2 q => by unfold lzz xr at q; omega)
  refine zW_istore dL_law_307 (by decide) rfl rfl ?_
  refine zW_aload_n dL_law_309 rfl ?_
  refine zW_aload_n dL_law_310 rfl ?_
  refine zW_iload dL_law_311 rfl ?_
  refine zW_iconst dL_law_313 ?_
  refine zW_iadd dL_law_314 ?_
  refine zsI (j := i + 1) dL_law_315 a6 (by omega) (by omega) ?_
  refine zW_aload_n dL_law_316 rfl ?_
  refine zW_iload dL_law_317 rfl ?_
  refine zW_iconst dL_law_319 ?_
  refine zW_iadd dL_law_320 ?_
  refine zsI (j := i + 2) dL_law_321 a6 (by omega) (by omega) ?_
  refine zW_aload_n dL_law_322 rfl ?_
  refine zW_iload dL_law_323 rfl ?_
  refine zW_iconst dL_law_325 ?_
  refine zW_iadd dL_law_326 ?_
  refine zsI (j := i + 3) dL_law_327 a6 (by omega) (by omega) ?_
  refine zW_aload_n dL_law_328 rfl ?_
  refine zW_iload dL_law_329 rfl ?_
  refine zW_iconst dL_law_331 ?_
  refine zW_iadd dL_law_332 ?_
  refine zsI (j := i + 4) dL_law_333 a6 (by omega) (by omega) ?_
  refine zW_aload_n dL_law_334 rfl ?_
  refine zW_iload dL_law_335 rfl ?_
  refine zW_iconst dL_law_337 ?_
  refine zW_iadd dL_law_338 ?_
  refine zsI (j := i + 5) dL_law_339 a6 (by omega) (by omega) ?_
  refine zcV5 dL_law_340 rfl eX10_append b1367 ⟨by decide, by decide, (by show cu + 1 + 0 ≤ 601024; omega), (by show su + 6 + 0 ≤ 7293034; omega)⟩ rfl r1.1.1 rfl (by decide) (Nat.le_of_ble_eq_true rfl) (q_append r1  (fun σ2 v2 hR ht hm hv => ?_))
  generalize o_append A (sx Γ (i + 1)) (sx Γ (i + 2)) (sx Γ (i + 3)) (sx Γ (i + 4)) (sx Γ (i + 5)) = o at on aoo h1 e1 hR ht hv
  have hL := h.step m1 h1 hz1 hR hm aoo
  refine zW_istore dL_law_343 (by decide) rfl rfl ?_
  refine zW_aload_n dL_law_345 rfl ?_
  refine zcV0 dL_law_346 rfl eX10_thrown b1363 ⟨by decide, by decide, (by show cu + 1 + 0 + 0 ≤ 601024; omega), (by show su + 6 + 0 + 0 ≤ 7293034; omega)⟩ rfl hR.1.1 rfl (by decide) (Nat.le_of_ble_eq_true rfl) (q_thrown hR.1.1 ht ?_)
  refine zW_iload dL_law_349 rfl ?_
  refine zW_icmp_eq (tgt := 356) dL_law_351 (by decide) (by first | assumption | omega | (unfold InR; omega) | (unfold InL; omega) | (simp only [InR] at *; omega)) (by first | assumption | omega | (unfold InR; omega) | (unfold InL; omega) | (simp only [InR] at *; omega)) (fun b => ?_) (fun b => ?_)
  · refine zW_iload dL_law_356 rfl ?_
    refine zW_if_ne (tgt := 373) dL_law_358 (by decide) (by first | assumption | omega | (unfold InR; omega) | (unfold InL; omega) | (simp only [InR] at *; omega)) (fun b2 => ?_) (fun b2 => ?_)
    · refine zW_goto (tgt := 3534) dL_law_373 (by decide) ?_
      exact k σ2 _ _ _ _ _ _ hL (by show cu + 1 + 0 + 0 ≤ cu + 20; omega) (by show su + 6 + 0 + 0 ≤ su + 150; omega)
    · have e0 : o.1 = 0 := by omega
      have ez : zJ σ2 z 0 = nrm o.2.1 := by rw [hm.j (fun q => by unfold yr at q; omega)]; exact e1 e0
      have ev := hv e0
      have hz2 : zK σ2 z = (14, 1) := by rw [hm.K]; exact hz1
      have hJ : InL (nrm o.2.1) := by have := nrm_in o.2.1; unfold InR at this; unfold InL; omega
      refine zW_aload_n dL_law_361 rfl ?_
      refine zW_iconst dL_law_362 ?_
      refine zrJ dL_law_363 hz2 (by first | assumption | omega | (unfold InR; omega) | (unfold InL; omega) | (simp only [InR] at *; omega)) (by first | assumption | omega | (unfold InR; omega) | (unfold InL; omega) | (simp only [InR] at *; omega)) (by first | assumption | omega | (unfold InR; omega) | (unfold InL; omega) | (simp only [InR] at *; omega)) ez ?_
      refine zW_iload dL_law_364 rfl ?_
      rw [ev]
      refine zW_nrm ?_
      refine zW_i2l dL_law_366 (nrm_in _) ?_
      refine zW_lcmp dL_law_367 hJ hJ ?_
      rw [zcmp_self]
      refine zW_if_eq (tgt := 373) dL_law_368 (by decide) (by first | assumption | omega | (unfold InR; omega) | (unfold InL; omega) | (simp only [InR] at *; omega)) (fun b4 => ?_) (fun b4 => ?_)
      · refine zW_goto (tgt := 3534) dL_law_373 (by decide) ?_
        exact k σ2 _ _ _ _ _ _ hL (by show cu + 1 + 0 + 0 ≤ cu + 20; omega) (by show su + 6 + 0 + 0 ≤ su + 150; omega)
      · exact absurd rfl b4
  · exact absurd rfl b
set_option maxRecDepth 100000 in
theorem w_1_truncate (h : LHd Γ σ x y z A) (hi : i + 6 ≤ gL Γ) (hc : cu ≤ 600000) (hs : su ≤ 7200000) (k : ∀ σ' A' cu' su' z5 z6 z7, LHd Γ σ' x y z A' → cu' ≤ cu + 20 → su' ≤ su + 150 → zW Γ mLaw 3534 [some (vR (some (gb Γ))), some (vR (some x)), some (vR (some y)), some (vR (some z)), some (vI i), z5, z6, z7] [] σ' cu' su' Q) : zW Γ mLaw 376 [some (vR (some (gb Γ))), some (vR (some x)), some (vR (some y)), some (vR (some z)), some (vI i), z5, z6, z7] [] σ cu su Q := by
  obtain ⟨a1, a2, a3, a4, a6, ⟨b4, b5⟩, a9⟩ := id h
  have hIn : ∀ j, InR (sx Γ j) := sx_in Γ
  have hr9 := a3.1.1.2
  have on := on_truncate (A := A) (n := sx Γ (i + 1))
  have aoo := ao_truncate (A := A) (n := sx Γ (i + 1)) a3
  refine zW_aload_n dL_law_376 rfl ?_
  refine zW_aload_n dL_law_377 rfl ?_
  refine zW_iload dL_law_378 rfl ?_
  refine zW_iconst dL_law_380 ?_
  refine zW_iadd dL_law_381 ?_
  refine zsI (j := i + 1) dL_law_382 a6 (by omega) (by omega) ?_
  refine zcSX2 dL_law_383 rfl eL_truncate b545 ⟨by decide, by decide, (by show cu + 0 + 1 ≤ 601024; omega), (by show su + 0 + 6 ≤ 7293034; omega)⟩ rfl (Nat.le_of_ble_eq_true rfl) (l_truncate a1 (hIn _) (fun σ1 h1 m1 => ?_))
  have hz1 : zK σ1 z = (14, 1) := by rw [(m1 z (fun q => by unfold xr at q; omega)).1]; exact a4
  have m1 : Mx σ σ1 (lzz x z) := m1.lz0
  have r1 : RI σ1 y A := a2.out m1 (fun a g1 g2 q => by unfold lzz xr at q; omega)
  refine zW_istore dL_law_386 (by decide) rfl rfl ?_
  refine zW_aload_n dL_law_388 rfl ?_
  refine zW_aload_n dL_law_389 rfl ?_
  refine zW_iload dL_law_390 rfl ?_
  refine zW_iconst dL_law_392 ?_
  refine zW_iadd dL_law_393 ?_
  refine zsI (j := i + 1) dL_law_394 a6 (by omega) (by omega) ?_
  refine zcV1 dL_law_395 rfl eX10_truncate b1379 ⟨by decide, by decide, (by show cu + 1 + 0 ≤ 601024; omega), (by show su + 6 + 0 ≤ 7293034; omega)⟩ rfl r1.1.1 rfl (by decide) (Nat.le_of_ble_eq_true rfl) (q_truncate r1 (hIn _) (fun σ2 hR ht hm => ?_))
  generalize o_truncate A (sx Γ (i + 1)) = o at on aoo h1 hR ht 
  have hL := h.step m1 h1 hz1 hR hm aoo
  refine zW_aload_n dL_law_398 rfl ?_
  refine zcV0 dL_law_399 rfl eX10_thrown b1363 ⟨by decide, by decide, (by show cu + 1 + 0 + 0 ≤ 601024; omega), (by show su + 6 + 0 + 0 ≤ 7293034; omega)⟩ rfl hR.1.1 rfl (by decide) (Nat.le_of_ble_eq_true rfl) (q_thrown hR.1.1 ht ?_)
  refine zW_iload dL_law_402 rfl ?_
  refine zW_icmp_eq (tgt := 409) dL_law_404 (by decide) (by first | assumption | omega | (unfold InR; omega) | (unfold InL; omega) | (simp only [InR] at *; omega)) (by first | assumption | omega | (unfold InR; omega) | (unfold InL; omega) | (simp only [InR] at *; omega)) (fun b => ?_) (fun b => ?_)
  · refine zW_goto (tgt := 3534) dL_law_409 (by decide) ?_
    exact k σ2 _ _ _ _ _ _ hL (by show cu + 1 + 0 + 0 ≤ cu + 20; omega) (by show su + 6 + 0 + 0 ≤ su + 150; omega)
  · exact absurd rfl b
set_option maxRecDepth 100000 in
theorem w_2_load (h : LHd Γ σ x y z A) (hi : i + 6 ≤ gL Γ) (hc : cu ≤ 600000) (hs : su ≤ 7200000) (k : ∀ σ' A' cu' su' z5 z6 z7, LHd Γ σ' x y z A' → cu' ≤ cu + 20 → su' ≤ su + 150 → zW Γ mLaw 3534 [some (vR (some (gb Γ))), some (vR (some x)), some (vR (some y)), some (vR (some z)), some (vI i), z5, z6, z7] [] σ' cu' su' Q) : zW Γ mLaw 412 [some (vR (some (gb Γ))), some (vR (some x)), some (vR (some y)), some (vR (some z)), some (vI i), z5, z6, z7] [] σ cu su Q := by
  obtain ⟨a1, a2, a3, a4, a6, ⟨b4, b5⟩, a9⟩ := id h
  have hIn : ∀ j, InR (sx Γ j) := sx_in Γ
  have hr9 := a3.1.1.2
  have on := on_load (A := A)
  have aoo := ao_load (A := A) a3
  refine zW_aload_n dL_law_412 rfl ?_
  refine zW_aload_n dL_law_413 rfl ?_
  refine zcSX2 dL_law_414 rfl eL_load b569 ⟨by decide, by decide, (by show cu + 0 + 1 ≤ 601024; omega), (by show su + 0 + 6 ≤ 7293034; omega)⟩ rfl (Nat.le_of_ble_eq_true rfl) (l_load a1 a4 b4  (fun σ1 h1 m1 hz1 e1 => ?_))
  have r1 : RI σ1 y A := a2.out m1 (fun a g1 g2 q => by unfold lzz xr at q; omega)
  refine zW_istore dL_law_417 (by decide) rfl rfl ?_
  refine zW_aload_n dL_law_419 rfl ?_
  refine zcV0 dL_law_420 rfl eX10_load b1383 ⟨by decide, by decide, (by show cu + 1 + 0 ≤ 601024; omega), (by show su + 6 + 0 ≤ 7293034; omega)⟩ rfl r1.1.1 rfl (by decide) (Nat.le_of_ble_eq_true rfl) (q_load r1  (fun σ2 v2 hR ht hm hv => ?_))
  generalize o_load A = o at on aoo h1 e1 hR ht hv
  have hL := h.step m1 h1 hz1 hR hm aoo
  refine zW_istore dL_law_423 (by decide) rfl rfl ?_
  refine zW_aload_n dL_law_425 rfl ?_
  refine zcV0 dL_law_426 rfl eX10_thrown b1363 ⟨by decide, by decide, (by show cu + 1 + 0 + 0 ≤ 601024; omega), (by show su + 6 + 0 + 0 ≤ 7293034; omega)⟩ rfl hR.1.1 rfl (by decide) (Nat.le_of_ble_eq_true rfl) (q_thrown hR.1.1 ht ?_)
  refine zW_iload dL_law_429 rfl ?_
  refine zW_icmp_eq (tgt := 436) dL_law_431 (by decide) (by first | assumption | omega | (unfold InR; omega) | (unfold InL; omega) | (simp only [InR] at *; omega)) (by first | assumption | omega | (unfold InR; omega) | (unfold InL; omega) | (simp only [InR] at *; omega)) (fun b => ?_) (fun b => ?_)
  · refine zW_iload dL_law_436 rfl ?_
    refine zW_if_ne (tgt := 453) dL_law_438 (by decide) (by first | assumption | omega | (unfold InR; omega) | (unfold InL; omega) | (simp only [InR] at *; omega)) (fun b2 => ?_) (fun b2 => ?_)
    · refine zW_goto (tgt := 3534) dL_law_453 (by decide) ?_
      exact k σ2 _ _ _ _ _ _ hL (by show cu + 1 + 0 + 0 ≤ cu + 20; omega) (by show su + 6 + 0 + 0 ≤ su + 150; omega)
    · have e0 : o.1 = 0 := by omega
      have ez : zJ σ2 z 0 = nrm o.2.1 := by rw [hm.j (fun q => by unfold yr at q; omega)]; exact e1 e0
      have ev := hv e0
      have hz2 : zK σ2 z = (14, 1) := by rw [hm.K]; exact hz1
      have hJ : InL (nrm o.2.1) := by have := nrm_in o.2.1; unfold InR at this; unfold InL; omega
      refine zW_aload_n dL_law_441 rfl ?_
      refine zW_iconst dL_law_442 ?_
      refine zrJ dL_law_443 hz2 (by first | assumption | omega | (unfold InR; omega) | (unfold InL; omega) | (simp only [InR] at *; omega)) (by first | assumption | omega | (unfold InR; omega) | (unfold InL; omega) | (simp only [InR] at *; omega)) (by first | assumption | omega | (unfold InR; omega) | (unfold InL; omega) | (simp only [InR] at *; omega)) ez ?_
      refine zW_iload dL_law_444 rfl ?_
      rw [ev]
      refine zW_nrm ?_
      refine zW_i2l dL_law_446 (nrm_in _) ?_
      refine zW_lcmp dL_law_447 hJ hJ ?_
      rw [zcmp_self]
      refine zW_if_eq (tgt := 453) dL_law_448 (by decide) (by first | assumption | omega | (unfold InR; omega) | (unfold InL; omega) | (simp only [InR] at *; omega)) (fun b4 => ?_) (fun b4 => ?_)
      · refine zW_goto (tgt := 3534) dL_law_453 (by decide) ?_
        exact k σ2 _ _ _ _ _ _ hL (by show cu + 1 + 0 + 0 ≤ cu + 20; omega) (by show su + 6 + 0 + 0 ≤ su + 150; omega)
      · exact absurd rfl b4
  · exact absurd rfl b
set_option maxRecDepth 100000 in
theorem w_6_wordLength (h : LHd Γ σ x y z A) (hi : i + 6 ≤ gL Γ) (hc : cu ≤ 600000) (hs : su ≤ 7200000) (k : ∀ σ' A' cu' su' z5 z6 z7, LHd Γ σ' x y z A' → cu' ≤ cu + 20 → su' ≤ su + 150 → zW Γ mLaw 3534 [some (vR (some (gb Γ))), some (vR (some x)), some (vR (some y)), some (vR (some z)), some (vI i), z5, z6, z7] [] σ' cu' su' Q) : zW Γ mLaw 495 [some (vR (some (gb Γ))), some (vR (some x)), some (vR (some y)), some (vR (some z)), some (vI i), z5, z6, z7] [] σ cu su Q := by
  obtain ⟨a1, a2, a3, a4, a6, ⟨b4, b5⟩, a9⟩ := id h
  have hIn : ∀ j, InR (sx Γ j) := sx_in Γ
  have hr9 := a3.1.1.2
  have on := on_wordLength (A := A) (r := sx Γ (i + 1))
  have aoo : AO (o_wordLength A (sx Γ (i + 1))).2.2 := aq_wordLength a3
  refine zW_aload_n dL_law_495 rfl ?_
  refine zW_aload_n dL_law_496 rfl ?_
  refine zW_iload dL_law_497 rfl ?_
  refine zW_iconst dL_law_499 ?_
  refine zW_iadd dL_law_500 ?_
  refine zsI (j := i + 1) dL_law_501 a6 (by omega) (by omega) ?_
  refine zW_aload_n dL_law_502 rfl ?_
  refine zcSX3 dL_law_503 rfl eL_wordLength b716 ⟨by decide, by decide, (by show cu + 0 + 1 ≤ 601024; omega), (by show su + 0 + 6 ≤ 7293034; omega)⟩ rfl (Nat.le_of_ble_eq_true rfl) (l_wordLength a1 a4 b4 (hIn _) (fun σ1 h1 m1 hz1 e1 => ?_))
  have r1 : RI σ1 y A := a2.out m1 (fun a g1 g2 q => by unfold lzz xr at q; omega)
  refine zW_istore dL_law_506 (by decide) rfl rfl ?_
  refine zW_aload_n dL_law_508 rfl ?_
  refine zW_aload_n dL_law_509 rfl ?_
  refine zW_iload dL_law_510 rfl ?_
  refine zW_iconst dL_law_512 ?_
  refine zW_iadd dL_law_513 ?_
  refine zsI (j := i + 1) dL_law_514 a6 (by omega) (by omega) ?_
  refine zcV1 dL_law_515 rfl eX10_wordLength b1488 ⟨by decide, by decide, (by show cu + 1 + 0 ≤ 601024; omega), (by show su + 6 + 0 ≤ 7293034; omega)⟩ rfl r1.1.1 rfl (by decide) (Nat.le_of_ble_eq_true rfl) (q_wordLength r1 (hIn _) (fun σ2 v2 hR ht hm hv => ?_))
  generalize o_wordLength A (sx Γ (i + 1)) = o at on aoo h1 e1 hR ht hv
  have hL := h.step m1 h1 hz1 hR hm aoo
  refine zW_istore dL_law_518 (by decide) rfl rfl ?_
  refine zW_aload_n dL_law_520 rfl ?_
  refine zcV0 dL_law_521 rfl eX10_thrown b1363 ⟨by decide, by decide, (by show cu + 1 + 0 + 0 ≤ 601024; omega), (by show su + 6 + 0 + 0 ≤ 7293034; omega)⟩ rfl hR.1.1 rfl (by decide) (Nat.le_of_ble_eq_true rfl) (q_thrown hR.1.1 ht ?_)
  refine zW_iload dL_law_524 rfl ?_
  refine zW_icmp_eq (tgt := 531) dL_law_526 (by decide) (by first | assumption | omega | (unfold InR; omega) | (unfold InL; omega) | (simp only [InR] at *; omega)) (by first | assumption | omega | (unfold InR; omega) | (unfold InL; omega) | (simp only [InR] at *; omega)) (fun b => ?_) (fun b => ?_)
  · refine zW_iload dL_law_531 rfl ?_
    refine zW_if_ne (tgt := 548) dL_law_533 (by decide) (by first | assumption | omega | (unfold InR; omega) | (unfold InL; omega) | (simp only [InR] at *; omega)) (fun b2 => ?_) (fun b2 => ?_)
    · refine zW_goto (tgt := 3534) dL_law_548 (by decide) ?_
      exact k σ2 _ _ _ _ _ _ hL (by show cu + 1 + 0 + 0 ≤ cu + 20; omega) (by show su + 6 + 0 + 0 ≤ su + 150; omega)
    · have e0 : o.1 = 0 := by omega
      have ez : zJ σ2 z 0 = nrm o.2.1 := by rw [hm.j (fun q => by unfold yr at q; omega)]; exact e1 e0
      have ev := hv e0
      have hz2 : zK σ2 z = (14, 1) := by rw [hm.K]; exact hz1
      have hJ : InL (nrm o.2.1) := by have := nrm_in o.2.1; unfold InR at this; unfold InL; omega
      refine zW_aload_n dL_law_536 rfl ?_
      refine zW_iconst dL_law_537 ?_
      refine zrJ dL_law_538 hz2 (by first | assumption | omega | (unfold InR; omega) | (unfold InL; omega) | (simp only [InR] at *; omega)) (by first | assumption | omega | (unfold InR; omega) | (unfold InL; omega) | (simp only [InR] at *; omega)) (by first | assumption | omega | (unfold InR; omega) | (unfold InL; omega) | (simp only [InR] at *; omega)) ez ?_
      refine zW_iload dL_law_539 rfl ?_
      rw [ev]
      refine zW_nrm ?_
      refine zW_i2l dL_law_541 (nrm_in _) ?_
      refine zW_lcmp dL_law_542 hJ hJ ?_
      rw [zcmp_self]
      refine zW_if_eq (tgt := 548) dL_law_543 (by decide) (by first | assumption | omega | (unfold InR; omega) | (unfold InL; omega) | (simp only [InR] at *; omega)) (fun b4 => ?_) (fun b4 => ?_)
      · refine zW_goto (tgt := 3534) dL_law_548 (by decide) ?_
        exact k σ2 _ _ _ _ _ _ hL (by show cu + 1 + 0 + 0 ≤ cu + 20; omega) (by show su + 6 + 0 + 0 ≤ su + 150; omega)
      · exact absurd rfl b4
  · exact absurd rfl b
set_option maxRecDepth 100000 in
theorem w_7_letter (h : LHd Γ σ x y z A) (hi : i + 6 ≤ gL Γ) (hc : cu ≤ 600000) (hs : su ≤ 7200000) (k : ∀ σ' A' cu' su' z5 z6 z7, LHd Γ σ' x y z A' → cu' ≤ cu + 20 → su' ≤ su + 150 → zW Γ mLaw 3534 [some (vR (some (gb Γ))), some (vR (some x)), some (vR (some y)), some (vR (some z)), some (vI i), z5, z6, z7] [] σ' cu' su' Q) : zW Γ mLaw 551 [some (vR (some (gb Γ))), some (vR (some x)), some (vR (some y)), some (vR (some z)), some (vI i), z5, z6, z7] [] σ cu su Q := by
  obtain ⟨a1, a2, a3, a4, a6, ⟨b4, b5⟩, a9⟩ := id h
  have hIn : ∀ j, InR (sx Γ j) := sx_in Γ
  have hr9 := a3.1.1.2
  have on := on_letter (A := A) (r := sx Γ (i + 1)) (i := sx Γ (i + 2))
  have aoo : AO (o_letter A (sx Γ (i + 1)) (sx Γ (i + 2))).2.2 := aq_letter a3
  refine zW_aload_n dL_law_551 rfl ?_
  refine zW_aload_n dL_law_552 rfl ?_
  refine zW_iload dL_law_553 rfl ?_
  refine zW_iconst dL_law_555 ?_
  refine zW_iadd dL_law_556 ?_
  refine zsI (j := i + 1) dL_law_557 a6 (by omega) (by omega) ?_
  refine zW_aload_n dL_law_558 rfl ?_
  refine zW_iload dL_law_559 rfl ?_
  refine zW_iconst dL_law_561 ?_
  refine zW_iadd dL_law_562 ?_
  refine zsI (j := i + 2) dL_law_563 a6 (by omega) (by omega) ?_
  refine zW_aload_n dL_law_564 rfl ?_
  refine zcSX4 dL_law_565 rfl eL_letter b728 ⟨by decide, by decide, (by show cu + 0 + 2 ≤ 601024; omega), (by show su + 0 + 12 ≤ 7293034; omega)⟩ rfl (Nat.le_of_ble_eq_true rfl) (l_letter a1 a4 b4 (hIn _) (hIn _) (fun σ1 h1 m1 hz1 e1 => ?_))
  have r1 : RI σ1 y A := a2.out m1 (fun a g1 g2 q => by unfold lzz xr at q; omega)
  refine zW_istore dL_law_568 (by decide) rfl rfl ?_
  refine zW_aload_n dL_law_570 rfl ?_
  refine zW_aload_n dL_law_571 rfl ?_
  refine zW_iload dL_law_572 rfl ?_
  refine zW_iconst dL_law_574 ?_
  refine zW_iadd dL_law_575 ?_
  refine zsI (j := i + 1) dL_law_576 a6 (by omega) (by omega) ?_
  refine zW_aload_n dL_law_577 rfl ?_
  refine zW_iload dL_law_578 rfl ?_
  refine zW_iconst dL_law_580 ?_
  refine zW_iadd dL_law_581 ?_
  refine zsI (j := i + 2) dL_law_582 a6 (by omega) (by omega) ?_
  refine zcV2 dL_law_583 rfl eX10_letter b1495 ⟨by decide, by decide, (by show cu + 2 + 0 ≤ 601024; omega), (by show su + 12 + 0 ≤ 7293034; omega)⟩ rfl r1.1.1 rfl (by decide) (Nat.le_of_ble_eq_true rfl) (q_letter r1 (hIn _) (hIn _) (fun σ2 v2 hR ht hm hv => ?_))
  generalize o_letter A (sx Γ (i + 1)) (sx Γ (i + 2)) = o at on aoo h1 e1 hR ht hv
  have hL := h.step m1 h1 hz1 hR hm aoo
  refine zW_istore dL_law_586 (by decide) rfl rfl ?_
  refine zW_aload_n dL_law_588 rfl ?_
  refine zcV0 dL_law_589 rfl eX10_thrown b1363 ⟨by decide, by decide, (by show cu + 2 + 0 + 0 ≤ 601024; omega), (by show su + 12 + 0 + 0 ≤ 7293034; omega)⟩ rfl hR.1.1 rfl (by decide) (Nat.le_of_ble_eq_true rfl) (q_thrown hR.1.1 ht ?_)
  refine zW_iload dL_law_592 rfl ?_
  refine zW_icmp_eq (tgt := 599) dL_law_594 (by decide) (by first | assumption | omega | (unfold InR; omega) | (unfold InL; omega) | (simp only [InR] at *; omega)) (by first | assumption | omega | (unfold InR; omega) | (unfold InL; omega) | (simp only [InR] at *; omega)) (fun b => ?_) (fun b => ?_)
  · refine zW_iload dL_law_599 rfl ?_
    refine zW_if_ne (tgt := 616) dL_law_601 (by decide) (by first | assumption | omega | (unfold InR; omega) | (unfold InL; omega) | (simp only [InR] at *; omega)) (fun b2 => ?_) (fun b2 => ?_)
    · refine zW_goto (tgt := 3534) dL_law_616 (by decide) ?_
      exact k σ2 _ _ _ _ _ _ hL (by show cu + 2 + 0 + 0 ≤ cu + 20; omega) (by show su + 12 + 0 + 0 ≤ su + 150; omega)
    · have e0 : o.1 = 0 := by omega
      have ez : zJ σ2 z 0 = nrm o.2.1 := by rw [hm.j (fun q => by unfold yr at q; omega)]; exact e1 e0
      have ev := hv e0
      have hz2 : zK σ2 z = (14, 1) := by rw [hm.K]; exact hz1
      have hJ : InL (nrm o.2.1) := by have := nrm_in o.2.1; unfold InR at this; unfold InL; omega
      refine zW_aload_n dL_law_604 rfl ?_
      refine zW_iconst dL_law_605 ?_
      refine zrJ dL_law_606 hz2 (by first | assumption | omega | (unfold InR; omega) | (unfold InL; omega) | (simp only [InR] at *; omega)) (by first | assumption | omega | (unfold InR; omega) | (unfold InL; omega) | (simp only [InR] at *; omega)) (by first | assumption | omega | (unfold InR; omega) | (unfold InL; omega) | (simp only [InR] at *; omega)) ez ?_
      refine zW_iload dL_law_607 rfl ?_
      rw [ev]
      refine zW_nrm ?_
      refine zW_i2l dL_law_609 (nrm_in _) ?_
      refine zW_lcmp dL_law_610 hJ hJ ?_
      rw [zcmp_self]
      refine zW_if_eq (tgt := 616) dL_law_611 (by decide) (by first | assumption | omega | (unfold InR; omega) | (unfold InL; omega) | (simp only [InR] at *; omega)) (fun b4 => ?_) (fun b4 => ?_)
      · refine zW_goto (tgt := 3534) dL_law_616 (by decide) ?_
        exact k σ2 _ _ _ _ _ _ hL (by show cu + 2 + 0 + 0 ≤ cu + 20; omega) (by show su + 12 + 0 + 0 ≤ su + 150; omega)
      · exact absurd rfl b4
  · exact absurd rfl b
set_option maxRecDepth 100000 in
theorem w_8_areEqual (h : LHd Γ σ x y z A) (hi : i + 6 ≤ gL Γ) (hc : cu ≤ 600000) (hs : su ≤ 7200000) (k : ∀ σ' A' cu' su' z5 z6 z7, LHd Γ σ' x y z A' → cu' ≤ cu + 20 → su' ≤ su + 150 → zW Γ mLaw 3534 [some (vR (some (gb Γ))), some (vR (some x)), some (vR (some y)), some (vR (some z)), some (vI i), z5, z6, z7] [] σ' cu' su' Q) : zW Γ mLaw 619 [some (vR (some (gb Γ))), some (vR (some x)), some (vR (some y)), some (vR (some z)), some (vI i), z5, z6, z7] [] σ cu su Q := by
  obtain ⟨a1, a2, a3, a4, a6, ⟨b4, b5⟩, a9⟩ := id h
  have hIn : ∀ j, InR (sx Γ j) := sx_in Γ
  have hr9 := a3.1.1.2
  have on := on_areEqual (A := A) (r := sx Γ (i + 1)) (s := sx Γ (i + 2))
  have aoo : AO (o_areEqual A (sx Γ (i + 1)) (sx Γ (i + 2))).2.2 := aq_areEqual a3
  refine zW_aload_n dL_law_619 rfl ?_
  refine zW_aload_n dL_law_620 rfl ?_
  refine zW_iload dL_law_621 rfl ?_
  refine zW_iconst dL_law_623 ?_
  refine zW_iadd dL_law_624 ?_
  refine zsI (j := i + 1) dL_law_625 a6 (by omega) (by omega) ?_
  refine zW_aload_n dL_law_626 rfl ?_
  refine zW_iload dL_law_627 rfl ?_
  refine zW_iconst dL_law_629 ?_
  refine zW_iadd dL_law_630 ?_
  refine zsI (j := i + 2) dL_law_631 a6 (by omega) (by omega) ?_
  refine zW_aload_n dL_law_632 rfl ?_
  refine zcSX4 dL_law_633 rfl eL_areEqual b739 ⟨by decide, by decide, (by show cu + 0 + 2 ≤ 601024; omega), (by show su + 0 + 12 ≤ 7293034; omega)⟩ rfl (Nat.le_of_ble_eq_true rfl) (l_areEqual a1 a4 b4 (hIn _) (hIn _) (fun σ1 h1 m1 hz1 e1 => ?_))
  have r1 : RI σ1 y A := a2.out m1 (fun a g1 g2 q => by unfold lzz xr at q; omega)
  refine zW_istore dL_law_636 (by decide) rfl rfl ?_
  refine zW_aload_n dL_law_638 rfl ?_
  refine zW_aload_n dL_law_639 rfl ?_
  refine zW_iload dL_law_640 rfl ?_
  refine zW_iconst dL_law_642 ?_
  refine zW_iadd dL_law_643 ?_
  refine zsI (j := i + 1) dL_law_644 a6 (by omega) (by omega) ?_
  refine zW_aload_n dL_law_645 rfl ?_
  refine zW_iload dL_law_646 rfl ?_
  refine zW_iconst dL_law_648 ?_
  refine zW_iadd dL_law_649 ?_
  refine zsI (j := i + 2) dL_law_650 a6 (by omega) (by omega) ?_
  refine zcV2 dL_law_651 rfl eX10_areEqual b1506 ⟨by decide, by decide, (by show cu + 2 + 0 ≤ 601024; omega), (by show su + 12 + 0 ≤ 7293034; omega)⟩ rfl r1.1.1 rfl (by decide) (Nat.le_of_ble_eq_true rfl) (q_areEqual r1 (hIn _) (hIn _) (fun σ2 v2 hR ht hm hv => ?_))
  generalize o_areEqual A (sx Γ (i + 1)) (sx Γ (i + 2)) = o at on aoo h1 e1 hR ht hv
  have hL := h.step m1 h1 hz1 hR hm aoo
  refine zW_istore dL_law_654 (by decide) rfl rfl ?_
  refine zW_aload_n dL_law_656 rfl ?_
  refine zcV0 dL_law_657 rfl eX10_thrown b1363 ⟨by decide, by decide, (by show cu + 2 + 0 + 0 ≤ 601024; omega), (by show su + 12 + 0 + 0 ≤ 7293034; omega)⟩ rfl hR.1.1 rfl (by decide) (Nat.le_of_ble_eq_true rfl) (q_thrown hR.1.1 ht ?_)
  refine zW_iload dL_law_660 rfl ?_
  refine zW_icmp_eq (tgt := 667) dL_law_662 (by decide) (by first | assumption | omega | (unfold InR; omega) | (unfold InL; omega) | (simp only [InR] at *; omega)) (by first | assumption | omega | (unfold InR; omega) | (unfold InL; omega) | (simp only [InR] at *; omega)) (fun b => ?_) (fun b => ?_)
  · refine zW_iload dL_law_667 rfl ?_
    refine zW_if_ne (tgt := 691) dL_law_669 (by decide) (by first | assumption | omega | (unfold InR; omega) | (unfold InL; omega) | (simp only [InR] at *; omega)) (fun b2 => ?_) (fun b2 => ?_)
    · refine zW_goto (tgt := 3534) dL_law_691 (by decide) ?_
      exact k σ2 _ _ _ _ _ _ hL (by show cu + 2 + 0 + 0 ≤ cu + 20; omega) (by show su + 12 + 0 + 0 ≤ su + 150; omega)
    · have e0 : o.1 = 0 := by omega
      have ez : zJ σ2 z 0 = bln o.2.1 := by rw [hm.j (fun q => by unfold yr at q; omega)]; exact e1 e0
      have ev := hv e0
      have hz2 : zK σ2 z = (14, 1) := by rw [hm.K]; exact hz1
      refine zW_aload_n dL_law_672 rfl ?_
      refine zW_iconst dL_law_673 ?_
      refine zrJ dL_law_674 hz2 (by first | assumption | omega | (unfold InR; omega) | (unfold InL; omega) | (simp only [InR] at *; omega)) (by first | assumption | omega | (unfold InR; omega) | (unfold InL; omega) | (simp only [InR] at *; omega)) (by first | assumption | omega | (unfold InR; omega) | (unfold InL; omega) | (simp only [InR] at *; omega)) ez ?_
      refine zW_iload dL_law_675 rfl ?_
      rw [ev]
      refine zW_nrm ?_
      have hnr := nrm_in o.2.1
      refine zW_if_eq (tgt := 684) dL_law_677 (by decide) (by first | assumption | omega | (unfold InR; omega) | (unfold InL; omega) | (simp only [InR] at *; omega)) (fun b3 => ?_) (fun b3 => ?_)
      · have e4 : bln o.2.1 = 0 := if_pos b3
        rw [e4]
        refine zW_lconst dL_law_684 (z := 0) (by decide) ?_
        refine zW_lcmp dL_law_685 (by unfold InL; omega) (by unfold InL; omega) ?_
        rw [zcmp_self]
        refine zW_if_eq (tgt := 691) dL_law_686 (by decide) (by first | assumption | omega | (unfold InR; omega) | (unfold InL; omega) | (simp only [InR] at *; omega)) (fun b4 => ?_) (fun b4 => ?_)
        · refine zW_goto (tgt := 3534) dL_law_691 (by decide) ?_
          exact k σ2 _ _ _ _ _ _ hL (by show cu + 2 + 0 + 0 ≤ cu + 20; omega) (by show su + 12 + 0 + 0 ≤ su + 150; omega)
        · exact absurd rfl b4
      · have e4 : bln o.2.1 = 1 := if_neg b3
        rw [e4]
        refine zW_lconst dL_law_680 (z := 1) (by decide) ?_
        refine zW_goto (tgt := 685) dL_law_681 (by decide) ?_
        refine zW_lcmp dL_law_685 (by unfold InL; omega) (by unfold InL; omega) ?_
        rw [zcmp_self]
        refine zW_if_eq (tgt := 691) dL_law_686 (by decide) (by first | assumption | omega | (unfold InR; omega) | (unfold InL; omega) | (simp only [InR] at *; omega)) (fun b4 => ?_) (fun b4 => ?_)
        · refine zW_goto (tgt := 3534) dL_law_691 (by decide) ?_
          exact k σ2 _ _ _ _ _ _ hL (by show cu + 2 + 0 + 0 ≤ cu + 20; omega) (by show su + 12 + 0 + 0 ≤ su + 150; omega)
        · exact absurd rfl b4
  · exact absurd rfl b
set_option maxRecDepth 100000 in
theorem w_9_areInverse (h : LHd Γ σ x y z A) (hi : i + 6 ≤ gL Γ) (hc : cu ≤ 600000) (hs : su ≤ 7200000) (k : ∀ σ' A' cu' su' z5 z6 z7, LHd Γ σ' x y z A' → cu' ≤ cu + 20 → su' ≤ su + 150 → zW Γ mLaw 3534 [some (vR (some (gb Γ))), some (vR (some x)), some (vR (some y)), some (vR (some z)), some (vI i), z5, z6, z7] [] σ' cu' su' Q) : zW Γ mLaw 694 [some (vR (some (gb Γ))), some (vR (some x)), some (vR (some y)), some (vR (some z)), some (vI i), z5, z6, z7] [] σ cu su Q := by
  obtain ⟨a1, a2, a3, a4, a6, ⟨b4, b5⟩, a9⟩ := id h
  have hIn : ∀ j, InR (sx Γ j) := sx_in Γ
  have hr9 := a3.1.1.2
  have on := on_areInverse (A := A) (r := sx Γ (i + 1)) (s := sx Γ (i + 2))
  have aoo : AO (o_areInverse A (sx Γ (i + 1)) (sx Γ (i + 2))).2.2 := aq_areInverse a3
  refine zW_aload_n dL_law_694 rfl ?_
  refine zW_aload_n dL_law_695 rfl ?_
  refine zW_iload dL_law_696 rfl ?_
  refine zW_iconst dL_law_698 ?_
  refine zW_iadd dL_law_699 ?_
  refine zsI (j := i + 1) dL_law_700 a6 (by omega) (by omega) ?_
  refine zW_aload_n dL_law_701 rfl ?_
  refine zW_iload dL_law_702 rfl ?_
  refine zW_iconst dL_law_704 ?_
  refine zW_iadd dL_law_705 ?_
  refine zsI (j := i + 2) dL_law_706 a6 (by omega) (by omega) ?_
  refine zW_aload_n dL_law_707 rfl ?_
  refine zcSX4 dL_law_708 rfl eL_areInverse b753 ⟨by decide, by decide, (by show cu + 0 + 2 ≤ 601024; omega), (by show su + 0 + 12 ≤ 7293034; omega)⟩ rfl (Nat.le_of_ble_eq_true rfl) (l_areInverse a1 a4 b4 (hIn _) (hIn _) (fun σ1 h1 m1 hz1 e1 => ?_))
  have r1 : RI σ1 y A := a2.out m1 (fun a g1 g2 q => by unfold lzz xr at q; omega)
  refine zW_istore dL_law_711 (by decide) rfl rfl ?_
  refine zW_aload_n dL_law_713 rfl ?_
  refine zW_aload_n dL_law_714 rfl ?_
  refine zW_iload dL_law_715 rfl ?_
  refine zW_iconst dL_law_717 ?_
  refine zW_iadd dL_law_718 ?_
  refine zsI (j := i + 1) dL_law_719 a6 (by omega) (by omega) ?_
  refine zW_aload_n dL_law_720 rfl ?_
  refine zW_iload dL_law_721 rfl ?_
  refine zW_iconst dL_law_723 ?_
  refine zW_iadd dL_law_724 ?_
  refine zsI (j := i + 2) dL_law_725 a6 (by omega) (by omega) ?_
  refine zcV2 dL_law_726 rfl eX10_areInverse b1517 ⟨by decide, by decide, (by show cu + 2 + 0 ≤ 601024; omega), (by show su + 12 + 0 ≤ 7293034; omega)⟩ rfl r1.1.1 rfl (by decide) (Nat.le_of_ble_eq_true rfl) (q_areInverse r1 (hIn _) (hIn _) a3 (fun σ2 v2 hR ht hm hv => ?_))
  generalize o_areInverse A (sx Γ (i + 1)) (sx Γ (i + 2)) = o at on aoo h1 e1 hR ht hv
  have hL := h.step m1 h1 hz1 hR hm aoo
  refine zW_istore dL_law_729 (by decide) rfl rfl ?_
  refine zW_aload_n dL_law_731 rfl ?_
  refine zcV0 dL_law_732 rfl eX10_thrown b1363 ⟨by decide, by decide, (by show cu + 2 + 0 + 0 ≤ 601024; omega), (by show su + 12 + 0 + 0 ≤ 7293034; omega)⟩ rfl hR.1.1 rfl (by decide) (Nat.le_of_ble_eq_true rfl) (q_thrown hR.1.1 ht ?_)
  refine zW_iload dL_law_735 rfl ?_
  refine zW_icmp_eq (tgt := 742) dL_law_737 (by decide) (by first | assumption | omega | (unfold InR; omega) | (unfold InL; omega) | (simp only [InR] at *; omega)) (by first | assumption | omega | (unfold InR; omega) | (unfold InL; omega) | (simp only [InR] at *; omega)) (fun b => ?_) (fun b => ?_)
  · refine zW_iload dL_law_742 rfl ?_
    refine zW_if_ne (tgt := 766) dL_law_744 (by decide) (by first | assumption | omega | (unfold InR; omega) | (unfold InL; omega) | (simp only [InR] at *; omega)) (fun b2 => ?_) (fun b2 => ?_)
    · refine zW_goto (tgt := 3534) dL_law_766 (by decide) ?_
      exact k σ2 _ _ _ _ _ _ hL (by show cu + 2 + 0 + 0 ≤ cu + 20; omega) (by show su + 12 + 0 + 0 ≤ su + 150; omega)
    · have e0 : o.1 = 0 := by omega
      have ez : zJ σ2 z 0 = bln o.2.1 := by rw [hm.j (fun q => by unfold yr at q; omega)]; exact e1 e0
      have ev := hv e0
      have hz2 : zK σ2 z = (14, 1) := by rw [hm.K]; exact hz1
      refine zW_aload_n dL_law_747 rfl ?_
      refine zW_iconst dL_law_748 ?_
      refine zrJ dL_law_749 hz2 (by first | assumption | omega | (unfold InR; omega) | (unfold InL; omega) | (simp only [InR] at *; omega)) (by first | assumption | omega | (unfold InR; omega) | (unfold InL; omega) | (simp only [InR] at *; omega)) (by first | assumption | omega | (unfold InR; omega) | (unfold InL; omega) | (simp only [InR] at *; omega)) ez ?_
      refine zW_iload dL_law_750 rfl ?_
      rw [ev]
      refine zW_nrm ?_
      have hnr := nrm_in o.2.1
      refine zW_if_eq (tgt := 759) dL_law_752 (by decide) (by first | assumption | omega | (unfold InR; omega) | (unfold InL; omega) | (simp only [InR] at *; omega)) (fun b3 => ?_) (fun b3 => ?_)
      · have e4 : bln o.2.1 = 0 := if_pos b3
        rw [e4]
        refine zW_lconst dL_law_759 (z := 0) (by decide) ?_
        refine zW_lcmp dL_law_760 (by unfold InL; omega) (by unfold InL; omega) ?_
        rw [zcmp_self]
        refine zW_if_eq (tgt := 766) dL_law_761 (by decide) (by first | assumption | omega | (unfold InR; omega) | (unfold InL; omega) | (simp only [InR] at *; omega)) (fun b4 => ?_) (fun b4 => ?_)
        · refine zW_goto (tgt := 3534) dL_law_766 (by decide) ?_
          exact k σ2 _ _ _ _ _ _ hL (by show cu + 2 + 0 + 0 ≤ cu + 20; omega) (by show su + 12 + 0 + 0 ≤ su + 150; omega)
        · exact absurd rfl b4
      · have e4 : bln o.2.1 = 1 := if_neg b3
        rw [e4]
        refine zW_lconst dL_law_755 (z := 1) (by decide) ?_
        refine zW_goto (tgt := 760) dL_law_756 (by decide) ?_
        refine zW_lcmp dL_law_760 (by unfold InL; omega) (by unfold InL; omega) ?_
        rw [zcmp_self]
        refine zW_if_eq (tgt := 766) dL_law_761 (by decide) (by first | assumption | omega | (unfold InR; omega) | (unfold InL; omega) | (simp only [InR] at *; omega)) (fun b4 => ?_) (fun b4 => ?_)
        · refine zW_goto (tgt := 3534) dL_law_766 (by decide) ?_
          exact k σ2 _ _ _ _ _ _ hL (by show cu + 2 + 0 + 0 ≤ cu + 20; omega) (by show su + 12 + 0 + 0 ≤ su + 150; omega)
        · exact absurd rfl b4
  · exact absurd rfl b
set_option maxRecDepth 100000 in
theorem w_10_compare (h : LHd Γ σ x y z A) (hi : i + 6 ≤ gL Γ) (hc : cu ≤ 600000) (hs : su ≤ 7200000) (k : ∀ σ' A' cu' su' z5 z6 z7, LHd Γ σ' x y z A' → cu' ≤ cu + 20 → su' ≤ su + 150 → zW Γ mLaw 3534 [some (vR (some (gb Γ))), some (vR (some x)), some (vR (some y)), some (vR (some z)), some (vI i), z5, z6, z7] [] σ' cu' su' Q) : zW Γ mLaw 769 [some (vR (some (gb Γ))), some (vR (some x)), some (vR (some y)), some (vR (some z)), some (vI i), z5, z6, z7] [] σ cu su Q := by
  obtain ⟨a1, a2, a3, a4, a6, ⟨b4, b5⟩, a9⟩ := id h
  have hIn : ∀ j, InR (sx Γ j) := sx_in Γ
  have hr9 := a3.1.1.2
  have on := on_compare (A := A) (r := sx Γ (i + 1)) (s := sx Γ (i + 2))
  have aoo : AO (o_compare A (sx Γ (i + 1)) (sx Γ (i + 2))).2.2 := aq_compare a3
  refine zW_aload_n dL_law_769 rfl ?_
  refine zW_aload_n dL_law_770 rfl ?_
  refine zW_iload dL_law_771 rfl ?_
  refine zW_iconst dL_law_773 ?_
  refine zW_iadd dL_law_774 ?_
  refine zsI (j := i + 1) dL_law_775 a6 (by omega) (by omega) ?_
  refine zW_aload_n dL_law_776 rfl ?_
  refine zW_iload dL_law_777 rfl ?_
  refine zW_iconst dL_law_779 ?_
  refine zW_iadd dL_law_780 ?_
  refine zsI (j := i + 2) dL_law_781 a6 (by omega) (by omega) ?_
  refine zW_aload_n dL_law_782 rfl ?_
  refine zcSX4 dL_law_783 rfl eL_compare b763 ⟨by decide, by decide, (by show cu + 0 + 2 ≤ 601024; omega), (by show su + 0 + 12 ≤ 7293034; omega)⟩ rfl (Nat.le_of_ble_eq_true rfl) (l_compare a1 a4 b4 (hIn _) (hIn _) (fun σ1 h1 m1 hz1 e1 => ?_))
  have r1 : RI σ1 y A := a2.out m1 (fun a g1 g2 q => by unfold lzz xr at q; omega)
  refine zW_istore dL_law_786 (by decide) rfl rfl ?_
  refine zW_aload_n dL_law_788 rfl ?_
  refine zW_aload_n dL_law_789 rfl ?_
  refine zW_iload dL_law_790 rfl ?_
  refine zW_iconst dL_law_792 ?_
  refine zW_iadd dL_law_793 ?_
  refine zsI (j := i + 1) dL_law_794 a6 (by omega) (by omega) ?_
  refine zW_aload_n dL_law_795 rfl ?_
  refine zW_iload dL_law_796 rfl ?_
  refine zW_iconst dL_law_798 ?_
  refine zW_iadd dL_law_799 ?_
  refine zsI (j := i + 2) dL_law_800 a6 (by omega) (by omega) ?_
  refine zcV2 dL_law_801 rfl eX10_compare b1529 ⟨by decide, by decide, (by show cu + 2 + 0 ≤ 601024; omega), (by show su + 12 + 0 ≤ 7293034; omega)⟩ rfl r1.1.1 rfl (by decide) (Nat.le_of_ble_eq_true rfl) (q_compare r1 (hIn _) (hIn _) (fun σ2 v2 hR ht hm hv => ?_))
  generalize o_compare A (sx Γ (i + 1)) (sx Γ (i + 2)) = o at on aoo h1 e1 hR ht hv
  have hL := h.step m1 h1 hz1 hR hm aoo
  refine zW_istore dL_law_804 (by decide) rfl rfl ?_
  refine zW_aload_n dL_law_806 rfl ?_
  refine zcV0 dL_law_807 rfl eX10_thrown b1363 ⟨by decide, by decide, (by show cu + 2 + 0 + 0 ≤ 601024; omega), (by show su + 12 + 0 + 0 ≤ 7293034; omega)⟩ rfl hR.1.1 rfl (by decide) (Nat.le_of_ble_eq_true rfl) (q_thrown hR.1.1 ht ?_)
  refine zW_iload dL_law_810 rfl ?_
  refine zW_icmp_eq (tgt := 817) dL_law_812 (by decide) (by first | assumption | omega | (unfold InR; omega) | (unfold InL; omega) | (simp only [InR] at *; omega)) (by first | assumption | omega | (unfold InR; omega) | (unfold InL; omega) | (simp only [InR] at *; omega)) (fun b => ?_) (fun b => ?_)
  · refine zW_iload dL_law_817 rfl ?_
    refine zW_if_ne (tgt := 834) dL_law_819 (by decide) (by first | assumption | omega | (unfold InR; omega) | (unfold InL; omega) | (simp only [InR] at *; omega)) (fun b2 => ?_) (fun b2 => ?_)
    · refine zW_goto (tgt := 3534) dL_law_834 (by decide) ?_
      exact k σ2 _ _ _ _ _ _ hL (by show cu + 2 + 0 + 0 ≤ cu + 20; omega) (by show su + 12 + 0 + 0 ≤ su + 150; omega)
    · have e0 : o.1 = 0 := by omega
      have ez : zJ σ2 z 0 = nrm o.2.1 := by rw [hm.j (fun q => by unfold yr at q; omega)]; exact e1 e0
      have ev := hv e0
      have hz2 : zK σ2 z = (14, 1) := by rw [hm.K]; exact hz1
      have hJ : InL (nrm o.2.1) := by have := nrm_in o.2.1; unfold InR at this; unfold InL; omega
      refine zW_aload_n dL_law_822 rfl ?_
      refine zW_iconst dL_law_823 ?_
      refine zrJ dL_law_824 hz2 (by first | assumption | omega | (unfold InR; omega) | (unfold InL; omega) | (simp only [InR] at *; omega)) (by first | assumption | omega | (unfold InR; omega) | (unfold InL; omega) | (simp only [InR] at *; omega)) (by first | assumption | omega | (unfold InR; omega) | (unfold InL; omega) | (simp only [InR] at *; omega)) ez ?_
      refine zW_iload dL_law_825 rfl ?_
      rw [ev]
      refine zW_nrm ?_
      refine zW_i2l dL_law_827 (nrm_in _) ?_
      refine zW_lcmp dL_law_828 hJ hJ ?_
      rw [zcmp_self]
      refine zW_if_eq (tgt := 834) dL_law_829 (by decide) (by first | assumption | omega | (unfold InR; omega) | (unfold InL; omega) | (simp only [InR] at *; omega)) (fun b4 => ?_) (fun b4 => ?_)
      · refine zW_goto (tgt := 3534) dL_law_834 (by decide) ?_
        exact k σ2 _ _ _ _ _ _ hL (by show cu + 2 + 0 + 0 ≤ cu + 20; omega) (by show su + 12 + 0 + 0 ≤ su + 150; omega)
      · exact absurd rfl b4
  · exact absurd rfl b
set_option maxRecDepth 100000 in
theorem w_11_exponentSum (h : LHd Γ σ x y z A) (hi : i + 6 ≤ gL Γ) (hc : cu ≤ 600000) (hs : su ≤ 7200000) (k : ∀ σ' A' cu' su' z5 z6 z7, LHd Γ σ' x y z A' → cu' ≤ cu + 20 → su' ≤ su + 150 → zW Γ mLaw 3534 [some (vR (some (gb Γ))), some (vR (some x)), some (vR (some y)), some (vR (some z)), some (vI i), z5, z6, z7] [] σ' cu' su' Q) : zW Γ mLaw 837 [some (vR (some (gb Γ))), some (vR (some x)), some (vR (some y)), some (vR (some z)), some (vI i), z5, z6, z7] [] σ cu su Q := by
  obtain ⟨a1, a2, a3, a4, a6, ⟨b4, b5⟩, a9⟩ := id h
  have hIn : ∀ j, InR (sx Γ j) := sx_in Γ
  have hr9 := a3.1.1.2
  have on := on_exponentSum (A := A) (r := sx Γ (i + 1)) (i := sx Γ (i + 2))
  have aoo : AO (o_exponentSum A (sx Γ (i + 1)) (sx Γ (i + 2))).2.2 := aq_exponentSum a3
  refine zW_aload_n dL_law_837 rfl ?_
  refine zW_aload_n dL_law_838 rfl ?_
  refine zW_iload dL_law_839 rfl ?_
  refine zW_iconst dL_law_841 ?_
  refine zW_iadd dL_law_842 ?_
  refine zsI (j := i + 1) dL_law_843 a6 (by omega) (by omega) ?_
  refine zW_aload_n dL_law_844 rfl ?_
  refine zW_iload dL_law_845 rfl ?_
  refine zW_iconst dL_law_847 ?_
  refine zW_iadd dL_law_848 ?_
  refine zsI (j := i + 2) dL_law_849 a6 (by omega) (by omega) ?_
  refine zW_aload_n dL_law_850 rfl ?_
  refine zcSX4 dL_law_851 rfl eL_exponentSum b770 ⟨by decide, by decide, (by show cu + 0 + 2 ≤ 601024; omega), (by show su + 0 + 12 ≤ 7293034; omega)⟩ rfl (Nat.le_of_ble_eq_true rfl) (l_exponentSum a1 a4 b4 (hIn _) (hIn _) hr9 (fun σ1 h1 m1 hz1 e1 => ?_))
  have r1 : RI σ1 y A := a2.out m1 (fun a g1 g2 q => by unfold lzz xr at q; omega)
  refine zW_istore dL_law_854 (by decide) rfl rfl ?_
  refine zW_aload_n dL_law_856 rfl ?_
  refine zW_aload_n dL_law_857 rfl ?_
  refine zW_iload dL_law_858 rfl ?_
  refine zW_iconst dL_law_860 ?_
  refine zW_iadd dL_law_861 ?_
  refine zsI (j := i + 1) dL_law_862 a6 (by omega) (by omega) ?_
  refine zW_aload_n dL_law_863 rfl ?_
  refine zW_iload dL_law_864 rfl ?_
  refine zW_iconst dL_law_866 ?_
  refine zW_iadd dL_law_867 ?_
  refine zsI (j := i + 2) dL_law_868 a6 (by omega) (by omega) ?_
  refine zcV2 dL_law_869 rfl eX10_exponentSum b1533 ⟨by decide, by decide, (by show cu + 2 + 0 ≤ 601024; omega), (by show su + 12 + 0 ≤ 7293034; omega)⟩ rfl r1.1.1 rfl (by decide) (Nat.le_of_ble_eq_true rfl) (q_exponentSum r1 (hIn _) (hIn _) a3 (fun σ2 v2 hR ht hm hv => ?_))
  generalize o_exponentSum A (sx Γ (i + 1)) (sx Γ (i + 2)) = o at on aoo h1 e1 hR ht hv
  have hL := h.step m1 h1 hz1 hR hm aoo
  refine zW_istore dL_law_872 (by decide) rfl rfl ?_
  refine zW_aload_n dL_law_874 rfl ?_
  refine zcV0 dL_law_875 rfl eX10_thrown b1363 ⟨by decide, by decide, (by show cu + 2 + 0 + 0 ≤ 601024; omega), (by show su + 12 + 0 + 0 ≤ 7293034; omega)⟩ rfl hR.1.1 rfl (by decide) (Nat.le_of_ble_eq_true rfl) (q_thrown hR.1.1 ht ?_)
  refine zW_iload dL_law_878 rfl ?_
  refine zW_icmp_eq (tgt := 885) dL_law_880 (by decide) (by first | assumption | omega | (unfold InR; omega) | (unfold InL; omega) | (simp only [InR] at *; omega)) (by first | assumption | omega | (unfold InR; omega) | (unfold InL; omega) | (simp only [InR] at *; omega)) (fun b => ?_) (fun b => ?_)
  · refine zW_iload dL_law_885 rfl ?_
    refine zW_if_ne (tgt := 902) dL_law_887 (by decide) (by first | assumption | omega | (unfold InR; omega) | (unfold InL; omega) | (simp only [InR] at *; omega)) (fun b2 => ?_) (fun b2 => ?_)
    · refine zW_goto (tgt := 3534) dL_law_902 (by decide) ?_
      exact k σ2 _ _ _ _ _ _ hL (by show cu + 2 + 0 + 0 ≤ cu + 20; omega) (by show su + 12 + 0 + 0 ≤ su + 150; omega)
    · have e0 : o.1 = 0 := by omega
      have ez : zJ σ2 z 0 = nrm o.2.1 := by rw [hm.j (fun q => by unfold yr at q; omega)]; exact e1 e0
      have ev := hv e0
      have hz2 : zK σ2 z = (14, 1) := by rw [hm.K]; exact hz1
      have hJ : InL (nrm o.2.1) := by have := nrm_in o.2.1; unfold InR at this; unfold InL; omega
      refine zW_aload_n dL_law_890 rfl ?_
      refine zW_iconst dL_law_891 ?_
      refine zrJ dL_law_892 hz2 (by first | assumption | omega | (unfold InR; omega) | (unfold InL; omega) | (simp only [InR] at *; omega)) (by first | assumption | omega | (unfold InR; omega) | (unfold InL; omega) | (simp only [InR] at *; omega)) (by first | assumption | omega | (unfold InR; omega) | (unfold InL; omega) | (simp only [InR] at *; omega)) ez ?_
      refine zW_iload dL_law_893 rfl ?_
      rw [ev]
      refine zW_nrm ?_
      refine zW_i2l dL_law_895 (nrm_in _) ?_
      refine zW_lcmp dL_law_896 hJ hJ ?_
      rw [zcmp_self]
      refine zW_if_eq (tgt := 902) dL_law_897 (by decide) (by first | assumption | omega | (unfold InR; omega) | (unfold InL; omega) | (simp only [InR] at *; omega)) (fun b4 => ?_) (fun b4 => ?_)
      · refine zW_goto (tgt := 3534) dL_law_902 (by decide) ?_
        exact k σ2 _ _ _ _ _ _ hL (by show cu + 2 + 0 + 0 ≤ cu + 20; omega) (by show su + 12 + 0 + 0 ≤ su + 150; omega)
      · exact absurd rfl b4
  · exact absurd rfl b
set_option maxRecDepth 100000 in
theorem w_12_commonPrefix (h : LHd Γ σ x y z A) (hi : i + 6 ≤ gL Γ) (hc : cu ≤ 600000) (hs : su ≤ 7200000) (k : ∀ σ' A' cu' su' z5 z6 z7, LHd Γ σ' x y z A' → cu' ≤ cu + 20 → su' ≤ su + 150 → zW Γ mLaw 3534 [some (vR (some (gb Γ))), some (vR (some x)), some (vR (some y)), some (vR (some z)), some (vI i), z5, z6, z7] [] σ' cu' su' Q) : zW Γ mLaw 905 [some (vR (some (gb Γ))), some (vR (some x)), some (vR (some y)), some (vR (some z)), some (vI i), z5, z6, z7] [] σ cu su Q := by
  obtain ⟨a1, a2, a3, a4, a6, ⟨b4, b5⟩, a9⟩ := id h
  have hIn : ∀ j, InR (sx Γ j) := sx_in Γ
  have hr9 := a3.1.1.2
  have on := on_commonPrefix (A := A) (r := sx Γ (i + 1)) (s := sx Γ (i + 2))
  have aoo : AO (o_commonPrefix A (sx Γ (i + 1)) (sx Γ (i + 2))).2.2 := aq_commonPrefix a3
  refine zW_aload_n dL_law_905 rfl ?_
  refine zW_aload_n dL_law_906 rfl ?_
  refine zW_iload dL_law_907 rfl ?_
  refine zW_iconst dL_law_909 ?_
  refine zW_iadd dL_law_910 ?_
  refine zsI (j := i + 1) dL_law_911 a6 (by omega) (by omega) ?_
  refine zW_aload_n dL_law_912 rfl ?_
  refine zW_iload dL_law_913 rfl ?_
  refine zW_iconst dL_law_915 ?_
  refine zW_iadd dL_law_916 ?_
  refine zsI (j := i + 2) dL_law_917 a6 (by omega) (by omega) ?_
  refine zW_aload_n dL_law_918 rfl ?_
  refine zcSX4 dL_law_919 rfl eL_commonPrefix b777 ⟨by decide, by decide, (by show cu + 0 + 2 ≤ 601024; omega), (by show su + 0 + 12 ≤ 7293034; omega)⟩ rfl (Nat.le_of_ble_eq_true rfl) (l_commonPrefix a1 a4 b4 (hIn _) (hIn _) (fun σ1 h1 m1 hz1 e1 => ?_))
  have r1 : RI σ1 y A := a2.out m1 (fun a g1 g2 q => by unfold lzz xr at q; omega)
  refine zW_istore dL_law_922 (by decide) rfl rfl ?_
  refine zW_aload_n dL_law_924 rfl ?_
  refine zW_aload_n dL_law_925 rfl ?_
  refine zW_iload dL_law_926 rfl ?_
  refine zW_iconst dL_law_928 ?_
  refine zW_iadd dL_law_929 ?_
  refine zsI (j := i + 1) dL_law_930 a6 (by omega) (by omega) ?_
  refine zW_aload_n dL_law_931 rfl ?_
  refine zW_iload dL_law_932 rfl ?_
  refine zW_iconst dL_law_934 ?_
  refine zW_iadd dL_law_935 ?_
  refine zsI (j := i + 2) dL_law_936 a6 (by omega) (by omega) ?_
  refine zcV2 dL_law_937 rfl eX10_commonPrefix b1541 ⟨by decide, by decide, (by show cu + 2 + 0 ≤ 601024; omega), (by show su + 12 + 0 ≤ 7293034; omega)⟩ rfl r1.1.1 rfl (by decide) (Nat.le_of_ble_eq_true rfl) (q_commonPrefix r1 (hIn _) (hIn _) (fun σ2 v2 hR ht hm hv => ?_))
  generalize o_commonPrefix A (sx Γ (i + 1)) (sx Γ (i + 2)) = o at on aoo h1 e1 hR ht hv
  have hL := h.step m1 h1 hz1 hR hm aoo
  refine zW_istore dL_law_940 (by decide) rfl rfl ?_
  refine zW_aload_n dL_law_942 rfl ?_
  refine zcV0 dL_law_943 rfl eX10_thrown b1363 ⟨by decide, by decide, (by show cu + 2 + 0 + 0 ≤ 601024; omega), (by show su + 12 + 0 + 0 ≤ 7293034; omega)⟩ rfl hR.1.1 rfl (by decide) (Nat.le_of_ble_eq_true rfl) (q_thrown hR.1.1 ht ?_)
  refine zW_iload dL_law_946 rfl ?_
  refine zW_icmp_eq (tgt := 953) dL_law_948 (by decide) (by first | assumption | omega | (unfold InR; omega) | (unfold InL; omega) | (simp only [InR] at *; omega)) (by first | assumption | omega | (unfold InR; omega) | (unfold InL; omega) | (simp only [InR] at *; omega)) (fun b => ?_) (fun b => ?_)
  · refine zW_iload dL_law_953 rfl ?_
    refine zW_if_ne (tgt := 970) dL_law_955 (by decide) (by first | assumption | omega | (unfold InR; omega) | (unfold InL; omega) | (simp only [InR] at *; omega)) (fun b2 => ?_) (fun b2 => ?_)
    · refine zW_goto (tgt := 3534) dL_law_970 (by decide) ?_
      exact k σ2 _ _ _ _ _ _ hL (by show cu + 2 + 0 + 0 ≤ cu + 20; omega) (by show su + 12 + 0 + 0 ≤ su + 150; omega)
    · have e0 : o.1 = 0 := by omega
      have ez : zJ σ2 z 0 = nrm o.2.1 := by rw [hm.j (fun q => by unfold yr at q; omega)]; exact e1 e0
      have ev := hv e0
      have hz2 : zK σ2 z = (14, 1) := by rw [hm.K]; exact hz1
      have hJ : InL (nrm o.2.1) := by have := nrm_in o.2.1; unfold InR at this; unfold InL; omega
      refine zW_aload_n dL_law_958 rfl ?_
      refine zW_iconst dL_law_959 ?_
      refine zrJ dL_law_960 hz2 (by first | assumption | omega | (unfold InR; omega) | (unfold InL; omega) | (simp only [InR] at *; omega)) (by first | assumption | omega | (unfold InR; omega) | (unfold InL; omega) | (simp only [InR] at *; omega)) (by first | assumption | omega | (unfold InR; omega) | (unfold InL; omega) | (simp only [InR] at *; omega)) ez ?_
      refine zW_iload dL_law_961 rfl ?_
      rw [ev]
      refine zW_nrm ?_
      refine zW_i2l dL_law_963 (nrm_in _) ?_
      refine zW_lcmp dL_law_964 hJ hJ ?_
      rw [zcmp_self]
      refine zW_if_eq (tgt := 970) dL_law_965 (by decide) (by first | assumption | omega | (unfold InR; omega) | (unfold InL; omega) | (simp only [InR] at *; omega)) (fun b4 => ?_) (fun b4 => ?_)
      · refine zW_goto (tgt := 3534) dL_law_970 (by decide) ?_
        exact k σ2 _ _ _ _ _ _ hL (by show cu + 2 + 0 + 0 ≤ cu + 20; omega) (by show su + 12 + 0 + 0 ≤ su + 150; omega)
      · exact absurd rfl b4
  · exact absurd rfl b
set_option maxRecDepth 100000 in
theorem w_13_cancellation (h : LHd Γ σ x y z A) (hi : i + 6 ≤ gL Γ) (hc : cu ≤ 600000) (hs : su ≤ 7200000) (k : ∀ σ' A' cu' su' z5 z6 z7, LHd Γ σ' x y z A' → cu' ≤ cu + 20 → su' ≤ su + 150 → zW Γ mLaw 3534 [some (vR (some (gb Γ))), some (vR (some x)), some (vR (some y)), some (vR (some z)), some (vI i), z5, z6, z7] [] σ' cu' su' Q) : zW Γ mLaw 973 [some (vR (some (gb Γ))), some (vR (some x)), some (vR (some y)), some (vR (some z)), some (vI i), z5, z6, z7] [] σ cu su Q := by
  obtain ⟨a1, a2, a3, a4, a6, ⟨b4, b5⟩, a9⟩ := id h
  have hIn : ∀ j, InR (sx Γ j) := sx_in Γ
  have hr9 := a3.1.1.2
  have on := on_cancellation (A := A) (r := sx Γ (i + 1)) (s := sx Γ (i + 2))
  have aoo : AO (o_cancellation A (sx Γ (i + 1)) (sx Γ (i + 2))).2.2 := aq_cancellation a3
  refine zW_aload_n dL_law_973 rfl ?_
  refine zW_aload_n dL_law_974 rfl ?_
  refine zW_iload dL_law_975 rfl ?_
  refine zW_iconst dL_law_977 ?_
  refine zW_iadd dL_law_978 ?_
  refine zsI (j := i + 1) dL_law_979 a6 (by omega) (by omega) ?_
  refine zW_aload_n dL_law_980 rfl ?_
  refine zW_iload dL_law_981 rfl ?_
  refine zW_iconst dL_law_983 ?_
  refine zW_iadd dL_law_984 ?_
  refine zsI (j := i + 2) dL_law_985 a6 (by omega) (by omega) ?_
  refine zW_aload_n dL_law_986 rfl ?_
  refine zcSX4 dL_law_987 rfl eL_cancellation b784 ⟨by decide, by decide, (by show cu + 0 + 2 ≤ 601024; omega), (by show su + 0 + 12 ≤ 7293034; omega)⟩ rfl (Nat.le_of_ble_eq_true rfl) (l_cancellation a1 a4 b4 (hIn _) (hIn _) (fun σ1 h1 m1 hz1 e1 => ?_))
  have r1 : RI σ1 y A := a2.out m1 (fun a g1 g2 q => by unfold lzz xr at q; omega)
  refine zW_istore dL_law_990 (by decide) rfl rfl ?_
  refine zW_aload_n dL_law_992 rfl ?_
  refine zW_aload_n dL_law_993 rfl ?_
  refine zW_iload dL_law_994 rfl ?_
  refine zW_iconst dL_law_996 ?_
  refine zW_iadd dL_law_997 ?_
  refine zsI (j := i + 1) dL_law_998 a6 (by omega) (by omega) ?_
  refine zW_aload_n dL_law_999 rfl ?_
  refine zW_iload dL_law_1000 rfl ?_
  refine zW_iconst dL_law_1002 ?_
  refine zW_iadd dL_law_1003 ?_
  refine zsI (j := i + 2) dL_law_1004 a6 (by omega) (by omega) ?_
  refine zcV2 dL_law_1005 rfl eX10_cancellation b1546 ⟨by decide, by decide, (by show cu + 2 + 0 ≤ 601024; omega), (by show su + 12 + 0 ≤ 7293034; omega)⟩ rfl r1.1.1 rfl (by decide) (Nat.le_of_ble_eq_true rfl) (q_cancellation r1 (hIn _) (hIn _) a3 (fun σ2 v2 hR ht hm hv => ?_))
  generalize o_cancellation A (sx Γ (i + 1)) (sx Γ (i + 2)) = o at on aoo h1 e1 hR ht hv
  have hL := h.step m1 h1 hz1 hR hm aoo
  refine zW_istore dL_law_1008 (by decide) rfl rfl ?_
  refine zW_aload_n dL_law_1010 rfl ?_
  refine zcV0 dL_law_1011 rfl eX10_thrown b1363 ⟨by decide, by decide, (by show cu + 2 + 0 + 0 ≤ 601024; omega), (by show su + 12 + 0 + 0 ≤ 7293034; omega)⟩ rfl hR.1.1 rfl (by decide) (Nat.le_of_ble_eq_true rfl) (q_thrown hR.1.1 ht ?_)
  refine zW_iload dL_law_1014 rfl ?_
  refine zW_icmp_eq (tgt := 1021) dL_law_1016 (by decide) (by first | assumption | omega | (unfold InR; omega) | (unfold InL; omega) | (simp only [InR] at *; omega)) (by first | assumption | omega | (unfold InR; omega) | (unfold InL; omega) | (simp only [InR] at *; omega)) (fun b => ?_) (fun b => ?_)
  · refine zW_iload dL_law_1021 rfl ?_
    refine zW_if_ne (tgt := 1038) dL_law_1023 (by decide) (by first | assumption | omega | (unfold InR; omega) | (unfold InL; omega) | (simp only [InR] at *; omega)) (fun b2 => ?_) (fun b2 => ?_)
    · refine zW_goto (tgt := 3534) dL_law_1038 (by decide) ?_
      exact k σ2 _ _ _ _ _ _ hL (by show cu + 2 + 0 + 0 ≤ cu + 20; omega) (by show su + 12 + 0 + 0 ≤ su + 150; omega)
    · have e0 : o.1 = 0 := by omega
      have ez : zJ σ2 z 0 = nrm o.2.1 := by rw [hm.j (fun q => by unfold yr at q; omega)]; exact e1 e0
      have ev := hv e0
      have hz2 : zK σ2 z = (14, 1) := by rw [hm.K]; exact hz1
      have hJ : InL (nrm o.2.1) := by have := nrm_in o.2.1; unfold InR at this; unfold InL; omega
      refine zW_aload_n dL_law_1026 rfl ?_
      refine zW_iconst dL_law_1027 ?_
      refine zrJ dL_law_1028 hz2 (by first | assumption | omega | (unfold InR; omega) | (unfold InL; omega) | (simp only [InR] at *; omega)) (by first | assumption | omega | (unfold InR; omega) | (unfold InL; omega) | (simp only [InR] at *; omega)) (by first | assumption | omega | (unfold InR; omega) | (unfold InL; omega) | (simp only [InR] at *; omega)) ez ?_
      refine zW_iload dL_law_1029 rfl ?_
      rw [ev]
      refine zW_nrm ?_
      refine zW_i2l dL_law_1031 (nrm_in _) ?_
      refine zW_lcmp dL_law_1032 hJ hJ ?_
      rw [zcmp_self]
      refine zW_if_eq (tgt := 1038) dL_law_1033 (by decide) (by first | assumption | omega | (unfold InR; omega) | (unfold InL; omega) | (simp only [InR] at *; omega)) (fun b4 => ?_) (fun b4 => ?_)
      · refine zW_goto (tgt := 3534) dL_law_1038 (by decide) ?_
        exact k σ2 _ _ _ _ _ _ hL (by show cu + 2 + 0 + 0 ≤ cu + 20; omega) (by show su + 12 + 0 + 0 ≤ su + 150; omega)
      · exact absurd rfl b4
  · exact absurd rfl b
set_option maxRecDepth 100000 in
theorem w_14_doCommute (h : LHd Γ σ x y z A) (hi : i + 6 ≤ gL Γ) (hc : cu ≤ 600000) (hs : su ≤ 7200000) (k : ∀ σ' A' cu' su' z5 z6 z7, LHd Γ σ' x y z A' → cu' ≤ cu + 20 → su' ≤ su + 150 → zW Γ mLaw 3534 [some (vR (some (gb Γ))), some (vR (some x)), some (vR (some y)), some (vR (some z)), some (vI i), z5, z6, z7] [] σ' cu' su' Q) : zW Γ mLaw 1041 [some (vR (some (gb Γ))), some (vR (some x)), some (vR (some y)), some (vR (some z)), some (vI i), z5, z6, z7] [] σ cu su Q := by
  obtain ⟨a1, a2, a3, a4, a6, ⟨b4, b5⟩, a9⟩ := id h
  have hIn : ∀ j, InR (sx Γ j) := sx_in Γ
  have hr9 := a3.1.1.2
  have on := on_doCommute (A := A) (r := sx Γ (i + 1)) (s := sx Γ (i + 2))
  have aoo : AO (o_doCommute A (sx Γ (i + 1)) (sx Γ (i + 2))).2.2 := aq_doCommute a3
  refine zW_aload_n dL_law_1041 rfl ?_
  refine zW_aload_n dL_law_1042 rfl ?_
  refine zW_iload dL_law_1043 rfl ?_
  refine zW_iconst dL_law_1045 ?_
  refine zW_iadd dL_law_1046 ?_
  refine zsI (j := i + 1) dL_law_1047 a6 (by omega) (by omega) ?_
  refine zW_aload_n dL_law_1048 rfl ?_
  refine zW_iload dL_law_1049 rfl ?_
  refine zW_iconst dL_law_1051 ?_
  refine zW_iadd dL_law_1052 ?_
  refine zsI (j := i + 2) dL_law_1053 a6 (by omega) (by omega) ?_
  refine zW_aload_n dL_law_1054 rfl ?_
  refine zcSX4 dL_law_1055 rfl eL_doCommute b791 ⟨by decide, by decide, (by show cu + 0 + 2 ≤ 601024; omega), (by show su + 0 + 12 ≤ 7293034; omega)⟩ rfl (Nat.le_of_ble_eq_true rfl) (l_doCommute a1 a4 b4 (hIn _) (hIn _) (fun σ1 h1 m1 hz1 e1 => ?_))
  have r1 : RI σ1 y A := a2.out m1 (fun a g1 g2 q => by unfold lzz xr at q; omega)
  refine zW_istore dL_law_1058 (by decide) rfl rfl ?_
  refine zW_aload_n dL_law_1060 rfl ?_
  refine zW_aload_n dL_law_1061 rfl ?_
  refine zW_iload dL_law_1062 rfl ?_
  refine zW_iconst dL_law_1064 ?_
  refine zW_iadd dL_law_1065 ?_
  refine zsI (j := i + 1) dL_law_1066 a6 (by omega) (by omega) ?_
  refine zW_aload_n dL_law_1067 rfl ?_
  refine zW_iload dL_law_1068 rfl ?_
  refine zW_iconst dL_law_1070 ?_
  refine zW_iadd dL_law_1071 ?_
  refine zsI (j := i + 2) dL_law_1072 a6 (by omega) (by omega) ?_
  refine zcV2 dL_law_1073 rfl eX10_doCommute b1550 ⟨by decide, by decide, (by show cu + 2 + 0 ≤ 601024; omega), (by show su + 12 + 0 ≤ 7293034; omega)⟩ rfl r1.1.1 rfl (by decide) (Nat.le_of_ble_eq_true rfl) (q_doCommute r1 (hIn _) (hIn _) a3 (fun σ2 v2 hR ht hm hv => ?_))
  generalize o_doCommute A (sx Γ (i + 1)) (sx Γ (i + 2)) = o at on aoo h1 e1 hR ht hv
  have hL := h.step m1 h1 hz1 hR hm aoo
  refine zW_istore dL_law_1076 (by decide) rfl rfl ?_
  refine zW_aload_n dL_law_1078 rfl ?_
  refine zcV0 dL_law_1079 rfl eX10_thrown b1363 ⟨by decide, by decide, (by show cu + 2 + 0 + 0 ≤ 601024; omega), (by show su + 12 + 0 + 0 ≤ 7293034; omega)⟩ rfl hR.1.1 rfl (by decide) (Nat.le_of_ble_eq_true rfl) (q_thrown hR.1.1 ht ?_)
  refine zW_iload dL_law_1082 rfl ?_
  refine zW_icmp_eq (tgt := 1089) dL_law_1084 (by decide) (by first | assumption | omega | (unfold InR; omega) | (unfold InL; omega) | (simp only [InR] at *; omega)) (by first | assumption | omega | (unfold InR; omega) | (unfold InL; omega) | (simp only [InR] at *; omega)) (fun b => ?_) (fun b => ?_)
  · refine zW_iload dL_law_1089 rfl ?_
    refine zW_if_ne (tgt := 1113) dL_law_1091 (by decide) (by first | assumption | omega | (unfold InR; omega) | (unfold InL; omega) | (simp only [InR] at *; omega)) (fun b2 => ?_) (fun b2 => ?_)
    · refine zW_goto (tgt := 3534) dL_law_1113 (by decide) ?_
      exact k σ2 _ _ _ _ _ _ hL (by show cu + 2 + 0 + 0 ≤ cu + 20; omega) (by show su + 12 + 0 + 0 ≤ su + 150; omega)
    · have e0 : o.1 = 0 := by omega
      have ez : zJ σ2 z 0 = bln o.2.1 := by rw [hm.j (fun q => by unfold yr at q; omega)]; exact e1 e0
      have ev := hv e0
      have hz2 : zK σ2 z = (14, 1) := by rw [hm.K]; exact hz1
      refine zW_aload_n dL_law_1094 rfl ?_
      refine zW_iconst dL_law_1095 ?_
      refine zrJ dL_law_1096 hz2 (by first | assumption | omega | (unfold InR; omega) | (unfold InL; omega) | (simp only [InR] at *; omega)) (by first | assumption | omega | (unfold InR; omega) | (unfold InL; omega) | (simp only [InR] at *; omega)) (by first | assumption | omega | (unfold InR; omega) | (unfold InL; omega) | (simp only [InR] at *; omega)) ez ?_
      refine zW_iload dL_law_1097 rfl ?_
      rw [ev]
      refine zW_nrm ?_
      have hnr := nrm_in o.2.1
      refine zW_if_eq (tgt := 1106) dL_law_1099 (by decide) (by first | assumption | omega | (unfold InR; omega) | (unfold InL; omega) | (simp only [InR] at *; omega)) (fun b3 => ?_) (fun b3 => ?_)
      · have e4 : bln o.2.1 = 0 := if_pos b3
        rw [e4]
        refine zW_lconst dL_law_1106 (z := 0) (by decide) ?_
        refine zW_lcmp dL_law_1107 (by unfold InL; omega) (by unfold InL; omega) ?_
        rw [zcmp_self]
        refine zW_if_eq (tgt := 1113) dL_law_1108 (by decide) (by first | assumption | omega | (unfold InR; omega) | (unfold InL; omega) | (simp only [InR] at *; omega)) (fun b4 => ?_) (fun b4 => ?_)
        · refine zW_goto (tgt := 3534) dL_law_1113 (by decide) ?_
          exact k σ2 _ _ _ _ _ _ hL (by show cu + 2 + 0 + 0 ≤ cu + 20; omega) (by show su + 12 + 0 + 0 ≤ su + 150; omega)
        · exact absurd rfl b4
      · have e4 : bln o.2.1 = 1 := if_neg b3
        rw [e4]
        refine zW_lconst dL_law_1102 (z := 1) (by decide) ?_
        refine zW_goto (tgt := 1107) dL_law_1103 (by decide) ?_
        refine zW_lcmp dL_law_1107 (by unfold InL; omega) (by unfold InL; omega) ?_
        rw [zcmp_self]
        refine zW_if_eq (tgt := 1113) dL_law_1108 (by decide) (by first | assumption | omega | (unfold InR; omega) | (unfold InL; omega) | (simp only [InR] at *; omega)) (fun b4 => ?_) (fun b4 => ?_)
        · refine zW_goto (tgt := 3534) dL_law_1113 (by decide) ?_
          exact k σ2 _ _ _ _ _ _ hL (by show cu + 2 + 0 + 0 ≤ cu + 20; omega) (by show su + 12 + 0 + 0 ≤ su + 150; omega)
        · exact absurd rfl b4
  · exact absurd rfl b
set_option maxRecDepth 100000 in
theorem w_15_coreLength (h : LHd Γ σ x y z A) (hi : i + 6 ≤ gL Γ) (hc : cu ≤ 600000) (hs : su ≤ 7200000) (k : ∀ σ' A' cu' su' z5 z6 z7, LHd Γ σ' x y z A' → cu' ≤ cu + 20 → su' ≤ su + 150 → zW Γ mLaw 3534 [some (vR (some (gb Γ))), some (vR (some x)), some (vR (some y)), some (vR (some z)), some (vI i), z5, z6, z7] [] σ' cu' su' Q) : zW Γ mLaw 1116 [some (vR (some (gb Γ))), some (vR (some x)), some (vR (some y)), some (vR (some z)), some (vI i), z5, z6, z7] [] σ cu su Q := by
  obtain ⟨a1, a2, a3, a4, a6, ⟨b4, b5⟩, a9⟩ := id h
  have hIn : ∀ j, InR (sx Γ j) := sx_in Γ
  have hr9 := a3.1.1.2
  have on := on_coreLength (A := A) (r := sx Γ (i + 1))
  have aoo : AO (o_coreLength A (sx Γ (i + 1))).2.2 := aq_coreLength a3
  refine zW_aload_n dL_law_1116 rfl ?_
  refine zW_aload_n dL_law_1117 rfl ?_
  refine zW_iload dL_law_1118 rfl ?_
  refine zW_iconst dL_law_1120 ?_
  refine zW_iadd dL_law_1121 ?_
  refine zsI (j := i + 1) dL_law_1122 a6 (by omega) (by omega) ?_
  refine zW_aload_n dL_law_1123 rfl ?_
  refine zcSX3 dL_law_1124 rfl eL_coreLength b816 ⟨by decide, by decide, (by show cu + 0 + 1 ≤ 601024; omega), (by show su + 0 + 6 ≤ 7293034; omega)⟩ rfl (Nat.le_of_ble_eq_true rfl) (l_coreLength a1 a4 b4 (hIn _) (fun σ1 h1 m1 hz1 e1 => ?_))
  have r1 : RI σ1 y A := a2.out m1 (fun a g1 g2 q => by unfold lzz xr at q; omega)
  refine zW_istore dL_law_1127 (by decide) rfl rfl ?_
  refine zW_aload_n dL_law_1129 rfl ?_
  refine zW_aload_n dL_law_1130 rfl ?_
  refine zW_iload dL_law_1131 rfl ?_
  refine zW_iconst dL_law_1133 ?_
  refine zW_iadd dL_law_1134 ?_
  refine zsI (j := i + 1) dL_law_1135 a6 (by omega) (by omega) ?_
  refine zcV1 dL_law_1136 rfl eX10_coreLength b1554 ⟨by decide, by decide, (by show cu + 1 + 0 ≤ 601024; omega), (by show su + 6 + 0 ≤ 7293034; omega)⟩ rfl r1.1.1 rfl (by decide) (Nat.le_of_ble_eq_true rfl) (q_coreLength r1 (hIn _) (fun σ2 v2 hR ht hm hv => ?_))
  generalize o_coreLength A (sx Γ (i + 1)) = o at on aoo h1 e1 hR ht hv
  have hL := h.step m1 h1 hz1 hR hm aoo
  refine zW_istore dL_law_1139 (by decide) rfl rfl ?_
  refine zW_aload_n dL_law_1141 rfl ?_
  refine zcV0 dL_law_1142 rfl eX10_thrown b1363 ⟨by decide, by decide, (by show cu + 1 + 0 + 0 ≤ 601024; omega), (by show su + 6 + 0 + 0 ≤ 7293034; omega)⟩ rfl hR.1.1 rfl (by decide) (Nat.le_of_ble_eq_true rfl) (q_thrown hR.1.1 ht ?_)
  refine zW_iload dL_law_1145 rfl ?_
  refine zW_icmp_eq (tgt := 1152) dL_law_1147 (by decide) (by first | assumption | omega | (unfold InR; omega) | (unfold InL; omega) | (simp only [InR] at *; omega)) (by first | assumption | omega | (unfold InR; omega) | (unfold InL; omega) | (simp only [InR] at *; omega)) (fun b => ?_) (fun b => ?_)
  · refine zW_iload dL_law_1152 rfl ?_
    refine zW_if_ne (tgt := 1169) dL_law_1154 (by decide) (by first | assumption | omega | (unfold InR; omega) | (unfold InL; omega) | (simp only [InR] at *; omega)) (fun b2 => ?_) (fun b2 => ?_)
    · refine zW_goto (tgt := 3534) dL_law_1169 (by decide) ?_
      exact k σ2 _ _ _ _ _ _ hL (by show cu + 1 + 0 + 0 ≤ cu + 20; omega) (by show su + 6 + 0 + 0 ≤ su + 150; omega)
    · have e0 : o.1 = 0 := by omega
      have ez : zJ σ2 z 0 = nrm o.2.1 := by rw [hm.j (fun q => by unfold yr at q; omega)]; exact e1 e0
      have ev := hv e0
      have hz2 : zK σ2 z = (14, 1) := by rw [hm.K]; exact hz1
      have hJ : InL (nrm o.2.1) := by have := nrm_in o.2.1; unfold InR at this; unfold InL; omega
      refine zW_aload_n dL_law_1157 rfl ?_
      refine zW_iconst dL_law_1158 ?_
      refine zrJ dL_law_1159 hz2 (by first | assumption | omega | (unfold InR; omega) | (unfold InL; omega) | (simp only [InR] at *; omega)) (by first | assumption | omega | (unfold InR; omega) | (unfold InL; omega) | (simp only [InR] at *; omega)) (by first | assumption | omega | (unfold InR; omega) | (unfold InL; omega) | (simp only [InR] at *; omega)) ez ?_
      refine zW_iload dL_law_1160 rfl ?_
      rw [ev]
      refine zW_nrm ?_
      refine zW_i2l dL_law_1162 (nrm_in _) ?_
      refine zW_lcmp dL_law_1163 hJ hJ ?_
      rw [zcmp_self]
      refine zW_if_eq (tgt := 1169) dL_law_1164 (by decide) (by first | assumption | omega | (unfold InR; omega) | (unfold InL; omega) | (simp only [InR] at *; omega)) (fun b4 => ?_) (fun b4 => ?_)
      · refine zW_goto (tgt := 3534) dL_law_1169 (by decide) ?_
        exact k σ2 _ _ _ _ _ _ hL (by show cu + 1 + 0 + 0 ≤ cu + 20; omega) (by show su + 6 + 0 + 0 ≤ su + 150; omega)
      · exact absurd rfl b4
  · exact absurd rfl b
set_option maxRecDepth 100000 in
theorem w_16_coreLetter (h : LHd Γ σ x y z A) (hi : i + 6 ≤ gL Γ) (hc : cu ≤ 600000) (hs : su ≤ 7200000) (k : ∀ σ' A' cu' su' z5 z6 z7, LHd Γ σ' x y z A' → cu' ≤ cu + 20 → su' ≤ su + 150 → zW Γ mLaw 3534 [some (vR (some (gb Γ))), some (vR (some x)), some (vR (some y)), some (vR (some z)), some (vI i), z5, z6, z7] [] σ' cu' su' Q) : zW Γ mLaw 1172 [some (vR (some (gb Γ))), some (vR (some x)), some (vR (some y)), some (vR (some z)), some (vI i), z5, z6, z7] [] σ cu su Q := by
  obtain ⟨a1, a2, a3, a4, a6, ⟨b4, b5⟩, a9⟩ := id h
  have hIn : ∀ j, InR (sx Γ j) := sx_in Γ
  have hr9 := a3.1.1.2
  have on := on_coreLetter (A := A) (r := sx Γ (i + 1)) (i := sx Γ (i + 2))
  have aoo : AO (o_coreLetter A (sx Γ (i + 1)) (sx Γ (i + 2))).2.2 := aq_coreLetter a3
  refine zW_aload_n dL_law_1172 rfl ?_
  refine zW_aload_n dL_law_1173 rfl ?_
  refine zW_iload dL_law_1174 rfl ?_
  refine zW_iconst dL_law_1176 ?_
  refine zW_iadd dL_law_1177 ?_
  refine zsI (j := i + 1) dL_law_1178 a6 (by omega) (by omega) ?_
  refine zW_aload_n dL_law_1179 rfl ?_
  refine zW_iload dL_law_1180 rfl ?_
  refine zW_iconst dL_law_1182 ?_
  refine zW_iadd dL_law_1183 ?_
  refine zsI (j := i + 2) dL_law_1184 a6 (by omega) (by omega) ?_
  refine zW_aload_n dL_law_1185 rfl ?_
  refine zcSX4 dL_law_1186 rfl eL_coreLetter b831 ⟨by decide, by decide, (by show cu + 0 + 2 ≤ 601024; omega), (by show su + 0 + 12 ≤ 7293034; omega)⟩ rfl (Nat.le_of_ble_eq_true rfl) (l_coreLetter a1 a4 b4 (hIn _) (hIn _) (fun σ1 h1 m1 hz1 e1 => ?_))
  have r1 : RI σ1 y A := a2.out m1 (fun a g1 g2 q => by unfold lzz xr at q; omega)
  refine zW_istore dL_law_1189 (by decide) rfl rfl ?_
  refine zW_aload_n dL_law_1191 rfl ?_
  refine zW_aload_n dL_law_1192 rfl ?_
  refine zW_iload dL_law_1193 rfl ?_
  refine zW_iconst dL_law_1195 ?_
  refine zW_iadd dL_law_1196 ?_
  refine zsI (j := i + 1) dL_law_1197 a6 (by omega) (by omega) ?_
  refine zW_aload_n dL_law_1198 rfl ?_
  refine zW_iload dL_law_1199 rfl ?_
  refine zW_iconst dL_law_1201 ?_
  refine zW_iadd dL_law_1202 ?_
  refine zsI (j := i + 2) dL_law_1203 a6 (by omega) (by omega) ?_
  refine zcV2 dL_law_1204 rfl eX10_coreLetter b1566 ⟨by decide, by decide, (by show cu + 2 + 0 ≤ 601024; omega), (by show su + 12 + 0 ≤ 7293034; omega)⟩ rfl r1.1.1 rfl (by decide) (Nat.le_of_ble_eq_true rfl) (q_coreLetter r1 (hIn _) (hIn _) (fun σ2 v2 hR ht hm hv => ?_))
  generalize o_coreLetter A (sx Γ (i + 1)) (sx Γ (i + 2)) = o at on aoo h1 e1 hR ht hv
  have hL := h.step m1 h1 hz1 hR hm aoo
  refine zW_istore dL_law_1207 (by decide) rfl rfl ?_
  refine zW_aload_n dL_law_1209 rfl ?_
  refine zcV0 dL_law_1210 rfl eX10_thrown b1363 ⟨by decide, by decide, (by show cu + 2 + 0 + 0 ≤ 601024; omega), (by show su + 12 + 0 + 0 ≤ 7293034; omega)⟩ rfl hR.1.1 rfl (by decide) (Nat.le_of_ble_eq_true rfl) (q_thrown hR.1.1 ht ?_)
  refine zW_iload dL_law_1213 rfl ?_
  refine zW_icmp_eq (tgt := 1220) dL_law_1215 (by decide) (by first | assumption | omega | (unfold InR; omega) | (unfold InL; omega) | (simp only [InR] at *; omega)) (by first | assumption | omega | (unfold InR; omega) | (unfold InL; omega) | (simp only [InR] at *; omega)) (fun b => ?_) (fun b => ?_)
  · refine zW_iload dL_law_1220 rfl ?_
    refine zW_if_ne (tgt := 1237) dL_law_1222 (by decide) (by first | assumption | omega | (unfold InR; omega) | (unfold InL; omega) | (simp only [InR] at *; omega)) (fun b2 => ?_) (fun b2 => ?_)
    · refine zW_goto (tgt := 3534) dL_law_1237 (by decide) ?_
      exact k σ2 _ _ _ _ _ _ hL (by show cu + 2 + 0 + 0 ≤ cu + 20; omega) (by show su + 12 + 0 + 0 ≤ su + 150; omega)
    · have e0 : o.1 = 0 := by omega
      have ez : zJ σ2 z 0 = nrm o.2.1 := by rw [hm.j (fun q => by unfold yr at q; omega)]; exact e1 e0
      have ev := hv e0
      have hz2 : zK σ2 z = (14, 1) := by rw [hm.K]; exact hz1
      have hJ : InL (nrm o.2.1) := by have := nrm_in o.2.1; unfold InR at this; unfold InL; omega
      refine zW_aload_n dL_law_1225 rfl ?_
      refine zW_iconst dL_law_1226 ?_
      refine zrJ dL_law_1227 hz2 (by first | assumption | omega | (unfold InR; omega) | (unfold InL; omega) | (simp only [InR] at *; omega)) (by first | assumption | omega | (unfold InR; omega) | (unfold InL; omega) | (simp only [InR] at *; omega)) (by first | assumption | omega | (unfold InR; omega) | (unfold InL; omega) | (simp only [InR] at *; omega)) ez ?_
      refine zW_iload dL_law_1228 rfl ?_
      rw [ev]
      refine zW_nrm ?_
      refine zW_i2l dL_law_1230 (nrm_in _) ?_
      refine zW_lcmp dL_law_1231 hJ hJ ?_
      rw [zcmp_self]
      refine zW_if_eq (tgt := 1237) dL_law_1232 (by decide) (by first | assumption | omega | (unfold InR; omega) | (unfold InL; omega) | (simp only [InR] at *; omega)) (fun b4 => ?_) (fun b4 => ?_)
      · refine zW_goto (tgt := 3534) dL_law_1237 (by decide) ?_
        exact k σ2 _ _ _ _ _ _ hL (by show cu + 2 + 0 + 0 ≤ cu + 20; omega) (by show su + 12 + 0 + 0 ≤ su + 150; omega)
      · exact absurd rfl b4
  · exact absurd rfl b
set_option maxRecDepth 100000 in
theorem w_17_areConjugate (h : LHd Γ σ x y z A) (hi : i + 6 ≤ gL Γ) (hc : cu ≤ 600000) (hs : su ≤ 7200000) (k : ∀ σ' A' cu' su' z5 z6 z7, LHd Γ σ' x y z A' → cu' ≤ cu + 20 → su' ≤ su + 150 → zW Γ mLaw 3534 [some (vR (some (gb Γ))), some (vR (some x)), some (vR (some y)), some (vR (some z)), some (vI i), z5, z6, z7] [] σ' cu' su' Q) : zW Γ mLaw 1240 [some (vR (some (gb Γ))), some (vR (some x)), some (vR (some y)), some (vR (some z)), some (vI i), z5, z6, z7] [] σ cu su Q := by
  obtain ⟨a1, a2, a3, a4, a6, ⟨b4, b5⟩, a9⟩ := id h
  have hIn : ∀ j, InR (sx Γ j) := sx_in Γ
  have hr9 := a3.1.1.2
  have on := on_areConjugate (A := A) (r := sx Γ (i + 1)) (s := sx Γ (i + 2))
  have aoo : AO (o_areConjugate A (sx Γ (i + 1)) (sx Γ (i + 2))).2.2 := aq_areConjugate a3
  refine zW_aload_n dL_law_1240 rfl ?_
  refine zW_aload_n dL_law_1241 rfl ?_
  refine zW_iload dL_law_1242 rfl ?_
  refine zW_iconst dL_law_1244 ?_
  refine zW_iadd dL_law_1245 ?_
  refine zsI (j := i + 1) dL_law_1246 a6 (by omega) (by omega) ?_
  refine zW_aload_n dL_law_1247 rfl ?_
  refine zW_iload dL_law_1248 rfl ?_
  refine zW_iconst dL_law_1250 ?_
  refine zW_iadd dL_law_1251 ?_
  refine zsI (j := i + 2) dL_law_1252 a6 (by omega) (by omega) ?_
  refine zW_aload_n dL_law_1253 rfl ?_
  refine zcSX4 dL_law_1254 rfl eL_areConjugate b839 ⟨by decide, by decide, (by show cu + 0 + 2 ≤ 601024; omega), (by show su + 0 + 12 ≤ 7293034; omega)⟩ rfl (Nat.le_of_ble_eq_true rfl) (l_areConjugate a1 a4 b4 (hIn _) (hIn _) (fun σ1 h1 m1 hz1 e1 => ?_))
  have r1 : RI σ1 y A := a2.out m1 (fun a g1 g2 q => by unfold lzz xr at q; omega)
  refine zW_istore dL_law_1257 (by decide) rfl rfl ?_
  refine zW_aload_n dL_law_1259 rfl ?_
  refine zW_aload_n dL_law_1260 rfl ?_
  refine zW_iload dL_law_1261 rfl ?_
  refine zW_iconst dL_law_1263 ?_
  refine zW_iadd dL_law_1264 ?_
  refine zsI (j := i + 1) dL_law_1265 a6 (by omega) (by omega) ?_
  refine zW_aload_n dL_law_1266 rfl ?_
  refine zW_iload dL_law_1267 rfl ?_
  refine zW_iconst dL_law_1269 ?_
  refine zW_iadd dL_law_1270 ?_
  refine zsI (j := i + 2) dL_law_1271 a6 (by omega) (by omega) ?_
  refine zcV2 dL_law_1272 rfl eX10_areConjugate b1574 ⟨by decide, by decide, (by show cu + 2 + 0 ≤ 601024; omega), (by show su + 12 + 0 ≤ 7293034; omega)⟩ rfl r1.1.1 rfl (by decide) (Nat.le_of_ble_eq_true rfl) (q_areConjugate r1 (hIn _) (hIn _) (fun σ2 v2 hR ht hm hv => ?_))
  generalize o_areConjugate A (sx Γ (i + 1)) (sx Γ (i + 2)) = o at on aoo h1 e1 hR ht hv
  have hL := h.step m1 h1 hz1 hR hm aoo
  refine zW_istore dL_law_1275 (by decide) rfl rfl ?_
  refine zW_aload_n dL_law_1277 rfl ?_
  refine zcV0 dL_law_1278 rfl eX10_thrown b1363 ⟨by decide, by decide, (by show cu + 2 + 0 + 0 ≤ 601024; omega), (by show su + 12 + 0 + 0 ≤ 7293034; omega)⟩ rfl hR.1.1 rfl (by decide) (Nat.le_of_ble_eq_true rfl) (q_thrown hR.1.1 ht ?_)
  refine zW_iload dL_law_1281 rfl ?_
  refine zW_icmp_eq (tgt := 1288) dL_law_1283 (by decide) (by first | assumption | omega | (unfold InR; omega) | (unfold InL; omega) | (simp only [InR] at *; omega)) (by first | assumption | omega | (unfold InR; omega) | (unfold InL; omega) | (simp only [InR] at *; omega)) (fun b => ?_) (fun b => ?_)
  · refine zW_iload dL_law_1288 rfl ?_
    refine zW_if_ne (tgt := 1312) dL_law_1290 (by decide) (by first | assumption | omega | (unfold InR; omega) | (unfold InL; omega) | (simp only [InR] at *; omega)) (fun b2 => ?_) (fun b2 => ?_)
    · refine zW_goto (tgt := 3534) dL_law_1312 (by decide) ?_
      exact k σ2 _ _ _ _ _ _ hL (by show cu + 2 + 0 + 0 ≤ cu + 20; omega) (by show su + 12 + 0 + 0 ≤ su + 150; omega)
    · have e0 : o.1 = 0 := by omega
      have ez : zJ σ2 z 0 = bln o.2.1 := by rw [hm.j (fun q => by unfold yr at q; omega)]; exact e1 e0
      have ev := hv e0
      have hz2 : zK σ2 z = (14, 1) := by rw [hm.K]; exact hz1
      refine zW_aload_n dL_law_1293 rfl ?_
      refine zW_iconst dL_law_1294 ?_
      refine zrJ dL_law_1295 hz2 (by first | assumption | omega | (unfold InR; omega) | (unfold InL; omega) | (simp only [InR] at *; omega)) (by first | assumption | omega | (unfold InR; omega) | (unfold InL; omega) | (simp only [InR] at *; omega)) (by first | assumption | omega | (unfold InR; omega) | (unfold InL; omega) | (simp only [InR] at *; omega)) ez ?_
      refine zW_iload dL_law_1296 rfl ?_
      rw [ev]
      refine zW_nrm ?_
      have hnr := nrm_in o.2.1
      refine zW_if_eq (tgt := 1305) dL_law_1298 (by decide) (by first | assumption | omega | (unfold InR; omega) | (unfold InL; omega) | (simp only [InR] at *; omega)) (fun b3 => ?_) (fun b3 => ?_)
      · have e4 : bln o.2.1 = 0 := if_pos b3
        rw [e4]
        refine zW_lconst dL_law_1305 (z := 0) (by decide) ?_
        refine zW_lcmp dL_law_1306 (by unfold InL; omega) (by unfold InL; omega) ?_
        rw [zcmp_self]
        refine zW_if_eq (tgt := 1312) dL_law_1307 (by decide) (by first | assumption | omega | (unfold InR; omega) | (unfold InL; omega) | (simp only [InR] at *; omega)) (fun b4 => ?_) (fun b4 => ?_)
        · refine zW_goto (tgt := 3534) dL_law_1312 (by decide) ?_
          exact k σ2 _ _ _ _ _ _ hL (by show cu + 2 + 0 + 0 ≤ cu + 20; omega) (by show su + 12 + 0 + 0 ≤ su + 150; omega)
        · exact absurd rfl b4
      · have e4 : bln o.2.1 = 1 := if_neg b3
        rw [e4]
        refine zW_lconst dL_law_1301 (z := 1) (by decide) ?_
        refine zW_goto (tgt := 1306) dL_law_1302 (by decide) ?_
        refine zW_lcmp dL_law_1306 (by unfold InL; omega) (by unfold InL; omega) ?_
        rw [zcmp_self]
        refine zW_if_eq (tgt := 1312) dL_law_1307 (by decide) (by first | assumption | omega | (unfold InR; omega) | (unfold InL; omega) | (simp only [InR] at *; omega)) (fun b4 => ?_) (fun b4 => ?_)
        · refine zW_goto (tgt := 3534) dL_law_1312 (by decide) ?_
          exact k σ2 _ _ _ _ _ _ hL (by show cu + 2 + 0 + 0 ≤ cu + 20; omega) (by show su + 12 + 0 + 0 ≤ su + 150; omega)
        · exact absurd rfl b4
  · exact absurd rfl b
set_option maxRecDepth 100000 in
theorem w_18_rotation (h : LHd Γ σ x y z A) (hi : i + 6 ≤ gL Γ) (hc : cu ≤ 600000) (hs : su ≤ 7200000) (k : ∀ σ' A' cu' su' z5 z6 z7, LHd Γ σ' x y z A' → cu' ≤ cu + 20 → su' ≤ su + 150 → zW Γ mLaw 3534 [some (vR (some (gb Γ))), some (vR (some x)), some (vR (some y)), some (vR (some z)), some (vI i), z5, z6, z7] [] σ' cu' su' Q) : zW Γ mLaw 1315 [some (vR (some (gb Γ))), some (vR (some x)), some (vR (some y)), some (vR (some z)), some (vI i), z5, z6, z7] [] σ cu su Q := by
  obtain ⟨a1, a2, a3, a4, a6, ⟨b4, b5⟩, a9⟩ := id h
  have hIn : ∀ j, InR (sx Γ j) := sx_in Γ
  have hr9 := a3.1.1.2
  have on := on_rotation (A := A) (r := sx Γ (i + 1)) (s := sx Γ (i + 2))
  have aoo : AO (o_rotation A (sx Γ (i + 1)) (sx Γ (i + 2))).2.2 := aq_rotation a3
  refine zW_aload_n dL_law_1315 rfl ?_
  refine zW_aload_n dL_law_1316 rfl ?_
  refine zW_iload dL_law_1317 rfl ?_
  refine zW_iconst dL_law_1319 ?_
  refine zW_iadd dL_law_1320 ?_
  refine zsI (j := i + 1) dL_law_1321 a6 (by omega) (by omega) ?_
  refine zW_aload_n dL_law_1322 rfl ?_
  refine zW_iload dL_law_1323 rfl ?_
  refine zW_iconst dL_law_1325 ?_
  refine zW_iadd dL_law_1326 ?_
  refine zsI (j := i + 2) dL_law_1327 a6 (by omega) (by omega) ?_
  refine zW_aload_n dL_law_1328 rfl ?_
  refine zcSX4 dL_law_1329 rfl eL_rotation b852 ⟨by decide, by decide, (by show cu + 0 + 3 ≤ 601024; omega), (by show su + 0 + 18 ≤ 7293034; omega)⟩ rfl (Nat.le_of_ble_eq_true rfl) (l_rotation a1 a4 b4 (hIn _) (hIn _) (fun σ1 h1 m1 hz1 e1 => ?_))
  have r1 : RI σ1 y A := a2.out m1 (fun a g1 g2 q => by unfold lzz xr at q; omega)
  refine zW_istore dL_law_1332 (by decide) rfl rfl ?_
  refine zW_aload_n dL_law_1334 rfl ?_
  refine zW_aload_n dL_law_1335 rfl ?_
  refine zW_iload dL_law_1336 rfl ?_
  refine zW_iconst dL_law_1338 ?_
  refine zW_iadd dL_law_1339 ?_
  refine zsI (j := i + 1) dL_law_1340 a6 (by omega) (by omega) ?_
  refine zW_aload_n dL_law_1341 rfl ?_
  refine zW_iload dL_law_1342 rfl ?_
  refine zW_iconst dL_law_1344 ?_
  refine zW_iadd dL_law_1345 ?_
  refine zsI (j := i + 2) dL_law_1346 a6 (by omega) (by omega) ?_
  refine zcV2 dL_law_1347 rfl eX10_rotation b1586 ⟨by decide, by decide, (by show cu + 3 + 0 ≤ 601024; omega), (by show su + 18 + 0 ≤ 7293034; omega)⟩ rfl r1.1.1 rfl (by decide) (Nat.le_of_ble_eq_true rfl) (q_rotation r1 (hIn _) (hIn _) (fun σ2 v2 hR ht hm hv => ?_))
  generalize o_rotation A (sx Γ (i + 1)) (sx Γ (i + 2)) = o at on aoo h1 e1 hR ht hv
  have hL := h.step m1 h1 hz1 hR hm aoo
  refine zW_istore dL_law_1350 (by decide) rfl rfl ?_
  refine zW_aload_n dL_law_1352 rfl ?_
  refine zcV0 dL_law_1353 rfl eX10_thrown b1363 ⟨by decide, by decide, (by show cu + 3 + 0 + 0 ≤ 601024; omega), (by show su + 18 + 0 + 0 ≤ 7293034; omega)⟩ rfl hR.1.1 rfl (by decide) (Nat.le_of_ble_eq_true rfl) (q_thrown hR.1.1 ht ?_)
  refine zW_iload dL_law_1356 rfl ?_
  refine zW_icmp_eq (tgt := 1363) dL_law_1358 (by decide) (by first | assumption | omega | (unfold InR; omega) | (unfold InL; omega) | (simp only [InR] at *; omega)) (by first | assumption | omega | (unfold InR; omega) | (unfold InL; omega) | (simp only [InR] at *; omega)) (fun b => ?_) (fun b => ?_)
  · refine zW_iload dL_law_1363 rfl ?_
    refine zW_if_ne (tgt := 1380) dL_law_1365 (by decide) (by first | assumption | omega | (unfold InR; omega) | (unfold InL; omega) | (simp only [InR] at *; omega)) (fun b2 => ?_) (fun b2 => ?_)
    · refine zW_goto (tgt := 3534) dL_law_1380 (by decide) ?_
      exact k σ2 _ _ _ _ _ _ hL (by show cu + 3 + 0 + 0 ≤ cu + 20; omega) (by show su + 18 + 0 + 0 ≤ su + 150; omega)
    · have e0 : o.1 = 0 := by omega
      have ez : zJ σ2 z 0 = nrm o.2.1 := by rw [hm.j (fun q => by unfold yr at q; omega)]; exact e1 e0
      have ev := hv e0
      have hz2 : zK σ2 z = (14, 1) := by rw [hm.K]; exact hz1
      have hJ : InL (nrm o.2.1) := by have := nrm_in o.2.1; unfold InR at this; unfold InL; omega
      refine zW_aload_n dL_law_1368 rfl ?_
      refine zW_iconst dL_law_1369 ?_
      refine zrJ dL_law_1370 hz2 (by first | assumption | omega | (unfold InR; omega) | (unfold InL; omega) | (simp only [InR] at *; omega)) (by first | assumption | omega | (unfold InR; omega) | (unfold InL; omega) | (simp only [InR] at *; omega)) (by first | assumption | omega | (unfold InR; omega) | (unfold InL; omega) | (simp only [InR] at *; omega)) ez ?_
      refine zW_iload dL_law_1371 rfl ?_
      rw [ev]
      refine zW_nrm ?_
      refine zW_i2l dL_law_1373 (nrm_in _) ?_
      refine zW_lcmp dL_law_1374 hJ hJ ?_
      rw [zcmp_self]
      refine zW_if_eq (tgt := 1380) dL_law_1375 (by decide) (by first | assumption | omega | (unfold InR; omega) | (unfold InL; omega) | (simp only [InR] at *; omega)) (fun b4 => ?_) (fun b4 => ?_)
      · refine zW_goto (tgt := 3534) dL_law_1380 (by decide) ?_
        exact k σ2 _ _ _ _ _ _ hL (by show cu + 3 + 0 + 0 ≤ cu + 20; omega) (by show su + 18 + 0 + 0 ≤ su + 150; omega)
      · exact absurd rfl b4
  · exact absurd rfl b
set_option maxRecDepth 100000 in
theorem w_19_rootExponent (h : LHd Γ σ x y z A) (hi : i + 6 ≤ gL Γ) (hc : cu ≤ 600000) (hs : su ≤ 7200000) (k : ∀ σ' A' cu' su' z5 z6 z7, LHd Γ σ' x y z A' → cu' ≤ cu + 20 → su' ≤ su + 150 → zW Γ mLaw 3534 [some (vR (some (gb Γ))), some (vR (some x)), some (vR (some y)), some (vR (some z)), some (vI i), z5, z6, z7] [] σ' cu' su' Q) : zW Γ mLaw 1383 [some (vR (some (gb Γ))), some (vR (some x)), some (vR (some y)), some (vR (some z)), some (vI i), z5, z6, z7] [] σ cu su Q := by
  obtain ⟨a1, a2, a3, a4, a6, ⟨b4, b5⟩, a9⟩ := id h
  have hIn : ∀ j, InR (sx Γ j) := sx_in Γ
  have hr9 := a3.1.1.2
  have on := on_rootExponent (A := A) (r := sx Γ (i + 1))
  have aoo : AO (o_rootExponent A (sx Γ (i + 1))).2.2 := aq_rootExponent a3
  refine zW_aload_n dL_law_1383 rfl ?_
  refine zW_aload_n dL_law_1384 rfl ?_
  refine zW_iload dL_law_1385 rfl ?_
  refine zW_iconst dL_law_1387 ?_
  refine zW_iadd dL_law_1388 ?_
  refine zsI (j := i + 1) dL_law_1389 a6 (by omega) (by omega) ?_
  refine zW_aload_n dL_law_1390 rfl ?_
  refine zcSX3 dL_law_1391 rfl eL_rootExponent b876 ⟨by decide, by decide, (by show cu + 0 + 2 ≤ 601024; omega), (by show su + 0 + 12 ≤ 7293034; omega)⟩ rfl (Nat.le_of_ble_eq_true rfl) (l_rootExponent a1 a4 b4 (hIn _) (fun σ1 h1 m1 hz1 e1 => ?_))
  have r1 : RI σ1 y A := a2.out m1 (fun a g1 g2 q => by unfold lzz xr at q; omega)
  refine zW_istore dL_law_1394 (by decide) rfl rfl ?_
  refine zW_aload_n dL_law_1396 rfl ?_
  refine zW_aload_n dL_law_1397 rfl ?_
  refine zW_iload dL_law_1398 rfl ?_
  refine zW_iconst dL_law_1400 ?_
  refine zW_iadd dL_law_1401 ?_
  refine zsI (j := i + 1) dL_law_1402 a6 (by omega) (by omega) ?_
  refine zcV1 dL_law_1403 rfl eX10_rootExponent b1590 ⟨by decide, by decide, (by show cu + 2 + 0 ≤ 601024; omega), (by show su + 12 + 0 ≤ 7293034; omega)⟩ rfl r1.1.1 rfl (by decide) (Nat.le_of_ble_eq_true rfl) (q_rootExponent r1 (hIn _) a3 (fun σ2 v2 hR ht hm hv => ?_))
  generalize o_rootExponent A (sx Γ (i + 1)) = o at on aoo h1 e1 hR ht hv
  have hL := h.step m1 h1 hz1 hR hm aoo
  refine zW_istore dL_law_1406 (by decide) rfl rfl ?_
  refine zW_aload_n dL_law_1408 rfl ?_
  refine zcV0 dL_law_1409 rfl eX10_thrown b1363 ⟨by decide, by decide, (by show cu + 2 + 0 + 0 ≤ 601024; omega), (by show su + 12 + 0 + 0 ≤ 7293034; omega)⟩ rfl hR.1.1 rfl (by decide) (Nat.le_of_ble_eq_true rfl) (q_thrown hR.1.1 ht ?_)
  refine zW_iload dL_law_1412 rfl ?_
  refine zW_icmp_eq (tgt := 1419) dL_law_1414 (by decide) (by first | assumption | omega | (unfold InR; omega) | (unfold InL; omega) | (simp only [InR] at *; omega)) (by first | assumption | omega | (unfold InR; omega) | (unfold InL; omega) | (simp only [InR] at *; omega)) (fun b => ?_) (fun b => ?_)
  · refine zW_iload dL_law_1419 rfl ?_
    refine zW_if_ne (tgt := 1436) dL_law_1421 (by decide) (by first | assumption | omega | (unfold InR; omega) | (unfold InL; omega) | (simp only [InR] at *; omega)) (fun b2 => ?_) (fun b2 => ?_)
    · refine zW_goto (tgt := 3534) dL_law_1436 (by decide) ?_
      exact k σ2 _ _ _ _ _ _ hL (by show cu + 2 + 0 + 0 ≤ cu + 20; omega) (by show su + 12 + 0 + 0 ≤ su + 150; omega)
    · have e0 : o.1 = 0 := by omega
      have ez : zJ σ2 z 0 = nrm o.2.1 := by rw [hm.j (fun q => by unfold yr at q; omega)]; exact e1 e0
      have ev := hv e0
      have hz2 : zK σ2 z = (14, 1) := by rw [hm.K]; exact hz1
      have hJ : InL (nrm o.2.1) := by have := nrm_in o.2.1; unfold InR at this; unfold InL; omega
      refine zW_aload_n dL_law_1424 rfl ?_
      refine zW_iconst dL_law_1425 ?_
      refine zrJ dL_law_1426 hz2 (by first | assumption | omega | (unfold InR; omega) | (unfold InL; omega) | (simp only [InR] at *; omega)) (by first | assumption | omega | (unfold InR; omega) | (unfold InL; omega) | (simp only [InR] at *; omega)) (by first | assumption | omega | (unfold InR; omega) | (unfold InL; omega) | (simp only [InR] at *; omega)) ez ?_
      refine zW_iload dL_law_1427 rfl ?_
      rw [ev]
      refine zW_nrm ?_
      refine zW_i2l dL_law_1429 (nrm_in _) ?_
      refine zW_lcmp dL_law_1430 hJ hJ ?_
      rw [zcmp_self]
      refine zW_if_eq (tgt := 1436) dL_law_1431 (by decide) (by first | assumption | omega | (unfold InR; omega) | (unfold InL; omega) | (simp only [InR] at *; omega)) (fun b4 => ?_) (fun b4 => ?_)
      · refine zW_goto (tgt := 3534) dL_law_1436 (by decide) ?_
        exact k σ2 _ _ _ _ _ _ hL (by show cu + 2 + 0 + 0 ≤ cu + 20; omega) (by show su + 12 + 0 + 0 ≤ su + 150; omega)
      · exact absurd rfl b4
  · exact absurd rfl b
set_option maxRecDepth 100000 in
theorem w_20_magnusDegree (h : LHd Γ σ x y z A) (hi : i + 6 ≤ gL Γ) (hc : cu ≤ 600000) (hs : su ≤ 7200000) (k : ∀ σ' A' cu' su' z5 z6 z7, LHd Γ σ' x y z A' → cu' ≤ cu + 20 → su' ≤ su + 150 → zW Γ mLaw 3534 [some (vR (some (gb Γ))), some (vR (some x)), some (vR (some y)), some (vR (some z)), some (vI i), z5, z6, z7] [] σ' cu' su' Q) : zW Γ mLaw 1439 [some (vR (some (gb Γ))), some (vR (some x)), some (vR (some y)), some (vR (some z)), some (vI i), z5, z6, z7] [] σ cu su Q := by
  obtain ⟨a1, a2, a3, a4, a6, ⟨b4, b5⟩, a9⟩ := id h
  have hIn : ∀ j, InR (sx Γ j) := sx_in Γ
  have hr9 := a3.1.1.2
  have on := on_magnusDegree (A := A) (r := sx Γ (i + 1))
  have aoo : AO (o_magnusDegree A (sx Γ (i + 1))).2.2 := aq_magnusDegree a3
  refine zW_aload_n dL_law_1439 rfl ?_
  refine zW_aload_n dL_law_1440 rfl ?_
  refine zW_iload dL_law_1441 rfl ?_
  refine zW_iconst dL_law_1443 ?_
  refine zW_iadd dL_law_1444 ?_
  refine zsI (j := i + 1) dL_law_1445 a6 (by omega) (by omega) ?_
  refine zW_aload_n dL_law_1446 rfl ?_
  refine zcSX3 dL_law_1447 rfl eL_magnusDegree b900 ⟨by decide, by decide, (by show cu + 0 + 1 ≤ 601024; omega), (by show su + 0 + 6 ≤ 7293034; omega)⟩ rfl (Nat.le_of_ble_eq_true rfl) (l_magnusDegree a1 a4 b4 (hIn _) (fun σ1 h1 m1 hz1 e1 => ?_))
  have r1 : RI σ1 y A := a2.out m1 (fun a g1 g2 q => by unfold lzz xr at q; omega)
  refine zW_istore dL_law_1450 (by decide) rfl rfl ?_
  refine zW_aload_n dL_law_1452 rfl ?_
  refine zW_aload_n dL_law_1453 rfl ?_
  refine zW_iload dL_law_1454 rfl ?_
  refine zW_iconst dL_law_1456 ?_
  refine zW_iadd dL_law_1457 ?_
  refine zsI (j := i + 1) dL_law_1458 a6 (by omega) (by omega) ?_
  refine zcV1 dL_law_1459 rfl eX10_magnusDegree b1598 ⟨by decide, by decide, (by show cu + 1 + 0 ≤ 601024; omega), (by show su + 6 + 0 ≤ 7293034; omega)⟩ rfl r1.1.1 rfl (by decide) (Nat.le_of_ble_eq_true rfl) (q_magnusDegree r1 (hIn _) (fun σ2 v2 hR ht hm hv => ?_))
  generalize o_magnusDegree A (sx Γ (i + 1)) = o at on aoo h1 e1 hR ht hv
  have hL := h.step m1 h1 hz1 hR hm aoo
  refine zW_istore dL_law_1462 (by decide) rfl rfl ?_
  refine zW_aload_n dL_law_1464 rfl ?_
  refine zcV0 dL_law_1465 rfl eX10_thrown b1363 ⟨by decide, by decide, (by show cu + 1 + 0 + 0 ≤ 601024; omega), (by show su + 6 + 0 + 0 ≤ 7293034; omega)⟩ rfl hR.1.1 rfl (by decide) (Nat.le_of_ble_eq_true rfl) (q_thrown hR.1.1 ht ?_)
  refine zW_iload dL_law_1468 rfl ?_
  refine zW_icmp_eq (tgt := 1475) dL_law_1470 (by decide) (by first | assumption | omega | (unfold InR; omega) | (unfold InL; omega) | (simp only [InR] at *; omega)) (by first | assumption | omega | (unfold InR; omega) | (unfold InL; omega) | (simp only [InR] at *; omega)) (fun b => ?_) (fun b => ?_)
  · refine zW_iload dL_law_1475 rfl ?_
    refine zW_if_ne (tgt := 1492) dL_law_1477 (by decide) (by first | assumption | omega | (unfold InR; omega) | (unfold InL; omega) | (simp only [InR] at *; omega)) (fun b2 => ?_) (fun b2 => ?_)
    · refine zW_goto (tgt := 3534) dL_law_1492 (by decide) ?_
      exact k σ2 _ _ _ _ _ _ hL (by show cu + 1 + 0 + 0 ≤ cu + 20; omega) (by show su + 6 + 0 + 0 ≤ su + 150; omega)
    · have e0 : o.1 = 0 := by omega
      have ez : zJ σ2 z 0 = nrm o.2.1 := by rw [hm.j (fun q => by unfold yr at q; omega)]; exact e1 e0
      have ev := hv e0
      have hz2 : zK σ2 z = (14, 1) := by rw [hm.K]; exact hz1
      have hJ : InL (nrm o.2.1) := by have := nrm_in o.2.1; unfold InR at this; unfold InL; omega
      refine zW_aload_n dL_law_1480 rfl ?_
      refine zW_iconst dL_law_1481 ?_
      refine zrJ dL_law_1482 hz2 (by first | assumption | omega | (unfold InR; omega) | (unfold InL; omega) | (simp only [InR] at *; omega)) (by first | assumption | omega | (unfold InR; omega) | (unfold InL; omega) | (simp only [InR] at *; omega)) (by first | assumption | omega | (unfold InR; omega) | (unfold InL; omega) | (simp only [InR] at *; omega)) ez ?_
      refine zW_iload dL_law_1483 rfl ?_
      rw [ev]
      refine zW_nrm ?_
      refine zW_i2l dL_law_1485 (nrm_in _) ?_
      refine zW_lcmp dL_law_1486 hJ hJ ?_
      rw [zcmp_self]
      refine zW_if_eq (tgt := 1492) dL_law_1487 (by decide) (by first | assumption | omega | (unfold InR; omega) | (unfold InL; omega) | (simp only [InR] at *; omega)) (fun b4 => ?_) (fun b4 => ?_)
      · refine zW_goto (tgt := 3534) dL_law_1492 (by decide) ?_
        exact k σ2 _ _ _ _ _ _ hL (by show cu + 1 + 0 + 0 ≤ cu + 20; omega) (by show su + 6 + 0 + 0 ≤ su + 150; omega)
      · exact absurd rfl b4
  · exact absurd rfl b
set_option maxRecDepth 100000 in
theorem w_21_magnusCoefficient (h : LHd Γ σ x y z A) (hi : i + 6 ≤ gL Γ) (hc : cu ≤ 600000) (hs : su ≤ 7200000) (k : ∀ σ' A' cu' su' z5 z6 z7, LHd Γ σ' x y z A' → cu' ≤ cu + 20 → su' ≤ su + 150 → zW Γ mLaw 3534 [some (vR (some (gb Γ))), some (vR (some x)), some (vR (some y)), some (vR (some z)), some (vI i), z5, z6, z7] [] σ' cu' su' Q) : zW Γ mLaw 1495 [some (vR (some (gb Γ))), some (vR (some x)), some (vR (some y)), some (vR (some z)), some (vI i), z5, z6, z7] [] σ cu su Q := by
  obtain ⟨a1, a2, a3, a4, a6, ⟨b4, b5⟩, a9⟩ := id h
  have hIn : ∀ j, InR (sx Γ j) := sx_in Γ
  have hr9 := a3.1.1.2
  have on := on_magnusCoefficient (A := A) (r := sx Γ (i + 1)) (a := sx Γ (i + 2)) (b := sx Γ (i + 3))
  have aoo : AO (o_magnusCoefficient A (sx Γ (i + 1)) (sx Γ (i + 2)) (sx Γ (i + 3))).2.2 := aq_magnusCoefficient a3
  refine zW_aload_n dL_law_1495 rfl ?_
  refine zW_aload_n dL_law_1496 rfl ?_
  refine zW_iload dL_law_1497 rfl ?_
  refine zW_iconst dL_law_1499 ?_
  refine zW_iadd dL_law_1500 ?_
  refine zsI (j := i + 1) dL_law_1501 a6 (by omega) (by omega) ?_
  refine zW_aload_n dL_law_1502 rfl ?_
  refine zW_iload dL_law_1503 rfl ?_
  refine zW_iconst dL_law_1505 ?_
  refine zW_iadd dL_law_1506 ?_
  refine zsI (j := i + 2) dL_law_1507 a6 (by omega) (by omega) ?_
  refine zW_aload_n dL_law_1508 rfl ?_
  refine zW_iload dL_law_1509 rfl ?_
  refine zW_iconst dL_law_1511 ?_
  refine zW_iadd dL_law_1512 ?_
  refine zsI (j := i + 3) dL_law_1513 a6 (by omega) (by omega) ?_
  refine zW_aload_n dL_law_1514 rfl ?_
  refine zcSX5 dL_law_1515 rfl eL_magnusCoefficient b930 ⟨by decide, by decide, (by show cu + 0 + 3 ≤ 601024; omega), (by show su + 0 + 18 ≤ 7293034; omega)⟩ rfl (Nat.le_of_ble_eq_true rfl) (l_magnusCoefficient a1 a4 b4 (hIn _) (hIn _) (hIn _) hr9 (fun σ1 h1 m1 hz1 e1 => ?_))
  have r1 : RI σ1 y A := a2.out m1 (fun a g1 g2 q => by unfold lzz xr at q; omega)
  refine zW_istore dL_law_1518 (by decide) rfl rfl ?_
  refine zW_aload_n dL_law_1520 rfl ?_
  refine zW_aload_n dL_law_1521 rfl ?_
  refine zW_iload dL_law_1522 rfl ?_
  refine zW_iconst dL_law_1524 ?_
  refine zW_iadd dL_law_1525 ?_
  refine zsI (j := i + 1) dL_law_1526 a6 (by omega) (by omega) ?_
  refine zW_aload_n dL_law_1527 rfl ?_
  refine zW_iload dL_law_1528 rfl ?_
  refine zW_iconst dL_law_1530 ?_
  refine zW_iadd dL_law_1531 ?_
  refine zsI (j := i + 2) dL_law_1532 a6 (by omega) (by omega) ?_
  refine zW_aload_n dL_law_1533 rfl ?_
  refine zW_iload dL_law_1534 rfl ?_
  refine zW_iconst dL_law_1536 ?_
  refine zW_iadd dL_law_1537 ?_
  refine zsI (j := i + 3) dL_law_1538 a6 (by omega) (by omega) ?_
  refine zcV3 dL_law_1539 rfl eX10_magnusCoefficient b1625 ⟨by decide, by decide, (by show cu + 3 + 0 ≤ 601024; omega), (by show su + 18 + 0 ≤ 7293034; omega)⟩ rfl r1.1.1 rfl (by decide) (Nat.le_of_ble_eq_true rfl) (q_magnusCoefficient r1 (hIn _) (hIn _) (hIn _) a3 (fun σ2 v2 hR ht hm hv => ?_))
  generalize o_magnusCoefficient A (sx Γ (i + 1)) (sx Γ (i + 2)) (sx Γ (i + 3)) = o at on aoo h1 e1 hR ht hv
  have hL := h.step m1 h1 hz1 hR hm aoo
  refine zW_istore dL_law_1542 (by decide) rfl rfl ?_
  refine zW_aload_n dL_law_1544 rfl ?_
  refine zcV0 dL_law_1545 rfl eX10_thrown b1363 ⟨by decide, by decide, (by show cu + 3 + 0 + 0 ≤ 601024; omega), (by show su + 18 + 0 + 0 ≤ 7293034; omega)⟩ rfl hR.1.1 rfl (by decide) (Nat.le_of_ble_eq_true rfl) (q_thrown hR.1.1 ht ?_)
  refine zW_iload dL_law_1548 rfl ?_
  refine zW_icmp_eq (tgt := 1555) dL_law_1550 (by decide) (by first | assumption | omega | (unfold InR; omega) | (unfold InL; omega) | (simp only [InR] at *; omega)) (by first | assumption | omega | (unfold InR; omega) | (unfold InL; omega) | (simp only [InR] at *; omega)) (fun b => ?_) (fun b => ?_)
  · refine zW_iload dL_law_1555 rfl ?_
    refine zW_if_ne (tgt := 1572) dL_law_1557 (by decide) (by first | assumption | omega | (unfold InR; omega) | (unfold InL; omega) | (simp only [InR] at *; omega)) (fun b2 => ?_) (fun b2 => ?_)
    · refine zW_goto (tgt := 3534) dL_law_1572 (by decide) ?_
      exact k σ2 _ _ _ _ _ _ hL (by show cu + 3 + 0 + 0 ≤ cu + 20; omega) (by show su + 18 + 0 + 0 ≤ su + 150; omega)
    · have e0 : o.1 = 0 := by omega
      have ez : zJ σ2 z 0 = nrm o.2.1 := by rw [hm.j (fun q => by unfold yr at q; omega)]; exact e1 e0
      have ev := hv e0
      have hz2 : zK σ2 z = (14, 1) := by rw [hm.K]; exact hz1
      have hJ : InL (nrm o.2.1) := by have := nrm_in o.2.1; unfold InR at this; unfold InL; omega
      refine zW_aload_n dL_law_1560 rfl ?_
      refine zW_iconst dL_law_1561 ?_
      refine zrJ dL_law_1562 hz2 (by first | assumption | omega | (unfold InR; omega) | (unfold InL; omega) | (simp only [InR] at *; omega)) (by first | assumption | omega | (unfold InR; omega) | (unfold InL; omega) | (simp only [InR] at *; omega)) (by first | assumption | omega | (unfold InR; omega) | (unfold InL; omega) | (simp only [InR] at *; omega)) ez ?_
      refine zW_iload dL_law_1563 rfl ?_
      rw [ev]
      refine zW_nrm ?_
      refine zW_i2l dL_law_1565 (nrm_in _) ?_
      refine zW_lcmp dL_law_1566 hJ hJ ?_
      rw [zcmp_self]
      refine zW_if_eq (tgt := 1572) dL_law_1567 (by decide) (by first | assumption | omega | (unfold InR; omega) | (unfold InL; omega) | (simp only [InR] at *; omega)) (fun b4 => ?_) (fun b4 => ?_)
      · refine zW_goto (tgt := 3534) dL_law_1572 (by decide) ?_
        exact k σ2 _ _ _ _ _ _ hL (by show cu + 3 + 0 + 0 ≤ cu + 20; omega) (by show su + 18 + 0 + 0 ≤ su + 150; omega)
      · exact absurd rfl b4
  · exact absurd rfl b
set_option maxRecDepth 100000 in
theorem w_22_magnusNorm (h : LHd Γ σ x y z A) (hi : i + 6 ≤ gL Γ) (hc : cu ≤ 600000) (hs : su ≤ 7200000) (k : ∀ σ' A' cu' su' z5 z6 z7, LHd Γ σ' x y z A' → cu' ≤ cu + 20 → su' ≤ su + 150 → zW Γ mLaw 3534 [some (vR (some (gb Γ))), some (vR (some x)), some (vR (some y)), some (vR (some z)), some (vI i), z5, z6, z7] [] σ' cu' su' Q) : zW Γ mLaw 1575 [some (vR (some (gb Γ))), some (vR (some x)), some (vR (some y)), some (vR (some z)), some (vI i), z5, z6, z7] [] σ cu su Q := by
  obtain ⟨a1, a2, a3, a4, a6, ⟨b4, b5⟩, a9⟩ := id h
  have hIn : ∀ j, InR (sx Γ j) := sx_in Γ
  have hr9 := a3.1.1.2
  have on := on_magnusNorm (A := A) (r := sx Γ (i + 1)) (d := sx Γ (i + 2))
  have aoo : AO (o_magnusNorm A (sx Γ (i + 1)) (sx Γ (i + 2))).2.2 := aq_magnusNorm a3
  refine zW_aload_n dL_law_1575 rfl ?_
  refine zW_aload_n dL_law_1576 rfl ?_
  refine zW_iload dL_law_1577 rfl ?_
  refine zW_iconst dL_law_1579 ?_
  refine zW_iadd dL_law_1580 ?_
  refine zsI (j := i + 1) dL_law_1581 a6 (by omega) (by omega) ?_
  refine zW_aload_n dL_law_1582 rfl ?_
  refine zW_iload dL_law_1583 rfl ?_
  refine zW_iconst dL_law_1585 ?_
  refine zW_iadd dL_law_1586 ?_
  refine zsI (j := i + 2) dL_law_1587 a6 (by omega) (by omega) ?_
  refine zW_aload_n dL_law_1588 rfl ?_
  refine zcSX4 dL_law_1589 rfl eL_magnusNorm b941 ⟨by decide, by decide, (by show cu + 0 + 2 ≤ 601024; omega), (by show su + 0 + 12 ≤ 7293034; omega)⟩ rfl (Nat.le_of_ble_eq_true rfl) (l_magnusNorm a1 a4 b4 (hIn _) (hIn _) (fun σ1 h1 m1 hz1 e1 => ?_))
  have r1 : RI σ1 y A := a2.out m1 (fun a g1 g2 q => by unfold lzz xr at q; omega)
  refine zW_istore dL_law_1592 (by decide) rfl rfl ?_
  refine zW_aload_n dL_law_1594 rfl ?_
  refine zW_aload_n dL_law_1595 rfl ?_
  refine zW_iload dL_law_1596 rfl ?_
  refine zW_iconst dL_law_1598 ?_
  refine zW_iadd dL_law_1599 ?_
  refine zsI (j := i + 1) dL_law_1600 a6 (by omega) (by omega) ?_
  refine zW_aload_n dL_law_1601 rfl ?_
  refine zW_iload dL_law_1602 rfl ?_
  refine zW_iconst dL_law_1604 ?_
  refine zW_iadd dL_law_1605 ?_
  refine zsI (j := i + 2) dL_law_1606 a6 (by omega) (by omega) ?_
  refine zcV2 dL_law_1607 rfl eX10_magnusNorm b1629 ⟨by decide, by decide, (by show cu + 2 + 0 ≤ 601024; omega), (by show su + 12 + 0 ≤ 7293034; omega)⟩ rfl r1.1.1 rfl (by decide) (Nat.le_of_ble_eq_true rfl) (q_magnusNorm r1 (hIn _) (hIn _) (fun σ2 v2 hR ht hm hv => ?_))
  generalize o_magnusNorm A (sx Γ (i + 1)) (sx Γ (i + 2)) = o at on aoo h1 e1 hR ht hv
  have hL := h.step m1 h1 hz1 hR hm aoo
  refine zW_lstore dL_law_1610 (by decide) rfl rfl ?_
  refine zW_aload_n dL_law_1612 rfl ?_
  refine zcV0 dL_law_1613 rfl eX10_thrown b1363 ⟨by decide, by decide, (by show cu + 2 + 0 + 0 ≤ 601024; omega), (by show su + 12 + 0 + 0 ≤ 7293034; omega)⟩ rfl hR.1.1 rfl (by decide) (Nat.le_of_ble_eq_true rfl) (q_thrown hR.1.1 ht ?_)
  refine zW_iload dL_law_1616 rfl ?_
  refine zW_icmp_eq (tgt := 1623) dL_law_1618 (by decide) (by first | assumption | omega | (unfold InR; omega) | (unfold InL; omega) | (simp only [InR] at *; omega)) (by first | assumption | omega | (unfold InR; omega) | (unfold InL; omega) | (simp only [InR] at *; omega)) (fun b => ?_) (fun b => ?_)
  · refine zW_iload dL_law_1623 rfl ?_
    refine zW_if_ne (tgt := 1639) dL_law_1625 (by decide) (by first | assumption | omega | (unfold InR; omega) | (unfold InL; omega) | (simp only [InR] at *; omega)) (fun b2 => ?_) (fun b2 => ?_)
    · refine zW_goto (tgt := 3534) dL_law_1639 (by decide) ?_
      exact k σ2 _ _ _ _ _ _ hL (by show cu + 2 + 0 + 0 ≤ cu + 20; omega) (by show su + 12 + 0 + 0 ≤ su + 150; omega)
    · have e0 : o.1 = 0 := by omega
      have ez : zJ σ2 z 0 = nrmL o.2.1 := by rw [hm.j (fun q => by unfold yr at q; omega)]; exact e1 e0
      have ev := hv e0
      have hz2 : zK σ2 z = (14, 1) := by rw [hm.K]; exact hz1
      refine zW_aload_n dL_law_1628 rfl ?_
      refine zW_iconst dL_law_1629 ?_
      refine zrJ dL_law_1630 hz2 (by first | assumption | omega | (unfold InR; omega) | (unfold InL; omega) | (simp only [InR] at *; omega)) (by first | assumption | omega | (unfold InR; omega) | (unfold InL; omega) | (simp only [InR] at *; omega)) (by first | assumption | omega | (unfold InR; omega) | (unfold InL; omega) | (simp only [InR] at *; omega)) ez ?_
      refine zW_lload dL_law_1631 rfl ?_
      rw [ev]
      refine zW_nrmL ?_
      refine zW_lcmp dL_law_1633 (nrmL_in _) (nrmL_in _) ?_
      rw [zcmp_self]
      refine zW_if_eq (tgt := 1639) dL_law_1634 (by decide) (by first | assumption | omega | (unfold InR; omega) | (unfold InL; omega) | (simp only [InR] at *; omega)) (fun b4 => ?_) (fun b4 => ?_)
      · refine zW_goto (tgt := 3534) dL_law_1639 (by decide) ?_
        exact k σ2 _ _ _ _ _ _ hL (by show cu + 2 + 0 + 0 ≤ cu + 20; omega) (by show su + 12 + 0 + 0 ≤ su + 150; omega)
      · exact absurd rfl b4
  · exact absurd rfl b
set_option maxRecDepth 100000 in
theorem w_23_generatingWordCount (h : LHd Γ σ x y z A) (hi : i + 6 ≤ gL Γ) (hc : cu ≤ 600000) (hs : su ≤ 7200000) (k : ∀ σ' A' cu' su' z5 z6 z7, LHd Γ σ' x y z A' → cu' ≤ cu + 20 → su' ≤ su + 150 → zW Γ mLaw 3534 [some (vR (some (gb Γ))), some (vR (some x)), some (vR (some y)), some (vR (some z)), some (vI i), z5, z6, z7] [] σ' cu' su' Q) : zW Γ mLaw 1642 [some (vR (some (gb Γ))), some (vR (some x)), some (vR (some y)), some (vR (some z)), some (vI i), z5, z6, z7] [] σ cu su Q := by
  obtain ⟨a1, a2, a3, a4, a6, ⟨b4, b5⟩, a9⟩ := id h
  have hIn : ∀ j, InR (sx Γ j) := sx_in Γ
  have hr9 := a3.1.1.2
  have on := on_generatingWordCount (A := A) (g := sx Γ (i + 1))
  have aoo : AO (o_generatingWordCount A (sx Γ (i + 1))).2.2 := aq_generatingWordCount a3
  refine zW_aload_n dL_law_1642 rfl ?_
  refine zW_aload_n dL_law_1643 rfl ?_
  refine zW_iload dL_law_1644 rfl ?_
  refine zW_iconst dL_law_1646 ?_
  refine zW_iadd dL_law_1647 ?_
  refine zsI (j := i + 1) dL_law_1648 a6 (by omega) (by omega) ?_
  refine zW_aload_n dL_law_1649 rfl ?_
  refine zcSX3 dL_law_1650 rfl eL_generatingWordCount b949 ⟨by decide, by decide, (by show cu + 0 + 1 ≤ 601024; omega), (by show su + 0 + 6 ≤ 7293034; omega)⟩ rfl (Nat.le_of_ble_eq_true rfl) (l_generatingWordCount a1 a4 b4 (hIn _) (fun σ1 h1 m1 hz1 e1 => ?_))
  have r1 : RI σ1 y A := a2.out m1 (fun a g1 g2 q => by unfold lzz xr at q; omega)
  refine zW_istore dL_law_1653 (by decide) rfl rfl ?_
  refine zW_aload_n dL_law_1655 rfl ?_
  refine zW_aload_n dL_law_1656 rfl ?_
  refine zW_iload dL_law_1657 rfl ?_
  refine zW_iconst dL_law_1659 ?_
  refine zW_iadd dL_law_1660 ?_
  refine zsI (j := i + 1) dL_law_1661 a6 (by omega) (by omega) ?_
  refine zcV1 dL_law_1662 rfl eX10_generatingWordCount b1633 ⟨by decide, by decide, (by show cu + 1 + 0 ≤ 601024; omega), (by show su + 6 + 0 ≤ 7293034; omega)⟩ rfl r1.1.1 rfl (by decide) (Nat.le_of_ble_eq_true rfl) (q_generatingWordCount r1 (hIn _) (fun σ2 v2 hR ht hm hv => ?_))
  generalize o_generatingWordCount A (sx Γ (i + 1)) = o at on aoo h1 e1 hR ht hv
  have hL := h.step m1 h1 hz1 hR hm aoo
  refine zW_istore dL_law_1665 (by decide) rfl rfl ?_
  refine zW_aload_n dL_law_1667 rfl ?_
  refine zcV0 dL_law_1668 rfl eX10_thrown b1363 ⟨by decide, by decide, (by show cu + 1 + 0 + 0 ≤ 601024; omega), (by show su + 6 + 0 + 0 ≤ 7293034; omega)⟩ rfl hR.1.1 rfl (by decide) (Nat.le_of_ble_eq_true rfl) (q_thrown hR.1.1 ht ?_)
  refine zW_iload dL_law_1671 rfl ?_
  refine zW_icmp_eq (tgt := 1678) dL_law_1673 (by decide) (by first | assumption | omega | (unfold InR; omega) | (unfold InL; omega) | (simp only [InR] at *; omega)) (by first | assumption | omega | (unfold InR; omega) | (unfold InL; omega) | (simp only [InR] at *; omega)) (fun b => ?_) (fun b => ?_)
  · refine zW_iload dL_law_1678 rfl ?_
    refine zW_if_ne (tgt := 1695) dL_law_1680 (by decide) (by first | assumption | omega | (unfold InR; omega) | (unfold InL; omega) | (simp only [InR] at *; omega)) (fun b2 => ?_) (fun b2 => ?_)
    · refine zW_goto (tgt := 3534) dL_law_1695 (by decide) ?_
      exact k σ2 _ _ _ _ _ _ hL (by show cu + 1 + 0 + 0 ≤ cu + 20; omega) (by show su + 6 + 0 + 0 ≤ su + 150; omega)
    · have e0 : o.1 = 0 := by omega
      have ez : zJ σ2 z 0 = nrm o.2.1 := by rw [hm.j (fun q => by unfold yr at q; omega)]; exact e1 e0
      have ev := hv e0
      have hz2 : zK σ2 z = (14, 1) := by rw [hm.K]; exact hz1
      have hJ : InL (nrm o.2.1) := by have := nrm_in o.2.1; unfold InR at this; unfold InL; omega
      refine zW_aload_n dL_law_1683 rfl ?_
      refine zW_iconst dL_law_1684 ?_
      refine zrJ dL_law_1685 hz2 (by first | assumption | omega | (unfold InR; omega) | (unfold InL; omega) | (simp only [InR] at *; omega)) (by first | assumption | omega | (unfold InR; omega) | (unfold InL; omega) | (simp only [InR] at *; omega)) (by first | assumption | omega | (unfold InR; omega) | (unfold InL; omega) | (simp only [InR] at *; omega)) ez ?_
      refine zW_iload dL_law_1686 rfl ?_
      rw [ev]
      refine zW_nrm ?_
      refine zW_i2l dL_law_1688 (nrm_in _) ?_
      refine zW_lcmp dL_law_1689 hJ hJ ?_
      rw [zcmp_self]
      refine zW_if_eq (tgt := 1695) dL_law_1690 (by decide) (by first | assumption | omega | (unfold InR; omega) | (unfold InL; omega) | (simp only [InR] at *; omega)) (fun b4 => ?_) (fun b4 => ?_)
      · refine zW_goto (tgt := 3534) dL_law_1695 (by decide) ?_
        exact k σ2 _ _ _ _ _ _ hL (by show cu + 1 + 0 + 0 ≤ cu + 20; omega) (by show su + 6 + 0 + 0 ≤ su + 150; omega)
      · exact absurd rfl b4
  · exact absurd rfl b
set_option maxRecDepth 100000 in
theorem w_24_vertexCount (h : LHd Γ σ x y z A) (hi : i + 6 ≤ gL Γ) (hc : cu ≤ 600000) (hs : su ≤ 7200000) (k : ∀ σ' A' cu' su' z5 z6 z7, LHd Γ σ' x y z A' → cu' ≤ cu + 20 → su' ≤ su + 150 → zW Γ mLaw 3534 [some (vR (some (gb Γ))), some (vR (some x)), some (vR (some y)), some (vR (some z)), some (vI i), z5, z6, z7] [] σ' cu' su' Q) : zW Γ mLaw 1698 [some (vR (some (gb Γ))), some (vR (some x)), some (vR (some y)), some (vR (some z)), some (vI i), z5, z6, z7] [] σ cu su Q := by
  obtain ⟨a1, a2, a3, a4, a6, ⟨b4, b5⟩, a9⟩ := id h
  have hIn : ∀ j, InR (sx Γ j) := sx_in Γ
  have hr9 := a3.1.1.2
  have on := on_vertexCount (A := A) (g := sx Γ (i + 1))
  have aoo : AO (o_vertexCount A (sx Γ (i + 1))).2.2 := aq_vertexCount a3
  refine zW_aload_n dL_law_1698 rfl ?_
  refine zW_aload_n dL_law_1699 rfl ?_
  refine zW_iload dL_law_1700 rfl ?_
  refine zW_iconst dL_law_1702 ?_
  refine zW_iadd dL_law_1703 ?_
  refine zsI (j := i + 1) dL_law_1704 a6 (by omega) (by omega) ?_
  refine zW_aload_n dL_law_1705 rfl ?_
  refine zcSX3 dL_law_1706 rfl eL_vertexCount b956 ⟨by decide, by decide, (by show cu + 0 + 1 ≤ 601024; omega), (by show su + 0 + 6 ≤ 7293034; omega)⟩ rfl (Nat.le_of_ble_eq_true rfl) (l_vertexCount a1 a4 b4 (hIn _) (fun σ1 h1 m1 hz1 e1 => ?_))
  have r1 : RI σ1 y A := a2.out m1 (fun a g1 g2 q => by unfold lzz xr at q; omega)
  refine zW_istore dL_law_1709 (by decide) rfl rfl ?_
  refine zW_aload_n dL_law_1711 rfl ?_
  refine zW_aload_n dL_law_1712 rfl ?_
  refine zW_iload dL_law_1713 rfl ?_
  refine zW_iconst dL_law_1715 ?_
  refine zW_iadd dL_law_1716 ?_
  refine zsI (j := i + 1) dL_law_1717 a6 (by omega) (by omega) ?_
  refine zcV1 dL_law_1718 rfl eX10_vertexCount b1640 ⟨by decide, by decide, (by show cu + 1 + 0 ≤ 601024; omega), (by show su + 6 + 0 ≤ 7293034; omega)⟩ rfl r1.1.1 rfl (by decide) (Nat.le_of_ble_eq_true rfl) (q_vertexCount r1 (hIn _) (fun σ2 v2 hR ht hm hv => ?_))
  generalize o_vertexCount A (sx Γ (i + 1)) = o at on aoo h1 e1 hR ht hv
  have hL := h.step m1 h1 hz1 hR hm aoo
  refine zW_istore dL_law_1721 (by decide) rfl rfl ?_
  refine zW_aload_n dL_law_1723 rfl ?_
  refine zcV0 dL_law_1724 rfl eX10_thrown b1363 ⟨by decide, by decide, (by show cu + 1 + 0 + 0 ≤ 601024; omega), (by show su + 6 + 0 + 0 ≤ 7293034; omega)⟩ rfl hR.1.1 rfl (by decide) (Nat.le_of_ble_eq_true rfl) (q_thrown hR.1.1 ht ?_)
  refine zW_iload dL_law_1727 rfl ?_
  refine zW_icmp_eq (tgt := 1734) dL_law_1729 (by decide) (by first | assumption | omega | (unfold InR; omega) | (unfold InL; omega) | (simp only [InR] at *; omega)) (by first | assumption | omega | (unfold InR; omega) | (unfold InL; omega) | (simp only [InR] at *; omega)) (fun b => ?_) (fun b => ?_)
  · refine zW_iload dL_law_1734 rfl ?_
    refine zW_if_ne (tgt := 1751) dL_law_1736 (by decide) (by first | assumption | omega | (unfold InR; omega) | (unfold InL; omega) | (simp only [InR] at *; omega)) (fun b2 => ?_) (fun b2 => ?_)
    · refine zW_goto (tgt := 3534) dL_law_1751 (by decide) ?_
      exact k σ2 _ _ _ _ _ _ hL (by show cu + 1 + 0 + 0 ≤ cu + 20; omega) (by show su + 6 + 0 + 0 ≤ su + 150; omega)
    · have e0 : o.1 = 0 := by omega
      have ez : zJ σ2 z 0 = nrm o.2.1 := by rw [hm.j (fun q => by unfold yr at q; omega)]; exact e1 e0
      have ev := hv e0
      have hz2 : zK σ2 z = (14, 1) := by rw [hm.K]; exact hz1
      have hJ : InL (nrm o.2.1) := by have := nrm_in o.2.1; unfold InR at this; unfold InL; omega
      refine zW_aload_n dL_law_1739 rfl ?_
      refine zW_iconst dL_law_1740 ?_
      refine zrJ dL_law_1741 hz2 (by first | assumption | omega | (unfold InR; omega) | (unfold InL; omega) | (simp only [InR] at *; omega)) (by first | assumption | omega | (unfold InR; omega) | (unfold InL; omega) | (simp only [InR] at *; omega)) (by first | assumption | omega | (unfold InR; omega) | (unfold InL; omega) | (simp only [InR] at *; omega)) ez ?_
      refine zW_iload dL_law_1742 rfl ?_
      rw [ev]
      refine zW_nrm ?_
      refine zW_i2l dL_law_1744 (nrm_in _) ?_
      refine zW_lcmp dL_law_1745 hJ hJ ?_
      rw [zcmp_self]
      refine zW_if_eq (tgt := 1751) dL_law_1746 (by decide) (by first | assumption | omega | (unfold InR; omega) | (unfold InL; omega) | (simp only [InR] at *; omega)) (fun b4 => ?_) (fun b4 => ?_)
      · refine zW_goto (tgt := 3534) dL_law_1751 (by decide) ?_
        exact k σ2 _ _ _ _ _ _ hL (by show cu + 1 + 0 + 0 ≤ cu + 20; omega) (by show su + 6 + 0 + 0 ≤ su + 150; omega)
      · exact absurd rfl b4
  · exact absurd rfl b
set_option maxRecDepth 100000 in
theorem w_25_edgeCount (h : LHd Γ σ x y z A) (hi : i + 6 ≤ gL Γ) (hc : cu ≤ 600000) (hs : su ≤ 7200000) (k : ∀ σ' A' cu' su' z5 z6 z7, LHd Γ σ' x y z A' → cu' ≤ cu + 20 → su' ≤ su + 150 → zW Γ mLaw 3534 [some (vR (some (gb Γ))), some (vR (some x)), some (vR (some y)), some (vR (some z)), some (vI i), z5, z6, z7] [] σ' cu' su' Q) : zW Γ mLaw 1754 [some (vR (some (gb Γ))), some (vR (some x)), some (vR (some y)), some (vR (some z)), some (vI i), z5, z6, z7] [] σ cu su Q := by
  obtain ⟨a1, a2, a3, a4, a6, ⟨b4, b5⟩, a9⟩ := id h
  have hIn : ∀ j, InR (sx Γ j) := sx_in Γ
  have hr9 := a3.1.1.2
  have on := on_edgeCount (A := A) (g := sx Γ (i + 1))
  have aoo : AO (o_edgeCount A (sx Γ (i + 1))).2.2 := aq_edgeCount a3
  refine zW_aload_n dL_law_1754 rfl ?_
  refine zW_aload_n dL_law_1755 rfl ?_
  refine zW_iload dL_law_1756 rfl ?_
  refine zW_iconst dL_law_1758 ?_
  refine zW_iadd dL_law_1759 ?_
  refine zsI (j := i + 1) dL_law_1760 a6 (by omega) (by omega) ?_
  refine zW_aload_n dL_law_1761 rfl ?_
  refine zcSX3 dL_law_1762 rfl eL_edgeCount b963 ⟨by decide, by decide, (by show cu + 0 + 1 ≤ 601024; omega), (by show su + 0 + 6 ≤ 7293034; omega)⟩ rfl (Nat.le_of_ble_eq_true rfl) (l_edgeCount a1 a4 b4 (hIn _) (fun σ1 h1 m1 hz1 e1 => ?_))
  have r1 : RI σ1 y A := a2.out m1 (fun a g1 g2 q => by unfold lzz xr at q; omega)
  refine zW_istore dL_law_1765 (by decide) rfl rfl ?_
  refine zW_aload_n dL_law_1767 rfl ?_
  refine zW_aload_n dL_law_1768 rfl ?_
  refine zW_iload dL_law_1769 rfl ?_
  refine zW_iconst dL_law_1771 ?_
  refine zW_iadd dL_law_1772 ?_
  refine zsI (j := i + 1) dL_law_1773 a6 (by omega) (by omega) ?_
  refine zcV1 dL_law_1774 rfl eX10_edgeCount b1680 ⟨by decide, by decide, (by show cu + 1 + 0 ≤ 601024; omega), (by show su + 6 + 0 ≤ 7293034; omega)⟩ rfl r1.1.1 rfl (by decide) (Nat.le_of_ble_eq_true rfl) (q_edgeCount r1 (hIn _) (fun σ2 v2 hR ht hm hv => ?_))
  generalize o_edgeCount A (sx Γ (i + 1)) = o at on aoo h1 e1 hR ht hv
  have hL := h.step m1 h1 hz1 hR hm aoo
  refine zW_istore dL_law_1777 (by decide) rfl rfl ?_
  refine zW_aload_n dL_law_1779 rfl ?_
  refine zcV0 dL_law_1780 rfl eX10_thrown b1363 ⟨by decide, by decide, (by show cu + 1 + 0 + 0 ≤ 601024; omega), (by show su + 6 + 0 + 0 ≤ 7293034; omega)⟩ rfl hR.1.1 rfl (by decide) (Nat.le_of_ble_eq_true rfl) (q_thrown hR.1.1 ht ?_)
  refine zW_iload dL_law_1783 rfl ?_
  refine zW_icmp_eq (tgt := 1790) dL_law_1785 (by decide) (by first | assumption | omega | (unfold InR; omega) | (unfold InL; omega) | (simp only [InR] at *; omega)) (by first | assumption | omega | (unfold InR; omega) | (unfold InL; omega) | (simp only [InR] at *; omega)) (fun b => ?_) (fun b => ?_)
  · refine zW_iload dL_law_1790 rfl ?_
    refine zW_if_ne (tgt := 1807) dL_law_1792 (by decide) (by first | assumption | omega | (unfold InR; omega) | (unfold InL; omega) | (simp only [InR] at *; omega)) (fun b2 => ?_) (fun b2 => ?_)
    · refine zW_goto (tgt := 3534) dL_law_1807 (by decide) ?_
      exact k σ2 _ _ _ _ _ _ hL (by show cu + 1 + 0 + 0 ≤ cu + 20; omega) (by show su + 6 + 0 + 0 ≤ su + 150; omega)
    · have e0 : o.1 = 0 := by omega
      have ez : zJ σ2 z 0 = nrm o.2.1 := by rw [hm.j (fun q => by unfold yr at q; omega)]; exact e1 e0
      have ev := hv e0
      have hz2 : zK σ2 z = (14, 1) := by rw [hm.K]; exact hz1
      have hJ : InL (nrm o.2.1) := by have := nrm_in o.2.1; unfold InR at this; unfold InL; omega
      refine zW_aload_n dL_law_1795 rfl ?_
      refine zW_iconst dL_law_1796 ?_
      refine zrJ dL_law_1797 hz2 (by first | assumption | omega | (unfold InR; omega) | (unfold InL; omega) | (simp only [InR] at *; omega)) (by first | assumption | omega | (unfold InR; omega) | (unfold InL; omega) | (simp only [InR] at *; omega)) (by first | assumption | omega | (unfold InR; omega) | (unfold InL; omega) | (simp only [InR] at *; omega)) ez ?_
      refine zW_iload dL_law_1798 rfl ?_
      rw [ev]
      refine zW_nrm ?_
      refine zW_i2l dL_law_1800 (nrm_in _) ?_
      refine zW_lcmp dL_law_1801 hJ hJ ?_
      rw [zcmp_self]
      refine zW_if_eq (tgt := 1807) dL_law_1802 (by decide) (by first | assumption | omega | (unfold InR; omega) | (unfold InL; omega) | (simp only [InR] at *; omega)) (fun b4 => ?_) (fun b4 => ?_)
      · refine zW_goto (tgt := 3534) dL_law_1807 (by decide) ?_
        exact k σ2 _ _ _ _ _ _ hL (by show cu + 1 + 0 + 0 ≤ cu + 20; omega) (by show su + 6 + 0 + 0 ≤ su + 150; omega)
      · exact absurd rfl b4
  · exact absurd rfl b
set_option maxRecDepth 100000 in
theorem w_26_neighbour (h : LHd Γ σ x y z A) (hi : i + 6 ≤ gL Γ) (hc : cu ≤ 600000) (hs : su ≤ 7200000) (k : ∀ σ' A' cu' su' z5 z6 z7, LHd Γ σ' x y z A' → cu' ≤ cu + 20 → su' ≤ su + 150 → zW Γ mLaw 3534 [some (vR (some (gb Γ))), some (vR (some x)), some (vR (some y)), some (vR (some z)), some (vI i), z5, z6, z7] [] σ' cu' su' Q) : zW Γ mLaw 1810 [some (vR (some (gb Γ))), some (vR (some x)), some (vR (some y)), some (vR (some z)), some (vI i), z5, z6, z7] [] σ cu su Q := by
  obtain ⟨a1, a2, a3, a4, a6, ⟨b4, b5⟩, a9⟩ := id h
  have hIn : ∀ j, InR (sx Γ j) := sx_in Γ
  have hr9 := a3.1.1.2
  have on := on_neighbour (A := A) (g := sx Γ (i + 1)) (v := sx Γ (i + 2)) (c := sx Γ (i + 3))
  have aoo : AO (o_neighbour A (sx Γ (i + 1)) (sx Γ (i + 2)) (sx Γ (i + 3))).2.2 := aq_neighbour a3
  refine zW_aload_n dL_law_1810 rfl ?_
  refine zW_aload_n dL_law_1811 rfl ?_
  refine zW_iload dL_law_1812 rfl ?_
  refine zW_iconst dL_law_1814 ?_
  refine zW_iadd dL_law_1815 ?_
  refine zsI (j := i + 1) dL_law_1816 a6 (by omega) (by omega) ?_
  refine zW_aload_n dL_law_1817 rfl ?_
  refine zW_iload dL_law_1818 rfl ?_
  refine zW_iconst dL_law_1820 ?_
  refine zW_iadd dL_law_1821 ?_
  refine zsI (j := i + 2) dL_law_1822 a6 (by omega) (by omega) ?_
  refine zW_aload_n dL_law_1823 rfl ?_
  refine zW_iload dL_law_1824 rfl ?_
  refine zW_iconst dL_law_1826 ?_
  refine zW_iadd dL_law_1827 ?_
  refine zsI (j := i + 3) dL_law_1828 a6 (by omega) (by omega) ?_
  refine zW_aload_n dL_law_1829 rfl ?_
  refine zcSX5 dL_law_1830 rfl eL_neighbour b970 ⟨by decide, by decide, (by show cu + 0 + 3 ≤ 601024; omega), (by show su + 0 + 18 ≤ 7293034; omega)⟩ rfl (Nat.le_of_ble_eq_true rfl) (l_neighbour a1 a4 b4 (hIn _) (hIn _) (hIn _) hr9 (fun σ1 h1 m1 hz1 e1 => ?_))
  have r1 : RI σ1 y A := a2.out m1 (fun a g1 g2 q => by unfold lzz xr at q; omega)
  refine zW_istore dL_law_1833 (by decide) rfl rfl ?_
  refine zW_aload_n dL_law_1835 rfl ?_
  refine zW_aload_n dL_law_1836 rfl ?_
  refine zW_iload dL_law_1837 rfl ?_
  refine zW_iconst dL_law_1839 ?_
  refine zW_iadd dL_law_1840 ?_
  refine zsI (j := i + 1) dL_law_1841 a6 (by omega) (by omega) ?_
  refine zW_aload_n dL_law_1842 rfl ?_
  refine zW_iload dL_law_1843 rfl ?_
  refine zW_iconst dL_law_1845 ?_
  refine zW_iadd dL_law_1846 ?_
  refine zsI (j := i + 2) dL_law_1847 a6 (by omega) (by omega) ?_
  refine zW_aload_n dL_law_1848 rfl ?_
  refine zW_iload dL_law_1849 rfl ?_
  refine zW_iconst dL_law_1851 ?_
  refine zW_iadd dL_law_1852 ?_
  refine zsI (j := i + 3) dL_law_1853 a6 (by omega) (by omega) ?_
  refine zcV3 dL_law_1854 rfl eX10_neighbour b1692 ⟨by decide, by decide, (by show cu + 3 + 0 ≤ 601024; omega), (by show su + 18 + 0 ≤ 7293034; omega)⟩ rfl r1.1.1 rfl (by decide) (Nat.le_of_ble_eq_true rfl) (q_neighbour r1 (hIn _) (hIn _) (hIn _) a3 (fun σ2 v2 hR ht hm hv => ?_))
  generalize o_neighbour A (sx Γ (i + 1)) (sx Γ (i + 2)) (sx Γ (i + 3)) = o at on aoo h1 e1 hR ht hv
  have hL := h.step m1 h1 hz1 hR hm aoo
  refine zW_istore dL_law_1857 (by decide) rfl rfl ?_
  refine zW_aload_n dL_law_1859 rfl ?_
  refine zcV0 dL_law_1860 rfl eX10_thrown b1363 ⟨by decide, by decide, (by show cu + 3 + 0 + 0 ≤ 601024; omega), (by show su + 18 + 0 + 0 ≤ 7293034; omega)⟩ rfl hR.1.1 rfl (by decide) (Nat.le_of_ble_eq_true rfl) (q_thrown hR.1.1 ht ?_)
  refine zW_iload dL_law_1863 rfl ?_
  refine zW_icmp_eq (tgt := 1870) dL_law_1865 (by decide) (by first | assumption | omega | (unfold InR; omega) | (unfold InL; omega) | (simp only [InR] at *; omega)) (by first | assumption | omega | (unfold InR; omega) | (unfold InL; omega) | (simp only [InR] at *; omega)) (fun b => ?_) (fun b => ?_)
  · refine zW_iload dL_law_1870 rfl ?_
    refine zW_if_ne (tgt := 1887) dL_law_1872 (by decide) (by first | assumption | omega | (unfold InR; omega) | (unfold InL; omega) | (simp only [InR] at *; omega)) (fun b2 => ?_) (fun b2 => ?_)
    · refine zW_goto (tgt := 3534) dL_law_1887 (by decide) ?_
      exact k σ2 _ _ _ _ _ _ hL (by show cu + 3 + 0 + 0 ≤ cu + 20; omega) (by show su + 18 + 0 + 0 ≤ su + 150; omega)
    · have e0 : o.1 = 0 := by omega
      have ez : zJ σ2 z 0 = nrm o.2.1 := by rw [hm.j (fun q => by unfold yr at q; omega)]; exact e1 e0
      have ev := hv e0
      have hz2 : zK σ2 z = (14, 1) := by rw [hm.K]; exact hz1
      have hJ : InL (nrm o.2.1) := by have := nrm_in o.2.1; unfold InR at this; unfold InL; omega
      refine zW_aload_n dL_law_1875 rfl ?_
      refine zW_iconst dL_law_1876 ?_
      refine zrJ dL_law_1877 hz2 (by first | assumption | omega | (unfold InR; omega) | (unfold InL; omega) | (simp only [InR] at *; omega)) (by first | assumption | omega | (unfold InR; omega) | (unfold InL; omega) | (simp only [InR] at *; omega)) (by first | assumption | omega | (unfold InR; omega) | (unfold InL; omega) | (simp only [InR] at *; omega)) ez ?_
      refine zW_iload dL_law_1878 rfl ?_
      rw [ev]
      refine zW_nrm ?_
      refine zW_i2l dL_law_1880 (nrm_in _) ?_
      refine zW_lcmp dL_law_1881 hJ hJ ?_
      rw [zcmp_self]
      refine zW_if_eq (tgt := 1887) dL_law_1882 (by decide) (by first | assumption | omega | (unfold InR; omega) | (unfold InL; omega) | (simp only [InR] at *; omega)) (fun b4 => ?_) (fun b4 => ?_)
      · refine zW_goto (tgt := 3534) dL_law_1887 (by decide) ?_
        exact k σ2 _ _ _ _ _ _ hL (by show cu + 3 + 0 + 0 ≤ cu + 20; omega) (by show su + 18 + 0 + 0 ≤ su + 150; omega)
      · exact absurd rfl b4
  · exact absurd rfl b
set_option maxRecDepth 100000 in
theorem w_27_subgroupRank (h : LHd Γ σ x y z A) (hi : i + 6 ≤ gL Γ) (hc : cu ≤ 600000) (hs : su ≤ 7200000) (k : ∀ σ' A' cu' su' z5 z6 z7, LHd Γ σ' x y z A' → cu' ≤ cu + 20 → su' ≤ su + 150 → zW Γ mLaw 3534 [some (vR (some (gb Γ))), some (vR (some x)), some (vR (some y)), some (vR (some z)), some (vI i), z5, z6, z7] [] σ' cu' su' Q) : zW Γ mLaw 1890 [some (vR (some (gb Γ))), some (vR (some x)), some (vR (some y)), some (vR (some z)), some (vI i), z5, z6, z7] [] σ cu su Q := by
  obtain ⟨a1, a2, a3, a4, a6, ⟨b4, b5⟩, a9⟩ := id h
  have hIn : ∀ j, InR (sx Γ j) := sx_in Γ
  have hr9 := a3.1.1.2
  have on := on_subgroupRank (A := A) (g := sx Γ (i + 1))
  have aoo : AO (o_subgroupRank A (sx Γ (i + 1))).2.2 := aq_subgroupRank a3
  refine zW_aload_n dL_law_1890 rfl ?_
  refine zW_aload_n dL_law_1891 rfl ?_
  refine zW_iload dL_law_1892 rfl ?_
  refine zW_iconst dL_law_1894 ?_
  refine zW_iadd dL_law_1895 ?_
  refine zsI (j := i + 1) dL_law_1896 a6 (by omega) (by omega) ?_
  refine zW_aload_n dL_law_1897 rfl ?_
  refine zcSX3 dL_law_1898 rfl eL_subgroupRank b978 ⟨by decide, by decide, (by show cu + 0 + 1 ≤ 601024; omega), (by show su + 0 + 6 ≤ 7293034; omega)⟩ rfl (Nat.le_of_ble_eq_true rfl) (l_subgroupRank a1 a4 b4 (hIn _) (fun σ1 h1 m1 hz1 e1 => ?_))
  have r1 : RI σ1 y A := a2.out m1 (fun a g1 g2 q => by unfold lzz xr at q; omega)
  refine zW_istore dL_law_1901 (by decide) rfl rfl ?_
  refine zW_aload_n dL_law_1903 rfl ?_
  refine zW_aload_n dL_law_1904 rfl ?_
  refine zW_iload dL_law_1905 rfl ?_
  refine zW_iconst dL_law_1907 ?_
  refine zW_iadd dL_law_1908 ?_
  refine zsI (j := i + 1) dL_law_1909 a6 (by omega) (by omega) ?_
  refine zcV1 dL_law_1910 rfl eX10_subgroupRank b1700 ⟨by decide, by decide, (by show cu + 1 + 0 ≤ 601024; omega), (by show su + 6 + 0 ≤ 7293034; omega)⟩ rfl r1.1.1 rfl (by decide) (Nat.le_of_ble_eq_true rfl) (q_subgroupRank r1 (hIn _) (fun σ2 v2 hR ht hm hv => ?_))
  generalize o_subgroupRank A (sx Γ (i + 1)) = o at on aoo h1 e1 hR ht hv
  have hL := h.step m1 h1 hz1 hR hm aoo
  refine zW_istore dL_law_1913 (by decide) rfl rfl ?_
  refine zW_aload_n dL_law_1915 rfl ?_
  refine zcV0 dL_law_1916 rfl eX10_thrown b1363 ⟨by decide, by decide, (by show cu + 1 + 0 + 0 ≤ 601024; omega), (by show su + 6 + 0 + 0 ≤ 7293034; omega)⟩ rfl hR.1.1 rfl (by decide) (Nat.le_of_ble_eq_true rfl) (q_thrown hR.1.1 ht ?_)
  refine zW_iload dL_law_1919 rfl ?_
  refine zW_icmp_eq (tgt := 1926) dL_law_1921 (by decide) (by first | assumption | omega | (unfold InR; omega) | (unfold InL; omega) | (simp only [InR] at *; omega)) (by first | assumption | omega | (unfold InR; omega) | (unfold InL; omega) | (simp only [InR] at *; omega)) (fun b => ?_) (fun b => ?_)
  · refine zW_iload dL_law_1926 rfl ?_
    refine zW_if_ne (tgt := 1943) dL_law_1928 (by decide) (by first | assumption | omega | (unfold InR; omega) | (unfold InL; omega) | (simp only [InR] at *; omega)) (fun b2 => ?_) (fun b2 => ?_)
    · refine zW_goto (tgt := 3534) dL_law_1943 (by decide) ?_
      exact k σ2 _ _ _ _ _ _ hL (by show cu + 1 + 0 + 0 ≤ cu + 20; omega) (by show su + 6 + 0 + 0 ≤ su + 150; omega)
    · have e0 : o.1 = 0 := by omega
      have ez : zJ σ2 z 0 = nrm o.2.1 := by rw [hm.j (fun q => by unfold yr at q; omega)]; exact e1 e0
      have ev := hv e0
      have hz2 : zK σ2 z = (14, 1) := by rw [hm.K]; exact hz1
      have hJ : InL (nrm o.2.1) := by have := nrm_in o.2.1; unfold InR at this; unfold InL; omega
      refine zW_aload_n dL_law_1931 rfl ?_
      refine zW_iconst dL_law_1932 ?_
      refine zrJ dL_law_1933 hz2 (by first | assumption | omega | (unfold InR; omega) | (unfold InL; omega) | (simp only [InR] at *; omega)) (by first | assumption | omega | (unfold InR; omega) | (unfold InL; omega) | (simp only [InR] at *; omega)) (by first | assumption | omega | (unfold InR; omega) | (unfold InL; omega) | (simp only [InR] at *; omega)) ez ?_
      refine zW_iload dL_law_1934 rfl ?_
      rw [ev]
      refine zW_nrm ?_
      refine zW_i2l dL_law_1936 (nrm_in _) ?_
      refine zW_lcmp dL_law_1937 hJ hJ ?_
      rw [zcmp_self]
      refine zW_if_eq (tgt := 1943) dL_law_1938 (by decide) (by first | assumption | omega | (unfold InR; omega) | (unfold InL; omega) | (simp only [InR] at *; omega)) (fun b4 => ?_) (fun b4 => ?_)
      · refine zW_goto (tgt := 3534) dL_law_1943 (by decide) ?_
        exact k σ2 _ _ _ _ _ _ hL (by show cu + 1 + 0 + 0 ≤ cu + 20; omega) (by show su + 6 + 0 + 0 ≤ su + 150; omega)
      · exact absurd rfl b4
  · exact absurd rfl b
set_option maxRecDepth 100000 in
theorem w_28_index (h : LHd Γ σ x y z A) (hi : i + 6 ≤ gL Γ) (hc : cu ≤ 600000) (hs : su ≤ 7200000) (k : ∀ σ' A' cu' su' z5 z6 z7, LHd Γ σ' x y z A' → cu' ≤ cu + 20 → su' ≤ su + 150 → zW Γ mLaw 3534 [some (vR (some (gb Γ))), some (vR (some x)), some (vR (some y)), some (vR (some z)), some (vI i), z5, z6, z7] [] σ' cu' su' Q) : zW Γ mLaw 1946 [some (vR (some (gb Γ))), some (vR (some x)), some (vR (some y)), some (vR (some z)), some (vI i), z5, z6, z7] [] σ cu su Q := by
  obtain ⟨a1, a2, a3, a4, a6, ⟨b4, b5⟩, a9⟩ := id h
  have hIn : ∀ j, InR (sx Γ j) := sx_in Γ
  have hr9 := a3.1.1.2
  have on := on_index (A := A) (g := sx Γ (i + 1))
  have aoo : AO (o_index A (sx Γ (i + 1))).2.2 := aq_index a3
  refine zW_aload_n dL_law_1946 rfl ?_
  refine zW_aload_n dL_law_1947 rfl ?_
  refine zW_iload dL_law_1948 rfl ?_
  refine zW_iconst dL_law_1950 ?_
  refine zW_iadd dL_law_1951 ?_
  refine zsI (j := i + 1) dL_law_1952 a6 (by omega) (by omega) ?_
  refine zW_aload_n dL_law_1953 rfl ?_
  refine zcSX3 dL_law_1954 rfl eL_index b989 ⟨by decide, by decide, (by show cu + 0 + 1 ≤ 601024; omega), (by show su + 0 + 6 ≤ 7293034; omega)⟩ rfl (Nat.le_of_ble_eq_true rfl) (l_index a1 a4 b4 (hIn _) hr9 (fun σ1 h1 m1 hz1 e1 => ?_))
  have r1 : RI σ1 y A := a2.out m1 (fun a g1 g2 q => by unfold lzz xr at q; omega)
  refine zW_istore dL_law_1957 (by decide) rfl rfl ?_
  refine zW_aload_n dL_law_1959 rfl ?_
  refine zW_aload_n dL_law_1960 rfl ?_
  refine zW_iload dL_law_1961 rfl ?_
  refine zW_iconst dL_law_1963 ?_
  refine zW_iadd dL_law_1964 ?_
  refine zsI (j := i + 1) dL_law_1965 a6 (by omega) (by omega) ?_
  refine zcV1 dL_law_1966 rfl eX10_index b1708 ⟨by decide, by decide, (by show cu + 1 + 0 ≤ 601024; omega), (by show su + 6 + 0 ≤ 7293034; omega)⟩ rfl r1.1.1 rfl (by decide) (Nat.le_of_ble_eq_true rfl) (q_index r1 (hIn _) a3 (fun σ2 v2 hR ht hm hv => ?_))
  generalize o_index A (sx Γ (i + 1)) = o at on aoo h1 e1 hR ht hv
  have hL := h.step m1 h1 hz1 hR hm aoo
  refine zW_istore dL_law_1969 (by decide) rfl rfl ?_
  refine zW_aload_n dL_law_1971 rfl ?_
  refine zcV0 dL_law_1972 rfl eX10_thrown b1363 ⟨by decide, by decide, (by show cu + 1 + 0 + 0 ≤ 601024; omega), (by show su + 6 + 0 + 0 ≤ 7293034; omega)⟩ rfl hR.1.1 rfl (by decide) (Nat.le_of_ble_eq_true rfl) (q_thrown hR.1.1 ht ?_)
  refine zW_iload dL_law_1975 rfl ?_
  refine zW_icmp_eq (tgt := 1982) dL_law_1977 (by decide) (by first | assumption | omega | (unfold InR; omega) | (unfold InL; omega) | (simp only [InR] at *; omega)) (by first | assumption | omega | (unfold InR; omega) | (unfold InL; omega) | (simp only [InR] at *; omega)) (fun b => ?_) (fun b => ?_)
  · refine zW_iload dL_law_1982 rfl ?_
    refine zW_if_ne (tgt := 1999) dL_law_1984 (by decide) (by first | assumption | omega | (unfold InR; omega) | (unfold InL; omega) | (simp only [InR] at *; omega)) (fun b2 => ?_) (fun b2 => ?_)
    · refine zW_goto (tgt := 3534) dL_law_1999 (by decide) ?_
      exact k σ2 _ _ _ _ _ _ hL (by show cu + 1 + 0 + 0 ≤ cu + 20; omega) (by show su + 6 + 0 + 0 ≤ su + 150; omega)
    · have e0 : o.1 = 0 := by omega
      have ez : zJ σ2 z 0 = nrm o.2.1 := by rw [hm.j (fun q => by unfold yr at q; omega)]; exact e1 e0
      have ev := hv e0
      have hz2 : zK σ2 z = (14, 1) := by rw [hm.K]; exact hz1
      have hJ : InL (nrm o.2.1) := by have := nrm_in o.2.1; unfold InR at this; unfold InL; omega
      refine zW_aload_n dL_law_1987 rfl ?_
      refine zW_iconst dL_law_1988 ?_
      refine zrJ dL_law_1989 hz2 (by first | assumption | omega | (unfold InR; omega) | (unfold InL; omega) | (simp only [InR] at *; omega)) (by first | assumption | omega | (unfold InR; omega) | (unfold InL; omega) | (simp only [InR] at *; omega)) (by first | assumption | omega | (unfold InR; omega) | (unfold InL; omega) | (simp only [InR] at *; omega)) ez ?_
      refine zW_iload dL_law_1990 rfl ?_
      rw [ev]
      refine zW_nrm ?_
      refine zW_i2l dL_law_1992 (nrm_in _) ?_
      refine zW_lcmp dL_law_1993 hJ hJ ?_
      rw [zcmp_self]
      refine zW_if_eq (tgt := 1999) dL_law_1994 (by decide) (by first | assumption | omega | (unfold InR; omega) | (unfold InL; omega) | (simp only [InR] at *; omega)) (fun b4 => ?_) (fun b4 => ?_)
      · refine zW_goto (tgt := 3534) dL_law_1999 (by decide) ?_
        exact k σ2 _ _ _ _ _ _ hL (by show cu + 1 + 0 + 0 ≤ cu + 20; omega) (by show su + 6 + 0 + 0 ≤ su + 150; omega)
      · exact absurd rfl b4
  · exact absurd rfl b
set_option maxRecDepth 100000 in
theorem w_29_contains (h : LHd Γ σ x y z A) (hi : i + 6 ≤ gL Γ) (hc : cu ≤ 600000) (hs : su ≤ 7200000) (k : ∀ σ' A' cu' su' z5 z6 z7, LHd Γ σ' x y z A' → cu' ≤ cu + 20 → su' ≤ su + 150 → zW Γ mLaw 3534 [some (vR (some (gb Γ))), some (vR (some x)), some (vR (some y)), some (vR (some z)), some (vI i), z5, z6, z7] [] σ' cu' su' Q) : zW Γ mLaw 2002 [some (vR (some (gb Γ))), some (vR (some x)), some (vR (some y)), some (vR (some z)), some (vI i), z5, z6, z7] [] σ cu su Q := by
  obtain ⟨a1, a2, a3, a4, a6, ⟨b4, b5⟩, a9⟩ := id h
  have hIn : ∀ j, InR (sx Γ j) := sx_in Γ
  have hr9 := a3.1.1.2
  have on := on_contains (A := A) (g := sx Γ (i + 1)) (r := sx Γ (i + 2))
  have aoo : AO (o_contains A (sx Γ (i + 1)) (sx Γ (i + 2))).2.2 := aq_contains a3
  refine zW_aload_n dL_law_2002 rfl ?_
  refine zW_aload_n dL_law_2003 rfl ?_
  refine zW_iload dL_law_2004 rfl ?_
  refine zW_iconst dL_law_2006 ?_
  refine zW_iadd dL_law_2007 ?_
  refine zsI (j := i + 1) dL_law_2008 a6 (by omega) (by omega) ?_
  refine zW_aload_n dL_law_2009 rfl ?_
  refine zW_iload dL_law_2010 rfl ?_
  refine zW_iconst dL_law_2012 ?_
  refine zW_iadd dL_law_2013 ?_
  refine zsI (j := i + 2) dL_law_2014 a6 (by omega) (by omega) ?_
  refine zW_aload_n dL_law_2015 rfl ?_
  refine zcSX4 dL_law_2016 rfl eL_contains b996 ⟨by decide, by decide, (by show cu + 0 + 2 ≤ 601024; omega), (by show su + 0 + 12 ≤ 7293034; omega)⟩ rfl (Nat.le_of_ble_eq_true rfl) (l_contains a1 a4 b4 (hIn _) (hIn _) (fun σ1 h1 m1 hz1 e1 => ?_))
  have r1 : RI σ1 y A := a2.out m1 (fun a g1 g2 q => by unfold lzz xr at q; omega)
  refine zW_istore dL_law_2019 (by decide) rfl rfl ?_
  refine zW_aload_n dL_law_2021 rfl ?_
  refine zW_aload_n dL_law_2022 rfl ?_
  refine zW_iload dL_law_2023 rfl ?_
  refine zW_iconst dL_law_2025 ?_
  refine zW_iadd dL_law_2026 ?_
  refine zsI (j := i + 1) dL_law_2027 a6 (by omega) (by omega) ?_
  refine zW_aload_n dL_law_2028 rfl ?_
  refine zW_iload dL_law_2029 rfl ?_
  refine zW_iconst dL_law_2031 ?_
  refine zW_iadd dL_law_2032 ?_
  refine zsI (j := i + 2) dL_law_2033 a6 (by omega) (by omega) ?_
  refine zcV2 dL_law_2034 rfl eX10_contains b1716 ⟨by decide, by decide, (by show cu + 2 + 0 ≤ 601024; omega), (by show su + 12 + 0 ≤ 7293034; omega)⟩ rfl r1.1.1 rfl (by decide) (Nat.le_of_ble_eq_true rfl) (q_contains r1 (hIn _) (hIn _) (fun σ2 v2 hR ht hm hv => ?_))
  generalize o_contains A (sx Γ (i + 1)) (sx Γ (i + 2)) = o at on aoo h1 e1 hR ht hv
  have hL := h.step m1 h1 hz1 hR hm aoo
  refine zW_istore dL_law_2037 (by decide) rfl rfl ?_
  refine zW_aload_n dL_law_2039 rfl ?_
  refine zcV0 dL_law_2040 rfl eX10_thrown b1363 ⟨by decide, by decide, (by show cu + 2 + 0 + 0 ≤ 601024; omega), (by show su + 12 + 0 + 0 ≤ 7293034; omega)⟩ rfl hR.1.1 rfl (by decide) (Nat.le_of_ble_eq_true rfl) (q_thrown hR.1.1 ht ?_)
  refine zW_iload dL_law_2043 rfl ?_
  refine zW_icmp_eq (tgt := 2050) dL_law_2045 (by decide) (by first | assumption | omega | (unfold InR; omega) | (unfold InL; omega) | (simp only [InR] at *; omega)) (by first | assumption | omega | (unfold InR; omega) | (unfold InL; omega) | (simp only [InR] at *; omega)) (fun b => ?_) (fun b => ?_)
  · refine zW_iload dL_law_2050 rfl ?_
    refine zW_if_ne (tgt := 2074) dL_law_2052 (by decide) (by first | assumption | omega | (unfold InR; omega) | (unfold InL; omega) | (simp only [InR] at *; omega)) (fun b2 => ?_) (fun b2 => ?_)
    · refine zW_goto (tgt := 3534) dL_law_2074 (by decide) ?_
      exact k σ2 _ _ _ _ _ _ hL (by show cu + 2 + 0 + 0 ≤ cu + 20; omega) (by show su + 12 + 0 + 0 ≤ su + 150; omega)
    · have e0 : o.1 = 0 := by omega
      have ez : zJ σ2 z 0 = bln o.2.1 := by rw [hm.j (fun q => by unfold yr at q; omega)]; exact e1 e0
      have ev := hv e0
      have hz2 : zK σ2 z = (14, 1) := by rw [hm.K]; exact hz1
      refine zW_aload_n dL_law_2055 rfl ?_
      refine zW_iconst dL_law_2056 ?_
      refine zrJ dL_law_2057 hz2 (by first | assumption | omega | (unfold InR; omega) | (unfold InL; omega) | (simp only [InR] at *; omega)) (by first | assumption | omega | (unfold InR; omega) | (unfold InL; omega) | (simp only [InR] at *; omega)) (by first | assumption | omega | (unfold InR; omega) | (unfold InL; omega) | (simp only [InR] at *; omega)) ez ?_
      refine zW_iload dL_law_2058 rfl ?_
      rw [ev]
      refine zW_nrm ?_
      have hnr := nrm_in o.2.1
      refine zW_if_eq (tgt := 2067) dL_law_2060 (by decide) (by first | assumption | omega | (unfold InR; omega) | (unfold InL; omega) | (simp only [InR] at *; omega)) (fun b3 => ?_) (fun b3 => ?_)
      · have e4 : bln o.2.1 = 0 := if_pos b3
        rw [e4]
        refine zW_lconst dL_law_2067 (z := 0) (by decide) ?_
        refine zW_lcmp dL_law_2068 (by unfold InL; omega) (by unfold InL; omega) ?_
        rw [zcmp_self]
        refine zW_if_eq (tgt := 2074) dL_law_2069 (by decide) (by first | assumption | omega | (unfold InR; omega) | (unfold InL; omega) | (simp only [InR] at *; omega)) (fun b4 => ?_) (fun b4 => ?_)
        · refine zW_goto (tgt := 3534) dL_law_2074 (by decide) ?_
          exact k σ2 _ _ _ _ _ _ hL (by show cu + 2 + 0 + 0 ≤ cu + 20; omega) (by show su + 12 + 0 + 0 ≤ su + 150; omega)
        · exact absurd rfl b4
      · have e4 : bln o.2.1 = 1 := if_neg b3
        rw [e4]
        refine zW_lconst dL_law_2063 (z := 1) (by decide) ?_
        refine zW_goto (tgt := 2068) dL_law_2064 (by decide) ?_
        refine zW_lcmp dL_law_2068 (by unfold InL; omega) (by unfold InL; omega) ?_
        rw [zcmp_self]
        refine zW_if_eq (tgt := 2074) dL_law_2069 (by decide) (by first | assumption | omega | (unfold InR; omega) | (unfold InL; omega) | (simp only [InR] at *; omega)) (fun b4 => ?_) (fun b4 => ?_)
        · refine zW_goto (tgt := 3534) dL_law_2074 (by decide) ?_
          exact k σ2 _ _ _ _ _ _ hL (by show cu + 2 + 0 + 0 ≤ cu + 20; omega) (by show su + 12 + 0 + 0 ≤ su + 150; omega)
        · exact absurd rfl b4
  · exact absurd rfl b
set_option maxRecDepth 100000 in
theorem w_30_reachedVertex (h : LHd Γ σ x y z A) (hi : i + 6 ≤ gL Γ) (hc : cu ≤ 600000) (hs : su ≤ 7200000) (k : ∀ σ' A' cu' su' z5 z6 z7, LHd Γ σ' x y z A' → cu' ≤ cu + 20 → su' ≤ su + 150 → zW Γ mLaw 3534 [some (vR (some (gb Γ))), some (vR (some x)), some (vR (some y)), some (vR (some z)), some (vI i), z5, z6, z7] [] σ' cu' su' Q) : zW Γ mLaw 2077 [some (vR (some (gb Γ))), some (vR (some x)), some (vR (some y)), some (vR (some z)), some (vI i), z5, z6, z7] [] σ cu su Q := by
  obtain ⟨a1, a2, a3, a4, a6, ⟨b4, b5⟩, a9⟩ := id h
  have hIn : ∀ j, InR (sx Γ j) := sx_in Γ
  have hr9 := a3.1.1.2
  have on := on_reachedVertex (A := A) (g := sx Γ (i + 1)) (r := sx Γ (i + 2))
  have aoo : AO (o_reachedVertex A (sx Γ (i + 1)) (sx Γ (i + 2))).2.2 := aq_reachedVertex a3
  refine zW_aload_n dL_law_2077 rfl ?_
  refine zW_aload_n dL_law_2078 rfl ?_
  refine zW_iload dL_law_2079 rfl ?_
  refine zW_iconst dL_law_2081 ?_
  refine zW_iadd dL_law_2082 ?_
  refine zsI (j := i + 1) dL_law_2083 a6 (by omega) (by omega) ?_
  refine zW_aload_n dL_law_2084 rfl ?_
  refine zW_iload dL_law_2085 rfl ?_
  refine zW_iconst dL_law_2087 ?_
  refine zW_iadd dL_law_2088 ?_
  refine zsI (j := i + 2) dL_law_2089 a6 (by omega) (by omega) ?_
  refine zW_aload_n dL_law_2090 rfl ?_
  refine zcSX4 dL_law_2091 rfl eL_reachedVertex b1011 ⟨by decide, by decide, (by show cu + 0 + 2 ≤ 601024; omega), (by show su + 0 + 12 ≤ 7293034; omega)⟩ rfl (Nat.le_of_ble_eq_true rfl) (l_reachedVertex a1 a4 b4 (hIn _) (hIn _) (fun σ1 h1 m1 hz1 e1 => ?_))
  have r1 : RI σ1 y A := a2.out m1 (fun a g1 g2 q => by unfold lzz xr at q; omega)
  refine zW_istore dL_law_2094 (by decide) rfl rfl ?_
  refine zW_aload_n dL_law_2096 rfl ?_
  refine zW_aload_n dL_law_2097 rfl ?_
  refine zW_iload dL_law_2098 rfl ?_
  refine zW_iconst dL_law_2100 ?_
  refine zW_iadd dL_law_2101 ?_
  refine zsI (j := i + 1) dL_law_2102 a6 (by omega) (by omega) ?_
  refine zW_aload_n dL_law_2103 rfl ?_
  refine zW_iload dL_law_2104 rfl ?_
  refine zW_iconst dL_law_2106 ?_
  refine zW_iadd dL_law_2107 ?_
  refine zsI (j := i + 2) dL_law_2108 a6 (by omega) (by omega) ?_
  refine zcV2 dL_law_2109 rfl eX10_reachedVertex b1732 ⟨by decide, by decide, (by show cu + 2 + 0 ≤ 601024; omega), (by show su + 12 + 0 ≤ 7293034; omega)⟩ rfl r1.1.1 rfl (by decide) (Nat.le_of_ble_eq_true rfl) (q_reachedVertex r1 (hIn _) (hIn _) (fun σ2 v2 hR ht hm hv => ?_))
  generalize o_reachedVertex A (sx Γ (i + 1)) (sx Γ (i + 2)) = o at on aoo h1 e1 hR ht hv
  have hL := h.step m1 h1 hz1 hR hm aoo
  refine zW_istore dL_law_2112 (by decide) rfl rfl ?_
  refine zW_aload_n dL_law_2114 rfl ?_
  refine zcV0 dL_law_2115 rfl eX10_thrown b1363 ⟨by decide, by decide, (by show cu + 2 + 0 + 0 ≤ 601024; omega), (by show su + 12 + 0 + 0 ≤ 7293034; omega)⟩ rfl hR.1.1 rfl (by decide) (Nat.le_of_ble_eq_true rfl) (q_thrown hR.1.1 ht ?_)
  refine zW_iload dL_law_2118 rfl ?_
  refine zW_icmp_eq (tgt := 2125) dL_law_2120 (by decide) (by first | assumption | omega | (unfold InR; omega) | (unfold InL; omega) | (simp only [InR] at *; omega)) (by first | assumption | omega | (unfold InR; omega) | (unfold InL; omega) | (simp only [InR] at *; omega)) (fun b => ?_) (fun b => ?_)
  · refine zW_iload dL_law_2125 rfl ?_
    refine zW_if_ne (tgt := 2142) dL_law_2127 (by decide) (by first | assumption | omega | (unfold InR; omega) | (unfold InL; omega) | (simp only [InR] at *; omega)) (fun b2 => ?_) (fun b2 => ?_)
    · refine zW_goto (tgt := 3534) dL_law_2142 (by decide) ?_
      exact k σ2 _ _ _ _ _ _ hL (by show cu + 2 + 0 + 0 ≤ cu + 20; omega) (by show su + 12 + 0 + 0 ≤ su + 150; omega)
    · have e0 : o.1 = 0 := by omega
      have ez : zJ σ2 z 0 = nrm o.2.1 := by rw [hm.j (fun q => by unfold yr at q; omega)]; exact e1 e0
      have ev := hv e0
      have hz2 : zK σ2 z = (14, 1) := by rw [hm.K]; exact hz1
      have hJ : InL (nrm o.2.1) := by have := nrm_in o.2.1; unfold InR at this; unfold InL; omega
      refine zW_aload_n dL_law_2130 rfl ?_
      refine zW_iconst dL_law_2131 ?_
      refine zrJ dL_law_2132 hz2 (by first | assumption | omega | (unfold InR; omega) | (unfold InL; omega) | (simp only [InR] at *; omega)) (by first | assumption | omega | (unfold InR; omega) | (unfold InL; omega) | (simp only [InR] at *; omega)) (by first | assumption | omega | (unfold InR; omega) | (unfold InL; omega) | (simp only [InR] at *; omega)) ez ?_
      refine zW_iload dL_law_2133 rfl ?_
      rw [ev]
      refine zW_nrm ?_
      refine zW_i2l dL_law_2135 (nrm_in _) ?_
      refine zW_lcmp dL_law_2136 hJ hJ ?_
      rw [zcmp_self]
      refine zW_if_eq (tgt := 2142) dL_law_2137 (by decide) (by first | assumption | omega | (unfold InR; omega) | (unfold InL; omega) | (simp only [InR] at *; omega)) (fun b4 => ?_) (fun b4 => ?_)
      · refine zW_goto (tgt := 3534) dL_law_2142 (by decide) ?_
        exact k σ2 _ _ _ _ _ _ hL (by show cu + 2 + 0 + 0 ≤ cu + 20; omega) (by show su + 12 + 0 + 0 ≤ su + 150; omega)
      · exact absurd rfl b4
  · exact absurd rfl b
set_option maxRecDepth 100000 in
theorem w_31_smallestPower (h : LHd Γ σ x y z A) (hi : i + 6 ≤ gL Γ) (hc : cu ≤ 600000) (hs : su ≤ 7200000) (k : ∀ σ' A' cu' su' z5 z6 z7, LHd Γ σ' x y z A' → cu' ≤ cu + 20 → su' ≤ su + 150 → zW Γ mLaw 3534 [some (vR (some (gb Γ))), some (vR (some x)), some (vR (some y)), some (vR (some z)), some (vI i), z5, z6, z7] [] σ' cu' su' Q) : zW Γ mLaw 2145 [some (vR (some (gb Γ))), some (vR (some x)), some (vR (some y)), some (vR (some z)), some (vI i), z5, z6, z7] [] σ cu su Q := by
  obtain ⟨a1, a2, a3, a4, a6, ⟨b4, b5⟩, a9⟩ := id h
  have hIn : ∀ j, InR (sx Γ j) := sx_in Γ
  have hr9 := a3.1.1.2
  have on := on_smallestPower (A := A) (g := sx Γ (i + 1)) (r := sx Γ (i + 2))
  have aoo : AO (o_smallestPower A (sx Γ (i + 1)) (sx Γ (i + 2))).2.2 := aq_smallestPower a3
  refine zW_aload_n dL_law_2145 rfl ?_
  refine zW_aload_n dL_law_2146 rfl ?_
  refine zW_iload dL_law_2147 rfl ?_
  refine zW_iconst dL_law_2149 ?_
  refine zW_iadd dL_law_2150 ?_
  refine zsI (j := i + 1) dL_law_2151 a6 (by omega) (by omega) ?_
  refine zW_aload_n dL_law_2152 rfl ?_
  refine zW_iload dL_law_2153 rfl ?_
  refine zW_iconst dL_law_2155 ?_
  refine zW_iadd dL_law_2156 ?_
  refine zsI (j := i + 2) dL_law_2157 a6 (by omega) (by omega) ?_
  refine zW_aload_n dL_law_2158 rfl ?_
  refine zcSX4 dL_law_2159 rfl eL_smallestPower b1019 ⟨by decide, by decide, (by show cu + 0 + 2 ≤ 601024; omega), (by show su + 0 + 12 ≤ 7293034; omega)⟩ rfl (Nat.le_of_ble_eq_true rfl) (l_smallestPower a1 a4 b4 (hIn _) (hIn _) (fun σ1 h1 m1 hz1 e1 => ?_))
  have r1 : RI σ1 y A := a2.out m1 (fun a g1 g2 q => by unfold lzz xr at q; omega)
  refine zW_istore dL_law_2162 (by decide) rfl rfl ?_
  refine zW_aload_n dL_law_2164 rfl ?_
  refine zW_aload_n dL_law_2165 rfl ?_
  refine zW_iload dL_law_2166 rfl ?_
  refine zW_iconst dL_law_2168 ?_
  refine zW_iadd dL_law_2169 ?_
  refine zsI (j := i + 1) dL_law_2170 a6 (by omega) (by omega) ?_
  refine zW_aload_n dL_law_2171 rfl ?_
  refine zW_iload dL_law_2172 rfl ?_
  refine zW_iconst dL_law_2174 ?_
  refine zW_iadd dL_law_2175 ?_
  refine zsI (j := i + 2) dL_law_2176 a6 (by omega) (by omega) ?_
  refine zcV2 dL_law_2177 rfl eX10_smallestPower b1736 ⟨by decide, by decide, (by show cu + 2 + 0 ≤ 601024; omega), (by show su + 12 + 0 ≤ 7293034; omega)⟩ rfl r1.1.1 rfl (by decide) (Nat.le_of_ble_eq_true rfl) (q_smallestPower r1 (hIn _) (hIn _) (fun σ2 v2 hR ht hm hv => ?_))
  generalize o_smallestPower A (sx Γ (i + 1)) (sx Γ (i + 2)) = o at on aoo h1 e1 hR ht hv
  have hL := h.step m1 h1 hz1 hR hm aoo
  refine zW_istore dL_law_2180 (by decide) rfl rfl ?_
  refine zW_aload_n dL_law_2182 rfl ?_
  refine zcV0 dL_law_2183 rfl eX10_thrown b1363 ⟨by decide, by decide, (by show cu + 2 + 0 + 0 ≤ 601024; omega), (by show su + 12 + 0 + 0 ≤ 7293034; omega)⟩ rfl hR.1.1 rfl (by decide) (Nat.le_of_ble_eq_true rfl) (q_thrown hR.1.1 ht ?_)
  refine zW_iload dL_law_2186 rfl ?_
  refine zW_icmp_eq (tgt := 2193) dL_law_2188 (by decide) (by first | assumption | omega | (unfold InR; omega) | (unfold InL; omega) | (simp only [InR] at *; omega)) (by first | assumption | omega | (unfold InR; omega) | (unfold InL; omega) | (simp only [InR] at *; omega)) (fun b => ?_) (fun b => ?_)
  · refine zW_iload dL_law_2193 rfl ?_
    refine zW_if_ne (tgt := 2210) dL_law_2195 (by decide) (by first | assumption | omega | (unfold InR; omega) | (unfold InL; omega) | (simp only [InR] at *; omega)) (fun b2 => ?_) (fun b2 => ?_)
    · refine zW_goto (tgt := 3534) dL_law_2210 (by decide) ?_
      exact k σ2 _ _ _ _ _ _ hL (by show cu + 2 + 0 + 0 ≤ cu + 20; omega) (by show su + 12 + 0 + 0 ≤ su + 150; omega)
    · have e0 : o.1 = 0 := by omega
      have ez : zJ σ2 z 0 = nrm o.2.1 := by rw [hm.j (fun q => by unfold yr at q; omega)]; exact e1 e0
      have ev := hv e0
      have hz2 : zK σ2 z = (14, 1) := by rw [hm.K]; exact hz1
      have hJ : InL (nrm o.2.1) := by have := nrm_in o.2.1; unfold InR at this; unfold InL; omega
      refine zW_aload_n dL_law_2198 rfl ?_
      refine zW_iconst dL_law_2199 ?_
      refine zrJ dL_law_2200 hz2 (by first | assumption | omega | (unfold InR; omega) | (unfold InL; omega) | (simp only [InR] at *; omega)) (by first | assumption | omega | (unfold InR; omega) | (unfold InL; omega) | (simp only [InR] at *; omega)) (by first | assumption | omega | (unfold InR; omega) | (unfold InL; omega) | (simp only [InR] at *; omega)) ez ?_
      refine zW_iload dL_law_2201 rfl ?_
      rw [ev]
      refine zW_nrm ?_
      refine zW_i2l dL_law_2203 (nrm_in _) ?_
      refine zW_lcmp dL_law_2204 hJ hJ ?_
      rw [zcmp_self]
      refine zW_if_eq (tgt := 2210) dL_law_2205 (by decide) (by first | assumption | omega | (unfold InR; omega) | (unfold InL; omega) | (simp only [InR] at *; omega)) (fun b4 => ?_) (fun b4 => ?_)
      · refine zW_goto (tgt := 3534) dL_law_2210 (by decide) ?_
        exact k σ2 _ _ _ _ _ _ hL (by show cu + 2 + 0 + 0 ≤ cu + 20; omega) (by show su + 12 + 0 + 0 ≤ su + 150; omega)
      · exact absurd rfl b4
  · exact absurd rfl b
set_option maxRecDepth 100000 in
theorem w_32_isNormal (h : LHd Γ σ x y z A) (hi : i + 6 ≤ gL Γ) (hc : cu ≤ 600000) (hs : su ≤ 7200000) (k : ∀ σ' A' cu' su' z5 z6 z7, LHd Γ σ' x y z A' → cu' ≤ cu + 20 → su' ≤ su + 150 → zW Γ mLaw 3534 [some (vR (some (gb Γ))), some (vR (some x)), some (vR (some y)), some (vR (some z)), some (vI i), z5, z6, z7] [] σ' cu' su' Q) : zW Γ mLaw 2213 [some (vR (some (gb Γ))), some (vR (some x)), some (vR (some y)), some (vR (some z)), some (vI i), z5, z6, z7] [] σ cu su Q := by
  obtain ⟨a1, a2, a3, a4, a6, ⟨b4, b5⟩, a9⟩ := id h
  have hIn : ∀ j, InR (sx Γ j) := sx_in Γ
  have hr9 := a3.1.1.2
  have on := on_isNormal (A := A) (g := sx Γ (i + 1))
  have aoo : AO (o_isNormal A (sx Γ (i + 1))).2.2 := aq_isNormal a3
  refine zW_aload_n dL_law_2213 rfl ?_
  refine zW_aload_n dL_law_2214 rfl ?_
  refine zW_iload dL_law_2215 rfl ?_
  refine zW_iconst dL_law_2217 ?_
  refine zW_iadd dL_law_2218 ?_
  refine zsI (j := i + 1) dL_law_2219 a6 (by omega) (by omega) ?_
  refine zW_aload_n dL_law_2220 rfl ?_
  refine zcSX3 dL_law_2221 rfl eL_isNormal b1031 ⟨by decide, by decide, (by show cu + 0 + 1 ≤ 601024; omega), (by show su + 0 + 6 ≤ 7293034; omega)⟩ rfl (Nat.le_of_ble_eq_true rfl) (l_isNormal a1 a4 b4 (hIn _) hr9 (fun σ1 h1 m1 hz1 e1 => ?_))
  have r1 : RI σ1 y A := a2.out m1 (fun a g1 g2 q => by unfold lzz xr at q; omega)
  refine zW_istore dL_law_2224 (by decide) rfl rfl ?_
  refine zW_aload_n dL_law_2226 rfl ?_
  refine zW_aload_n dL_law_2227 rfl ?_
  refine zW_iload dL_law_2228 rfl ?_
  refine zW_iconst dL_law_2230 ?_
  refine zW_iadd dL_law_2231 ?_
  refine zsI (j := i + 1) dL_law_2232 a6 (by omega) (by omega) ?_
  refine zcV1 dL_law_2233 rfl eX10_isNormal b1744 ⟨by decide, by decide, (by show cu + 1 + 0 ≤ 601024; omega), (by show su + 6 + 0 ≤ 7293034; omega)⟩ rfl r1.1.1 rfl (by decide) (Nat.le_of_ble_eq_true rfl) (q_isNormal r1 (hIn _) a3 (fun σ2 v2 hR ht hm hv => ?_))
  generalize o_isNormal A (sx Γ (i + 1)) = o at on aoo h1 e1 hR ht hv
  have hL := h.step m1 h1 hz1 hR hm aoo
  refine zW_istore dL_law_2236 (by decide) rfl rfl ?_
  refine zW_aload_n dL_law_2238 rfl ?_
  refine zcV0 dL_law_2239 rfl eX10_thrown b1363 ⟨by decide, by decide, (by show cu + 1 + 0 + 0 ≤ 601024; omega), (by show su + 6 + 0 + 0 ≤ 7293034; omega)⟩ rfl hR.1.1 rfl (by decide) (Nat.le_of_ble_eq_true rfl) (q_thrown hR.1.1 ht ?_)
  refine zW_iload dL_law_2242 rfl ?_
  refine zW_icmp_eq (tgt := 2249) dL_law_2244 (by decide) (by first | assumption | omega | (unfold InR; omega) | (unfold InL; omega) | (simp only [InR] at *; omega)) (by first | assumption | omega | (unfold InR; omega) | (unfold InL; omega) | (simp only [InR] at *; omega)) (fun b => ?_) (fun b => ?_)
  · refine zW_iload dL_law_2249 rfl ?_
    refine zW_if_ne (tgt := 2273) dL_law_2251 (by decide) (by first | assumption | omega | (unfold InR; omega) | (unfold InL; omega) | (simp only [InR] at *; omega)) (fun b2 => ?_) (fun b2 => ?_)
    · refine zW_goto (tgt := 3534) dL_law_2273 (by decide) ?_
      exact k σ2 _ _ _ _ _ _ hL (by show cu + 1 + 0 + 0 ≤ cu + 20; omega) (by show su + 6 + 0 + 0 ≤ su + 150; omega)
    · have e0 : o.1 = 0 := by omega
      have ez : zJ σ2 z 0 = bln o.2.1 := by rw [hm.j (fun q => by unfold yr at q; omega)]; exact e1 e0
      have ev := hv e0
      have hz2 : zK σ2 z = (14, 1) := by rw [hm.K]; exact hz1
      refine zW_aload_n dL_law_2254 rfl ?_
      refine zW_iconst dL_law_2255 ?_
      refine zrJ dL_law_2256 hz2 (by first | assumption | omega | (unfold InR; omega) | (unfold InL; omega) | (simp only [InR] at *; omega)) (by first | assumption | omega | (unfold InR; omega) | (unfold InL; omega) | (simp only [InR] at *; omega)) (by first | assumption | omega | (unfold InR; omega) | (unfold InL; omega) | (simp only [InR] at *; omega)) ez ?_
      refine zW_iload dL_law_2257 rfl ?_
      rw [ev]
      refine zW_nrm ?_
      have hnr := nrm_in o.2.1
      refine zW_if_eq (tgt := 2266) dL_law_2259 (by decide) (by first | assumption | omega | (unfold InR; omega) | (unfold InL; omega) | (simp only [InR] at *; omega)) (fun b3 => ?_) (fun b3 => ?_)
      · have e4 : bln o.2.1 = 0 := if_pos b3
        rw [e4]
        refine zW_lconst dL_law_2266 (z := 0) (by decide) ?_
        refine zW_lcmp dL_law_2267 (by unfold InL; omega) (by unfold InL; omega) ?_
        rw [zcmp_self]
        refine zW_if_eq (tgt := 2273) dL_law_2268 (by decide) (by first | assumption | omega | (unfold InR; omega) | (unfold InL; omega) | (simp only [InR] at *; omega)) (fun b4 => ?_) (fun b4 => ?_)
        · refine zW_goto (tgt := 3534) dL_law_2273 (by decide) ?_
          exact k σ2 _ _ _ _ _ _ hL (by show cu + 1 + 0 + 0 ≤ cu + 20; omega) (by show su + 6 + 0 + 0 ≤ su + 150; omega)
        · exact absurd rfl b4
      · have e4 : bln o.2.1 = 1 := if_neg b3
        rw [e4]
        refine zW_lconst dL_law_2262 (z := 1) (by decide) ?_
        refine zW_goto (tgt := 2267) dL_law_2263 (by decide) ?_
        refine zW_lcmp dL_law_2267 (by unfold InL; omega) (by unfold InL; omega) ?_
        rw [zcmp_self]
        refine zW_if_eq (tgt := 2273) dL_law_2268 (by decide) (by first | assumption | omega | (unfold InR; omega) | (unfold InL; omega) | (simp only [InR] at *; omega)) (fun b4 => ?_) (fun b4 => ?_)
        · refine zW_goto (tgt := 3534) dL_law_2273 (by decide) ?_
          exact k σ2 _ _ _ _ _ _ hL (by show cu + 1 + 0 + 0 ≤ cu + 20; omega) (by show su + 6 + 0 + 0 ≤ su + 150; omega)
        · exact absurd rfl b4
  · exact absurd rfl b
set_option maxRecDepth 100000 in
theorem w_33_containsSubgroup (h : LHd Γ σ x y z A) (hi : i + 6 ≤ gL Γ) (hc : cu ≤ 600000) (hs : su ≤ 7200000) (k : ∀ σ' A' cu' su' z5 z6 z7, LHd Γ σ' x y z A' → cu' ≤ cu + 20 → su' ≤ su + 150 → zW Γ mLaw 3534 [some (vR (some (gb Γ))), some (vR (some x)), some (vR (some y)), some (vR (some z)), some (vI i), z5, z6, z7] [] σ' cu' su' Q) : zW Γ mLaw 2276 [some (vR (some (gb Γ))), some (vR (some x)), some (vR (some y)), some (vR (some z)), some (vI i), z5, z6, z7] [] σ cu su Q := by
  obtain ⟨a1, a2, a3, a4, a6, ⟨b4, b5⟩, a9⟩ := id h
  have hIn : ∀ j, InR (sx Γ j) := sx_in Γ
  have hr9 := a3.1.1.2
  have on := on_containsSubgroup (A := A) (g := sx Γ (i + 1)) (f := sx Γ (i + 2))
  have aoo : AO (o_containsSubgroup A (sx Γ (i + 1)) (sx Γ (i + 2))).2.2 := aq_containsSubgroup a3
  refine zW_aload_n dL_law_2276 rfl ?_
  refine zW_aload_n dL_law_2277 rfl ?_
  refine zW_iload dL_law_2278 rfl ?_
  refine zW_iconst dL_law_2280 ?_
  refine zW_iadd dL_law_2281 ?_
  refine zsI (j := i + 1) dL_law_2282 a6 (by omega) (by omega) ?_
  refine zW_aload_n dL_law_2283 rfl ?_
  refine zW_iload dL_law_2284 rfl ?_
  refine zW_iconst dL_law_2286 ?_
  refine zW_iadd dL_law_2287 ?_
  refine zsI (j := i + 2) dL_law_2288 a6 (by omega) (by omega) ?_
  refine zW_aload_n dL_law_2289 rfl ?_
  refine zcSX4 dL_law_2290 rfl eL_containsSubgroup b1044 ⟨by decide, by decide, (by show cu + 0 + 2 ≤ 601024; omega), (by show su + 0 + 12 ≤ 7293034; omega)⟩ rfl (Nat.le_of_ble_eq_true rfl) (l_containsSubgroup a1 a4 b4 (hIn _) (hIn _) (fun σ1 h1 m1 hz1 e1 => ?_))
  have r1 : RI σ1 y A := a2.out m1 (fun a g1 g2 q => by unfold lzz xr at q; omega)
  refine zW_istore dL_law_2293 (by decide) rfl rfl ?_
  refine zW_aload_n dL_law_2295 rfl ?_
  refine zW_aload_n dL_law_2296 rfl ?_
  refine zW_iload dL_law_2297 rfl ?_
  refine zW_iconst dL_law_2299 ?_
  refine zW_iadd dL_law_2300 ?_
  refine zsI (j := i + 1) dL_law_2301 a6 (by omega) (by omega) ?_
  refine zW_aload_n dL_law_2302 rfl ?_
  refine zW_iload dL_law_2303 rfl ?_
  refine zW_iconst dL_law_2305 ?_
  refine zW_iadd dL_law_2306 ?_
  refine zsI (j := i + 2) dL_law_2307 a6 (by omega) (by omega) ?_
  refine zcV2 dL_law_2308 rfl eX10_containsSubgroup b1752 ⟨by decide, by decide, (by show cu + 2 + 0 ≤ 601024; omega), (by show su + 12 + 0 ≤ 7293034; omega)⟩ rfl r1.1.1 rfl (by decide) (Nat.le_of_ble_eq_true rfl) (q_containsSubgroup r1 (hIn _) (hIn _) (fun σ2 v2 hR ht hm hv => ?_))
  generalize o_containsSubgroup A (sx Γ (i + 1)) (sx Γ (i + 2)) = o at on aoo h1 e1 hR ht hv
  have hL := h.step m1 h1 hz1 hR hm aoo
  refine zW_istore dL_law_2311 (by decide) rfl rfl ?_
  refine zW_aload_n dL_law_2313 rfl ?_
  refine zcV0 dL_law_2314 rfl eX10_thrown b1363 ⟨by decide, by decide, (by show cu + 2 + 0 + 0 ≤ 601024; omega), (by show su + 12 + 0 + 0 ≤ 7293034; omega)⟩ rfl hR.1.1 rfl (by decide) (Nat.le_of_ble_eq_true rfl) (q_thrown hR.1.1 ht ?_)
  refine zW_iload dL_law_2317 rfl ?_
  refine zW_icmp_eq (tgt := 2324) dL_law_2319 (by decide) (by first | assumption | omega | (unfold InR; omega) | (unfold InL; omega) | (simp only [InR] at *; omega)) (by first | assumption | omega | (unfold InR; omega) | (unfold InL; omega) | (simp only [InR] at *; omega)) (fun b => ?_) (fun b => ?_)
  · refine zW_iload dL_law_2324 rfl ?_
    refine zW_if_ne (tgt := 2348) dL_law_2326 (by decide) (by first | assumption | omega | (unfold InR; omega) | (unfold InL; omega) | (simp only [InR] at *; omega)) (fun b2 => ?_) (fun b2 => ?_)
    · refine zW_goto (tgt := 3534) dL_law_2348 (by decide) ?_
      exact k σ2 _ _ _ _ _ _ hL (by show cu + 2 + 0 + 0 ≤ cu + 20; omega) (by show su + 12 + 0 + 0 ≤ su + 150; omega)
    · have e0 : o.1 = 0 := by omega
      have ez : zJ σ2 z 0 = bln o.2.1 := by rw [hm.j (fun q => by unfold yr at q; omega)]; exact e1 e0
      have ev := hv e0
      have hz2 : zK σ2 z = (14, 1) := by rw [hm.K]; exact hz1
      refine zW_aload_n dL_law_2329 rfl ?_
      refine zW_iconst dL_law_2330 ?_
      refine zrJ dL_law_2331 hz2 (by first | assumption | omega | (unfold InR; omega) | (unfold InL; omega) | (simp only [InR] at *; omega)) (by first | assumption | omega | (unfold InR; omega) | (unfold InL; omega) | (simp only [InR] at *; omega)) (by first | assumption | omega | (unfold InR; omega) | (unfold InL; omega) | (simp only [InR] at *; omega)) ez ?_
      refine zW_iload dL_law_2332 rfl ?_
      rw [ev]
      refine zW_nrm ?_
      have hnr := nrm_in o.2.1
      refine zW_if_eq (tgt := 2341) dL_law_2334 (by decide) (by first | assumption | omega | (unfold InR; omega) | (unfold InL; omega) | (simp only [InR] at *; omega)) (fun b3 => ?_) (fun b3 => ?_)
      · have e4 : bln o.2.1 = 0 := if_pos b3
        rw [e4]
        refine zW_lconst dL_law_2341 (z := 0) (by decide) ?_
        refine zW_lcmp dL_law_2342 (by unfold InL; omega) (by unfold InL; omega) ?_
        rw [zcmp_self]
        refine zW_if_eq (tgt := 2348) dL_law_2343 (by decide) (by first | assumption | omega | (unfold InR; omega) | (unfold InL; omega) | (simp only [InR] at *; omega)) (fun b4 => ?_) (fun b4 => ?_)
        · refine zW_goto (tgt := 3534) dL_law_2348 (by decide) ?_
          exact k σ2 _ _ _ _ _ _ hL (by show cu + 2 + 0 + 0 ≤ cu + 20; omega) (by show su + 12 + 0 + 0 ≤ su + 150; omega)
        · exact absurd rfl b4
      · have e4 : bln o.2.1 = 1 := if_neg b3
        rw [e4]
        refine zW_lconst dL_law_2337 (z := 1) (by decide) ?_
        refine zW_goto (tgt := 2342) dL_law_2338 (by decide) ?_
        refine zW_lcmp dL_law_2342 (by unfold InL; omega) (by unfold InL; omega) ?_
        rw [zcmp_self]
        refine zW_if_eq (tgt := 2348) dL_law_2343 (by decide) (by first | assumption | omega | (unfold InR; omega) | (unfold InL; omega) | (simp only [InR] at *; omega)) (fun b4 => ?_) (fun b4 => ?_)
        · refine zW_goto (tgt := 3534) dL_law_2348 (by decide) ?_
          exact k σ2 _ _ _ _ _ _ hL (by show cu + 2 + 0 + 0 ≤ cu + 20; omega) (by show su + 12 + 0 + 0 ≤ su + 150; omega)
        · exact absurd rfl b4
  · exact absurd rfl b
set_option maxRecDepth 100000 in
theorem w_36_representativeLength (h : LHd Γ σ x y z A) (hi : i + 6 ≤ gL Γ) (hc : cu ≤ 600000) (hs : su ≤ 7200000) (k : ∀ σ' A' cu' su' z5 z6 z7, LHd Γ σ' x y z A' → cu' ≤ cu + 20 → su' ≤ su + 150 → zW Γ mLaw 3534 [some (vR (some (gb Γ))), some (vR (some x)), some (vR (some y)), some (vR (some z)), some (vI i), z5, z6, z7] [] σ' cu' su' Q) : zW Γ mLaw 2377 [some (vR (some (gb Γ))), some (vR (some x)), some (vR (some y)), some (vR (some z)), some (vI i), z5, z6, z7] [] σ cu su Q := by
  obtain ⟨a1, a2, a3, a4, a6, ⟨b4, b5⟩, a9⟩ := id h
  have hIn : ∀ j, InR (sx Γ j) := sx_in Γ
  have hr9 := a3.1.1.2
  have on := on_representativeLength (A := A) (g := sx Γ (i + 1)) (v := sx Γ (i + 2))
  have aoo : AO (o_representativeLength A (sx Γ (i + 1)) (sx Γ (i + 2))).2.2 := aq_representativeLength a3
  refine zW_aload_n dL_law_2377 rfl ?_
  refine zW_aload_n dL_law_2378 rfl ?_
  refine zW_iload dL_law_2379 rfl ?_
  refine zW_iconst dL_law_2381 ?_
  refine zW_iadd dL_law_2382 ?_
  refine zsI (j := i + 1) dL_law_2383 a6 (by omega) (by omega) ?_
  refine zW_aload_n dL_law_2384 rfl ?_
  refine zW_iload dL_law_2385 rfl ?_
  refine zW_iconst dL_law_2387 ?_
  refine zW_iadd dL_law_2388 ?_
  refine zsI (j := i + 2) dL_law_2389 a6 (by omega) (by omega) ?_
  refine zW_aload_n dL_law_2390 rfl ?_
  refine zcSX4 dL_law_2391 rfl eL_representativeLength b1051 ⟨by decide, by decide, (by show cu + 0 + 2 ≤ 601024; omega), (by show su + 0 + 12 ≤ 7293034; omega)⟩ rfl (Nat.le_of_ble_eq_true rfl) (l_representativeLength a1 a4 b4 (hIn _) (hIn _) (fun σ1 h1 m1 hz1 e1 => ?_))
  have r1 : RI σ1 y A := a2.out m1 (fun a g1 g2 q => by unfold lzz xr at q; omega)
  refine zW_istore dL_law_2394 (by decide) rfl rfl ?_
  refine zW_aload_n dL_law_2396 rfl ?_
  refine zW_aload_n dL_law_2397 rfl ?_
  refine zW_iload dL_law_2398 rfl ?_
  refine zW_iconst dL_law_2400 ?_
  refine zW_iadd dL_law_2401 ?_
  refine zsI (j := i + 1) dL_law_2402 a6 (by omega) (by omega) ?_
  refine zW_aload_n dL_law_2403 rfl ?_
  refine zW_iload dL_law_2404 rfl ?_
  refine zW_iconst dL_law_2406 ?_
  refine zW_iadd dL_law_2407 ?_
  refine zsI (j := i + 2) dL_law_2408 a6 (by omega) (by omega) ?_
  refine zcV2 dL_law_2409 rfl eX10_representativeLength b1768 ⟨by decide, by decide, (by show cu + 2 + 0 ≤ 601024; omega), (by show su + 12 + 0 ≤ 7293034; omega)⟩ rfl r1.1.1 rfl (by decide) (Nat.le_of_ble_eq_true rfl) (q_representativeLength r1 (hIn _) (hIn _) (fun σ2 v2 hR ht hm hv => ?_))
  generalize o_representativeLength A (sx Γ (i + 1)) (sx Γ (i + 2)) = o at on aoo h1 e1 hR ht hv
  have hL := h.step m1 h1 hz1 hR hm aoo
  refine zW_istore dL_law_2412 (by decide) rfl rfl ?_
  refine zW_aload_n dL_law_2414 rfl ?_
  refine zcV0 dL_law_2415 rfl eX10_thrown b1363 ⟨by decide, by decide, (by show cu + 2 + 0 + 0 ≤ 601024; omega), (by show su + 12 + 0 + 0 ≤ 7293034; omega)⟩ rfl hR.1.1 rfl (by decide) (Nat.le_of_ble_eq_true rfl) (q_thrown hR.1.1 ht ?_)
  refine zW_iload dL_law_2418 rfl ?_
  refine zW_icmp_eq (tgt := 2425) dL_law_2420 (by decide) (by first | assumption | omega | (unfold InR; omega) | (unfold InL; omega) | (simp only [InR] at *; omega)) (by first | assumption | omega | (unfold InR; omega) | (unfold InL; omega) | (simp only [InR] at *; omega)) (fun b => ?_) (fun b => ?_)
  · refine zW_iload dL_law_2425 rfl ?_
    refine zW_if_ne (tgt := 2442) dL_law_2427 (by decide) (by first | assumption | omega | (unfold InR; omega) | (unfold InL; omega) | (simp only [InR] at *; omega)) (fun b2 => ?_) (fun b2 => ?_)
    · refine zW_goto (tgt := 3534) dL_law_2442 (by decide) ?_
      exact k σ2 _ _ _ _ _ _ hL (by show cu + 2 + 0 + 0 ≤ cu + 20; omega) (by show su + 12 + 0 + 0 ≤ su + 150; omega)
    · have e0 : o.1 = 0 := by omega
      have ez : zJ σ2 z 0 = nrm o.2.1 := by rw [hm.j (fun q => by unfold yr at q; omega)]; exact e1 e0
      have ev := hv e0
      have hz2 : zK σ2 z = (14, 1) := by rw [hm.K]; exact hz1
      have hJ : InL (nrm o.2.1) := by have := nrm_in o.2.1; unfold InR at this; unfold InL; omega
      refine zW_aload_n dL_law_2430 rfl ?_
      refine zW_iconst dL_law_2431 ?_
      refine zrJ dL_law_2432 hz2 (by first | assumption | omega | (unfold InR; omega) | (unfold InL; omega) | (simp only [InR] at *; omega)) (by first | assumption | omega | (unfold InR; omega) | (unfold InL; omega) | (simp only [InR] at *; omega)) (by first | assumption | omega | (unfold InR; omega) | (unfold InL; omega) | (simp only [InR] at *; omega)) ez ?_
      refine zW_iload dL_law_2433 rfl ?_
      rw [ev]
      refine zW_nrm ?_
      refine zW_i2l dL_law_2435 (nrm_in _) ?_
      refine zW_lcmp dL_law_2436 hJ hJ ?_
      rw [zcmp_self]
      refine zW_if_eq (tgt := 2442) dL_law_2437 (by decide) (by first | assumption | omega | (unfold InR; omega) | (unfold InL; omega) | (simp only [InR] at *; omega)) (fun b4 => ?_) (fun b4 => ?_)
      · refine zW_goto (tgt := 3534) dL_law_2442 (by decide) ?_
        exact k σ2 _ _ _ _ _ _ hL (by show cu + 2 + 0 + 0 ≤ cu + 20; omega) (by show su + 12 + 0 + 0 ≤ su + 150; omega)
      · exact absurd rfl b4
  · exact absurd rfl b
set_option maxRecDepth 100000 in
theorem w_37_setRegister (h : LHd Γ σ x y z A) (hi : i + 6 ≤ gL Γ) (hc : cu ≤ 600000) (hs : su ≤ 7200000) (k : ∀ σ' A' cu' su' z5 z6 z7, LHd Γ σ' x y z A' → cu' ≤ cu + 20 → su' ≤ su + 150 → zW Γ mLaw 3534 [some (vR (some (gb Γ))), some (vR (some x)), some (vR (some y)), some (vR (some z)), some (vI i), z5, z6, z7] [] σ' cu' su' Q) : zW Γ mLaw 2445 [some (vR (some (gb Γ))), some (vR (some x)), some (vR (some y)), some (vR (some z)), some (vI i), z5, z6, z7] [] σ cu su Q := by
  obtain ⟨a1, a2, a3, a4, a6, ⟨b4, b5⟩, a9⟩ := id h
  have hIn : ∀ j, InR (sx Γ j) := sx_in Γ
  have hr9 := a3.1.1.2
  have on := on_setRegister (A := A) (p := sx Γ (i + 1))
  have aoo := ao_setRegister (A := A) (p := sx Γ (i + 1)) a3
  refine zW_aload_n dL_law_2445 rfl ?_
  refine zW_aload_n dL_law_2446 rfl ?_
  refine zW_iload dL_law_2447 rfl ?_
  refine zW_iconst dL_law_2449 ?_
  refine zW_iadd dL_law_2450 ?_
  refine zsI (j := i + 1) dL_law_2451 a6 (by omega) (by omega) ?_
  refine zW_aload_n dL_law_2452 rfl ?_
  refine zcSX3 dL_law_2453 rfl eL_setRegister b1058 ⟨by decide, by decide, (by show cu + 0 + 3 ≤ 601024; omega), (by show su + 0 + 18 ≤ 7293034; omega)⟩ rfl (Nat.le_of_ble_eq_true rfl) (l_setRegister a1 a4 b4 (hIn _) hr9 (fun σ1 h1 m1 hz1 e1 => ?_))
  have r1 : RI σ1 y A := a2.out m1 (fun a g1 g2 q => by unfold lzz xr at q; omega)
  refine zW_istore dL_law_2456 (by decide) rfl rfl ?_
  refine zW_aload_n dL_law_2458 rfl ?_
  refine zW_aload_n dL_law_2459 rfl ?_
  refine zW_iload dL_law_2460 rfl ?_
  refine zW_iconst dL_law_2462 ?_
  refine zW_iadd dL_law_2463 ?_
  refine zsI (j := i + 1) dL_law_2464 a6 (by omega) (by omega) ?_
  refine zcV1 dL_law_2465 rfl eX10_setRegister b1776 ⟨by decide, by decide, (by show cu + 3 + 0 ≤ 601024; omega), (by show su + 18 + 0 ≤ 7293034; omega)⟩ rfl r1.1.1 rfl (by decide) (Nat.le_of_ble_eq_true rfl) (q_setRegister r1 (hIn _) a3 (fun σ2 v2 hR ht hm hv => ?_))
  generalize o_setRegister A (sx Γ (i + 1)) = o at on aoo h1 e1 hR ht hv
  have hL := h.step m1 h1 hz1 hR hm aoo
  refine zW_istore dL_law_2468 (by decide) rfl rfl ?_
  refine zW_aload_n dL_law_2470 rfl ?_
  refine zcV0 dL_law_2471 rfl eX10_thrown b1363 ⟨by decide, by decide, (by show cu + 3 + 0 + 0 ≤ 601024; omega), (by show su + 18 + 0 + 0 ≤ 7293034; omega)⟩ rfl hR.1.1 rfl (by decide) (Nat.le_of_ble_eq_true rfl) (q_thrown hR.1.1 ht ?_)
  refine zW_iload dL_law_2474 rfl ?_
  refine zW_icmp_eq (tgt := 2481) dL_law_2476 (by decide) (by first | assumption | omega | (unfold InR; omega) | (unfold InL; omega) | (simp only [InR] at *; omega)) (by first | assumption | omega | (unfold InR; omega) | (unfold InL; omega) | (simp only [InR] at *; omega)) (fun b => ?_) (fun b => ?_)
  · refine zW_iload dL_law_2481 rfl ?_
    refine zW_if_ne (tgt := 2498) dL_law_2483 (by decide) (by first | assumption | omega | (unfold InR; omega) | (unfold InL; omega) | (simp only [InR] at *; omega)) (fun b2 => ?_) (fun b2 => ?_)
    · refine zW_goto (tgt := 3534) dL_law_2498 (by decide) ?_
      exact k σ2 _ _ _ _ _ _ hL (by show cu + 3 + 0 + 0 ≤ cu + 20; omega) (by show su + 18 + 0 + 0 ≤ su + 150; omega)
    · have e0 : o.1 = 0 := by omega
      have ez : zJ σ2 z 0 = nrm o.2.1 := by rw [hm.j (fun q => by unfold yr at q; omega)]; exact e1 e0
      have ev := hv e0
      have hz2 : zK σ2 z = (14, 1) := by rw [hm.K]; exact hz1
      have hJ : InL (nrm o.2.1) := by have := nrm_in o.2.1; unfold InR at this; unfold InL; omega
      refine zW_aload_n dL_law_2486 rfl ?_
      refine zW_iconst dL_law_2487 ?_
      refine zrJ dL_law_2488 hz2 (by first | assumption | omega | (unfold InR; omega) | (unfold InL; omega) | (simp only [InR] at *; omega)) (by first | assumption | omega | (unfold InR; omega) | (unfold InL; omega) | (simp only [InR] at *; omega)) (by first | assumption | omega | (unfold InR; omega) | (unfold InL; omega) | (simp only [InR] at *; omega)) ez ?_
      refine zW_iload dL_law_2489 rfl ?_
      rw [ev]
      refine zW_nrm ?_
      refine zW_i2l dL_law_2491 (nrm_in _) ?_
      refine zW_lcmp dL_law_2492 hJ hJ ?_
      rw [zcmp_self]
      refine zW_if_eq (tgt := 2498) dL_law_2493 (by decide) (by first | assumption | omega | (unfold InR; omega) | (unfold InL; omega) | (simp only [InR] at *; omega)) (fun b4 => ?_) (fun b4 => ?_)
      · refine zW_goto (tgt := 3534) dL_law_2498 (by decide) ?_
        exact k σ2 _ _ _ _ _ _ hL (by show cu + 3 + 0 + 0 ≤ cu + 20; omega) (by show su + 18 + 0 + 0 ≤ su + 150; omega)
      · exact absurd rfl b4
  · exact absurd rfl b
set_option maxRecDepth 100000 in
theorem w_38_setProduct (h : LHd Γ σ x y z A) (hi : i + 6 ≤ gL Γ) (hc : cu ≤ 600000) (hs : su ≤ 7200000) (k : ∀ σ' A' cu' su' z5 z6 z7, LHd Γ σ' x y z A' → cu' ≤ cu + 20 → su' ≤ su + 150 → zW Γ mLaw 3534 [some (vR (some (gb Γ))), some (vR (some x)), some (vR (some y)), some (vR (some z)), some (vI i), z5, z6, z7] [] σ' cu' su' Q) : zW Γ mLaw 2501 [some (vR (some (gb Γ))), some (vR (some x)), some (vR (some y)), some (vR (some z)), some (vI i), z5, z6, z7] [] σ cu su Q := by
  obtain ⟨a1, a2, a3, a4, a6, ⟨b4, b5⟩, a9⟩ := id h
  have hIn : ∀ j, InR (sx Γ j) := sx_in Γ
  have hr9 := a3.1.1.2
  have on := on_setProduct (A := A) (p := sx Γ (i + 1)) (r := sx Γ (i + 2)) (s := sx Γ (i + 3))
  have aoo := ao_setProduct (A := A) (p := sx Γ (i + 1)) (r := sx Γ (i + 2)) (s := sx Γ (i + 3)) a3
  refine zW_aload_n dL_law_2501 rfl ?_
  refine zW_aload_n dL_law_2502 rfl ?_
  refine zW_iload dL_law_2503 rfl ?_
  refine zW_iconst dL_law_2505 ?_
  refine zW_iadd dL_law_2506 ?_
  refine zsI (j := i + 1) dL_law_2507 a6 (by omega) (by omega) ?_
  refine zW_aload_n dL_law_2508 rfl ?_
  refine zW_iload dL_law_2509 rfl ?_
  refine zW_iconst dL_law_2511 ?_
  refine zW_iadd dL_law_2512 ?_
  refine zsI (j := i + 2) dL_law_2513 a6 (by omega) (by omega) ?_
  refine zW_aload_n dL_law_2514 rfl ?_
  refine zW_iload dL_law_2515 rfl ?_
  refine zW_iconst dL_law_2517 ?_
  refine zW_iadd dL_law_2518 ?_
  refine zsI (j := i + 3) dL_law_2519 a6 (by omega) (by omega) ?_
  refine zW_aload_n dL_law_2520 rfl ?_
  refine zcSX5 dL_law_2521 rfl eL_setProduct b1080 ⟨by decide, by decide, (by show cu + 0 + 4 ≤ 601024; omega), (by show su + 0 + 24 ≤ 7293034; omega)⟩ rfl (Nat.le_of_ble_eq_true rfl) (l_setProduct a1 a4 b4 (hIn _) (hIn _) (hIn _) (fun σ1 h1 m1 hz1 e1 => ?_))
  have r1 : RI σ1 y A := a2.out m1 (fun a g1 g2 q => by unfold lzz xr at q; omega)
  refine zW_istore dL_law_2524 (by decide) rfl rfl ?_
  refine zW_aload_n dL_law_2526 rfl ?_
  refine zW_aload_n dL_law_2527 rfl ?_
  refine zW_iload dL_law_2528 rfl ?_
  refine zW_iconst dL_law_2530 ?_
  refine zW_iadd dL_law_2531 ?_
  refine zsI (j := i + 1) dL_law_2532 a6 (by omega) (by omega) ?_
  refine zW_aload_n dL_law_2533 rfl ?_
  refine zW_iload dL_law_2534 rfl ?_
  refine zW_iconst dL_law_2536 ?_
  refine zW_iadd dL_law_2537 ?_
  refine zsI (j := i + 2) dL_law_2538 a6 (by omega) (by omega) ?_
  refine zW_aload_n dL_law_2539 rfl ?_
  refine zW_iload dL_law_2540 rfl ?_
  refine zW_iconst dL_law_2542 ?_
  refine zW_iadd dL_law_2543 ?_
  refine zsI (j := i + 3) dL_law_2544 a6 (by omega) (by omega) ?_
  refine zcV3 dL_law_2545 rfl eX10_setProduct b1788 ⟨by decide, by decide, (by show cu + 4 + 0 ≤ 601024; omega), (by show su + 24 + 0 ≤ 7293034; omega)⟩ rfl r1.1.1 rfl (by decide) (Nat.le_of_ble_eq_true rfl) (q_setProduct r1 (hIn _) (hIn _) (hIn _) (fun σ2 v2 hR ht hm hv => ?_))
  generalize o_setProduct A (sx Γ (i + 1)) (sx Γ (i + 2)) (sx Γ (i + 3)) = o at on aoo h1 e1 hR ht hv
  have hL := h.step m1 h1 hz1 hR hm aoo
  refine zW_istore dL_law_2548 (by decide) rfl rfl ?_
  refine zW_aload_n dL_law_2550 rfl ?_
  refine zcV0 dL_law_2551 rfl eX10_thrown b1363 ⟨by decide, by decide, (by show cu + 4 + 0 + 0 ≤ 601024; omega), (by show su + 24 + 0 + 0 ≤ 7293034; omega)⟩ rfl hR.1.1 rfl (by decide) (Nat.le_of_ble_eq_true rfl) (q_thrown hR.1.1 ht ?_)
  refine zW_iload dL_law_2554 rfl ?_
  refine zW_icmp_eq (tgt := 2561) dL_law_2556 (by decide) (by first | assumption | omega | (unfold InR; omega) | (unfold InL; omega) | (simp only [InR] at *; omega)) (by first | assumption | omega | (unfold InR; omega) | (unfold InL; omega) | (simp only [InR] at *; omega)) (fun b => ?_) (fun b => ?_)
  · refine zW_iload dL_law_2561 rfl ?_
    refine zW_if_ne (tgt := 2578) dL_law_2563 (by decide) (by first | assumption | omega | (unfold InR; omega) | (unfold InL; omega) | (simp only [InR] at *; omega)) (fun b2 => ?_) (fun b2 => ?_)
    · refine zW_goto (tgt := 3534) dL_law_2578 (by decide) ?_
      exact k σ2 _ _ _ _ _ _ hL (by show cu + 4 + 0 + 0 ≤ cu + 20; omega) (by show su + 24 + 0 + 0 ≤ su + 150; omega)
    · have e0 : o.1 = 0 := by omega
      have ez : zJ σ2 z 0 = nrm o.2.1 := by rw [hm.j (fun q => by unfold yr at q; omega)]; exact e1 e0
      have ev := hv e0
      have hz2 : zK σ2 z = (14, 1) := by rw [hm.K]; exact hz1
      have hJ : InL (nrm o.2.1) := by have := nrm_in o.2.1; unfold InR at this; unfold InL; omega
      refine zW_aload_n dL_law_2566 rfl ?_
      refine zW_iconst dL_law_2567 ?_
      refine zrJ dL_law_2568 hz2 (by first | assumption | omega | (unfold InR; omega) | (unfold InL; omega) | (simp only [InR] at *; omega)) (by first | assumption | omega | (unfold InR; omega) | (unfold InL; omega) | (simp only [InR] at *; omega)) (by first | assumption | omega | (unfold InR; omega) | (unfold InL; omega) | (simp only [InR] at *; omega)) ez ?_
      refine zW_iload dL_law_2569 rfl ?_
      rw [ev]
      refine zW_nrm ?_
      refine zW_i2l dL_law_2571 (nrm_in _) ?_
      refine zW_lcmp dL_law_2572 hJ hJ ?_
      rw [zcmp_self]
      refine zW_if_eq (tgt := 2578) dL_law_2573 (by decide) (by first | assumption | omega | (unfold InR; omega) | (unfold InL; omega) | (simp only [InR] at *; omega)) (fun b4 => ?_) (fun b4 => ?_)
      · refine zW_goto (tgt := 3534) dL_law_2578 (by decide) ?_
        exact k σ2 _ _ _ _ _ _ hL (by show cu + 4 + 0 + 0 ≤ cu + 20; omega) (by show su + 24 + 0 + 0 ≤ su + 150; omega)
      · exact absurd rfl b4
  · exact absurd rfl b
set_option maxRecDepth 100000 in
theorem w_39_setInverse (h : LHd Γ σ x y z A) (hi : i + 6 ≤ gL Γ) (hc : cu ≤ 600000) (hs : su ≤ 7200000) (k : ∀ σ' A' cu' su' z5 z6 z7, LHd Γ σ' x y z A' → cu' ≤ cu + 20 → su' ≤ su + 150 → zW Γ mLaw 3534 [some (vR (some (gb Γ))), some (vR (some x)), some (vR (some y)), some (vR (some z)), some (vI i), z5, z6, z7] [] σ' cu' su' Q) : zW Γ mLaw 2581 [some (vR (some (gb Γ))), some (vR (some x)), some (vR (some y)), some (vR (some z)), some (vI i), z5, z6, z7] [] σ cu su Q := by
  obtain ⟨a1, a2, a3, a4, a6, ⟨b4, b5⟩, a9⟩ := id h
  have hIn : ∀ j, InR (sx Γ j) := sx_in Γ
  have hr9 := a3.1.1.2
  have on := on_setInverse (A := A) (p := sx Γ (i + 1)) (r := sx Γ (i + 2)) (fun kr => (a1.rw kr).cap)
  have aoo := ao_setInverse (A := A) (p := sx Γ (i + 1)) (r := sx Γ (i + 2)) a3
  refine zW_aload_n dL_law_2581 rfl ?_
  refine zW_aload_n dL_law_2582 rfl ?_
  refine zW_iload dL_law_2583 rfl ?_
  refine zW_iconst dL_law_2585 ?_
  refine zW_iadd dL_law_2586 ?_
  refine zsI (j := i + 1) dL_law_2587 a6 (by omega) (by omega) ?_
  refine zW_aload_n dL_law_2588 rfl ?_
  refine zW_iload dL_law_2589 rfl ?_
  refine zW_iconst dL_law_2591 ?_
  refine zW_iadd dL_law_2592 ?_
  refine zsI (j := i + 2) dL_law_2593 a6 (by omega) (by omega) ?_
  refine zW_aload_n dL_law_2594 rfl ?_
  refine zcSX4 dL_law_2595 rfl eL_setInverse b1087 ⟨by decide, by decide, (by show cu + 0 + 3 ≤ 601024; omega), (by show su + 0 + 18 ≤ 7293034; omega)⟩ rfl (Nat.le_of_ble_eq_true rfl) (l_setInverse a1 a4 b4 (hIn _) (hIn _) (fun σ1 h1 m1 hz1 e1 => ?_))
  have r1 : RI σ1 y A := a2.out m1 (fun a g1 g2 q => by unfold lzz xr at q; omega)
  refine zW_istore dL_law_2598 (by decide) rfl rfl ?_
  refine zW_aload_n dL_law_2600 rfl ?_
  refine zW_aload_n dL_law_2601 rfl ?_
  refine zW_iload dL_law_2602 rfl ?_
  refine zW_iconst dL_law_2604 ?_
  refine zW_iadd dL_law_2605 ?_
  refine zsI (j := i + 1) dL_law_2606 a6 (by omega) (by omega) ?_
  refine zW_aload_n dL_law_2607 rfl ?_
  refine zW_iload dL_law_2608 rfl ?_
  refine zW_iconst dL_law_2610 ?_
  refine zW_iadd dL_law_2611 ?_
  refine zsI (j := i + 2) dL_law_2612 a6 (by omega) (by omega) ?_
  refine zcV2 dL_law_2613 rfl eX10_setInverse b1792 ⟨by decide, by decide, (by show cu + 3 + 0 ≤ 601024; omega), (by show su + 18 + 0 ≤ 7293034; omega)⟩ rfl r1.1.1 rfl (by decide) (Nat.le_of_ble_eq_true rfl) (q_setInverse r1 (hIn _) (hIn _) (fun σ2 v2 hR ht hm hv => ?_))
  generalize o_setInverse A (sx Γ (i + 1)) (sx Γ (i + 2)) = o at on aoo h1 e1 hR ht hv
  have hL := h.step m1 h1 hz1 hR hm aoo
  refine zW_istore dL_law_2616 (by decide) rfl rfl ?_
  refine zW_aload_n dL_law_2618 rfl ?_
  refine zcV0 dL_law_2619 rfl eX10_thrown b1363 ⟨by decide, by decide, (by show cu + 3 + 0 + 0 ≤ 601024; omega), (by show su + 18 + 0 + 0 ≤ 7293034; omega)⟩ rfl hR.1.1 rfl (by decide) (Nat.le_of_ble_eq_true rfl) (q_thrown hR.1.1 ht ?_)
  refine zW_iload dL_law_2622 rfl ?_
  refine zW_icmp_eq (tgt := 2629) dL_law_2624 (by decide) (by first | assumption | omega | (unfold InR; omega) | (unfold InL; omega) | (simp only [InR] at *; omega)) (by first | assumption | omega | (unfold InR; omega) | (unfold InL; omega) | (simp only [InR] at *; omega)) (fun b => ?_) (fun b => ?_)
  · refine zW_iload dL_law_2629 rfl ?_
    refine zW_if_ne (tgt := 2646) dL_law_2631 (by decide) (by first | assumption | omega | (unfold InR; omega) | (unfold InL; omega) | (simp only [InR] at *; omega)) (fun b2 => ?_) (fun b2 => ?_)
    · refine zW_goto (tgt := 3534) dL_law_2646 (by decide) ?_
      exact k σ2 _ _ _ _ _ _ hL (by show cu + 3 + 0 + 0 ≤ cu + 20; omega) (by show su + 18 + 0 + 0 ≤ su + 150; omega)
    · have e0 : o.1 = 0 := by omega
      have ez : zJ σ2 z 0 = nrm o.2.1 := by rw [hm.j (fun q => by unfold yr at q; omega)]; exact e1 e0
      have ev := hv e0
      have hz2 : zK σ2 z = (14, 1) := by rw [hm.K]; exact hz1
      have hJ : InL (nrm o.2.1) := by have := nrm_in o.2.1; unfold InR at this; unfold InL; omega
      refine zW_aload_n dL_law_2634 rfl ?_
      refine zW_iconst dL_law_2635 ?_
      refine zrJ dL_law_2636 hz2 (by first | assumption | omega | (unfold InR; omega) | (unfold InL; omega) | (simp only [InR] at *; omega)) (by first | assumption | omega | (unfold InR; omega) | (unfold InL; omega) | (simp only [InR] at *; omega)) (by first | assumption | omega | (unfold InR; omega) | (unfold InL; omega) | (simp only [InR] at *; omega)) ez ?_
      refine zW_iload dL_law_2637 rfl ?_
      rw [ev]
      refine zW_nrm ?_
      refine zW_i2l dL_law_2639 (nrm_in _) ?_
      refine zW_lcmp dL_law_2640 hJ hJ ?_
      rw [zcmp_self]
      refine zW_if_eq (tgt := 2646) dL_law_2641 (by decide) (by first | assumption | omega | (unfold InR; omega) | (unfold InL; omega) | (simp only [InR] at *; omega)) (fun b4 => ?_) (fun b4 => ?_)
      · refine zW_goto (tgt := 3534) dL_law_2646 (by decide) ?_
        exact k σ2 _ _ _ _ _ _ hL (by show cu + 3 + 0 + 0 ≤ cu + 20; omega) (by show su + 18 + 0 + 0 ≤ su + 150; omega)
      · exact absurd rfl b4
  · exact absurd rfl b
set_option maxRecDepth 100000 in
theorem w_40_setConjugate (h : LHd Γ σ x y z A) (hi : i + 6 ≤ gL Γ) (hc : cu ≤ 600000) (hs : su ≤ 7200000) (k : ∀ σ' A' cu' su' z5 z6 z7, LHd Γ σ' x y z A' → cu' ≤ cu + 20 → su' ≤ su + 150 → zW Γ mLaw 3534 [some (vR (some (gb Γ))), some (vR (some x)), some (vR (some y)), some (vR (some z)), some (vI i), z5, z6, z7] [] σ' cu' su' Q) : zW Γ mLaw 2649 [some (vR (some (gb Γ))), some (vR (some x)), some (vR (some y)), some (vR (some z)), some (vI i), z5, z6, z7] [] σ cu su Q := by
  obtain ⟨a1, a2, a3, a4, a6, ⟨b4, b5⟩, a9⟩ := id h
  have hIn : ∀ j, InR (sx Γ j) := sx_in Γ
  have hr9 := a3.1.1.2
  have on := on_setConjugate (A := A) (p := sx Γ (i + 1)) (r := sx Γ (i + 2)) (s := sx Γ (i + 3))
  have aoo := ao_setConjugate (A := A) (p := sx Γ (i + 1)) (r := sx Γ (i + 2)) (s := sx Γ (i + 3)) a3
  refine zW_aload_n dL_law_2649 rfl ?_
  refine zW_aload_n dL_law_2650 rfl ?_
  refine zW_iload dL_law_2651 rfl ?_
  refine zW_iconst dL_law_2653 ?_
  refine zW_iadd dL_law_2654 ?_
  refine zsI (j := i + 1) dL_law_2655 a6 (by omega) (by omega) ?_
  refine zW_aload_n dL_law_2656 rfl ?_
  refine zW_iload dL_law_2657 rfl ?_
  refine zW_iconst dL_law_2659 ?_
  refine zW_iadd dL_law_2660 ?_
  refine zsI (j := i + 2) dL_law_2661 a6 (by omega) (by omega) ?_
  refine zW_aload_n dL_law_2662 rfl ?_
  refine zW_iload dL_law_2663 rfl ?_
  refine zW_iconst dL_law_2665 ?_
  refine zW_iadd dL_law_2666 ?_
  refine zsI (j := i + 3) dL_law_2667 a6 (by omega) (by omega) ?_
  refine zW_aload_n dL_law_2668 rfl ?_
  refine zcSX5 dL_law_2669 rfl eL_setConjugate b1094 ⟨by decide, by decide, (by show cu + 0 + 4 ≤ 601024; omega), (by show su + 0 + 24 ≤ 7293034; omega)⟩ rfl (Nat.le_of_ble_eq_true rfl) (l_setConjugate a1 a4 b4 (hIn _) (hIn _) (hIn _) (fun σ1 h1 m1 hz1 e1 => ?_))
  have r1 : RI σ1 y A := a2.out m1 (fun a g1 g2 q => by unfold lzz xr at q; omega)
  refine zW_istore dL_law_2672 (by decide) rfl rfl ?_
  refine zW_aload_n dL_law_2674 rfl ?_
  refine zW_aload_n dL_law_2675 rfl ?_
  refine zW_iload dL_law_2676 rfl ?_
  refine zW_iconst dL_law_2678 ?_
  refine zW_iadd dL_law_2679 ?_
  refine zsI (j := i + 1) dL_law_2680 a6 (by omega) (by omega) ?_
  refine zW_aload_n dL_law_2681 rfl ?_
  refine zW_iload dL_law_2682 rfl ?_
  refine zW_iconst dL_law_2684 ?_
  refine zW_iadd dL_law_2685 ?_
  refine zsI (j := i + 2) dL_law_2686 a6 (by omega) (by omega) ?_
  refine zW_aload_n dL_law_2687 rfl ?_
  refine zW_iload dL_law_2688 rfl ?_
  refine zW_iconst dL_law_2690 ?_
  refine zW_iadd dL_law_2691 ?_
  refine zsI (j := i + 3) dL_law_2692 a6 (by omega) (by omega) ?_
  refine zcV3 dL_law_2693 rfl eX10_setConjugate b1800 ⟨by decide, by decide, (by show cu + 4 + 0 ≤ 601024; omega), (by show su + 24 + 0 ≤ 7293034; omega)⟩ rfl r1.1.1 rfl (by decide) (Nat.le_of_ble_eq_true rfl) (q_setConjugate r1 (hIn _) (hIn _) (hIn _) (fun σ2 v2 hR ht hm hv => ?_))
  generalize o_setConjugate A (sx Γ (i + 1)) (sx Γ (i + 2)) (sx Γ (i + 3)) = o at on aoo h1 e1 hR ht hv
  have hL := h.step m1 h1 hz1 hR hm aoo
  refine zW_istore dL_law_2696 (by decide) rfl rfl ?_
  refine zW_aload_n dL_law_2698 rfl ?_
  refine zcV0 dL_law_2699 rfl eX10_thrown b1363 ⟨by decide, by decide, (by show cu + 4 + 0 + 0 ≤ 601024; omega), (by show su + 24 + 0 + 0 ≤ 7293034; omega)⟩ rfl hR.1.1 rfl (by decide) (Nat.le_of_ble_eq_true rfl) (q_thrown hR.1.1 ht ?_)
  refine zW_iload dL_law_2702 rfl ?_
  refine zW_icmp_eq (tgt := 2709) dL_law_2704 (by decide) (by first | assumption | omega | (unfold InR; omega) | (unfold InL; omega) | (simp only [InR] at *; omega)) (by first | assumption | omega | (unfold InR; omega) | (unfold InL; omega) | (simp only [InR] at *; omega)) (fun b => ?_) (fun b => ?_)
  · refine zW_iload dL_law_2709 rfl ?_
    refine zW_if_ne (tgt := 2726) dL_law_2711 (by decide) (by first | assumption | omega | (unfold InR; omega) | (unfold InL; omega) | (simp only [InR] at *; omega)) (fun b2 => ?_) (fun b2 => ?_)
    · refine zW_goto (tgt := 3534) dL_law_2726 (by decide) ?_
      exact k σ2 _ _ _ _ _ _ hL (by show cu + 4 + 0 + 0 ≤ cu + 20; omega) (by show su + 24 + 0 + 0 ≤ su + 150; omega)
    · have e0 : o.1 = 0 := by omega
      have ez : zJ σ2 z 0 = nrm o.2.1 := by rw [hm.j (fun q => by unfold yr at q; omega)]; exact e1 e0
      have ev := hv e0
      have hz2 : zK σ2 z = (14, 1) := by rw [hm.K]; exact hz1
      have hJ : InL (nrm o.2.1) := by have := nrm_in o.2.1; unfold InR at this; unfold InL; omega
      refine zW_aload_n dL_law_2714 rfl ?_
      refine zW_iconst dL_law_2715 ?_
      refine zrJ dL_law_2716 hz2 (by first | assumption | omega | (unfold InR; omega) | (unfold InL; omega) | (simp only [InR] at *; omega)) (by first | assumption | omega | (unfold InR; omega) | (unfold InL; omega) | (simp only [InR] at *; omega)) (by first | assumption | omega | (unfold InR; omega) | (unfold InL; omega) | (simp only [InR] at *; omega)) ez ?_
      refine zW_iload dL_law_2717 rfl ?_
      rw [ev]
      refine zW_nrm ?_
      refine zW_i2l dL_law_2719 (nrm_in _) ?_
      refine zW_lcmp dL_law_2720 hJ hJ ?_
      rw [zcmp_self]
      refine zW_if_eq (tgt := 2726) dL_law_2721 (by decide) (by first | assumption | omega | (unfold InR; omega) | (unfold InL; omega) | (simp only [InR] at *; omega)) (fun b4 => ?_) (fun b4 => ?_)
      · refine zW_goto (tgt := 3534) dL_law_2726 (by decide) ?_
        exact k σ2 _ _ _ _ _ _ hL (by show cu + 4 + 0 + 0 ≤ cu + 20; omega) (by show su + 24 + 0 + 0 ≤ su + 150; omega)
      · exact absurd rfl b4
  · exact absurd rfl b
set_option maxRecDepth 100000 in
theorem w_41_setCommutator (h : LHd Γ σ x y z A) (hi : i + 6 ≤ gL Γ) (hc : cu ≤ 600000) (hs : su ≤ 7200000) (k : ∀ σ' A' cu' su' z5 z6 z7, LHd Γ σ' x y z A' → cu' ≤ cu + 20 → su' ≤ su + 150 → zW Γ mLaw 3534 [some (vR (some (gb Γ))), some (vR (some x)), some (vR (some y)), some (vR (some z)), some (vI i), z5, z6, z7] [] σ' cu' su' Q) : zW Γ mLaw 2729 [some (vR (some (gb Γ))), some (vR (some x)), some (vR (some y)), some (vR (some z)), some (vI i), z5, z6, z7] [] σ cu su Q := by
  obtain ⟨a1, a2, a3, a4, a6, ⟨b4, b5⟩, a9⟩ := id h
  have hIn : ∀ j, InR (sx Γ j) := sx_in Γ
  have hr9 := a3.1.1.2
  have on := on_setCommutator (A := A) (p := sx Γ (i + 1)) (r := sx Γ (i + 2)) (s := sx Γ (i + 3))
  have aoo := ao_setCommutator (A := A) (p := sx Γ (i + 1)) (r := sx Γ (i + 2)) (s := sx Γ (i + 3)) a3
  refine zW_aload_n dL_law_2729 rfl ?_
  refine zW_aload_n dL_law_2730 rfl ?_
  refine zW_iload dL_law_2731 rfl ?_
  refine zW_iconst dL_law_2733 ?_
  refine zW_iadd dL_law_2734 ?_
  refine zsI (j := i + 1) dL_law_2735 a6 (by omega) (by omega) ?_
  refine zW_aload_n dL_law_2736 rfl ?_
  refine zW_iload dL_law_2737 rfl ?_
  refine zW_iconst dL_law_2739 ?_
  refine zW_iadd dL_law_2740 ?_
  refine zsI (j := i + 2) dL_law_2741 a6 (by omega) (by omega) ?_
  refine zW_aload_n dL_law_2742 rfl ?_
  refine zW_iload dL_law_2743 rfl ?_
  refine zW_iconst dL_law_2745 ?_
  refine zW_iadd dL_law_2746 ?_
  refine zsI (j := i + 3) dL_law_2747 a6 (by omega) (by omega) ?_
  refine zW_aload_n dL_law_2748 rfl ?_
  refine zcSX5 dL_law_2749 rfl eL_setCommutator b1101 ⟨by decide, by decide, (by show cu + 0 + 4 ≤ 601024; omega), (by show su + 0 + 24 ≤ 7293034; omega)⟩ rfl (Nat.le_of_ble_eq_true rfl) (l_setCommutator a1 a4 b4 (hIn _) (hIn _) (hIn _) (fun σ1 h1 m1 hz1 e1 => ?_))
  have r1 : RI σ1 y A := a2.out m1 (fun a g1 g2 q => by unfold lzz xr at q; omega)
  refine zW_istore dL_law_2752 (by decide) rfl rfl ?_
  refine zW_aload_n dL_law_2754 rfl ?_
  refine zW_aload_n dL_law_2755 rfl ?_
  refine zW_iload dL_law_2756 rfl ?_
  refine zW_iconst dL_law_2758 ?_
  refine zW_iadd dL_law_2759 ?_
  refine zsI (j := i + 1) dL_law_2760 a6 (by omega) (by omega) ?_
  refine zW_aload_n dL_law_2761 rfl ?_
  refine zW_iload dL_law_2762 rfl ?_
  refine zW_iconst dL_law_2764 ?_
  refine zW_iadd dL_law_2765 ?_
  refine zsI (j := i + 2) dL_law_2766 a6 (by omega) (by omega) ?_
  refine zW_aload_n dL_law_2767 rfl ?_
  refine zW_iload dL_law_2768 rfl ?_
  refine zW_iconst dL_law_2770 ?_
  refine zW_iadd dL_law_2771 ?_
  refine zsI (j := i + 3) dL_law_2772 a6 (by omega) (by omega) ?_
  refine zcV3 dL_law_2773 rfl eX10_setCommutator b1804 ⟨by decide, by decide, (by show cu + 4 + 0 ≤ 601024; omega), (by show su + 24 + 0 ≤ 7293034; omega)⟩ rfl r1.1.1 rfl (by decide) (Nat.le_of_ble_eq_true rfl) (q_setCommutator r1 (hIn _) (hIn _) (hIn _) (fun σ2 v2 hR ht hm hv => ?_))
  generalize o_setCommutator A (sx Γ (i + 1)) (sx Γ (i + 2)) (sx Γ (i + 3)) = o at on aoo h1 e1 hR ht hv
  have hL := h.step m1 h1 hz1 hR hm aoo
  refine zW_istore dL_law_2776 (by decide) rfl rfl ?_
  refine zW_aload_n dL_law_2778 rfl ?_
  refine zcV0 dL_law_2779 rfl eX10_thrown b1363 ⟨by decide, by decide, (by show cu + 4 + 0 + 0 ≤ 601024; omega), (by show su + 24 + 0 + 0 ≤ 7293034; omega)⟩ rfl hR.1.1 rfl (by decide) (Nat.le_of_ble_eq_true rfl) (q_thrown hR.1.1 ht ?_)
  refine zW_iload dL_law_2782 rfl ?_
  refine zW_icmp_eq (tgt := 2789) dL_law_2784 (by decide) (by first | assumption | omega | (unfold InR; omega) | (unfold InL; omega) | (simp only [InR] at *; omega)) (by first | assumption | omega | (unfold InR; omega) | (unfold InL; omega) | (simp only [InR] at *; omega)) (fun b => ?_) (fun b => ?_)
  · refine zW_iload dL_law_2789 rfl ?_
    refine zW_if_ne (tgt := 2806) dL_law_2791 (by decide) (by first | assumption | omega | (unfold InR; omega) | (unfold InL; omega) | (simp only [InR] at *; omega)) (fun b2 => ?_) (fun b2 => ?_)
    · refine zW_goto (tgt := 3534) dL_law_2806 (by decide) ?_
      exact k σ2 _ _ _ _ _ _ hL (by show cu + 4 + 0 + 0 ≤ cu + 20; omega) (by show su + 24 + 0 + 0 ≤ su + 150; omega)
    · have e0 : o.1 = 0 := by omega
      have ez : zJ σ2 z 0 = nrm o.2.1 := by rw [hm.j (fun q => by unfold yr at q; omega)]; exact e1 e0
      have ev := hv e0
      have hz2 : zK σ2 z = (14, 1) := by rw [hm.K]; exact hz1
      have hJ : InL (nrm o.2.1) := by have := nrm_in o.2.1; unfold InR at this; unfold InL; omega
      refine zW_aload_n dL_law_2794 rfl ?_
      refine zW_iconst dL_law_2795 ?_
      refine zrJ dL_law_2796 hz2 (by first | assumption | omega | (unfold InR; omega) | (unfold InL; omega) | (simp only [InR] at *; omega)) (by first | assumption | omega | (unfold InR; omega) | (unfold InL; omega) | (simp only [InR] at *; omega)) (by first | assumption | omega | (unfold InR; omega) | (unfold InL; omega) | (simp only [InR] at *; omega)) ez ?_
      refine zW_iload dL_law_2797 rfl ?_
      rw [ev]
      refine zW_nrm ?_
      refine zW_i2l dL_law_2799 (nrm_in _) ?_
      refine zW_lcmp dL_law_2800 hJ hJ ?_
      rw [zcmp_self]
      refine zW_if_eq (tgt := 2806) dL_law_2801 (by decide) (by first | assumption | omega | (unfold InR; omega) | (unfold InL; omega) | (simp only [InR] at *; omega)) (fun b4 => ?_) (fun b4 => ?_)
      · refine zW_goto (tgt := 3534) dL_law_2806 (by decide) ?_
        exact k σ2 _ _ _ _ _ _ hL (by show cu + 4 + 0 + 0 ≤ cu + 20; omega) (by show su + 24 + 0 + 0 ≤ su + 150; omega)
      · exact absurd rfl b4
  · exact absurd rfl b
set_option maxRecDepth 100000 in
theorem w_42_setPower (h : LHd Γ σ x y z A) (hi : i + 6 ≤ gL Γ) (hc : cu ≤ 600000) (hs : su ≤ 7200000) (k : ∀ σ' A' cu' su' z5 z6 z7, LHd Γ σ' x y z A' → cu' ≤ cu + 20 → su' ≤ su + 150 → zW Γ mLaw 3534 [some (vR (some (gb Γ))), some (vR (some x)), some (vR (some y)), some (vR (some z)), some (vI i), z5, z6, z7] [] σ' cu' su' Q) : zW Γ mLaw 2809 [some (vR (some (gb Γ))), some (vR (some x)), some (vR (some y)), some (vR (some z)), some (vI i), z5, z6, z7] [] σ cu su Q := by
  obtain ⟨a1, a2, a3, a4, a6, ⟨b4, b5⟩, a9⟩ := id h
  have hIn : ∀ j, InR (sx Γ j) := sx_in Γ
  have hr9 := a3.1.1.2
  have on := on_setPower (A := A) (p := sx Γ (i + 1)) (r := sx Γ (i + 2)) (e := sx Γ (i + 3))
  have aoo := ao_setPower (A := A) (p := sx Γ (i + 1)) (r := sx Γ (i + 2)) (e := sx Γ (i + 3)) a3
  refine zW_aload_n dL_law_2809 rfl ?_
  refine zW_aload_n dL_law_2810 rfl ?_
  refine zW_iload dL_law_2811 rfl ?_
  refine zW_iconst dL_law_2813 ?_
  refine zW_iadd dL_law_2814 ?_
  refine zsI (j := i + 1) dL_law_2815 a6 (by omega) (by omega) ?_
  refine zW_aload_n dL_law_2816 rfl ?_
  refine zW_iload dL_law_2817 rfl ?_
  refine zW_iconst dL_law_2819 ?_
  refine zW_iadd dL_law_2820 ?_
  refine zsI (j := i + 2) dL_law_2821 a6 (by omega) (by omega) ?_
  refine zW_aload_n dL_law_2822 rfl ?_
  refine zW_iload dL_law_2823 rfl ?_
  refine zW_iconst dL_law_2825 ?_
  refine zW_iadd dL_law_2826 ?_
  refine zsI (j := i + 3) dL_law_2827 a6 (by omega) (by omega) ?_
  refine zW_aload_n dL_law_2828 rfl ?_
  refine zcSX5 dL_law_2829 rfl eL_setPower b1108 ⟨by decide, by decide, (by show cu + 0 + 4 ≤ 601024; omega), (by show su + 0 + 24 ≤ 7293034; omega)⟩ rfl (Nat.le_of_ble_eq_true rfl) (l_setPower a1 a4 b4 (hIn _) (hIn _) (hIn _) (fun σ1 h1 m1 hz1 e1 => ?_))
  have r1 : RI σ1 y A := a2.out m1 (fun a g1 g2 q => by unfold lzz xr at q; omega)
  refine zW_istore dL_law_2832 (by decide) rfl rfl ?_
  refine zW_aload_n dL_law_2834 rfl ?_
  refine zW_aload_n dL_law_2835 rfl ?_
  refine zW_iload dL_law_2836 rfl ?_
  refine zW_iconst dL_law_2838 ?_
  refine zW_iadd dL_law_2839 ?_
  refine zsI (j := i + 1) dL_law_2840 a6 (by omega) (by omega) ?_
  refine zW_aload_n dL_law_2841 rfl ?_
  refine zW_iload dL_law_2842 rfl ?_
  refine zW_iconst dL_law_2844 ?_
  refine zW_iadd dL_law_2845 ?_
  refine zsI (j := i + 2) dL_law_2846 a6 (by omega) (by omega) ?_
  refine zW_aload_n dL_law_2847 rfl ?_
  refine zW_iload dL_law_2848 rfl ?_
  refine zW_iconst dL_law_2850 ?_
  refine zW_iadd dL_law_2851 ?_
  refine zsI (j := i + 3) dL_law_2852 a6 (by omega) (by omega) ?_
  refine zcV3 dL_law_2853 rfl eX10_setPower b1808 ⟨by decide, by decide, (by show cu + 4 + 0 ≤ 601024; omega), (by show su + 24 + 0 ≤ 7293034; omega)⟩ rfl r1.1.1 rfl (by decide) (Nat.le_of_ble_eq_true rfl) (q_setPower r1 (hIn _) (hIn _) (hIn _) (fun σ2 v2 hR ht hm hv => ?_))
  generalize o_setPower A (sx Γ (i + 1)) (sx Γ (i + 2)) (sx Γ (i + 3)) = o at on aoo h1 e1 hR ht hv
  have hL := h.step m1 h1 hz1 hR hm aoo
  refine zW_istore dL_law_2856 (by decide) rfl rfl ?_
  refine zW_aload_n dL_law_2858 rfl ?_
  refine zcV0 dL_law_2859 rfl eX10_thrown b1363 ⟨by decide, by decide, (by show cu + 4 + 0 + 0 ≤ 601024; omega), (by show su + 24 + 0 + 0 ≤ 7293034; omega)⟩ rfl hR.1.1 rfl (by decide) (Nat.le_of_ble_eq_true rfl) (q_thrown hR.1.1 ht ?_)
  refine zW_iload dL_law_2862 rfl ?_
  refine zW_icmp_eq (tgt := 2869) dL_law_2864 (by decide) (by first | assumption | omega | (unfold InR; omega) | (unfold InL; omega) | (simp only [InR] at *; omega)) (by first | assumption | omega | (unfold InR; omega) | (unfold InL; omega) | (simp only [InR] at *; omega)) (fun b => ?_) (fun b => ?_)
  · refine zW_iload dL_law_2869 rfl ?_
    refine zW_if_ne (tgt := 2886) dL_law_2871 (by decide) (by first | assumption | omega | (unfold InR; omega) | (unfold InL; omega) | (simp only [InR] at *; omega)) (fun b2 => ?_) (fun b2 => ?_)
    · refine zW_goto (tgt := 3534) dL_law_2886 (by decide) ?_
      exact k σ2 _ _ _ _ _ _ hL (by show cu + 4 + 0 + 0 ≤ cu + 20; omega) (by show su + 24 + 0 + 0 ≤ su + 150; omega)
    · have e0 : o.1 = 0 := by omega
      have ez : zJ σ2 z 0 = nrm o.2.1 := by rw [hm.j (fun q => by unfold yr at q; omega)]; exact e1 e0
      have ev := hv e0
      have hz2 : zK σ2 z = (14, 1) := by rw [hm.K]; exact hz1
      have hJ : InL (nrm o.2.1) := by have := nrm_in o.2.1; unfold InR at this; unfold InL; omega
      refine zW_aload_n dL_law_2874 rfl ?_
      refine zW_iconst dL_law_2875 ?_
      refine zrJ dL_law_2876 hz2 (by first | assumption | omega | (unfold InR; omega) | (unfold InL; omega) | (simp only [InR] at *; omega)) (by first | assumption | omega | (unfold InR; omega) | (unfold InL; omega) | (simp only [InR] at *; omega)) (by first | assumption | omega | (unfold InR; omega) | (unfold InL; omega) | (simp only [InR] at *; omega)) ez ?_
      refine zW_iload dL_law_2877 rfl ?_
      rw [ev]
      refine zW_nrm ?_
      refine zW_i2l dL_law_2879 (nrm_in _) ?_
      refine zW_lcmp dL_law_2880 hJ hJ ?_
      rw [zcmp_self]
      refine zW_if_eq (tgt := 2886) dL_law_2881 (by decide) (by first | assumption | omega | (unfold InR; omega) | (unfold InL; omega) | (simp only [InR] at *; omega)) (fun b4 => ?_) (fun b4 => ?_)
      · refine zW_goto (tgt := 3534) dL_law_2886 (by decide) ?_
        exact k σ2 _ _ _ _ _ _ hL (by show cu + 4 + 0 + 0 ≤ cu + 20; omega) (by show su + 24 + 0 + 0 ≤ su + 150; omega)
      · exact absurd rfl b4
  · exact absurd rfl b
set_option maxRecDepth 100000 in
theorem w_43_setRoot (h : LHd Γ σ x y z A) (hi : i + 6 ≤ gL Γ) (hc : cu ≤ 600000) (hs : su ≤ 7200000) (k : ∀ σ' A' cu' su' z5 z6 z7, LHd Γ σ' x y z A' → cu' ≤ cu + 20 → su' ≤ su + 150 → zW Γ mLaw 3534 [some (vR (some (gb Γ))), some (vR (some x)), some (vR (some y)), some (vR (some z)), some (vI i), z5, z6, z7] [] σ' cu' su' Q) : zW Γ mLaw 2889 [some (vR (some (gb Γ))), some (vR (some x)), some (vR (some y)), some (vR (some z)), some (vI i), z5, z6, z7] [] σ cu su Q := by
  obtain ⟨a1, a2, a3, a4, a6, ⟨b4, b5⟩, a9⟩ := id h
  have hIn : ∀ j, InR (sx Γ j) := sx_in Γ
  have hr9 := a3.1.1.2
  have on := on_setRoot (A := A) (p := sx Γ (i + 1)) (r := sx Γ (i + 2))
  have aoo := ao_setRoot (A := A) (p := sx Γ (i + 1)) (r := sx Γ (i + 2)) a3
  refine zW_aload_n dL_law_2889 rfl ?_
  refine zW_aload_n dL_law_2890 rfl ?_
  refine zW_iload dL_law_2891 rfl ?_
  refine zW_iconst dL_law_2893 ?_
  refine zW_iadd dL_law_2894 ?_
  refine zsI (j := i + 1) dL_law_2895 a6 (by omega) (by omega) ?_
  refine zW_aload_n dL_law_2896 rfl ?_
  refine zW_iload dL_law_2897 rfl ?_
  refine zW_iconst dL_law_2899 ?_
  refine zW_iadd dL_law_2900 ?_
  refine zsI (j := i + 2) dL_law_2901 a6 (by omega) (by omega) ?_
  refine zW_aload_n dL_law_2902 rfl ?_
  refine zcSX4 dL_law_2903 rfl eL_setRoot b1116 ⟨by decide, by decide, (by show cu + 0 + 4 ≤ 601024; omega), (by show su + 0 + 24 ≤ 7293034; omega)⟩ rfl (Nat.le_of_ble_eq_true rfl) (l_setRoot a1 a4 b4 (hIn _) (hIn _) (fun σ1 h1 m1 hz1 e1 => ?_))
  have r1 : RI σ1 y A := a2.out m1 (fun a g1 g2 q => by unfold lzz xr at q; omega)
  refine zW_istore dL_law_2906 (by decide) rfl rfl ?_
  refine zW_aload_n dL_law_2908 rfl ?_
  refine zW_aload_n dL_law_2909 rfl ?_
  refine zW_iload dL_law_2910 rfl ?_
  refine zW_iconst dL_law_2912 ?_
  refine zW_iadd dL_law_2913 ?_
  refine zsI (j := i + 1) dL_law_2914 a6 (by omega) (by omega) ?_
  refine zW_aload_n dL_law_2915 rfl ?_
  refine zW_iload dL_law_2916 rfl ?_
  refine zW_iconst dL_law_2918 ?_
  refine zW_iadd dL_law_2919 ?_
  refine zsI (j := i + 2) dL_law_2920 a6 (by omega) (by omega) ?_
  refine zcV2 dL_law_2921 rfl eX10_setRoot b1815 ⟨by decide, by decide, (by show cu + 4 + 0 ≤ 601024; omega), (by show su + 24 + 0 ≤ 7293034; omega)⟩ rfl r1.1.1 rfl (by decide) (Nat.le_of_ble_eq_true rfl) (q_setRoot r1 (hIn _) (hIn _) a3 (fun σ2 v2 hR ht hm hv => ?_))
  generalize o_setRoot A (sx Γ (i + 1)) (sx Γ (i + 2)) = o at on aoo h1 e1 hR ht hv
  have hL := h.step m1 h1 hz1 hR hm aoo
  refine zW_istore dL_law_2924 (by decide) rfl rfl ?_
  refine zW_aload_n dL_law_2926 rfl ?_
  refine zcV0 dL_law_2927 rfl eX10_thrown b1363 ⟨by decide, by decide, (by show cu + 4 + 0 + 0 ≤ 601024; omega), (by show su + 24 + 0 + 0 ≤ 7293034; omega)⟩ rfl hR.1.1 rfl (by decide) (Nat.le_of_ble_eq_true rfl) (q_thrown hR.1.1 ht ?_)
  refine zW_iload dL_law_2930 rfl ?_
  refine zW_icmp_eq (tgt := 2937) dL_law_2932 (by decide) (by first | assumption | omega | (unfold InR; omega) | (unfold InL; omega) | (simp only [InR] at *; omega)) (by first | assumption | omega | (unfold InR; omega) | (unfold InL; omega) | (simp only [InR] at *; omega)) (fun b => ?_) (fun b => ?_)
  · refine zW_iload dL_law_2937 rfl ?_
    refine zW_if_ne (tgt := 2954) dL_law_2939 (by decide) (by first | assumption | omega | (unfold InR; omega) | (unfold InL; omega) | (simp only [InR] at *; omega)) (fun b2 => ?_) (fun b2 => ?_)
    · refine zW_goto (tgt := 3534) dL_law_2954 (by decide) ?_
      exact k σ2 _ _ _ _ _ _ hL (by show cu + 4 + 0 + 0 ≤ cu + 20; omega) (by show su + 24 + 0 + 0 ≤ su + 150; omega)
    · have e0 : o.1 = 0 := by omega
      have ez : zJ σ2 z 0 = nrm o.2.1 := by rw [hm.j (fun q => by unfold yr at q; omega)]; exact e1 e0
      have ev := hv e0
      have hz2 : zK σ2 z = (14, 1) := by rw [hm.K]; exact hz1
      have hJ : InL (nrm o.2.1) := by have := nrm_in o.2.1; unfold InR at this; unfold InL; omega
      refine zW_aload_n dL_law_2942 rfl ?_
      refine zW_iconst dL_law_2943 ?_
      refine zrJ dL_law_2944 hz2 (by first | assumption | omega | (unfold InR; omega) | (unfold InL; omega) | (simp only [InR] at *; omega)) (by first | assumption | omega | (unfold InR; omega) | (unfold InL; omega) | (simp only [InR] at *; omega)) (by first | assumption | omega | (unfold InR; omega) | (unfold InL; omega) | (simp only [InR] at *; omega)) ez ?_
      refine zW_iload dL_law_2945 rfl ?_
      rw [ev]
      refine zW_nrm ?_
      refine zW_i2l dL_law_2947 (nrm_in _) ?_
      refine zW_lcmp dL_law_2948 hJ hJ ?_
      rw [zcmp_self]
      refine zW_if_eq (tgt := 2954) dL_law_2949 (by decide) (by first | assumption | omega | (unfold InR; omega) | (unfold InL; omega) | (simp only [InR] at *; omega)) (fun b4 => ?_) (fun b4 => ?_)
      · refine zW_goto (tgt := 3534) dL_law_2954 (by decide) ?_
        exact k σ2 _ _ _ _ _ _ hL (by show cu + 4 + 0 + 0 ≤ cu + 20; omega) (by show su + 24 + 0 + 0 ≤ su + 150; omega)
      · exact absurd rfl b4
  · exact absurd rfl b
set_option maxRecDepth 100000 in
theorem w_44_substitute (h : LHd Γ σ x y z A) (hi : i + 6 ≤ gL Γ) (hc : cu ≤ 600000) (hs : su ≤ 7200000) (k : ∀ σ' A' cu' su' z5 z6 z7, LHd Γ σ' x y z A' → cu' ≤ cu + 20 → su' ≤ su + 150 → zW Γ mLaw 3534 [some (vR (some (gb Γ))), some (vR (some x)), some (vR (some y)), some (vR (some z)), some (vI i), z5, z6, z7] [] σ' cu' su' Q) : zW Γ mLaw 2957 [some (vR (some (gb Γ))), some (vR (some x)), some (vR (some y)), some (vR (some z)), some (vI i), z5, z6, z7] [] σ cu su Q := by
  obtain ⟨a1, a2, a3, a4, a6, ⟨b4, b5⟩, a9⟩ := id h
  have hIn : ∀ j, InR (sx Γ j) := sx_in Γ
  have hr9 := a3.1.1.2
  have on := on_substitute (A := A) (p := sx Γ (i + 1)) (r := sx Γ (i + 2)) (t := sx Γ (i + 3)) (s := sx Γ (i + 4))
  have aoo := ao_substitute (A := A) (p := sx Γ (i + 1)) (r := sx Γ (i + 2)) (t := sx Γ (i + 3)) (s := sx Γ (i + 4)) a3
  refine zW_aload_n dL_law_2957 rfl ?_
  refine zW_aload_n dL_law_2958 rfl ?_
  refine zW_iload dL_law_2959 rfl ?_
  refine zW_iconst dL_law_2961 ?_
  refine zW_iadd dL_law_2962 ?_
  refine zsI (j := i + 1) dL_law_2963 a6 (by omega) (by omega) ?_
  refine zW_aload_n dL_law_2964 rfl ?_
  refine zW_iload dL_law_2965 rfl ?_
  refine zW_iconst dL_law_2967 ?_
  refine zW_iadd dL_law_2968 ?_
  refine zsI (j := i + 2) dL_law_2969 a6 (by omega) (by omega) ?_
  refine zW_aload_n dL_law_2970 rfl ?_
  refine zW_iload dL_law_2971 rfl ?_
  refine zW_iconst dL_law_2973 ?_
  refine zW_iadd dL_law_2974 ?_
  refine zsI (j := i + 3) dL_law_2975 a6 (by omega) (by omega) ?_
  refine zW_aload_n dL_law_2976 rfl ?_
  refine zW_iload dL_law_2977 rfl ?_
  refine zW_iconst dL_law_2979 ?_
  refine zW_iadd dL_law_2980 ?_
  refine zsI (j := i + 4) dL_law_2981 a6 (by omega) (by omega) ?_
  refine zW_aload_n dL_law_2982 rfl ?_
  refine zcSX6 dL_law_2983 rfl eL_substitute b1125 ⟨by decide, by decide, (by show cu + 0 + 5 ≤ 601024; omega), (by show su + 0 + 30 ≤ 7293034; omega)⟩ rfl (Nat.le_of_ble_eq_true rfl) (l_substitute a1 a4 b4 (hIn _) (hIn _) (hIn _) (hIn _) hr9 (fun σ1 h1 m1 hz1 e1 => ?_))
  have r1 : RI σ1 y A := a2.out m1 (fun a g1 g2 q => by unfold lzz xr at q; omega)
  refine zW_istore dL_law_2986 (by decide) rfl rfl ?_
  refine zW_aload_n dL_law_2988 rfl ?_
  refine zW_aload_n dL_law_2989 rfl ?_
  refine zW_iload dL_law_2990 rfl ?_
  refine zW_iconst dL_law_2992 ?_
  refine zW_iadd dL_law_2993 ?_
  refine zsI (j := i + 1) dL_law_2994 a6 (by omega) (by omega) ?_
  refine zW_aload_n dL_law_2995 rfl ?_
  refine zW_iload dL_law_2996 rfl ?_
  refine zW_iconst dL_law_2998 ?_
  refine zW_iadd dL_law_2999 ?_
  refine zsI (j := i + 2) dL_law_3000 a6 (by omega) (by omega) ?_
  refine zW_aload_n dL_law_3001 rfl ?_
  refine zW_iload dL_law_3002 rfl ?_
  refine zW_iconst dL_law_3004 ?_
  refine zW_iadd dL_law_3005 ?_
  refine zsI (j := i + 3) dL_law_3006 a6 (by omega) (by omega) ?_
  refine zW_aload_n dL_law_3007 rfl ?_
  refine zW_iload dL_law_3008 rfl ?_
  refine zW_iconst dL_law_3010 ?_
  refine zW_iadd dL_law_3011 ?_
  refine zsI (j := i + 4) dL_law_3012 a6 (by omega) (by omega) ?_
  refine zcV4 dL_law_3013 rfl eX10_substitute b1819 ⟨by decide, by decide, (by show cu + 5 + 0 ≤ 601024; omega), (by show su + 30 + 0 ≤ 7293034; omega)⟩ rfl r1.1.1 rfl (by decide) (Nat.le_of_ble_eq_true rfl) (q_substitute r1 (hIn _) (hIn _) (hIn _) (hIn _) a3 (fun σ2 v2 hR ht hm hv => ?_))
  generalize o_substitute A (sx Γ (i + 1)) (sx Γ (i + 2)) (sx Γ (i + 3)) (sx Γ (i + 4)) = o at on aoo h1 e1 hR ht hv
  have hL := h.step m1 h1 hz1 hR hm aoo
  refine zW_istore dL_law_3016 (by decide) rfl rfl ?_
  refine zW_aload_n dL_law_3018 rfl ?_
  refine zcV0 dL_law_3019 rfl eX10_thrown b1363 ⟨by decide, by decide, (by show cu + 5 + 0 + 0 ≤ 601024; omega), (by show su + 30 + 0 + 0 ≤ 7293034; omega)⟩ rfl hR.1.1 rfl (by decide) (Nat.le_of_ble_eq_true rfl) (q_thrown hR.1.1 ht ?_)
  refine zW_iload dL_law_3022 rfl ?_
  refine zW_icmp_eq (tgt := 3029) dL_law_3024 (by decide) (by first | assumption | omega | (unfold InR; omega) | (unfold InL; omega) | (simp only [InR] at *; omega)) (by first | assumption | omega | (unfold InR; omega) | (unfold InL; omega) | (simp only [InR] at *; omega)) (fun b => ?_) (fun b => ?_)
  · refine zW_iload dL_law_3029 rfl ?_
    refine zW_if_ne (tgt := 3046) dL_law_3031 (by decide) (by first | assumption | omega | (unfold InR; omega) | (unfold InL; omega) | (simp only [InR] at *; omega)) (fun b2 => ?_) (fun b2 => ?_)
    · refine zW_goto (tgt := 3534) dL_law_3046 (by decide) ?_
      exact k σ2 _ _ _ _ _ _ hL (by show cu + 5 + 0 + 0 ≤ cu + 20; omega) (by show su + 30 + 0 + 0 ≤ su + 150; omega)
    · have e0 : o.1 = 0 := by omega
      have ez : zJ σ2 z 0 = nrm o.2.1 := by rw [hm.j (fun q => by unfold yr at q; omega)]; exact e1 e0
      have ev := hv e0
      have hz2 : zK σ2 z = (14, 1) := by rw [hm.K]; exact hz1
      have hJ : InL (nrm o.2.1) := by have := nrm_in o.2.1; unfold InR at this; unfold InL; omega
      refine zW_aload_n dL_law_3034 rfl ?_
      refine zW_iconst dL_law_3035 ?_
      refine zrJ dL_law_3036 hz2 (by first | assumption | omega | (unfold InR; omega) | (unfold InL; omega) | (simp only [InR] at *; omega)) (by first | assumption | omega | (unfold InR; omega) | (unfold InL; omega) | (simp only [InR] at *; omega)) (by first | assumption | omega | (unfold InR; omega) | (unfold InL; omega) | (simp only [InR] at *; omega)) ez ?_
      refine zW_iload dL_law_3037 rfl ?_
      rw [ev]
      refine zW_nrm ?_
      refine zW_i2l dL_law_3039 (nrm_in _) ?_
      refine zW_lcmp dL_law_3040 hJ hJ ?_
      rw [zcmp_self]
      refine zW_if_eq (tgt := 3046) dL_law_3041 (by decide) (by first | assumption | omega | (unfold InR; omega) | (unfold InL; omega) | (simp only [InR] at *; omega)) (fun b4 => ?_) (fun b4 => ?_)
      · refine zW_goto (tgt := 3534) dL_law_3046 (by decide) ?_
        exact k σ2 _ _ _ _ _ _ hL (by show cu + 5 + 0 + 0 ≤ cu + 20; omega) (by show su + 30 + 0 + 0 ≤ su + 150; omega)
      · exact absurd rfl b4
  · exact absurd rfl b
set_option maxRecDepth 100000 in
theorem w_45_addGeneratingWord (h : LHd Γ σ x y z A) (hi : i + 6 ≤ gL Γ) (hc : cu ≤ 600000) (hs : su ≤ 7200000) (k : ∀ σ' A' cu' su' z5 z6 z7, LHd Γ σ' x y z A' → cu' ≤ cu + 20 → su' ≤ su + 150 → zW Γ mLaw 3534 [some (vR (some (gb Γ))), some (vR (some x)), some (vR (some y)), some (vR (some z)), some (vI i), z5, z6, z7] [] σ' cu' su' Q) : zW Γ mLaw 3049 [some (vR (some (gb Γ))), some (vR (some x)), some (vR (some y)), some (vR (some z)), some (vI i), z5, z6, z7] [] σ cu su Q := by
  obtain ⟨a1, a2, a3, a4, a6, ⟨b4, b5⟩, a9⟩ := id h
  have hIn : ∀ j, InR (sx Γ j) := sx_in Γ
  have hr9 := a3.1.1.2
  have on := on_addGeneratingWord (A := A) (g := sx Γ (i + 1)) (r := sx Γ (i + 2))
  have aoo := ao_addGeneratingWord (A := A) (g := sx Γ (i + 1)) (r := sx Γ (i + 2)) a3
  refine zW_aload_n dL_law_3049 rfl ?_
  refine zW_aload_n dL_law_3050 rfl ?_
  refine zW_iload dL_law_3051 rfl ?_
  refine zW_iconst dL_law_3053 ?_
  refine zW_iadd dL_law_3054 ?_
  refine zsI (j := i + 1) dL_law_3055 a6 (by omega) (by omega) ?_
  refine zW_aload_n dL_law_3056 rfl ?_
  refine zW_iload dL_law_3057 rfl ?_
  refine zW_iconst dL_law_3059 ?_
  refine zW_iadd dL_law_3060 ?_
  refine zsI (j := i + 2) dL_law_3061 a6 (by omega) (by omega) ?_
  refine zW_aload_n dL_law_3062 rfl ?_
  refine zcSX4 dL_law_3063 rfl eL_addGeneratingWord b1132 ⟨by decide, by decide, (by show cu + 0 + 3 ≤ 601024; omega), (by show su + 0 + 18 ≤ 7293034; omega)⟩ rfl (Nat.le_of_ble_eq_true rfl) (l_addGeneratingWord a1 a4 b4 (hIn _) (hIn _) (fun σ1 h1 m1 hz1 e1 => ?_))
  have r1 : RI σ1 y A := a2.out m1 (fun a g1 g2 q => by unfold lzz xr at q; omega)
  refine zW_istore dL_law_3066 (by decide) rfl rfl ?_
  refine zW_aload_n dL_law_3068 rfl ?_
  refine zW_aload_n dL_law_3069 rfl ?_
  refine zW_iload dL_law_3070 rfl ?_
  refine zW_iconst dL_law_3072 ?_
  refine zW_iadd dL_law_3073 ?_
  refine zsI (j := i + 1) dL_law_3074 a6 (by omega) (by omega) ?_
  refine zW_aload_n dL_law_3075 rfl ?_
  refine zW_iload dL_law_3076 rfl ?_
  refine zW_iconst dL_law_3078 ?_
  refine zW_iadd dL_law_3079 ?_
  refine zsI (j := i + 2) dL_law_3080 a6 (by omega) (by omega) ?_
  refine zcV2 dL_law_3081 rfl eX10_addGeneratingWord b1823 ⟨by decide, by decide, (by show cu + 3 + 0 ≤ 601024; omega), (by show su + 18 + 0 ≤ 7293034; omega)⟩ rfl r1.1.1 rfl (by decide) (Nat.le_of_ble_eq_true rfl) (q_addGeneratingWord r1 (hIn _) (hIn _) (fun σ2 v2 hR ht hm hv => ?_))
  generalize o_addGeneratingWord A (sx Γ (i + 1)) (sx Γ (i + 2)) = o at on aoo h1 e1 hR ht hv
  have hL := h.step m1 h1 hz1 hR hm aoo
  refine zW_istore dL_law_3084 (by decide) rfl rfl ?_
  refine zW_aload_n dL_law_3086 rfl ?_
  refine zcV0 dL_law_3087 rfl eX10_thrown b1363 ⟨by decide, by decide, (by show cu + 3 + 0 + 0 ≤ 601024; omega), (by show su + 18 + 0 + 0 ≤ 7293034; omega)⟩ rfl hR.1.1 rfl (by decide) (Nat.le_of_ble_eq_true rfl) (q_thrown hR.1.1 ht ?_)
  refine zW_iload dL_law_3090 rfl ?_
  refine zW_icmp_eq (tgt := 3097) dL_law_3092 (by decide) (by first | assumption | omega | (unfold InR; omega) | (unfold InL; omega) | (simp only [InR] at *; omega)) (by first | assumption | omega | (unfold InR; omega) | (unfold InL; omega) | (simp only [InR] at *; omega)) (fun b => ?_) (fun b => ?_)
  · refine zW_iload dL_law_3097 rfl ?_
    refine zW_if_ne (tgt := 3114) dL_law_3099 (by decide) (by first | assumption | omega | (unfold InR; omega) | (unfold InL; omega) | (simp only [InR] at *; omega)) (fun b2 => ?_) (fun b2 => ?_)
    · refine zW_goto (tgt := 3534) dL_law_3114 (by decide) ?_
      exact k σ2 _ _ _ _ _ _ hL (by show cu + 3 + 0 + 0 ≤ cu + 20; omega) (by show su + 18 + 0 + 0 ≤ su + 150; omega)
    · have e0 : o.1 = 0 := by omega
      have ez : zJ σ2 z 0 = nrm o.2.1 := by rw [hm.j (fun q => by unfold yr at q; omega)]; exact e1 e0
      have ev := hv e0
      have hz2 : zK σ2 z = (14, 1) := by rw [hm.K]; exact hz1
      have hJ : InL (nrm o.2.1) := by have := nrm_in o.2.1; unfold InR at this; unfold InL; omega
      refine zW_aload_n dL_law_3102 rfl ?_
      refine zW_iconst dL_law_3103 ?_
      refine zrJ dL_law_3104 hz2 (by first | assumption | omega | (unfold InR; omega) | (unfold InL; omega) | (simp only [InR] at *; omega)) (by first | assumption | omega | (unfold InR; omega) | (unfold InL; omega) | (simp only [InR] at *; omega)) (by first | assumption | omega | (unfold InR; omega) | (unfold InL; omega) | (simp only [InR] at *; omega)) ez ?_
      refine zW_iload dL_law_3105 rfl ?_
      rw [ev]
      refine zW_nrm ?_
      refine zW_i2l dL_law_3107 (nrm_in _) ?_
      refine zW_lcmp dL_law_3108 hJ hJ ?_
      rw [zcmp_self]
      refine zW_if_eq (tgt := 3114) dL_law_3109 (by decide) (by first | assumption | omega | (unfold InR; omega) | (unfold InL; omega) | (simp only [InR] at *; omega)) (fun b4 => ?_) (fun b4 => ?_)
      · refine zW_goto (tgt := 3534) dL_law_3114 (by decide) ?_
        exact k σ2 _ _ _ _ _ _ hL (by show cu + 3 + 0 + 0 ≤ cu + 20; omega) (by show su + 18 + 0 + 0 ≤ su + 150; omega)
      · exact absurd rfl b4
  · exact absurd rfl b
set_option maxRecDepth 100000 in
theorem w_46_removeGeneratingWord (h : LHd Γ σ x y z A) (hi : i + 6 ≤ gL Γ) (hc : cu ≤ 600000) (hs : su ≤ 7200000) (k : ∀ σ' A' cu' su' z5 z6 z7, LHd Γ σ' x y z A' → cu' ≤ cu + 20 → su' ≤ su + 150 → zW Γ mLaw 3534 [some (vR (some (gb Γ))), some (vR (some x)), some (vR (some y)), some (vR (some z)), some (vI i), z5, z6, z7] [] σ' cu' su' Q) : zW Γ mLaw 3117 [some (vR (some (gb Γ))), some (vR (some x)), some (vR (some y)), some (vR (some z)), some (vI i), z5, z6, z7] [] σ cu su Q := by
  obtain ⟨a1, a2, a3, a4, a6, ⟨b4, b5⟩, a9⟩ := id h
  have hIn : ∀ j, InR (sx Γ j) := sx_in Γ
  have hr9 := a3.1.1.2
  have on := on_removeGeneratingWord (A := A) (g := sx Γ (i + 1)) (k := sx Γ (i + 2))
  have aoo := ao_removeGeneratingWord (A := A) (g := sx Γ (i + 1)) (k := sx Γ (i + 2)) a3
  refine zW_aload_n dL_law_3117 rfl ?_
  refine zW_aload_n dL_law_3118 rfl ?_
  refine zW_iload dL_law_3119 rfl ?_
  refine zW_iconst dL_law_3121 ?_
  refine zW_iadd dL_law_3122 ?_
  refine zsI (j := i + 1) dL_law_3123 a6 (by omega) (by omega) ?_
  refine zW_aload_n dL_law_3124 rfl ?_
  refine zW_iload dL_law_3125 rfl ?_
  refine zW_iconst dL_law_3127 ?_
  refine zW_iadd dL_law_3128 ?_
  refine zsI (j := i + 2) dL_law_3129 a6 (by omega) (by omega) ?_
  refine zW_aload_n dL_law_3130 rfl ?_
  refine zcSX4 dL_law_3131 rfl eL_removeGeneratingWord b1141 ⟨by decide, by decide, (by show cu + 0 + 2 ≤ 601024; omega), (by show su + 0 + 12 ≤ 7293034; omega)⟩ rfl (Nat.le_of_ble_eq_true rfl) (l_removeGeneratingWord a1 a4 b4 (hIn _) (hIn _) (fun σ1 h1 m1 hz1 e1 => ?_))
  have r1 : RI σ1 y A := a2.out m1 (fun a g1 g2 q => by unfold lzz xr at q; omega)
  refine zW_istore dL_law_3134 (by decide) rfl rfl ?_
  refine zW_aload_n dL_law_3136 rfl ?_
  refine zW_aload_n dL_law_3137 rfl ?_
  refine zW_iload dL_law_3138 rfl ?_
  refine zW_iconst dL_law_3140 ?_
  refine zW_iadd dL_law_3141 ?_
  refine zsI (j := i + 1) dL_law_3142 a6 (by omega) (by omega) ?_
  refine zW_aload_n dL_law_3143 rfl ?_
  refine zW_iload dL_law_3144 rfl ?_
  refine zW_iconst dL_law_3146 ?_
  refine zW_iadd dL_law_3147 ?_
  refine zsI (j := i + 2) dL_law_3148 a6 (by omega) (by omega) ?_
  refine zcV2 dL_law_3149 rfl eX10_removeGeneratingWord b1827 ⟨by decide, by decide, (by show cu + 2 + 0 ≤ 601024; omega), (by show su + 12 + 0 ≤ 7293034; omega)⟩ rfl r1.1.1 rfl (by decide) (Nat.le_of_ble_eq_true rfl) (q_removeGeneratingWord r1 (hIn _) (hIn _) (fun σ2 v2 hR ht hm hv => ?_))
  generalize o_removeGeneratingWord A (sx Γ (i + 1)) (sx Γ (i + 2)) = o at on aoo h1 e1 hR ht hv
  have hL := h.step m1 h1 hz1 hR hm aoo
  refine zW_istore dL_law_3152 (by decide) rfl rfl ?_
  refine zW_aload_n dL_law_3154 rfl ?_
  refine zcV0 dL_law_3155 rfl eX10_thrown b1363 ⟨by decide, by decide, (by show cu + 2 + 0 + 0 ≤ 601024; omega), (by show su + 12 + 0 + 0 ≤ 7293034; omega)⟩ rfl hR.1.1 rfl (by decide) (Nat.le_of_ble_eq_true rfl) (q_thrown hR.1.1 ht ?_)
  refine zW_iload dL_law_3158 rfl ?_
  refine zW_icmp_eq (tgt := 3165) dL_law_3160 (by decide) (by first | assumption | omega | (unfold InR; omega) | (unfold InL; omega) | (simp only [InR] at *; omega)) (by first | assumption | omega | (unfold InR; omega) | (unfold InL; omega) | (simp only [InR] at *; omega)) (fun b => ?_) (fun b => ?_)
  · refine zW_iload dL_law_3165 rfl ?_
    refine zW_if_ne (tgt := 3182) dL_law_3167 (by decide) (by first | assumption | omega | (unfold InR; omega) | (unfold InL; omega) | (simp only [InR] at *; omega)) (fun b2 => ?_) (fun b2 => ?_)
    · refine zW_goto (tgt := 3534) dL_law_3182 (by decide) ?_
      exact k σ2 _ _ _ _ _ _ hL (by show cu + 2 + 0 + 0 ≤ cu + 20; omega) (by show su + 12 + 0 + 0 ≤ su + 150; omega)
    · have e0 : o.1 = 0 := by omega
      have ez : zJ σ2 z 0 = nrm o.2.1 := by rw [hm.j (fun q => by unfold yr at q; omega)]; exact e1 e0
      have ev := hv e0
      have hz2 : zK σ2 z = (14, 1) := by rw [hm.K]; exact hz1
      have hJ : InL (nrm o.2.1) := by have := nrm_in o.2.1; unfold InR at this; unfold InL; omega
      refine zW_aload_n dL_law_3170 rfl ?_
      refine zW_iconst dL_law_3171 ?_
      refine zrJ dL_law_3172 hz2 (by first | assumption | omega | (unfold InR; omega) | (unfold InL; omega) | (simp only [InR] at *; omega)) (by first | assumption | omega | (unfold InR; omega) | (unfold InL; omega) | (simp only [InR] at *; omega)) (by first | assumption | omega | (unfold InR; omega) | (unfold InL; omega) | (simp only [InR] at *; omega)) ez ?_
      refine zW_iload dL_law_3173 rfl ?_
      rw [ev]
      refine zW_nrm ?_
      refine zW_i2l dL_law_3175 (nrm_in _) ?_
      refine zW_lcmp dL_law_3176 hJ hJ ?_
      rw [zcmp_self]
      refine zW_if_eq (tgt := 3182) dL_law_3177 (by decide) (by first | assumption | omega | (unfold InR; omega) | (unfold InL; omega) | (simp only [InR] at *; omega)) (fun b4 => ?_) (fun b4 => ?_)
      · refine zW_goto (tgt := 3534) dL_law_3182 (by decide) ?_
        exact k σ2 _ _ _ _ _ _ hL (by show cu + 2 + 0 + 0 ≤ cu + 20; omega) (by show su + 12 + 0 + 0 ≤ su + 150; omega)
      · exact absurd rfl b4
  · exact absurd rfl b
set_option maxRecDepth 100000 in
theorem w_47_undo (h : LHd Γ σ x y z A) (hi : i + 6 ≤ gL Γ) (hc : cu ≤ 600000) (hs : su ≤ 7200000) (k : ∀ σ' A' cu' su' z5 z6 z7, LHd Γ σ' x y z A' → cu' ≤ cu + 20 → su' ≤ su + 150 → zW Γ mLaw 3534 [some (vR (some (gb Γ))), some (vR (some x)), some (vR (some y)), some (vR (some z)), some (vI i), z5, z6, z7] [] σ' cu' su' Q) : zW Γ mLaw 3185 [some (vR (some (gb Γ))), some (vR (some x)), some (vR (some y)), some (vR (some z)), some (vI i), z5, z6, z7] [] σ cu su Q := by
  obtain ⟨a1, a2, a3, a4, a6, ⟨b4, b5⟩, a9⟩ := id h
  have hIn : ∀ j, InR (sx Γ j) := sx_in Γ
  have hr9 := a3.1.1.2
  have on := on_undo (A := A)
  have aoo := ao_undo (A := A) a3
  refine zW_aload_n dL_law_3185 rfl ?_
  refine zW_aload_n dL_law_3186 rfl ?_
  refine zcSX2 dL_law_3187 rfl eL_undo b1152 ⟨by decide, by decide, (by show cu + 0 + 1 ≤ 601024; omega), (by show su + 0 + 6 ≤ 7293034; omega)⟩ rfl (Nat.le_of_ble_eq_true rfl) (l_undo a1 a4 b4  (fun σ1 h1 m1 hz1 e1 => ?_))
  have r1 : RI σ1 y A := a2.out m1 (fun a g1 g2 q => by unfold lzz xr at q; omega)
  refine zW_istore dL_law_3190 (by decide) rfl rfl ?_
  refine zW_aload_n dL_law_3192 rfl ?_
  refine zcV0 dL_law_3193 rfl eX10_undo b1831 ⟨by decide, by decide, (by show cu + 1 + 0 ≤ 601024; omega), (by show su + 6 + 0 ≤ 7293034; omega)⟩ rfl r1.1.1 rfl (by decide) (Nat.le_of_ble_eq_true rfl) (q_undo r1  (fun σ2 v2 hR ht hm hv => ?_))
  generalize o_undo A = o at on aoo h1 e1 hR ht hv
  have hL := h.step m1 h1 hz1 hR hm aoo
  refine zW_istore dL_law_3196 (by decide) rfl rfl ?_
  refine zW_aload_n dL_law_3198 rfl ?_
  refine zcV0 dL_law_3199 rfl eX10_thrown b1363 ⟨by decide, by decide, (by show cu + 1 + 0 + 0 ≤ 601024; omega), (by show su + 6 + 0 + 0 ≤ 7293034; omega)⟩ rfl hR.1.1 rfl (by decide) (Nat.le_of_ble_eq_true rfl) (q_thrown hR.1.1 ht ?_)
  refine zW_iload dL_law_3202 rfl ?_
  refine zW_icmp_eq (tgt := 3209) dL_law_3204 (by decide) (by first | assumption | omega | (unfold InR; omega) | (unfold InL; omega) | (simp only [InR] at *; omega)) (by first | assumption | omega | (unfold InR; omega) | (unfold InL; omega) | (simp only [InR] at *; omega)) (fun b => ?_) (fun b => ?_)
  · refine zW_iload dL_law_3209 rfl ?_
    refine zW_if_ne (tgt := 3226) dL_law_3211 (by decide) (by first | assumption | omega | (unfold InR; omega) | (unfold InL; omega) | (simp only [InR] at *; omega)) (fun b2 => ?_) (fun b2 => ?_)
    · refine zW_goto (tgt := 3534) dL_law_3226 (by decide) ?_
      exact k σ2 _ _ _ _ _ _ hL (by show cu + 1 + 0 + 0 ≤ cu + 20; omega) (by show su + 6 + 0 + 0 ≤ su + 150; omega)
    · have e0 : o.1 = 0 := by omega
      have ez : zJ σ2 z 0 = nrm o.2.1 := by rw [hm.j (fun q => by unfold yr at q; omega)]; exact e1 e0
      have ev := hv e0
      have hz2 : zK σ2 z = (14, 1) := by rw [hm.K]; exact hz1
      have hJ : InL (nrm o.2.1) := by have := nrm_in o.2.1; unfold InR at this; unfold InL; omega
      refine zW_aload_n dL_law_3214 rfl ?_
      refine zW_iconst dL_law_3215 ?_
      refine zrJ dL_law_3216 hz2 (by first | assumption | omega | (unfold InR; omega) | (unfold InL; omega) | (simp only [InR] at *; omega)) (by first | assumption | omega | (unfold InR; omega) | (unfold InL; omega) | (simp only [InR] at *; omega)) (by first | assumption | omega | (unfold InR; omega) | (unfold InL; omega) | (simp only [InR] at *; omega)) ez ?_
      refine zW_iload dL_law_3217 rfl ?_
      rw [ev]
      refine zW_nrm ?_
      refine zW_i2l dL_law_3219 (nrm_in _) ?_
      refine zW_lcmp dL_law_3220 hJ hJ ?_
      rw [zcmp_self]
      refine zW_if_eq (tgt := 3226) dL_law_3221 (by decide) (by first | assumption | omega | (unfold InR; omega) | (unfold InL; omega) | (simp only [InR] at *; omega)) (fun b4 => ?_) (fun b4 => ?_)
      · refine zW_goto (tgt := 3534) dL_law_3226 (by decide) ?_
        exact k σ2 _ _ _ _ _ _ hL (by show cu + 1 + 0 + 0 ≤ cu + 20; omega) (by show su + 6 + 0 + 0 ≤ su + 150; omega)
      · exact absurd rfl b4
  · exact absurd rfl b
set_option maxRecDepth 100000 in
theorem w_49_restore (h : LHd Γ σ x y z A) (hi : i + 6 ≤ gL Γ) (hc : cu ≤ 600000) (hs : su ≤ 7200000) (k : ∀ σ' A' cu' su' z5 z6 z7, LHd Γ σ' x y z A' → cu' ≤ cu + 20 → su' ≤ su + 150 → zW Γ mLaw 3534 [some (vR (some (gb Γ))), some (vR (some x)), some (vR (some y)), some (vR (some z)), some (vI i), z5, z6, z7] [] σ' cu' su' Q) : zW Γ mLaw 3242 [some (vR (some (gb Γ))), some (vR (some x)), some (vR (some y)), some (vR (some z)), some (vI i), z5, z6, z7] [] σ cu su Q := by
  obtain ⟨a1, a2, a3, a4, a6, ⟨b4, b5⟩, a9⟩ := id h
  have hIn : ∀ j, InR (sx Γ j) := sx_in Γ
  have hr9 := a3.1.1.2
  have on := on_restore (A := A)
  have aoo := ao_restore (A := A) a3
  refine zW_aload_n dL_law_3242 rfl ?_
  refine zW_aload_n dL_law_3243 rfl ?_
  refine zcSX2 dL_law_3244 rfl eL_restore b1164 ⟨by decide, by decide, (by show cu + 0 + 1 ≤ 601024; omega), (by show su + 0 + 6 ≤ 7293034; omega)⟩ rfl (Nat.le_of_ble_eq_true rfl) (l_restore a1 a4 b4  (fun σ1 h1 m1 hz1 e1 => ?_))
  have r1 : RI σ1 y A := a2.out m1 (fun a g1 g2 q => by unfold lzz xr at q; omega)
  refine zW_istore dL_law_3247 (by decide) rfl rfl ?_
  refine zW_aload_n dL_law_3249 rfl ?_
  refine zcV0 dL_law_3250 rfl eX10_restore b1843 ⟨by decide, by decide, (by show cu + 1 + 0 ≤ 601024; omega), (by show su + 6 + 0 ≤ 7293034; omega)⟩ rfl r1.1.1 rfl (by decide) (Nat.le_of_ble_eq_true rfl) (q_restore r1  (fun σ2 v2 hR ht hm hv => ?_))
  generalize o_restore A = o at on aoo h1 e1 hR ht hv
  have hL := h.step m1 h1 hz1 hR hm aoo
  refine zW_istore dL_law_3253 (by decide) rfl rfl ?_
  refine zW_aload_n dL_law_3255 rfl ?_
  refine zcV0 dL_law_3256 rfl eX10_thrown b1363 ⟨by decide, by decide, (by show cu + 1 + 0 + 0 ≤ 601024; omega), (by show su + 6 + 0 + 0 ≤ 7293034; omega)⟩ rfl hR.1.1 rfl (by decide) (Nat.le_of_ble_eq_true rfl) (q_thrown hR.1.1 ht ?_)
  refine zW_iload dL_law_3259 rfl ?_
  refine zW_icmp_eq (tgt := 3266) dL_law_3261 (by decide) (by first | assumption | omega | (unfold InR; omega) | (unfold InL; omega) | (simp only [InR] at *; omega)) (by first | assumption | omega | (unfold InR; omega) | (unfold InL; omega) | (simp only [InR] at *; omega)) (fun b => ?_) (fun b => ?_)
  · refine zW_iload dL_law_3266 rfl ?_
    refine zW_if_ne (tgt := 3283) dL_law_3268 (by decide) (by first | assumption | omega | (unfold InR; omega) | (unfold InL; omega) | (simp only [InR] at *; omega)) (fun b2 => ?_) (fun b2 => ?_)
    · refine zW_goto (tgt := 3534) dL_law_3283 (by decide) ?_
      exact k σ2 _ _ _ _ _ _ hL (by show cu + 1 + 0 + 0 ≤ cu + 20; omega) (by show su + 6 + 0 + 0 ≤ su + 150; omega)
    · have e0 : o.1 = 0 := by omega
      have ez : zJ σ2 z 0 = nrm o.2.1 := by rw [hm.j (fun q => by unfold yr at q; omega)]; exact e1 e0
      have ev := hv e0
      have hz2 : zK σ2 z = (14, 1) := by rw [hm.K]; exact hz1
      have hJ : InL (nrm o.2.1) := by have := nrm_in o.2.1; unfold InR at this; unfold InL; omega
      refine zW_aload_n dL_law_3271 rfl ?_
      refine zW_iconst dL_law_3272 ?_
      refine zrJ dL_law_3273 hz2 (by first | assumption | omega | (unfold InR; omega) | (unfold InL; omega) | (simp only [InR] at *; omega)) (by first | assumption | omega | (unfold InR; omega) | (unfold InL; omega) | (simp only [InR] at *; omega)) (by first | assumption | omega | (unfold InR; omega) | (unfold InL; omega) | (simp only [InR] at *; omega)) ez ?_
      refine zW_iload dL_law_3274 rfl ?_
      rw [ev]
      refine zW_nrm ?_
      refine zW_i2l dL_law_3276 (nrm_in _) ?_
      refine zW_lcmp dL_law_3277 hJ hJ ?_
      rw [zcmp_self]
      refine zW_if_eq (tgt := 3283) dL_law_3278 (by decide) (by first | assumption | omega | (unfold InR; omega) | (unfold InL; omega) | (simp only [InR] at *; omega)) (fun b4 => ?_) (fun b4 => ?_)
      · refine zW_goto (tgt := 3534) dL_law_3283 (by decide) ?_
        exact k σ2 _ _ _ _ _ _ hL (by show cu + 1 + 0 + 0 ≤ cu + 20; omega) (by show su + 6 + 0 + 0 ≤ su + 150; omega)
      · exact absurd rfl b4
  · exact absurd rfl b
set_option maxRecDepth 100000 in
theorem w_50_formatWord (h : LHd Γ σ x y z A) (hi : i + 6 ≤ gL Γ) (hc : cu ≤ 600000) (hs : su ≤ 7200000) (k : ∀ σ' A' cu' su' z5 z6 z7, LHd Γ σ' x y z A' → cu' ≤ cu + 20 → su' ≤ su + 150 → zW Γ mLaw 3534 [some (vR (some (gb Γ))), some (vR (some x)), some (vR (some y)), some (vR (some z)), some (vI i), z5, z6, z7] [] σ' cu' su' Q) : zW Γ mLaw 3286 [some (vR (some (gb Γ))), some (vR (some x)), some (vR (some y)), some (vR (some z)), some (vI i), z5, z6, z7] [] σ cu su Q := by
  obtain ⟨a1, a2, a3, a4, a6, ⟨b4, b5⟩, a9⟩ := id h
  have hIn : ∀ j, InR (sx Γ j) := sx_in Γ
  have hr9 := a3.1.1.2
  have on := on_formatWord (A := A) (r := sx Γ (i + 1))
  have aoo : AO (o_formatWord A (sx Γ (i + 1))).2.2 := aq_formatWord a3
  refine zW_aload_n dL_law_3286 rfl ?_
  refine zW_aload_n dL_law_3287 rfl ?_
  refine zW_iload dL_law_3288 rfl ?_
  refine zW_iconst dL_law_3290 ?_
  refine zW_iadd dL_law_3291 ?_
  refine zsI (j := i + 1) dL_law_3292 a6 (by omega) (by omega) ?_
  refine zW_aload_n dL_law_3293 rfl ?_
  refine zcSX3 dL_law_3294 rfl eL_formatWord b1172 ⟨by decide, by decide, (by show cu + 0 + 1 ≤ 601024; omega), (by show su + 0 + 6 ≤ 7293034; omega)⟩ rfl (Nat.le_of_ble_eq_true rfl) (l_formatWord a1 a4 b4 (hIn _) (fun σ1 h1 m1 hz1 e1 => ?_))
  have r1 : RI σ1 y A := a2.out m1 (fun a g1 g2 q => by unfold lzz xr at q; omega)
  refine zW_istore dL_law_3297 (by decide) rfl rfl ?_
  refine zW_aload_n dL_law_3299 rfl ?_
  refine zW_aload_n dL_law_3300 rfl ?_
  refine zW_iload dL_law_3301 rfl ?_
  refine zW_iconst dL_law_3303 ?_
  refine zW_iadd dL_law_3304 ?_
  refine zsI (j := i + 1) dL_law_3305 a6 (by omega) (by omega) ?_
  refine zcV1 dL_law_3306 rfl eX10_formatWord b1847 ⟨by decide, by decide, (by show cu + 1 + 0 ≤ 601024; omega), (by show su + 6 + 0 ≤ 7293034; omega)⟩ rfl r1.1.1 rfl (by decide) (Nat.le_of_ble_eq_true rfl) (q_formatWord r1 (hIn _) (fun σ2 v2 hR ht hm hv => ?_))
  generalize o_formatWord A (sx Γ (i + 1)) = o at on aoo h1 e1 hR ht hv
  have hL := h.step m1 h1 hz1 hR hm aoo
  refine zW_istore dL_law_3309 (by decide) rfl rfl ?_
  refine zW_aload_n dL_law_3311 rfl ?_
  refine zcV0 dL_law_3312 rfl eX10_thrown b1363 ⟨by decide, by decide, (by show cu + 1 + 0 + 0 ≤ 601024; omega), (by show su + 6 + 0 + 0 ≤ 7293034; omega)⟩ rfl hR.1.1 rfl (by decide) (Nat.le_of_ble_eq_true rfl) (q_thrown hR.1.1 ht ?_)
  refine zW_iload dL_law_3315 rfl ?_
  refine zW_icmp_eq (tgt := 3322) dL_law_3317 (by decide) (by first | assumption | omega | (unfold InR; omega) | (unfold InL; omega) | (simp only [InR] at *; omega)) (by first | assumption | omega | (unfold InR; omega) | (unfold InL; omega) | (simp only [InR] at *; omega)) (fun b => ?_) (fun b => ?_)
  · refine zW_iload dL_law_3322 rfl ?_
    refine zW_if_ne (tgt := 3339) dL_law_3324 (by decide) (by first | assumption | omega | (unfold InR; omega) | (unfold InL; omega) | (simp only [InR] at *; omega)) (fun b2 => ?_) (fun b2 => ?_)
    · refine zW_goto (tgt := 3534) dL_law_3339 (by decide) ?_
      exact k σ2 _ _ _ _ _ _ hL (by show cu + 1 + 0 + 0 ≤ cu + 20; omega) (by show su + 6 + 0 + 0 ≤ su + 150; omega)
    · have e0 : o.1 = 0 := by omega
      have ez : zJ σ2 z 0 = nrm o.2.1 := by rw [hm.j (fun q => by unfold yr at q; omega)]; exact e1 e0
      have ev := hv e0
      have hz2 : zK σ2 z = (14, 1) := by rw [hm.K]; exact hz1
      have hJ : InL (nrm o.2.1) := by have := nrm_in o.2.1; unfold InR at this; unfold InL; omega
      refine zW_aload_n dL_law_3327 rfl ?_
      refine zW_iconst dL_law_3328 ?_
      refine zrJ dL_law_3329 hz2 (by first | assumption | omega | (unfold InR; omega) | (unfold InL; omega) | (simp only [InR] at *; omega)) (by first | assumption | omega | (unfold InR; omega) | (unfold InL; omega) | (simp only [InR] at *; omega)) (by first | assumption | omega | (unfold InR; omega) | (unfold InL; omega) | (simp only [InR] at *; omega)) ez ?_
      refine zW_iload dL_law_3330 rfl ?_
      rw [ev]
      refine zW_nrm ?_
      refine zW_i2l dL_law_3332 (nrm_in _) ?_
      refine zW_lcmp dL_law_3333 hJ hJ ?_
      rw [zcmp_self]
      refine zW_if_eq (tgt := 3339) dL_law_3334 (by decide) (by first | assumption | omega | (unfold InR; omega) | (unfold InL; omega) | (simp only [InR] at *; omega)) (fun b4 => ?_) (fun b4 => ?_)
      · refine zW_goto (tgt := 3534) dL_law_3339 (by decide) ?_
        exact k σ2 _ _ _ _ _ _ hL (by show cu + 1 + 0 + 0 ≤ cu + 20; omega) (by show su + 6 + 0 + 0 ≤ su + 150; omega)
      · exact absurd rfl b4
  · exact absurd rfl b
set_option maxRecDepth 100000 in
theorem w_51_formatBasisWord (h : LHd Γ σ x y z A) (hi : i + 6 ≤ gL Γ) (hc : cu ≤ 600000) (hs : su ≤ 7200000) (k : ∀ σ' A' cu' su' z5 z6 z7, LHd Γ σ' x y z A' → cu' ≤ cu + 20 → su' ≤ su + 150 → zW Γ mLaw 3534 [some (vR (some (gb Γ))), some (vR (some x)), some (vR (some y)), some (vR (some z)), some (vI i), z5, z6, z7] [] σ' cu' su' Q) : zW Γ mLaw 3342 [some (vR (some (gb Γ))), some (vR (some x)), some (vR (some y)), some (vR (some z)), some (vI i), z5, z6, z7] [] σ cu su Q := by
  obtain ⟨a1, a2, a3, a4, a6, ⟨b4, b5⟩, a9⟩ := id h
  have hIn : ∀ j, InR (sx Γ j) := sx_in Γ
  have hr9 := a3.1.1.2
  have on := on_formatBasisWord (A := A) (g := sx Γ (i + 1)) (k := sx Γ (i + 2))
  have aoo : AO (o_formatBasisWord A (sx Γ (i + 1)) (sx Γ (i + 2))).2.2 := aq_formatBasisWord a3
  refine zW_aload_n dL_law_3342 rfl ?_
  refine zW_aload_n dL_law_3343 rfl ?_
  refine zW_iload dL_law_3344 rfl ?_
  refine zW_iconst dL_law_3346 ?_
  refine zW_iadd dL_law_3347 ?_
  refine zsI (j := i + 1) dL_law_3348 a6 (by omega) (by omega) ?_
  refine zW_aload_n dL_law_3349 rfl ?_
  refine zW_iload dL_law_3350 rfl ?_
  refine zW_iconst dL_law_3352 ?_
  refine zW_iadd dL_law_3353 ?_
  refine zsI (j := i + 2) dL_law_3354 a6 (by omega) (by omega) ?_
  refine zW_aload_n dL_law_3355 rfl ?_
  refine zcSX4 dL_law_3356 rfl eL_formatBasisWord b1197 ⟨by decide, by decide, (by show cu + 0 + 2 ≤ 601024; omega), (by show su + 0 + 12 ≤ 7293034; omega)⟩ rfl (Nat.le_of_ble_eq_true rfl) (l_formatBasisWord a1 a4 b4 (hIn _) (hIn _) (fun σ1 h1 m1 hz1 e1 => ?_))
  have r1 : RI σ1 y A := a2.out m1 (fun a g1 g2 q => by unfold lzz xr at q; omega)
  refine zW_istore dL_law_3359 (by decide) rfl rfl ?_
  refine zW_aload_n dL_law_3361 rfl ?_
  refine zW_aload_n dL_law_3362 rfl ?_
  refine zW_iload dL_law_3363 rfl ?_
  refine zW_iconst dL_law_3365 ?_
  refine zW_iadd dL_law_3366 ?_
  refine zsI (j := i + 1) dL_law_3367 a6 (by omega) (by omega) ?_
  refine zW_aload_n dL_law_3368 rfl ?_
  refine zW_iload dL_law_3369 rfl ?_
  refine zW_iconst dL_law_3371 ?_
  refine zW_iadd dL_law_3372 ?_
  refine zsI (j := i + 2) dL_law_3373 a6 (by omega) (by omega) ?_
  refine zcV2 dL_law_3374 rfl eX10_formatBasisWord b1859 ⟨by decide, by decide, (by show cu + 2 + 0 ≤ 601024; omega), (by show su + 12 + 0 ≤ 7293034; omega)⟩ rfl r1.1.1 rfl (by decide) (Nat.le_of_ble_eq_true rfl) (q_formatBasisWord r1 (hIn _) (hIn _) (fun σ2 v2 hR ht hm hv => ?_))
  generalize o_formatBasisWord A (sx Γ (i + 1)) (sx Γ (i + 2)) = o at on aoo h1 e1 hR ht hv
  have hL := h.step m1 h1 hz1 hR hm aoo
  refine zW_istore dL_law_3377 (by decide) rfl rfl ?_
  refine zW_aload_n dL_law_3379 rfl ?_
  refine zcV0 dL_law_3380 rfl eX10_thrown b1363 ⟨by decide, by decide, (by show cu + 2 + 0 + 0 ≤ 601024; omega), (by show su + 12 + 0 + 0 ≤ 7293034; omega)⟩ rfl hR.1.1 rfl (by decide) (Nat.le_of_ble_eq_true rfl) (q_thrown hR.1.1 ht ?_)
  refine zW_iload dL_law_3383 rfl ?_
  refine zW_icmp_eq (tgt := 3390) dL_law_3385 (by decide) (by first | assumption | omega | (unfold InR; omega) | (unfold InL; omega) | (simp only [InR] at *; omega)) (by first | assumption | omega | (unfold InR; omega) | (unfold InL; omega) | (simp only [InR] at *; omega)) (fun b => ?_) (fun b => ?_)
  · refine zW_iload dL_law_3390 rfl ?_
    refine zW_if_ne (tgt := 3407) dL_law_3392 (by decide) (by first | assumption | omega | (unfold InR; omega) | (unfold InL; omega) | (simp only [InR] at *; omega)) (fun b2 => ?_) (fun b2 => ?_)
    · refine zW_goto (tgt := 3534) dL_law_3407 (by decide) ?_
      exact k σ2 _ _ _ _ _ _ hL (by show cu + 2 + 0 + 0 ≤ cu + 20; omega) (by show su + 12 + 0 + 0 ≤ su + 150; omega)
    · have e0 : o.1 = 0 := by omega
      have ez : zJ σ2 z 0 = nrm o.2.1 := by rw [hm.j (fun q => by unfold yr at q; omega)]; exact e1 e0
      have ev := hv e0
      have hz2 : zK σ2 z = (14, 1) := by rw [hm.K]; exact hz1
      have hJ : InL (nrm o.2.1) := by have := nrm_in o.2.1; unfold InR at this; unfold InL; omega
      refine zW_aload_n dL_law_3395 rfl ?_
      refine zW_iconst dL_law_3396 ?_
      refine zrJ dL_law_3397 hz2 (by first | assumption | omega | (unfold InR; omega) | (unfold InL; omega) | (simp only [InR] at *; omega)) (by first | assumption | omega | (unfold InR; omega) | (unfold InL; omega) | (simp only [InR] at *; omega)) (by first | assumption | omega | (unfold InR; omega) | (unfold InL; omega) | (simp only [InR] at *; omega)) ez ?_
      refine zW_iload dL_law_3398 rfl ?_
      rw [ev]
      refine zW_nrm ?_
      refine zW_i2l dL_law_3400 (nrm_in _) ?_
      refine zW_lcmp dL_law_3401 hJ hJ ?_
      rw [zcmp_self]
      refine zW_if_eq (tgt := 3407) dL_law_3402 (by decide) (by first | assumption | omega | (unfold InR; omega) | (unfold InL; omega) | (simp only [InR] at *; omega)) (fun b4 => ?_) (fun b4 => ?_)
      · refine zW_goto (tgt := 3534) dL_law_3407 (by decide) ?_
        exact k σ2 _ _ _ _ _ _ hL (by show cu + 2 + 0 + 0 ≤ cu + 20; omega) (by show su + 12 + 0 + 0 ≤ su + 150; omega)
      · exact absurd rfl b4
  · exact absurd rfl b
set_option maxRecDepth 100000 in
theorem w_52_formatRepresentative (h : LHd Γ σ x y z A) (hi : i + 6 ≤ gL Γ) (hc : cu ≤ 600000) (hs : su ≤ 7200000) (k : ∀ σ' A' cu' su' z5 z6 z7, LHd Γ σ' x y z A' → cu' ≤ cu + 20 → su' ≤ su + 150 → zW Γ mLaw 3534 [some (vR (some (gb Γ))), some (vR (some x)), some (vR (some y)), some (vR (some z)), some (vI i), z5, z6, z7] [] σ' cu' su' Q) : zW Γ mLaw 3410 [some (vR (some (gb Γ))), some (vR (some x)), some (vR (some y)), some (vR (some z)), some (vI i), z5, z6, z7] [] σ cu su Q := by
  obtain ⟨a1, a2, a3, a4, a6, ⟨b4, b5⟩, a9⟩ := id h
  have hIn : ∀ j, InR (sx Γ j) := sx_in Γ
  have hr9 := a3.1.1.2
  have on := on_formatRepresentative (A := A) (g := sx Γ (i + 1)) (v := sx Γ (i + 2))
  have aoo : AO (o_formatRepresentative A (sx Γ (i + 1)) (sx Γ (i + 2))).2.2 := aq_formatRepresentative a3
  refine zW_aload_n dL_law_3410 rfl ?_
  refine zW_aload_n dL_law_3411 rfl ?_
  refine zW_iload dL_law_3412 rfl ?_
  refine zW_iconst dL_law_3414 ?_
  refine zW_iadd dL_law_3415 ?_
  refine zsI (j := i + 1) dL_law_3416 a6 (by omega) (by omega) ?_
  refine zW_aload_n dL_law_3417 rfl ?_
  refine zW_iload dL_law_3418 rfl ?_
  refine zW_iconst dL_law_3420 ?_
  refine zW_iadd dL_law_3421 ?_
  refine zsI (j := i + 2) dL_law_3422 a6 (by omega) (by omega) ?_
  refine zW_aload_n dL_law_3423 rfl ?_
  refine zcSX4 dL_law_3424 rfl eL_formatRepresentative b1225 ⟨by decide, by decide, (by show cu + 0 + 2 ≤ 601024; omega), (by show su + 0 + 12 ≤ 7293034; omega)⟩ rfl (Nat.le_of_ble_eq_true rfl) (l_formatRepresentative a1 a4 b4 (hIn _) (hIn _) (fun σ1 h1 m1 hz1 e1 => ?_))
  have r1 : RI σ1 y A := a2.out m1 (fun a g1 g2 q => by unfold lzz xr at q; omega)
  refine zW_istore dL_law_3427 (by decide) rfl rfl ?_
  refine zW_aload_n dL_law_3429 rfl ?_
  refine zW_aload_n dL_law_3430 rfl ?_
  refine zW_iload dL_law_3431 rfl ?_
  refine zW_iconst dL_law_3433 ?_
  refine zW_iadd dL_law_3434 ?_
  refine zsI (j := i + 1) dL_law_3435 a6 (by omega) (by omega) ?_
  refine zW_aload_n dL_law_3436 rfl ?_
  refine zW_iload dL_law_3437 rfl ?_
  refine zW_iconst dL_law_3439 ?_
  refine zW_iadd dL_law_3440 ?_
  refine zsI (j := i + 2) dL_law_3441 a6 (by omega) (by omega) ?_
  refine zcV2 dL_law_3442 rfl eX10_formatRepresentative b1879 ⟨by decide, by decide, (by show cu + 2 + 0 ≤ 601024; omega), (by show su + 12 + 0 ≤ 7293034; omega)⟩ rfl r1.1.1 rfl (by decide) (Nat.le_of_ble_eq_true rfl) (q_formatRepresentative r1 (hIn _) (hIn _) (fun σ2 v2 hR ht hm hv => ?_))
  generalize o_formatRepresentative A (sx Γ (i + 1)) (sx Γ (i + 2)) = o at on aoo h1 e1 hR ht hv
  have hL := h.step m1 h1 hz1 hR hm aoo
  refine zW_istore dL_law_3445 (by decide) rfl rfl ?_
  refine zW_aload_n dL_law_3447 rfl ?_
  refine zcV0 dL_law_3448 rfl eX10_thrown b1363 ⟨by decide, by decide, (by show cu + 2 + 0 + 0 ≤ 601024; omega), (by show su + 12 + 0 + 0 ≤ 7293034; omega)⟩ rfl hR.1.1 rfl (by decide) (Nat.le_of_ble_eq_true rfl) (q_thrown hR.1.1 ht ?_)
  refine zW_iload dL_law_3451 rfl ?_
  refine zW_icmp_eq (tgt := 3458) dL_law_3453 (by decide) (by first | assumption | omega | (unfold InR; omega) | (unfold InL; omega) | (simp only [InR] at *; omega)) (by first | assumption | omega | (unfold InR; omega) | (unfold InL; omega) | (simp only [InR] at *; omega)) (fun b => ?_) (fun b => ?_)
  · refine zW_iload dL_law_3458 rfl ?_
    refine zW_if_ne (tgt := 3475) dL_law_3460 (by decide) (by first | assumption | omega | (unfold InR; omega) | (unfold InL; omega) | (simp only [InR] at *; omega)) (fun b2 => ?_) (fun b2 => ?_)
    · refine zW_goto (tgt := 3534) dL_law_3475 (by decide) ?_
      exact k σ2 _ _ _ _ _ _ hL (by show cu + 2 + 0 + 0 ≤ cu + 20; omega) (by show su + 12 + 0 + 0 ≤ su + 150; omega)
    · have e0 : o.1 = 0 := by omega
      have ez : zJ σ2 z 0 = nrm o.2.1 := by rw [hm.j (fun q => by unfold yr at q; omega)]; exact e1 e0
      have ev := hv e0
      have hz2 : zK σ2 z = (14, 1) := by rw [hm.K]; exact hz1
      have hJ : InL (nrm o.2.1) := by have := nrm_in o.2.1; unfold InR at this; unfold InL; omega
      refine zW_aload_n dL_law_3463 rfl ?_
      refine zW_iconst dL_law_3464 ?_
      refine zrJ dL_law_3465 hz2 (by first | assumption | omega | (unfold InR; omega) | (unfold InL; omega) | (simp only [InR] at *; omega)) (by first | assumption | omega | (unfold InR; omega) | (unfold InL; omega) | (simp only [InR] at *; omega)) (by first | assumption | omega | (unfold InR; omega) | (unfold InL; omega) | (simp only [InR] at *; omega)) ez ?_
      refine zW_iload dL_law_3466 rfl ?_
      rw [ev]
      refine zW_nrm ?_
      refine zW_i2l dL_law_3468 (nrm_in _) ?_
      refine zW_lcmp dL_law_3469 hJ hJ ?_
      rw [zcmp_self]
      refine zW_if_eq (tgt := 3475) dL_law_3470 (by decide) (by first | assumption | omega | (unfold InR; omega) | (unfold InL; omega) | (simp only [InR] at *; omega)) (fun b4 => ?_) (fun b4 => ?_)
      · refine zW_goto (tgt := 3534) dL_law_3475 (by decide) ?_
        exact k σ2 _ _ _ _ _ _ hL (by show cu + 2 + 0 + 0 ≤ cu + 20; omega) (by show su + 12 + 0 + 0 ≤ su + 150; omega)
      · exact absurd rfl b4
  · exact absurd rfl b
set_option maxRecDepth 100000 in
theorem w_53_formattedCharacter (h : LHd Γ σ x y z A) (hi : i + 6 ≤ gL Γ) (hc : cu ≤ 600000) (hs : su ≤ 7200000) (k : ∀ σ' A' cu' su' z5 z6 z7, LHd Γ σ' x y z A' → cu' ≤ cu + 20 → su' ≤ su + 150 → zW Γ mLaw 3534 [some (vR (some (gb Γ))), some (vR (some x)), some (vR (some y)), some (vR (some z)), some (vI i), z5, z6, z7] [] σ' cu' su' Q) : zW Γ mLaw 3478 [some (vR (some (gb Γ))), some (vR (some x)), some (vR (some y)), some (vR (some z)), some (vI i), z5, z6, z7] [] σ cu su Q := by
  obtain ⟨a1, a2, a3, a4, a6, ⟨b4, b5⟩, a9⟩ := id h
  have hIn : ∀ j, InR (sx Γ j) := sx_in Γ
  have hr9 := a3.1.1.2
  have on := on_formattedCharacter (A := A) (i := sx Γ (i + 1))
  have aoo : AO (o_formattedCharacter A (sx Γ (i + 1))).2.2 := aq_formattedCharacter a3
  refine zW_aload_n dL_law_3478 rfl ?_
  refine zW_aload_n dL_law_3479 rfl ?_
  refine zW_iload dL_law_3480 rfl ?_
  refine zW_iconst dL_law_3482 ?_
  refine zW_iadd dL_law_3483 ?_
  refine zsI (j := i + 1) dL_law_3484 a6 (by omega) (by omega) ?_
  refine zW_aload_n dL_law_3485 rfl ?_
  refine zcSX3 dL_law_3486 rfl eL_formattedCharacter b1232 ⟨by decide, by decide, (by show cu + 0 + 1 ≤ 601024; omega), (by show su + 0 + 6 ≤ 7293034; omega)⟩ rfl (Nat.le_of_ble_eq_true rfl) (l_formattedCharacter a1 a4 b4 (hIn _) (fun σ1 h1 m1 hz1 e1 => ?_))
  have r1 : RI σ1 y A := a2.out m1 (fun a g1 g2 q => by unfold lzz xr at q; omega)
  refine zW_istore dL_law_3489 (by decide) rfl rfl ?_
  refine zW_aload_n dL_law_3491 rfl ?_
  refine zW_aload_n dL_law_3492 rfl ?_
  refine zW_iload dL_law_3493 rfl ?_
  refine zW_iconst dL_law_3495 ?_
  refine zW_iadd dL_law_3496 ?_
  refine zsI (j := i + 1) dL_law_3497 a6 (by omega) (by omega) ?_
  refine zcV1 dL_law_3498 rfl eX10_formattedCharacter b1883 ⟨by decide, by decide, (by show cu + 1 + 0 ≤ 601024; omega), (by show su + 6 + 0 ≤ 7293034; omega)⟩ rfl r1.1.1 rfl (by decide) (Nat.le_of_ble_eq_true rfl) (q_formattedCharacter r1 (hIn _) (fun σ2 v2 hR ht hm hv => ?_))
  generalize o_formattedCharacter A (sx Γ (i + 1)) = o at on aoo h1 e1 hR ht hv
  have hL := h.step m1 h1 hz1 hR hm aoo
  refine zW_istore dL_law_3501 (by decide) rfl rfl ?_
  refine zW_aload_n dL_law_3503 rfl ?_
  refine zcV0 dL_law_3504 rfl eX10_thrown b1363 ⟨by decide, by decide, (by show cu + 1 + 0 + 0 ≤ 601024; omega), (by show su + 6 + 0 + 0 ≤ 7293034; omega)⟩ rfl hR.1.1 rfl (by decide) (Nat.le_of_ble_eq_true rfl) (q_thrown hR.1.1 ht ?_)
  refine zW_iload dL_law_3507 rfl ?_
  refine zW_icmp_eq (tgt := 3514) dL_law_3509 (by decide) (by first | assumption | omega | (unfold InR; omega) | (unfold InL; omega) | (simp only [InR] at *; omega)) (by first | assumption | omega | (unfold InR; omega) | (unfold InL; omega) | (simp only [InR] at *; omega)) (fun b => ?_) (fun b => ?_)
  · refine zW_iload dL_law_3514 rfl ?_
    refine zW_if_ne (tgt := 3531) dL_law_3516 (by decide) (by first | assumption | omega | (unfold InR; omega) | (unfold InL; omega) | (simp only [InR] at *; omega)) (fun b2 => ?_) (fun b2 => ?_)
    · refine zW_goto (tgt := 3534) dL_law_3531 (by decide) ?_
      exact k σ2 _ _ _ _ _ _ hL (by show cu + 1 + 0 + 0 ≤ cu + 20; omega) (by show su + 6 + 0 + 0 ≤ su + 150; omega)
    · have e0 : o.1 = 0 := by omega
      have ez : zJ σ2 z 0 = nrm o.2.1 := by rw [hm.j (fun q => by unfold yr at q; omega)]; exact e1 e0
      have ev := hv e0
      have hz2 : zK σ2 z = (14, 1) := by rw [hm.K]; exact hz1
      have hJ : InL (nrm o.2.1) := by have := nrm_in o.2.1; unfold InR at this; unfold InL; omega
      refine zW_aload_n dL_law_3519 rfl ?_
      refine zW_iconst dL_law_3520 ?_
      refine zrJ dL_law_3521 hz2 (by first | assumption | omega | (unfold InR; omega) | (unfold InL; omega) | (simp only [InR] at *; omega)) (by first | assumption | omega | (unfold InR; omega) | (unfold InL; omega) | (simp only [InR] at *; omega)) (by first | assumption | omega | (unfold InR; omega) | (unfold InL; omega) | (simp only [InR] at *; omega)) ez ?_
      refine zW_iload dL_law_3522 rfl ?_
      rw [ev]
      refine zW_nrm ?_
      refine zW_i2l dL_law_3524 (nrm_in _) ?_
      refine zW_lcmp dL_law_3525 hJ hJ ?_
      rw [zcmp_self]
      refine zW_if_eq (tgt := 3531) dL_law_3526 (by decide) (by first | assumption | omega | (unfold InR; omega) | (unfold InL; omega) | (simp only [InR] at *; omega)) (fun b4 => ?_) (fun b4 => ?_)
      · refine zW_goto (tgt := 3534) dL_law_3531 (by decide) ?_
        exact k σ2 _ _ _ _ _ _ hL (by show cu + 1 + 0 + 0 ≤ cu + 20; omega) (by show su + 6 + 0 + 0 ≤ su + 150; omega)
      · exact absurd rfl b4
  · exact absurd rfl b
end LAW
