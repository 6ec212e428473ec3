/-! the rows in the shapes that the walks use -/
section ZHELP
variable {Γ : GG} {M M' : MT} {pc : Nat} {lo : List (Option AV)} {st : List AV} {σ : HS} {cu su : Nat} {Q : Res → HS → Prop}
theorem zgI {idx ci k a n : Nat} {v : Int} (d : decode (mB M) pc = .ok (.getfield idx, 3)) (L : zFl (mY M).cls idx ci k) (hk : zK σ a = (ci, n)) (hr : zR ci k = false) (hv : zO σ a k = v) (kk : zW Γ M (pc + 3) lo (vI v :: st) σ cu su Q) : zW Γ M pc lo (vR (some a) :: st) σ cu su Q := by
  subst hv
  exact zW_getI d L (by rw [hk]) hr kk
theorem zgP {idx ci k a n : Nat} {v : Option Nat} (d : decode (mB M) pc = .ok (.getfield idx, 3)) (L : zFl (mY M).cls idx ci k) (hk : zK σ a = (ci, n)) (hr : zR ci k = true) (hv : zP σ a k = v) (kk : zW Γ M (pc + 3) lo (vR v :: st) σ cu su Q) : zW Γ M pc lo (vR (some a) :: st) σ cu su Q := by
  subst hv
  exact zW_getP d L (by rw [hk]) hr kk
theorem zpI {idx ci k a n : Nat} {x : Int} (d : decode (mB M) pc = .ok (.putfield idx, 3)) (L : zFl (mY M).cls idx ci k) (hk : zK σ a = (ci, n)) (hr : zR ci k = false) (hfin : (zcT ci k).2.2.2 = false ∨ ((mY M).name = "<init>" ∧ (mY M).cls = zcN ci)) (hn : zst (zct ci k) x) (kk : zW Γ M (pc + 3) lo st (sO σ a k x) cu su Q) : zW Γ M pc lo (vI x :: vR (some a) :: st) σ cu su Q :=
  zW_putI d L (by rw [hk]) hr hfin hn kk
theorem zpP {idx ci k a n : Nat} {r : Option Nat} {t : FieldType} (d : decode (mB M) pc = .ok (.putfield idx, 3)) (L : zFl (mY M).cls idx ci k) (hk : zK σ a = (ci, n)) (hr : zR ci k = true) (hfin : (zcT ci k).2.2.2 = false ∨ ((mY M).name = "<init>" ∧ (mY M).cls = zcN ci)) (hn : zct ci k = .array t ∨ ∃ C : String, zct ci k = .object C) (kk : zW Γ M (pc + 3) lo st (sP σ a k r) cu su Q) : zW Γ M pc lo (vR r :: vR (some a) :: st) σ cu su Q :=
  zW_putP d L (by rw [hk]) hr hfin hn kk
theorem zrI {a n : Nat} {i v : Int} (d : decode (mB M) pc = .ok (.iaload, 1)) (hk : zK σ a = (13, n)) (hn : n ≤ 2147483647) (h0 : 0 ≤ i) (h1 : i < n) (hv : zI σ a i.toNat = v) (k : zW Γ M (pc + 1) lo (vI v :: st) σ cu su Q) : zW Γ M pc lo (vI i :: vR (some a) :: st) σ cu su Q := by
  subst hv
  exact zW_iald d hk hn h0 h1 k
theorem zrC {a n : Nat} {i v : Int} (d : decode (mB M) pc = .ok (.caload, 1)) (hk : zK σ a = (12, n)) (hn : n ≤ 2147483647) (h0 : 0 ≤ i) (h1 : i < n) (hv : zI σ a i.toNat = v) (k : zW Γ M (pc + 1) lo (vI v :: st) σ cu su Q) : zW Γ M pc lo (vI i :: vR (some a) :: st) σ cu su Q := by
  subst hv
  exact zW_cald d hk hn h0 h1 k
theorem zrB {a n : Nat} {i v : Int} (d : decode (mB M) pc = .ok (.baload, 1)) (hk : zK σ a = (11, n)) (hn : n ≤ 2147483647) (h0 : 0 ≤ i) (h1 : i < n) (hv : zI σ a i.toNat = v) (k : zW Γ M (pc + 1) lo (vI v :: st) σ cu su Q) : zW Γ M pc lo (vI i :: vR (some a) :: st) σ cu su Q := by
  subst hv
  exact zW_bald d hk hn h0 h1 k
theorem zrZ {a n : Nat} {i v : Int} (d : decode (mB M) pc = .ok (.baload, 1)) (hk : zK σ a = (15, n)) (hn : n ≤ 2147483647) (h0 : 0 ≤ i) (h1 : i < n) (hv : zI σ a i.toNat = v) (k : zW Γ M (pc + 1) lo (vI v :: st) σ cu su Q) : zW Γ M pc lo (vI i :: vR (some a) :: st) σ cu su Q := by
  subst hv
  exact zW_zald d hk hn h0 h1 k
theorem zrJ {a n : Nat} {i v : Int} (d : decode (mB M) pc = .ok (.laload, 1)) (hk : zK σ a = (14, n)) (hn : n ≤ 2147483647) (h0 : 0 ≤ i) (h1 : i < n) (hv : zJ σ a i.toNat = v) (k : zW Γ M (pc + 1) lo (vJ v :: st) σ cu su Q) : zW Γ M pc lo (vI i :: vR (some a) :: st) σ cu su Q := by
  subst hv
  exact zW_lald d hk hn h0 h1 k
theorem zrP {a K n : Nat} {i : Int} {v : Option Nat} (d : decode (mB M) pc = .ok (.aaload, 1)) (hk : zK σ a = (K, n)) (hK1 : 16 ≤ K) (hK2 : K < 19) (hn : n ≤ 2147483647) (h0 : 0 ≤ i) (h1 : i < n) (hv : zP σ a i.toNat = v) (k : zW Γ M (pc + 1) lo (vR v :: st) σ cu su Q) : zW Γ M pc lo (vI i :: vR (some a) :: st) σ cu su Q := by
  subst hv
  exact zW_aald d hk hK1 hK2 hn h0 h1 k
theorem zx1 : ∀ x, x < 256 → (iI (x : Nat) ^^^ iI 1).toInt = ((x ^^^ 1 : Nat) : Int) := by decide +kernel
theorem zW_ixor1 {x : Nat} (d : decode (mB M) pc = .ok (.ixor, 1)) (hx : x < 8) (k : zW Γ M (pc + 1) lo (vI ((x ^^^ 1 : Nat) : Int) :: st) σ cu su Q) : zW Γ M pc lo (vI 1 :: vI (x : Int) :: st) σ cu su Q := by
  refine zW_ixor d ?_
  rw [zx1 x (by omega)]
  exact k
/-- behind a call, where nothing is caught -/
def zk (Γ : GG) (M : MT) (pc : Nat) (lo : List (Option AV)) (st : List AV) (cu su : Nat) (Q : Res → HS → Prop) : Res → HS → Prop := fun r σ' => match r with
  | .inl v => zW Γ M (pc + 3) lo (v.toList ++ st) σ' cu su Q
  | .inr E => Q (.inr E) σ'
theorem zk_zc (hh : mH M = []) (hc : cu ≤ mC M) (hs : su ≤ mS M) : ∀ r σ', zk Γ M pc lo st cu su Q r σ' → zc Γ M pc lo st cu su Q r σ' := fun r σ' h => by
  cases r with
  | inl v => exact h
  | inr E => exact zWx_out hh hc hs h
theorem zcV0 {idx a ci m9 : Nat} (d : decode (mB M) pc = .ok (.invokevirtual idx, 3)) (hh : mH M' = []) (he : zCeV M' 0) (hlk : Cond.methodLink (mY M).cls idx (mY M') ∈ BIG) (hrm : zRm M M' cu su) (hhm : mH M = []) (hk : zK σ a = (ci, m9)) (hC : (mY M').cls = zcN ci) (hci : ci < 11) (hcat : zcat st ≤ 8) (k : zM Γ M' (vR (some a) :: []) σ (zk Γ M pc lo st (cu + mC M') (su + mS M') Q)) : zW Γ M pc lo (vR (some a) :: st) σ cu su Q :=
  zW_callV (av := []) d hh he hlk hrm rfl rfl hcat (by rw [hk]) hci hC (zM_mono k (zk_zc hhm hrm.2.2.1 hrm.2.2.2))
theorem zcI0 {idx a : Nat} (d : decode (mB M) pc = .ok (.invokespecial idx, 3)) (hh : mH M' = []) (he : zCeI M' 0) (hlk : Cond.methodLink (mY M).cls idx (mY M') ∈ BIG) (hrm : zRm M M' cu su) (hhm : mH M = []) (hi : (mY M').name = "<init>") (hr : mR M' = none) (hcat : zcat st ≤ 8) (k : zM Γ M' (vR (some a) :: []) σ (zk Γ M pc lo st (cu + mC M') (su + mS M') Q)) : zW Γ M pc lo (vR (some a) :: st) σ cu su Q :=
  zW_callI (av := []) d hh he hlk hrm rfl rfl hcat hi hr (zM_mono k (zk_zc hhm hrm.2.2.1 hrm.2.2.2))
theorem zcIN0 {idx a : Nat} {host : String} (d : decode (mB M) pc = .ok (.invokespecial idx, 3)) (hh : mH M' = []) (he : zCeI M' 0) (hlk : ((mY M).cls, idx, mY M', host) ∈ zNest) (hrm : zRm M M' cu su) (hhm : mH M = []) (hi : (mY M').name = "<init>") (hr : mR M' = none) (hcat : zcat st ≤ 8) (k : zM Γ M' (vR (some a) :: []) σ (zk Γ M pc lo st (cu + mC M') (su + mS M') Q)) : zW Γ M pc lo (vR (some a) :: st) σ cu su Q :=
  zW_callIN (av := []) d hh he hlk hrm rfl rfl hcat hi hr (zM_mono k (zk_zc hhm hrm.2.2.1 hrm.2.2.2))
theorem zcS0 {idx : Nat} (d : decode (mB M) pc = .ok (.invokestatic idx, 3)) (hh : mH M' = []) (he : zCeS M' 0) (hlk : Cond.methodLink (mY M).cls idx (mY M') ∈ BIG) (hrm : zRm M M' cu su) (hhm : mH M = []) (hcat : zcat st ≤ 8) (k : zM Γ M' [] σ (zk Γ M pc lo st (cu + mC M') (su + mS M') Q)) : zW Γ M pc lo (st) σ cu su Q :=
  zW_callS (av := []) d hh he hlk hrm rfl rfl hcat (zM_mono k (zk_zc hhm hrm.2.2.1 hrm.2.2.2))
theorem zcSN0 {idx : Nat} {host : String} (d : decode (mB M) pc = .ok (.invokestatic idx, 3)) (hh : mH M' = []) (he : zCeS M' 0) (hlk : ((mY M).cls, idx, mY M', host) ∈ zNest) (hrm : zRm M M' cu su) (hhm : mH M = []) (hcat : zcat st ≤ 8) (k : zM Γ M' [] σ (zk Γ M pc lo st (cu + mC M') (su + mS M') Q)) : zW Γ M pc lo (st) σ cu su Q :=
  zW_callSN (av := []) d hh he hlk hrm rfl rfl hcat (zM_mono k (zk_zc hhm hrm.2.2.1 hrm.2.2.2))
theorem zcV1 {idx a ci m9 : Nat} {x0 : AV} (d : decode (mB M) pc = .ok (.invokevirtual idx, 3)) (hh : mH M' = []) (he : zCeV M' 1) (hlk : Cond.methodLink (mY M).cls idx (mY M') ∈ BIG) (hrm : zRm M M' cu su) (hhm : mH M = []) (hk : zK σ a = (ci, m9)) (hC : (mY M').cls = zcN ci) (hci : ci < 11) (hcat : zcat st ≤ 8) (k : zM Γ M' (vR (some a) :: [x0]) σ (zk Γ M pc lo st (cu + mC M') (su + mS M') Q)) : zW Γ M pc lo (x0 :: vR (some a) :: st) σ cu su Q :=
  zW_callV (av := [x0]) d hh he hlk hrm rfl rfl hcat (by rw [hk]) hci hC (zM_mono k (zk_zc hhm hrm.2.2.1 hrm.2.2.2))
theorem zcI1 {idx a : Nat} {x0 : AV} (d : decode (mB M) pc = .ok (.invokespecial idx, 3)) (hh : mH M' = []) (he : zCeI M' 1) (hlk : Cond.methodLink (mY M).cls idx (mY M') ∈ BIG) (hrm : zRm M M' cu su) (hhm : mH M = []) (hi : (mY M').name = "<init>") (hr : mR M' = none) (hcat : zcat st ≤ 8) (k : zM Γ M' (vR (some a) :: [x0]) σ (zk Γ M pc lo st (cu + mC M') (su + mS M') Q)) : zW Γ M pc lo (x0 :: vR (some a) :: st) σ cu su Q :=
  zW_callI (av := [x0]) d hh he hlk hrm rfl rfl hcat hi hr (zM_mono k (zk_zc hhm hrm.2.2.1 hrm.2.2.2))
theorem zcIN1 {idx a : Nat} {host : String} {x0 : AV} (d : decode (mB M) pc = .ok (.invokespecial idx, 3)) (hh : mH M' = []) (he : zCeI M' 1) (hlk : ((mY M).cls, idx, mY M', host) ∈ zNest) (hrm : zRm M M' cu su) (hhm : mH M = []) (hi : (mY M').name = "<init>") (hr : mR M' = none) (hcat : zcat st ≤ 8) (k : zM Γ M' (vR (some a) :: [x0]) σ (zk Γ M pc lo st (cu + mC M') (su + mS M') Q)) : zW Γ M pc lo (x0 :: vR (some a) :: st) σ cu su Q :=
  zW_callIN (av := [x0]) d hh he hlk hrm rfl rfl hcat hi hr (zM_mono k (zk_zc hhm hrm.2.2.1 hrm.2.2.2))
theorem zcS1 {idx : Nat} {x0 : AV} (d : decode (mB M) pc = .ok (.invokestatic idx, 3)) (hh : mH M' = []) (he : zCeS M' 1) (hlk : Cond.methodLink (mY M).cls idx (mY M') ∈ BIG) (hrm : zRm M M' cu su) (hhm : mH M = []) (hcat : zcat st ≤ 8) (k : zM Γ M' [x0] σ (zk Γ M pc lo st (cu + mC M') (su + mS M') Q)) : zW Γ M pc lo (x0 :: st) σ cu su Q :=
  zW_callS (av := [x0]) d hh he hlk hrm rfl rfl hcat (zM_mono k (zk_zc hhm hrm.2.2.1 hrm.2.2.2))
theorem zcSN1 {idx : Nat} {host : String} {x0 : AV} (d : decode (mB M) pc = .ok (.invokestatic idx, 3)) (hh : mH M' = []) (he : zCeS M' 1) (hlk : ((mY M).cls, idx, mY M', host) ∈ zNest) (hrm : zRm M M' cu su) (hhm : mH M = []) (hcat : zcat st ≤ 8) (k : zM Γ M' [x0] σ (zk Γ M pc lo st (cu + mC M') (su + mS M') Q)) : zW Γ M pc lo (x0 :: st) σ cu su Q :=
  zW_callSN (av := [x0]) d hh he hlk hrm rfl rfl hcat (zM_mono k (zk_zc hhm hrm.2.2.1 hrm.2.2.2))
theorem zcV2 {idx a ci m9 : Nat} {x0 x1 : AV} (d : decode (mB M) pc = .ok (.invokevirtual idx, 3)) (hh : mH M' = []) (he : zCeV M' 2) (hlk : Cond.methodLink (mY M).cls idx (mY M') ∈ BIG) (hrm : zRm M M' cu su) (hhm : mH M = []) (hk : zK σ a = (ci, m9)) (hC : (mY M').cls = zcN ci) (hci : ci < 11) (hcat : zcat st ≤ 8) (k : zM Γ M' (vR (some a) :: [x0, x1]) σ (zk Γ M pc lo st (cu + mC M') (su + mS M') Q)) : zW Γ M pc lo (x1 :: x0 :: vR (some a) :: st) σ cu su Q :=
  zW_callV (av := [x0, x1]) d hh he hlk hrm rfl rfl hcat (by rw [hk]) hci hC (zM_mono k (zk_zc hhm hrm.2.2.1 hrm.2.2.2))
theorem zcI2 {idx a : Nat} {x0 x1 : AV} (d : decode (mB M) pc = .ok (.invokespecial idx, 3)) (hh : mH M' = []) (he : zCeI M' 2) (hlk : Cond.methodLink (mY M).cls idx (mY M') ∈ BIG) (hrm : zRm M M' cu su) (hhm : mH M = []) (hi : (mY M').name = "<init>") (hr : mR M' = none) (hcat : zcat st ≤ 8) (k : zM Γ M' (vR (some a) :: [x0, x1]) σ (zk Γ M pc lo st (cu + mC M') (su + mS M') Q)) : zW Γ M pc lo (x1 :: x0 :: vR (some a) :: st) σ cu su Q :=
  zW_callI (av := [x0, x1]) d hh he hlk hrm rfl rfl hcat hi hr (zM_mono k (zk_zc hhm hrm.2.2.1 hrm.2.2.2))
theorem zcIN2 {idx a : Nat} {host : String} {x0 x1 : AV} (d : decode (mB M) pc = .ok (.invokespecial idx, 3)) (hh : mH M' = []) (he : zCeI M' 2) (hlk : ((mY M).cls, idx, mY M', host) ∈ zNest) (hrm : zRm M M' cu su) (hhm : mH M = []) (hi : (mY M').name = "<init>") (hr : mR M' = none) (hcat : zcat st ≤ 8) (k : zM Γ M' (vR (some a) :: [x0, x1]) σ (zk Γ M pc lo st (cu + mC M') (su + mS M') Q)) : zW Γ M pc lo (x1 :: x0 :: vR (some a) :: st) σ cu su Q :=
  zW_callIN (av := [x0, x1]) d hh he hlk hrm rfl rfl hcat hi hr (zM_mono k (zk_zc hhm hrm.2.2.1 hrm.2.2.2))
theorem zcS2 {idx : Nat} {x0 x1 : AV} (d : decode (mB M) pc = .ok (.invokestatic idx, 3)) (hh : mH M' = []) (he : zCeS M' 2) (hlk : Cond.methodLink (mY M).cls idx (mY M') ∈ BIG) (hrm : zRm M M' cu su) (hhm : mH M = []) (hcat : zcat st ≤ 8) (k : zM Γ M' [x0, x1] σ (zk Γ M pc lo st (cu + mC M') (su + mS M') Q)) : zW Γ M pc lo (x1 :: x0 :: st) σ cu su Q :=
  zW_callS (av := [x0, x1]) d hh he hlk hrm rfl rfl hcat (zM_mono k (zk_zc hhm hrm.2.2.1 hrm.2.2.2))
theorem zcSN2 {idx : Nat} {host : String} {x0 x1 : AV} (d : decode (mB M) pc = .ok (.invokestatic idx, 3)) (hh : mH M' = []) (he : zCeS M' 2) (hlk : ((mY M).cls, idx, mY M', host) ∈ zNest) (hrm : zRm M M' cu su) (hhm : mH M = []) (hcat : zcat st ≤ 8) (k : zM Γ M' [x0, x1] σ (zk Γ M pc lo st (cu + mC M') (su + mS M') Q)) : zW Γ M pc lo (x1 :: x0 :: st) σ cu su Q :=
  zW_callSN (av := [x0, x1]) d hh he hlk hrm rfl rfl hcat (zM_mono k (zk_zc hhm hrm.2.2.1 hrm.2.2.2))
theorem zcV3 {idx a ci m9 : Nat} {x0 x1 x2 : AV} (d : decode (mB M) pc = .ok (.invokevirtual idx, 3)) (hh : mH M' = []) (he : zCeV M' 3) (hlk : Cond.methodLink (mY M).cls idx (mY M') ∈ BIG) (hrm : zRm M M' cu su) (hhm : mH M = []) (hk : zK σ a = (ci, m9)) (hC : (mY M').cls = zcN ci) (hci : ci < 11) (hcat : zcat st ≤ 8) (k : zM Γ M' (vR (some a) :: [x0, x1, x2]) σ (zk Γ M pc lo st (cu + mC M') (su + mS M') Q)) : zW Γ M pc lo (x2 :: x1 :: x0 :: vR (some a) :: st) σ cu su Q :=
  zW_callV (av := [x0, x1, x2]) d hh he hlk hrm rfl rfl hcat (by rw [hk]) hci hC (zM_mono k (zk_zc hhm hrm.2.2.1 hrm.2.2.2))
theorem zcI3 {idx a : Nat} {x0 x1 x2 : AV} (d : decode (mB M) pc = .ok (.invokespecial idx, 3)) (hh : mH M' = []) (he : zCeI M' 3) (hlk : Cond.methodLink (mY M).cls idx (mY M') ∈ BIG) (hrm : zRm M M' cu su) (hhm : mH M = []) (hi : (mY M').name = "<init>") (hr : mR M' = none) (hcat : zcat st ≤ 8) (k : zM Γ M' (vR (some a) :: [x0, x1, x2]) σ (zk Γ M pc lo st (cu + mC M') (su + mS M') Q)) : zW Γ M pc lo (x2 :: x1 :: x0 :: vR (some a) :: st) σ cu su Q :=
  zW_callI (av := [x0, x1, x2]) d hh he hlk hrm rfl rfl hcat hi hr (zM_mono k (zk_zc hhm hrm.2.2.1 hrm.2.2.2))
theorem zcIN3 {idx a : Nat} {host : String} {x0 x1 x2 : AV} (d : decode (mB M) pc = .ok (.invokespecial idx, 3)) (hh : mH M' = []) (he : zCeI M' 3) (hlk : ((mY M).cls, idx, mY M', host) ∈ zNest) (hrm : zRm M M' cu su) (hhm : mH M = []) (hi : (mY M').name = "<init>") (hr : mR M' = none) (hcat : zcat st ≤ 8) (k : zM Γ M' (vR (some a) :: [x0, x1, x2]) σ (zk Γ M pc lo st (cu + mC M') (su + mS M') Q)) : zW Γ M pc lo (x2 :: x1 :: x0 :: vR (some a) :: st) σ cu su Q :=
  zW_callIN (av := [x0, x1, x2]) d hh he hlk hrm rfl rfl hcat hi hr (zM_mono k (zk_zc hhm hrm.2.2.1 hrm.2.2.2))
theorem zcS3 {idx : Nat} {x0 x1 x2 : AV} (d : decode (mB M) pc = .ok (.invokestatic idx, 3)) (hh : mH M' = []) (he : zCeS M' 3) (hlk : Cond.methodLink (mY M).cls idx (mY M') ∈ BIG) (hrm : zRm M M' cu su) (hhm : mH M = []) (hcat : zcat st ≤ 8) (k : zM Γ M' [x0, x1, x2] σ (zk Γ M pc lo st (cu + mC M') (su + mS M') Q)) : zW Γ M pc lo (x2 :: x1 :: x0 :: st) σ cu su Q :=
  zW_callS (av := [x0, x1, x2]) d hh he hlk hrm rfl rfl hcat (zM_mono k (zk_zc hhm hrm.2.2.1 hrm.2.2.2))
theorem zcSN3 {idx : Nat} {host : String} {x0 x1 x2 : AV} (d : decode (mB M) pc = .ok (.invokestatic idx, 3)) (hh : mH M' = []) (he : zCeS M' 3) (hlk : ((mY M).cls, idx, mY M', host) ∈ zNest) (hrm : zRm M M' cu su) (hhm : mH M = []) (hcat : zcat st ≤ 8) (k : zM Γ M' [x0, x1, x2] σ (zk Γ M pc lo st (cu + mC M') (su + mS M') Q)) : zW Γ M pc lo (x2 :: x1 :: x0 :: st) σ cu su Q :=
  zW_callSN (av := [x0, x1, x2]) d hh he hlk hrm rfl rfl hcat (zM_mono k (zk_zc hhm hrm.2.2.1 hrm.2.2.2))
theorem zcV4 {idx a ci m9 : Nat} {x0 x1 x2 x3 : AV} (d : decode (mB M) pc = .ok (.invokevirtual idx, 3)) (hh : mH M' = []) (he : zCeV M' 4) (hlk : Cond.methodLink (mY M).cls idx (mY M') ∈ BIG) (hrm : zRm M M' cu su) (hhm : mH M = []) (hk : zK σ a = (ci, m9)) (hC : (mY M').cls = zcN ci) (hci : ci < 11) (hcat : zcat st ≤ 8) (k : zM Γ M' (vR (some a) :: [x0, x1, x2, x3]) σ (zk Γ M pc lo st (cu + mC M') (su + mS M') Q)) : zW Γ M pc lo (x3 :: x2 :: x1 :: x0 :: vR (some a) :: st) σ cu su Q :=
  zW_callV (av := [x0, x1, x2, x3]) d hh he hlk hrm rfl rfl hcat (by rw [hk]) hci hC (zM_mono k (zk_zc hhm hrm.2.2.1 hrm.2.2.2))
theorem zcI4 {idx a : Nat} {x0 x1 x2 x3 : AV} (d : decode (mB M) pc = .ok (.invokespecial idx, 3)) (hh : mH M' = []) (he : zCeI M' 4) (hlk : Cond.methodLink (mY M).cls idx (mY M') ∈ BIG) (hrm : zRm M M' cu su) (hhm : mH M = []) (hi : (mY M').name = "<init>") (hr : mR M' = none) (hcat : zcat st ≤ 8) (k : zM Γ M' (vR (some a) :: [x0, x1, x2, x3]) σ (zk Γ M pc lo st (cu + mC M') (su + mS M') Q)) : zW Γ M pc lo (x3 :: x2 :: x1 :: x0 :: vR (some a) :: st) σ cu su Q :=
  zW_callI (av := [x0, x1, x2, x3]) d hh he hlk hrm rfl rfl hcat hi hr (zM_mono k (zk_zc hhm hrm.2.2.1 hrm.2.2.2))
theorem zcIN4 {idx a : Nat} {host : String} {x0 x1 x2 x3 : AV} (d : decode (mB M) pc = .ok (.invokespecial idx, 3)) (hh : mH M' = []) (he : zCeI M' 4) (hlk : ((mY M).cls, idx, mY M', host) ∈ zNest) (hrm : zRm M M' cu su) (hhm : mH M = []) (hi : (mY M').name = "<init>") (hr : mR M' = none) (hcat : zcat st ≤ 8) (k : zM Γ M' (vR (some a) :: [x0, x1, x2, x3]) σ (zk Γ M pc lo st (cu + mC M') (su + mS M') Q)) : zW Γ M pc lo (x3 :: x2 :: x1 :: x0 :: vR (some a) :: st) σ cu su Q :=
  zW_callIN (av := [x0, x1, x2, x3]) d hh he hlk hrm rfl rfl hcat hi hr (zM_mono k (zk_zc hhm hrm.2.2.1 hrm.2.2.2))
theorem zcS4 {idx : Nat} {x0 x1 x2 x3 : AV} (d : decode (mB M) pc = .ok (.invokestatic idx, 3)) (hh : mH M' = []) (he : zCeS M' 4) (hlk : Cond.methodLink (mY M).cls idx (mY M') ∈ BIG) (hrm : zRm M M' cu su) (hhm : mH M = []) (hcat : zcat st ≤ 8) (k : zM Γ M' [x0, x1, x2, x3] σ (zk Γ M pc lo st (cu + mC M') (su + mS M') Q)) : zW Γ M pc lo (x3 :: x2 :: x1 :: x0 :: st) σ cu su Q :=
  zW_callS (av := [x0, x1, x2, x3]) d hh he hlk hrm rfl rfl hcat (zM_mono k (zk_zc hhm hrm.2.2.1 hrm.2.2.2))
theorem zcSN4 {idx : Nat} {host : String} {x0 x1 x2 x3 : AV} (d : decode (mB M) pc = .ok (.invokestatic idx, 3)) (hh : mH M' = []) (he : zCeS M' 4) (hlk : ((mY M).cls, idx, mY M', host) ∈ zNest) (hrm : zRm M M' cu su) (hhm : mH M = []) (hcat : zcat st ≤ 8) (k : zM Γ M' [x0, x1, x2, x3] σ (zk Γ M pc lo st (cu + mC M') (su + mS M') Q)) : zW Γ M pc lo (x3 :: x2 :: x1 :: x0 :: st) σ cu su Q :=
  zW_callSN (av := [x0, x1, x2, x3]) d hh he hlk hrm rfl rfl hcat (zM_mono k (zk_zc hhm hrm.2.2.1 hrm.2.2.2))
theorem zcV5 {idx a ci m9 : Nat} {x0 x1 x2 x3 x4 : AV} (d : decode (mB M) pc = .ok (.invokevirtual idx, 3)) (hh : mH M' = []) (he : zCeV M' 5) (hlk : Cond.methodLink (mY M).cls idx (mY M') ∈ BIG) (hrm : zRm M M' cu su) (hhm : mH M = []) (hk : zK σ a = (ci, m9)) (hC : (mY M').cls = zcN ci) (hci : ci < 11) (hcat : zcat st ≤ 8) (k : zM Γ M' (vR (some a) :: [x0, x1, x2, x3, x4]) σ (zk Γ M pc lo st (cu + mC M') (su + mS M') Q)) : zW Γ M pc lo (x4 :: x3 :: x2 :: x1 :: x0 :: vR (some a) :: st) σ cu su Q :=
  zW_callV (av := [x0, x1, x2, x3, x4]) d hh he hlk hrm rfl rfl hcat (by rw [hk]) hci hC (zM_mono k (zk_zc hhm hrm.2.2.1 hrm.2.2.2))
theorem zcI5 {idx a : Nat} {x0 x1 x2 x3 x4 : AV} (d : decode (mB M) pc = .ok (.invokespecial idx, 3)) (hh : mH M' = []) (he : zCeI M' 5) (hlk : Cond.methodLink (mY M).cls idx (mY M') ∈ BIG) (hrm : zRm M M' cu su) (hhm : mH M = []) (hi : (mY M').name = "<init>") (hr : mR M' = none) (hcat : zcat st ≤ 8) (k : zM Γ M' (vR (some a) :: [x0, x1, x2, x3, x4]) σ (zk Γ M pc lo st (cu + mC M') (su + mS M') Q)) : zW Γ M pc lo (x4 :: x3 :: x2 :: x1 :: x0 :: vR (some a) :: st) σ cu su Q :=
  zW_callI (av := [x0, x1, x2, x3, x4]) d hh he hlk hrm rfl rfl hcat hi hr (zM_mono k (zk_zc hhm hrm.2.2.1 hrm.2.2.2))
theorem zcIN5 {idx a : Nat} {host : String} {x0 x1 x2 x3 x4 : AV} (d : decode (mB M) pc = .ok (.invokespecial idx, 3)) (hh : mH M' = []) (he : zCeI M' 5) (hlk : ((mY M).cls, idx, mY M', host) ∈ zNest) (hrm : zRm M M' cu su) (hhm : mH M = []) (hi : (mY M').name = "<init>") (hr : mR M' = none) (hcat : zcat st ≤ 8) (k : zM Γ M' (vR (some a) :: [x0, x1, x2, x3, x4]) σ (zk Γ M pc lo st (cu + mC M') (su + mS M') Q)) : zW Γ M pc lo (x4 :: x3 :: x2 :: x1 :: x0 :: vR (some a) :: st) σ cu su Q :=
  zW_callIN (av := [x0, x1, x2, x3, x4]) d hh he hlk hrm rfl rfl hcat hi hr (zM_mono k (zk_zc hhm hrm.2.2.1 hrm.2.2.2))
theorem zcS5 {idx : Nat} {x0 x1 x2 x3 x4 : AV} (d : decode (mB M) pc = .ok (.invokestatic idx, 3)) (hh : mH M' = []) (he : zCeS M' 5) (hlk : Cond.methodLink (mY M).cls idx (mY M') ∈ BIG) (hrm : zRm M M' cu su) (hhm : mH M = []) (hcat : zcat st ≤ 8) (k : zM Γ M' [x0, x1, x2, x3, x4] σ (zk Γ M pc lo st (cu + mC M') (su + mS M') Q)) : zW Γ M pc lo (x4 :: x3 :: x2 :: x1 :: x0 :: st) σ cu su Q :=
  zW_callS (av := [x0, x1, x2, x3, x4]) d hh he hlk hrm rfl rfl hcat (zM_mono k (zk_zc hhm hrm.2.2.1 hrm.2.2.2))
theorem zcSN5 {idx : Nat} {host : String} {x0 x1 x2 x3 x4 : AV} (d : decode (mB M) pc = .ok (.invokestatic idx, 3)) (hh : mH M' = []) (he : zCeS M' 5) (hlk : ((mY M).cls, idx, mY M', host) ∈ zNest) (hrm : zRm M M' cu su) (hhm : mH M = []) (hcat : zcat st ≤ 8) (k : zM Γ M' [x0, x1, x2, x3, x4] σ (zk Γ M pc lo st (cu + mC M') (su + mS M') Q)) : zW Γ M pc lo (x4 :: x3 :: x2 :: x1 :: x0 :: st) σ cu su Q :=
  zW_callSN (av := [x0, x1, x2, x3, x4]) d hh he hlk hrm rfl rfl hcat (zM_mono k (zk_zc hhm hrm.2.2.1 hrm.2.2.2))
end ZHELP
