/-! a method's beginning, calls, throws -/
def zen : List AV → List (Option AV)
  | [] => []
  | v :: t => if zwide v then some v :: none :: zen t else some v :: zen t
theorem zen_len : ∀ av : List AV, (lg_sl (av.map toV)).length = (zen av).length
  | [] => rfl
  | v :: t => by
    have ih := zen_len t
    have hc := zwide_cat v
    rw [List.map_cons]
    show (lg_sl (toV v :: t.map toV)).length = _
    unfold lg_sl at ih ⊢
    rw [List.flatMap_cons, List.length_append, ih]
    rw [show zen (v :: t) = if zwide v then some v :: none :: zen t else some v :: zen t from rfl]
    by_cases h : zwide v = true
    · rw [if_pos h] at hc ⊢
      rw [if_pos hc]
      simp only [List.length_cons, List.length_nil]; omega
    · rw [if_neg h] at hc ⊢
      rw [if_neg (by omega)]
      simp only [List.length_cons, List.length_nil]; omega
theorem zlp_none (n : Nat) : ∀ k, zlp k (List.replicate n none) = [] := by
  induction n with
  | zero => intro k; rfl
  | succ n ih => intro k; exact ih (k + 1)
theorem zen_args : ∀ (av : List AV) (n k : Nat) (q : Nat × Value), q ∈ zlp k (zen av ++ List.replicate n none) → q ∈ lv_args k (av.map toV)
  | [], n, k, q, h => by
    rw [show zen [] ++ List.replicate n (none : Option AV) = List.replicate n none from rfl, zlp_none] at h
    cases h
  | v :: t, n, k, q, h => by
    have hc := zwide_cat v
    rw [List.map_cons]
    show q ∈ (k, toV v) :: lv_args (if (toV v).category = 2 then k + 2 else k + 1) (t.map toV)
    unfold zen at h
    by_cases hw : zwide v = true
    · rw [if_pos hw] at h hc
      rw [if_pos hc]
      rcases List.mem_cons.mp h with h | h
      · exact List.mem_cons.mpr (Or.inl h)
      · exact List.mem_cons_of_mem _ (zen_args t n (k + 2) q h)
    · rw [if_neg hw] at h hc
      rw [if_neg (by omega)]
      rcases List.mem_cons.mp h with h | h
      · exact List.mem_cons.mpr (Or.inl h)
      · exact List.mem_cons_of_mem _ (zen_args t n (k + 1) q h)
section ZCALL
variable {Γ : GG} {M M' : MT} {pc : Nat} {lo : List (Option AV)} {st : List AV} {σ : HS} {cu su : Nat} {Q : Res → HS → Prop}
theorem zlo_entry {av : List AV} {n nL : Nat} (hn : (zen av).length + n = nL) : lv_has ((lg_sl (av.map toV) ++ List.replicate (nL - (lg_sl (av.map toV)).length) Slot.unset).toArray) nL (zlp 0 (zen av ++ List.replicate n none)) := by
  have h := lv_entry (av.map toV) (n := nL) (by rw [zen_len]; omega)
  exact ⟨h.1, h.2.1, fun q hq => h.2.2 q (zen_args av n 0 q hq)⟩
theorem zM_of {av : List AV} {n : Nat} (hpl : plainName (mY M).cls = true) (hh : mH M = []) (hlo : zen av ++ List.replicate n none = lo) (hn : (zen av).length + n = mL M) (k : zW Γ M 0 lo [] σ 0 0 Q) : zM Γ M av σ Q := by
  intro l hl
  have hw : zws M = Cond.code (mY M) (mB M) (mL M) (mR M) :: BIG := by unfold zws zcw; rw [hh]
  refine vx_ofW (cc := mB M) (maxL := mL M) (ret := mR M) hpl hw ?_
  intro p e s m args below meth c s₁ B hml ht hv
  obtain ⟨rfl, hKK, hBs, hH⟩ := hv
  have hts : ∀ w ∈ BIG, w.before _ s = true := fun w hw => atoms_spec (ws := zws M) B.pre w (List.mem_cons_of_mem _ hw)
  have htab : c.exceptionTable.toList = tableOf (mH M) := by
    rw [hh]
    exact List.eq_nil_iff_forall_not_mem.mpr ht
  rw [lg_entry_eq]
  subst hlo
  exact k l p e s m _ below meth c s.heap [] _ hl ⟨⟨B.exec, B.bytes, hml, findClass_of_methodNamed B.named, hts⟩, B.returns, B.notSynchronized, htab, (name_of_methodNamed B.named B.method).1, hKK, hBs⟩ va_S.rf hH (zlo_entry hn)
theorem zM_ofH {av : List AV} {n : Nat} {h0 : Nat × Nat × Nat × Nat} {ht : List (Nat × Nat × Nat × Nat)} (hpl : plainName (mY M).cls = true) (hh : mH M = h0 :: ht) (hlo : zen av ++ List.replicate n none = lo) (hn : (zen av).length + n = mL M) (k : zW Γ M 0 lo [] σ 0 0 Q) : zM Γ M av σ Q := by
  intro l hl
  have hw : zws M = Cond.codeWith (mY M) (mB M) (mL M) (mR M) (h0 :: ht) :: BIG := by unfold zws zcw; rw [hh]
  refine vx_ofWH (cc := mB M) (maxL := mL M) (ret := mR M) hpl hw ?_
  intro p e s m args below meth c s₁ B hml hv
  obtain ⟨rfl, hKK, hBs, hH⟩ := hv
  have hts : ∀ w ∈ BIG, w.before _ s = true := fun w hw => atoms_spec (ws := zws M) B.pre w (List.mem_cons_of_mem _ hw)
  have htab : c.exceptionTable.toList = tableOf (mH M) := by
    rw [hh]
    exact vx_table (x := mY M) B (atoms_spec (ws := zws M) B.pre _ (by rw [hw]; exact List.mem_cons_self))
  rw [lg_entry_eq]
  subst hlo
  exact k l p e s m _ below meth c s.heap [] _ hl ⟨⟨B.exec, B.bytes, hml, findClass_of_methodNamed B.named, hts⟩, B.returns, B.notSynchronized, htab, (name_of_methodNamed B.named B.method).1, hKK, hBs⟩ va_S.rf hH (zlo_entry hn)
theorem zM_mono {av : List AV} {Q' : Res → HS → Prop} (h : zM Γ M av σ Q) (hQ : ∀ r σ', Q r σ' → Q' r σ') : zM Γ M av σ Q' := by
  intro l hl
  refine MetFree.mono (h l hl) (fun _ _ q => q) (fun _ _ _ _ _ q => q) ?_
  intro a st o t _ hb
  rcases hb with ⟨⟨⟨r, σ', e1, e2, e3⟩, e4⟩, e5⟩ | ⟨q, e1, E, ce, L, ⟨⟨σ', f1, f2⟩, f3⟩, f4⟩
  · exact Or.inl ⟨⟨⟨r, σ', e1, hQ _ _ e2, e3⟩, e4⟩, e5⟩
  · exact Or.inr ⟨q, e1, E, ce, L, ⟨⟨σ', hQ _ _ f1, f2⟩, f3⟩, f4⟩
/-- behind a throw that came out of a call at pc -/
def zWx (Γ : GG) (M : MT) (pc : Nat) (lo : List (Option AV)) (st : List AV) (σ : HS) (cu su : Nat) (E : String) (Q : Res → HS → Prop) : Prop :=
  ∀ (l : Launch) (p : Program) (e : Env) (s : State) (m : MethodId) (args : Array Value) (below : List Frame) (meth : Method) (c : Code) (H : Heap) (locs : List Loc) (ls : Array Slot) (q : Addr) (ce : Cell),
    l.stackTraces = false → zCx Γ M p s m args meth c → va_S (zA Γ) s.heap H locs → zH Γ σ H → lv_has ls (mL M) (zlp 0 lo) → H[q]? = some ce → ce.vm = .none → s.vm.findClass E = some ce.cls →
    vx_W p l e (zrm M) s m args below meth c H locs cu su (vx_MQ below (zQ Γ Q) (zX Γ Q) args s (mC M) (mS M) (zA Γ)) (F0 m pc ls (st.map toV)) q
theorem zWx_out {E : String} (hh : mH M = []) (hc : cu ≤ mC M) (hs : su ≤ mS M) (h : Q (.inr E) σ) : zWx Γ M pc lo st σ cu su E Q := by
  intro l p e s m args below meth c H locs ls q ce hl C hS hH hL h1 h2 h3
  refine vx_out (fun x hx => ?_) C.2.2.1 h1 h2 h3 (fun t ht hW => ⟨⟨σ, h, by rw [ht]; exact hH⟩, hS.F ht⟩) hS.2.2 hc hs
  rw [C.2.2.2.1, hh] at hx
  cases hx
/-- how it goes on behind a call -/
def zc (Γ : GG) (M : MT) (pc : Nat) (lo : List (Option AV)) (st : List AV) (cu su : Nat) (Q : Res → HS → Prop) : Res → HS → Prop := fun r σ' => match r with
  | .inl v => zW Γ M (pc + 3) lo (v.toList ++ st) σ' cu su Q
  | .inr E => zWx Γ M pc lo st σ' cu su E Q
theorem zrun {p : Program} {l : Launch} {e : Env} {s : State} {m : MethodId} {args as : Array Value} {below : List Frame} {meth : Method} {c : Code} {H : Heap} {locs : List Loc} {ls : Array Slot} {st0 : List Value} {mc ms : Nat}
    (hl : l.stackTraces = false) (C : zCx Γ M p s m args meth c) (hS : va_S (zA Γ) s.heap H locs) (hL : lv_has ls (mL M) (zlp 0 lo))
    (hr : vx_Run p l e (zrm M) s m args below meth c H locs cu su mc ms (F0 m pc ls st0) (st.map toV) (zQ Γ (zc Γ M pc lo st (cu + mc) (su + ms) Q) as) (zX Γ (zc Γ M pc lo st (cu + mc) (su + ms) Q)) (zA Γ)) :
    W p l e (zrm M) s m args below meth c H locs cu su (vx_MQ below (zQ Γ Q) (zX Γ Q) args s (mC M) (mS M) (zA Γ)) (F0 m pc ls st0) := by
  intro T hT X
  rcases hr T hT X with ⟨v, st₀, t, T', L, h0, X', hLo, e1, e2, ⟨⟨r, σ', hv, hq, hh⟩, hF⟩, stp⟩ | ⟨q, st₀, t, T', L, E, ce, h0, X', hLo, e1, e2, ⟨⟨σ', hq, hh⟩, hF⟩, hce, hcv, hcl, stp⟩
  · obtain rfl : v = r.map toV := by cases hv; rfl
    obtain ⟨k1, k2, k3⟩ := vx_keep h0 e1 hS (fun q _ h => h) (fun q h => h) hLo hF
    rw [← e1] at hh
    have h9 : W p l e (zrm M) s m args below meth c T'.heap (locs ++ L) (cu + mc) (su + ms) _ _ := (show zW Γ M (pc + 3) lo (r.toList ++ st) σ' (cu + mc) (su + ms) Q from hq) l p e s m args below meth c T'.heap (locs ++ L) ls hl C k3 hh hL
    obtain ⟨t2, a1, b1⟩ := h9 T' rfl X'
    refine ⟨t2, stp t2 ?_, b1⟩
    have e9 : (r.map toV).toList ++ st.map toV = (r.toList ++ st).map toV := by cases r <;> rfl
    rw [e9]
    exact a1
  · obtain ⟨k1, k2, k3⟩ := vx_keep h0 e1 hS (fun q _ h => h) (fun q h => h) hLo hF
    rw [← e1] at hh hce
    obtain ⟨t2, a1, b1⟩ := (show zWx Γ M pc lo st σ' (cu + mc) (su + ms) E Q from hq) l p e s m args below meth c T'.heap (locs ++ L) ls q ce hl C k3 hh hL hce hcv hcl T' rfl X'
    exact ⟨t2, stp.trans a1, b1⟩
/-- a callee's own facts -/
def zCe (M' : MT) (n : Nat) : Prop := zcw M' ∈ BIG ∧ Cond.initialized (mY M').cls ∈ BIG ∧ (mY M').cls ≠ "java/lang/invoke/MethodHandle" ∧ (mY M').cls ≠ "java/lang/invoke/VarHandle" ∧ (parseMethodDescriptor (mY M').desc).map (fun d => d.parameters.length) = some n
def zCeI (M' : MT) (n : Nat) : Prop := zCe M' n ∧ Cond.instanceMethod (mY M') ∈ BIG
def zCeV (M' : MT) (n : Nat) : Prop := zCeI M' n ∧ Cond.selects (mY M').cls (mY M') (mY M') ∈ BIG
def zCeS (M' : MT) (n : Nat) : Prop := zCe M' n ∧ Cond.static (mY M') ∈ BIG
/-- the callee's room fits, what it makes fits -/
def zRm (M M' : MT) (cu su : Nat) : Prop := mF M' + 1 ≤ mF M ∧ 8 + (mL M' + 11) + mW M' ≤ mW M ∧ cu + mC M' ≤ mC M ∧ su + mS M' ≤ mS M
def zcat (st : List AV) : Nat := (st.map (fun v => if zwide v then 2 else 1)).sum
theorem zcat_eq (st : List AV) : ((st.map toV).map fun v => v.category).sum = zcat st := by
  unfold zcat
  rw [List.map_map]
  congr 1
  apply List.map_congr_left
  intro v _
  exact zwide_cat v
theorem zgood {n : Nat} (h : zCe M' n) : GoodIn BIG (zws M') := BIG_in (fun w hw => by
  rcases List.mem_cons.mp hw with hw | hw
  · rw [hw]; exact h.1
  · exact hw)
theorem zPre {av : List AV} {p : Program} {s : State} {m : MethodId} {args : Array Value} {meth : Method} {c : Code} {H : Heap} {locs : List Loc} (C : zCx Γ M p s m args meth c) (hS : va_S (zA Γ) s.heap H locs) (hH : zH Γ σ H) :
    PreS s H (va_Pc (av.map toV) (fun U => zKK Γ U ∧ zBs Γ U U.heap ∧ zH Γ σ U.heap)) (av.map toV) := by
  refine ⟨fun a U g mk h => ⟨h.1, va_K.moved (u := U) (U := U.calling g mk a) (Vm.Alike.refl U.vm) h.2.1, zBs.frame a g mk h.2.2.1, h.2.2.2⟩, fun U hU hW => ⟨rfl, va_K.moved hW.alike C.2.2.2.2.2.1, ?_, by rw [hU]; exact hH⟩⟩
  rw [hU]
  exact zBs.moved hW C.2.2.2.2.2.2 hS.1 hS.2.1
theorem zcallB {p : Program} {s : State} {m : MethodId} {args : Array Value} {meth : Method} {c : Code} {idx n : Nat} (C : zCx Γ M p s m args meth c) (hh : mH M' = []) (he : zCe M' n) (hlk : Cond.methodLink (mY M).cls idx (mY M') ∈ BIG) (hrm : zRm M M' cu su) :
    CallB (zrm M) s args (mY M).cls idx (mY M') (mB M') (mL M') (mR M') (zws M') (zrm M') (mC M') (mS M') n := by
  obtain ⟨⟨hx, hb, hml, hown, hts⟩, -⟩ := C
  exact callB_of n hts (zgood he) (show zws M' = Cond.code (mY M') (mB M') (mL M') (mR M') :: BIG by unfold zws zcw; rw [hh]) rfl rfl (hts _ he.2.1) (hts _ hlk) ⟨he.2.2.1, he.2.2.2.1, he.2.2.2.2⟩ ⟨hrm.1, hrm.2.1⟩
/-- a virtual call -/
theorem zW_callV {idx n a ci : Nat} {av : List AV} {stk : List AV} (d : decode (mB M) pc = .ok (.invokevirtual idx, 3)) (hh : mH M' = []) (he : zCeV M' n) (hlk : Cond.methodLink (mY M).cls idx (mY M') ∈ BIG) (hrm : zRm M M' cu su) (hn : av.length = n) (hst : stk = av.reverse ++ vR (some a) :: st) (hcat : zcat st ≤ 8) (hk : (zK σ a).1 = ci) (hci : ci < 11) (hC : (mY M').cls = zcN ci)
    (k : zM Γ M' (vR (some a) :: av) σ (zc Γ M pc lo st (cu + mC M') (su + mS M') Q)) : zW Γ M pc lo stk σ cu su Q := by
  intro l p e s m args below meth c H locs ls hl C hS hH hL
  subst hst
  subst hk
  obtain ⟨⟨hx, hb, hml, hown, hts⟩, hret, hlk9, htab, hnam, hKK, hBs⟩ := id C
  obtain ⟨cellV, g1, g2, g3, -⟩ := (hH.1 a).1 hci
  have hcls := (hKK.1 _ _ (zcl_vw _ hci)).2
  have hpre := zPre (av := vR (some a) :: av) C hS hH
  have hcw : CallW (zrm M) s args (mY M).cls (mY M').cls idx (mY M') (mB M') (mL M') (mR M') (zws M') (zrm M') (mC M') (mS M') n := ⟨zcallB C hh he.1.1 hlk hrm, hts _ he.1.2, hts _ he.2⟩
  refine zrun hl C hS hL (vx_runV (As := av.map toV) (rest := st.map toV) (n := n) ⟨hx, hb, hml, hown, hts⟩ (k l hl) hcw ⟨hpre.1, ⟨cellV, g1, by rw [g3]; rfl, by rw [hC, g2]; exact hcls.1⟩, hpre.2⟩ rfl (by rw [List.length_map]; exact hn) hL.1 ?_ (lv_room (by rw [zcat_eq]; exact hcat)) d ⟨hrm.2.2.1, hrm.2.2.2⟩)
  show ((av.reverse ++ vR (some a) :: st).map toV) = _
  rw [List.map_append, List.map_reverse]; rfl
/-- a call of a constructor -/
theorem zW_callI {idx n a : Nat} {av : List AV} {stk : List AV} (d : decode (mB M) pc = .ok (.invokespecial idx, 3)) (hh : mH M' = []) (he : zCeI M' n) (hlk : Cond.methodLink (mY M).cls idx (mY M') ∈ BIG) (hrm : zRm M M' cu su) (hn : av.length = n) (hst : stk = av.reverse ++ vR (some a) :: st) (hcat : zcat st ≤ 8) (hi : (mY M').name = "<init>") (hr : mR M' = none)
    (k : zM Γ M' (vR (some a) :: av) σ (zc Γ M pc lo st (cu + mC M') (su + mS M') Q)) : zW Γ M pc lo stk σ cu su Q := by
  intro l p e s m args below meth c H locs ls hl C hS hH hL
  subst hst
  obtain ⟨⟨hx, hb, hml, hown, hts⟩, hret, hlk9, htab, hnam, hKK, hBs⟩ := id C
  have hpre := zPre (av := vR (some a) :: av) C hS hH
  have hcb := zcallB (idx := idx) C hh he.1 hlk hrm
  rw [hr] at hcb
  refine zrun hl C hS hL (vx_runI (As := av.map toV) (rest := st.map toV) (n := n) ⟨hx, hb, hml, hown, hts⟩ (k l hl) ⟨hcb, hi, hts _ he.2⟩ hpre rfl (by rw [List.length_map]; exact hn) hL.1 ?_ (lv_room (by rw [zcat_eq]; exact hcat)) d ⟨hrm.2.2.1, hrm.2.2.2⟩)
  show ((av.reverse ++ vR (some a) :: st).map toV) = _
  rw [List.map_append, List.map_reverse]; rfl
/-- a call of a method of the kind itself, without a receiver -/
theorem zW_callS {idx n : Nat} {av : List AV} {stk : List AV} (d : decode (mB M) pc = .ok (.invokestatic idx, 3)) (hh : mH M' = []) (he : zCeS M' n) (hlk : Cond.methodLink (mY M).cls idx (mY M') ∈ BIG) (hrm : zRm M M' cu su) (hn : av.length = n) (hst : stk = av.reverse ++ st) (hcat : zcat st ≤ 8)
    (k : zM Γ M' av σ (zc Γ M pc lo st (cu + mC M') (su + mS M') Q)) : zW Γ M pc lo stk σ cu su Q := by
  intro l p e s m args below meth c H locs ls hl C hS hH hL
  subst hst
  obtain ⟨⟨hx, hb, hml, hown, hts⟩, hret, hlk9, htab, hnam, hKK, hBs⟩ := id C
  have hpre := zPre (av := av) C hS hH
  refine zrun hl C hS hL (vx_runS (As := av.map toV) (rest := st.map toV) (n := n) ⟨hx, hb, hml, hown, hts⟩ (k l hl) ⟨zcallB C hh he.1 hlk hrm, hts _ he.2⟩ hpre rfl (by rw [List.length_map]; exact hn) hL.1 ?_ (lv_room (by rw [zcat_eq]; exact hcat)) d ⟨hrm.2.2.1, hrm.2.2.2⟩)
  show ((av.reverse ++ st).map toV) = _
  rw [List.map_append, List.map_reverse]
theorem zcn9 {p : Program} {s : State} {m : MethodId} {args : Array Value} {meth : Method} {c : Code} {idx n : Nat} {host : String} (C : zCx Γ M p s m args meth c) (hh : mH M' = []) (he : zCe M' n) (hlk : ((mY M).cls, idx, mY M', host) ∈ zNest) (hrm : zRm M M' cu su) :
    va_CN (zrm M) s args (mY M).cls idx (mY M') host (mB M') (mL M') (mR M') (zws M') (zrm M') (mC M') (mS M') n := by
  obtain ⟨⟨hx, hb, hml, hown, hts⟩, hret, hlk9, htab, hnam, hKK, hBs⟩ := C
  exact va_cnB n hts (zgood he) (show zws M' = Cond.code (mY M') (mB M') (mL M') (mR M') :: BIG by unfold zws zcw; rw [hh]) rfl rfl (hBs.1 _ hlk) (hts _ he.2.1) ⟨he.2.2.1, he.2.2.2.1, he.2.2.2.2⟩ ⟨hrm.1, hrm.2.1⟩
theorem zW_callSN {idx n : Nat} {host : String} {av : List AV} {stk : List AV} (d : decode (mB M) pc = .ok (.invokestatic idx, 3)) (hh : mH M' = []) (he : zCeS M' n) (hlk : ((mY M).cls, idx, mY M', host) ∈ zNest) (hrm : zRm M M' cu su) (hn : av.length = n) (hst : stk = av.reverse ++ st) (hcat : zcat st ≤ 8)
    (k : zM Γ M' av σ (zc Γ M pc lo st (cu + mC M') (su + mS M') Q)) : zW Γ M pc lo stk σ cu su Q := by
  intro l p e s m args below meth c H locs ls hl C hS hH hL
  subst hst
  obtain ⟨⟨hx, hb, hml, hown, hts⟩, hret, hlk9, htab, hnam, hKK, hBs⟩ := id C
  have hpre := zPre (av := av) C hS hH
  refine zrun hl C hS hL (vx_runSN (As := av.map toV) (rest := st.map toV) (n := n) ⟨hx, hb, hml, hown, hts⟩ (k l hl) ⟨zcn9 C hh he.1 hlk hrm, hts _ he.2, trivial⟩ hpre rfl (by rw [List.length_map]; exact hn) hL.1 ?_ (lv_room (by rw [zcat_eq]; exact hcat)) d ⟨hrm.2.2.1, hrm.2.2.2⟩)
  show ((av.reverse ++ st).map toV) = _
  rw [List.map_append, List.map_reverse]
theorem zW_callIN {idx n a : Nat} {host : String} {av : List AV} {stk : List AV} (d : decode (mB M) pc = .ok (.invokespecial idx, 3)) (hh : mH M' = []) (he : zCeI M' n) (hlk : ((mY M).cls, idx, mY M', host) ∈ zNest) (hrm : zRm M M' cu su) (hn : av.length = n) (hst : stk = av.reverse ++ vR (some a) :: st) (hcat : zcat st ≤ 8) (hi : (mY M').name = "<init>") (hr : mR M' = none)
    (k : zM Γ M' (vR (some a) :: av) σ (zc Γ M pc lo st (cu + mC M') (su + mS M') Q)) : zW Γ M pc lo stk σ cu su Q := by
  intro l p e s m args below meth c H locs ls hl C hS hH hL
  subst hst
  obtain ⟨⟨hx, hb, hml, hown, hts⟩, hret, hlk9, htab, hnam, hKK, hBs⟩ := id C
  have hpre := zPre (av := vR (some a) :: av) C hS hH
  have hcb := zcn9 (idx := idx) C hh he.1 hlk hrm
  rw [hr] at hcb
  refine zrun hl C hS hL (vx_runIN (As := av.map toV) (rest := st.map toV) (n := n) ⟨hx, hb, hml, hown, hts⟩ (k l hl) ⟨hcb, hi, hts _ he.2⟩ hpre rfl (by rw [List.length_map]; exact hn) hL.1 ?_ (lv_room (by rw [zcat_eq]; exact hcat)) d ⟨hrm.2.2.1, hrm.2.2.2⟩)
  show ((av.reverse ++ vR (some a) :: st).map toV) = _
  rw [List.map_append, List.map_reverse]; rfl
/-- a call of a method with a table of handlers -/
theorem zW_callSX {idx n : Nat} {av : List AV} {stk : List AV} {h0 : Nat × Nat × Nat × Nat} {ht : List (Nat × Nat × Nat × Nat)} (d : decode (mB M) pc = .ok (.invokestatic idx, 3)) (hh : mH M' = h0 :: ht) (he : zCeS M' n) (hlk : Cond.methodLink (mY M).cls idx (mY M') ∈ BIG) (hrm : zRm M M' cu su) (hn : av.length = n) (hst : stk = av.reverse ++ st) (hcat : zcat st ≤ 8)
    (k : zM Γ M' av σ (zc Γ M pc lo st (cu + mC M') (su + mS M') Q)) : zW Γ M pc lo stk σ cu su Q := by
  intro l p e s m args below meth c H locs ls hl C hS hH hL
  subst hst
  obtain ⟨⟨hx, hb, hml, hown, hts⟩, hret, hlk9, htab, hnam, hKK, hBs⟩ := id C
  have hpre := zPre (av := av) C hS hH
  have hG := zgood he.1
  have hcw : zcw M' = Cond.codeWith (mY M') (mB M') (mL M') (mR M') (h0 :: ht) := by unfold zcw; rw [hh]
  have hc1 : Cond.codeWith (mY M') (mB M') (mL M') (mR M') (h0 :: ht) ∈ BIG := by rw [← hcw]; exact he.1.1
  have hcx : vx_CSW (zrm M) s args (mY M).cls idx (mY M') (mB M') (mL M') (mR M') (h0 :: ht) (zws M') (zrm M') (mC M') (mS M') n := by
    refine ⟨⟨rfl, rfl, hrm.1, hrm.2.1, pay_in hts hG, by unfold zws; rw [hcw]; exact List.mem_cons_self⟩, hts _ hc1, hts _ he.1.2.1, ⟨he.1.2.2.1, he.1.2.2.2.1⟩, fun sig h => ?_, hts _ hlk, hts _ he.2⟩
    have h2 := he.1.2.2.2.2
    rw [h] at h2
    exact (Option.some.inj h2).symm
  refine zrun hl C hS hL (vx_runSX (As := av.map toV) (rest := st.map toV) (n := n) ⟨hx, hb, hml, hown, hts⟩ (k l hl) hcx hpre rfl (by rw [List.length_map]; exact hn) hL.1 ?_ (lv_room (by rw [zcat_eq]; exact hcat)) d ⟨hrm.2.2.1, hrm.2.2.2⟩)
  show ((av.reverse ++ st).map toV) = _
  rw [List.map_append, List.map_reverse]
/-- Object's own constructor -/
theorem zW_objInit {idx a : Nat} (d : decode (mB M) pc = .ok (.invokespecial idx, 3)) (hlk : Cond.methodLink (mY M).cls idx Lib.objectInit ∈ BIG) (hin : Cond.instanceMethod Lib.objectInit ∈ BIG) (hco : Cond.code Lib.objectInit ⟨#[0xb1]⟩ 1 none ∈ BIG) (hf : 1 ≤ mF M) (hw : zcat st + 12 ≤ mW M) (k : zW Γ M (pc + 3) lo st σ cu su Q) : zW Γ M pc lo (vR (some a) :: st) σ cu su Q := by
  intro l p e s m args below meth c H locs ls hl C hS hH hL
  obtain ⟨⟨hx, hb, hml, hown, hts⟩, hret, hlk9, htab, hnam, hKK, hBs⟩ := id C
  exact W.objInit hx hb hown (hts _ hlk) (hts _ hin) (hts _ hco) rfl (hL.1.trans hml.symm) rfl d hf (by show 2 * 0 + _ + 12 ≤ _; rw [zcat_eq]; show 2 * 0 + zcat st + 12 ≤ mW M; omega) (k l p e s m args below meth c H locs ls hl C hS hH hL)
theorem zW_mmin {idx : Nat} {x y : Int} (d : decode (mB M) pc = .ok (.invokestatic idx, 3)) (hx9 : InR x) (hy9 : InR y) (hlk : Cond.methodLink (mY M).cls idx Lib.Math.min.name ∈ BIG) (hst : Cond.static Lib.Math.min.name ∈ BIG) (hin : Cond.initialized "java/lang/Math" ∈ BIG) (hco : Cond.code Lib.Math.min.name Lib.Math.min.code 2 (some .int) ∈ BIG) (hf : 1 ≤ mF M) (hw : zcat st + 13 ≤ mW M) (hc : cu ≤ mC M) (hs : su ≤ mS M) (k : zW Γ M (pc + 3) lo (vI (min x y) :: st) σ cu su Q) : zW Γ M pc lo (vI y :: vI x :: st) σ cu su Q := by
  intro l p e s m args below meth c H locs ls hl C hS hH hL
  obtain ⟨⟨hx, hb, hml, hown, hts⟩, hret, hlk9, htab, hnam, hKK, hBs⟩ := id C
  have h9 := k l p e s m args below meth c H locs ls hl C hS hH hL
  have e9 : iI (min x y) = if iI y < iI x then iI y else iI x := by
    by_cases h : y < x
    · rw [if_pos ((iI_lt hy9 hx9).mpr h), Int.min_eq_right (by omega)]
    · rw [if_neg (fun q => h ((iI_lt hy9 hx9).mp q)), Int.min_eq_left (by omega)]
  rw [List.map_cons, toV_I, e9] at h9
  exact va_mmin hx hb (hml.trans hL.1.symm) hown (hts _ hlk) (hts _ hst) (hts _ hin) (hts _ hco) hf (by rw [zcat_eq]; exact hw) hc hs d h9
theorem zW_mmax {idx : Nat} {x y : Int} (d : decode (mB M) pc = .ok (.invokestatic idx, 3)) (hx9 : InR x) (hy9 : InR y) (hlk : Cond.methodLink (mY M).cls idx Lib.Math.max.name ∈ BIG) (hst : Cond.static Lib.Math.max.name ∈ BIG) (hin : Cond.initialized "java/lang/Math" ∈ BIG) (hco : Cond.code Lib.Math.max.name Lib.Math.max.code 2 (some .int) ∈ BIG) (hf : 1 ≤ mF M) (hw : zcat st + 13 ≤ mW M) (hc : cu ≤ mC M) (hs : su ≤ mS M) (k : zW Γ M (pc + 3) lo (vI (max x y) :: st) σ cu su Q) : zW Γ M pc lo (vI y :: vI x :: st) σ cu su Q := by
  intro l p e s m args below meth c H locs ls hl C hS hH hL
  obtain ⟨⟨hx, hb, hml, hown, hts⟩, hret, hlk9, htab, hnam, hKK, hBs⟩ := id C
  have h9 := k l p e s m args below meth c H locs ls hl C hS hH hL
  have e9 : iI (max x y) = if iI x < iI y then iI y else iI x := by
    by_cases h : x < y
    · rw [if_pos ((iI_lt hx9 hy9).mpr h), Int.max_eq_right (by omega)]
    · rw [if_neg (fun q => h ((iI_lt hx9 hy9).mp q)), Int.max_eq_left (by omega)]
  rw [List.map_cons, toV_I, e9] at h9
  exact va_mmax hx hb (hml.trans hL.1.symm) hown (hts _ hlk) (hts _ hst) (hts _ hin) (hts _ hco) hf (by rw [zcat_eq]; exact hw) hc hs d h9
theorem zW_mabs {idx : Nat} {x : Int} (d : decode (mB M) pc = .ok (.invokestatic idx, 3)) (hx9 : InR x) (hlk : Cond.methodLink (mY M).cls idx Lib.Math.abs.name ∈ BIG) (hst : Cond.static Lib.Math.abs.name ∈ BIG) (hin : Cond.initialized "java/lang/Math" ∈ BIG) (hco : Cond.code Lib.Math.abs.name Lib.Math.abs.code 1 (some .int) ∈ BIG) (hf : 1 ≤ mF M) (hw : zcat st + 13 ≤ mW M) (hc : cu ≤ mC M) (hs : su ≤ mS M) (k : zW Γ M (pc + 3) lo (vI (if 0 ≤ x then x else -x) :: st) σ cu su Q) : zW Γ M pc lo (vI x :: st) σ cu su Q := by
  intro l p e s m args below meth c H locs ls hl C hS hH hL
  obtain ⟨⟨hx, hb, hml, hown, hts⟩, hret, hlk9, htab, hnam, hKK, hBs⟩ := id C
  have h9 := k l p e s m args below meth c H locs ls hl C hS hH hL
  have e9 : iI (if 0 ≤ x then x else -x) = if 0 ≤ iI x then iI x else 0 - iI x := by
    by_cases h : 0 ≤ x
    · rw [if_pos h, if_pos (by rw [← iI_0]; exact (iI_le InR_0 hx9).mpr h)]
    · rw [if_neg h, if_neg (fun q => h ((iI_le InR_0 hx9).mp (by rw [iI_0]; exact q))), ← iI_0, iI_sub]
      congr 1; omega
  rw [List.map_cons, toV_I, e9] at h9
  exact va_mabs hx hb (hml.trans hL.1.symm) hown (hts _ hlk) (hts _ hst) (hts _ hin) (hts _ hco) hf (by rw [zcat_eq]; exact hw) hc hs d h9
theorem zW_mabsL {idx : Nat} {x : Int} (d : decode (mB M) pc = .ok (.invokestatic idx, 3)) (hx9 : InL x) (hlk : Cond.methodLink (mY M).cls idx Lib.MathLoose.abs_long.x ∈ BIG) (hst : Cond.static Lib.MathLoose.abs_long.x ∈ BIG) (hin : Cond.initialized "java/lang/Math" ∈ BIG) (hco : Cond.code Lib.MathLoose.abs_long.x Lib.MathLoose.abs_long.code 2 (some .long) ∈ BIG) (hf : 1 ≤ mF M) (hw : zcat st + 13 ≤ mW M) (hc : cu ≤ mC M) (hs : su ≤ mS M) (k : zW Γ M (pc + 3) lo (vJ (if 0 < x then x else -x) :: st) σ cu su Q) : zW Γ M pc lo (vJ x :: st) σ cu su Q := by
  intro l p e s m args below meth c H locs ls hl C hS hH hL
  obtain ⟨⟨hx, hb, hml, hown, hts⟩, hret, hlk9, htab, hnam, hKK, hBs⟩ := id C
  have h9 := k l p e s m args below meth c H locs ls hl C hS hH hL
  have e0 : (0 : Int64) = jJ 0 := rfl
  have e9 : jJ (if 0 < x then x else -x) = if 0 < jJ x then jJ x else -jJ x := by
    rw [e0]
    by_cases h : 0 < x
    · rw [if_pos h, if_pos ((jJ_lt ⟨by decide, by decide⟩ hx9).mpr h)]
    · rw [if_neg h, if_neg (fun q => h ((jJ_lt ⟨by decide, by decide⟩ hx9).mp q))]
      unfold jJ
      exact Int64.ofInt_neg x
  rw [List.map_cons, toV_J, e9] at h9
  exact va_mabs_long hx hb (hml.trans hL.1.symm) hown (hts _ hlk) (hts _ hst) (hts _ hin) (hts _ hco) hf (by rw [zcat_eq]; exact hw) hc hs d h9
end ZCALL
