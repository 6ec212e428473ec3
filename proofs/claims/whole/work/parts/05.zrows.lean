/-! a method: name, code, locals, what it answers, its table of handlers; room: frames, words, cells, slots -/
abbrev MT : Type := MethodName × ByteArray × Nat × Option FieldType × List (Nat × Nat × Nat × Nat) × Nat × Nat × Nat × Nat
abbrev mY (M : MT) : MethodName := M.1
abbrev mB (M : MT) : ByteArray := M.2.1
abbrev mL (M : MT) : Nat := M.2.2.1
abbrev mR (M : MT) : Option FieldType := M.2.2.2.1
abbrev mH (M : MT) : List (Nat × Nat × Nat × Nat) := M.2.2.2.2.1
abbrev mF (M : MT) : Nat := M.2.2.2.2.2.1
abbrev mW (M : MT) : Nat := M.2.2.2.2.2.2.1
abbrev mC (M : MT) : Nat := M.2.2.2.2.2.2.2.1
abbrev mS (M : MT) : Nat := M.2.2.2.2.2.2.2.2
def zrm (M : MT) : Room := { frames := mF M, cells := mC M, slots := mS M, locals := mW M }
def zcw (M : MT) : Cond := match mH M with
  | [] => .code (mY M) (mB M) (mL M) (mR M)
  | hh => .codeWith (mY M) (mB M) (mL M) (mR M) hh
def zws (M : MT) : List Cond := zcw M :: BIG
abbrev Res : Type := Option AV ⊕ String
def zQ (Γ : GG) (Q : Res → HS → Prop) : Array Value → State → Outcome → State → Prop := fun _ st o t => (∃ (r : Option AV) (σ' : HS), o = .returned (r.map toV) ∧ Q (.inl r) σ' ∧ zH Γ σ' t.heap) ∧ va_F (zA Γ) st t
def zX (Γ : GG) (Q : Res → HS → Prop) : String → State → State → Prop := fun E st t => (∃ σ' : HS, Q (.inr E) σ' ∧ zH Γ σ' t.heap) ∧ va_F (zA Γ) st t
/-- the locals by their places; none: unknown -/
def zlp : Nat → List (Option AV) → List (Nat × Value)
  | _, [] => []
  | k, none :: t => zlp (k + 1) t
  | k, some v :: t => (k, toV v) :: zlp (k + 1) t
theorem zlp_mem : ∀ (lo : List (Option AV)) (k : Nat) (q : Nat × Value), q ∈ zlp k lo ↔ ∃ (j : Nat) (v : AV), lo[j]? = some (some v) ∧ q = (k + j, toV v)
  | [], k, q => by simp [zlp]
  | none :: t, k, q => by
    rw [show zlp k (none :: t) = zlp (k + 1) t from rfl, zlp_mem t (k + 1) q]
    constructor
    · rintro ⟨j, v, h1, h2⟩
      exact ⟨j + 1, v, by simpa using h1, by rw [h2]; congr 1; omega⟩
    · rintro ⟨j, v, h1, h2⟩
      cases j with
      | zero => simp at h1
      | succ j => exact ⟨j, v, by simpa using h1, by rw [h2]; congr 1; omega⟩
  | some u :: t, k, q => by
    rw [show zlp k (some u :: t) = (k, toV u) :: zlp (k + 1) t from rfl, List.mem_cons, zlp_mem t (k + 1) q]
    constructor
    · rintro (h | ⟨j, v, h1, h2⟩)
      · exact ⟨0, u, rfl, h⟩
      · exact ⟨j + 1, v, by simpa using h1, by rw [h2]; congr 1; omega⟩
    · rintro ⟨j, v, h1, h2⟩
      cases j with
      | zero =>
        left
        simp at h1
        rw [h2, h1]; rfl
      | succ j => exact Or.inr ⟨j, v, by simpa using h1, by rw [h2]; congr 1; omega⟩
theorem zlp_at {ls : Array Slot} {n : Nat} {lo : List (Option AV)} (h : lv_has ls n (zlp 0 lo)) {i : Nat} {v : AV} (hv : lo[i]? = some (some v)) : ls[i]? = some (.val (toV v)) :=
  h.2.2 (i, toV v) ((zlp_mem lo 0 _).mpr ⟨i, v, hv, by rw [Nat.zero_add]⟩)
/-- no wide value stands just ahead of place i -/
def znw (lo : List (Option AV)) (i : Nat) : Bool := match i with
  | 0 => true
  | j + 1 => match lo[j]? with
    | some (some v) => !zwide v
    | _ => true
theorem znw_spec {lo : List (Option AV)} {i j : Nat} {v : AV} (h : znw lo i = true) (hj : j + 1 = i) (hv : lo[j]? = some (some v)) : zwide v = false := by
  subst hj
  simp only [znw, hv] at h
  simpa using h
theorem zlp_set1 {ls : Array Slot} {n : Nat} {lo : List (Option AV)} {i : Nat} {v : AV} (h : lv_has ls n ((i, toV v) :: (zlp 0 lo).filter (fun q => !(q.1 == i) && !(q.1 + 1 == i && q.2.category == 2)))) (hw : znw lo i = true) : lv_has ls n (zlp 0 (lo.set i (some v))) := by
  refine ⟨h.1, h.2.1, fun q hq => h.2.2 q ?_⟩
  obtain ⟨j, u, h1, h2⟩ := (zlp_mem _ _ _).mp hq
  rw [Nat.zero_add] at h2
  by_cases hij : i = j
  · subst hij
    rw [List.getElem?_set] at h1
    split at h1
    · split at h1
      · cases h1; rw [h2]; exact List.mem_cons_self
      · cases h1
    · omega
  · rw [List.getElem?_set_ne hij] at h1
    refine List.mem_cons_of_mem _ (List.mem_filter.mpr ⟨(zlp_mem _ _ _).mpr ⟨j, u, h1, by rw [Nat.zero_add]; exact h2⟩, ?_⟩)
    rw [h2]
    simp only [Bool.and_eq_true, Bool.not_eq_true', beq_eq_false_iff_ne, ne_eq, Bool.and_eq_false_iff]
    refine ⟨fun e => hij e.symm, ?_⟩
    by_cases e : j + 1 = i
    · right
      rw [zwide_cat, znw_spec hw e h1]
      decide
    · exact Or.inl e
theorem zlp_set2 {ls : Array Slot} {n : Nat} {lo : List (Option AV)} {i : Nat} {v : AV} (h : lv_has ls n ((i, toV v) :: (zlp 0 lo).filter (fun q => !(q.1 == i) && (!(q.1 == i + 1) && !(q.1 + 1 == i && q.2.category == 2))))) (hw : znw lo i = true) : lv_has ls n (zlp 0 ((lo.set i (some v)).set (i + 1) none)) := by
  refine ⟨h.1, h.2.1, fun q hq => h.2.2 q ?_⟩
  obtain ⟨j, u, h1, h2⟩ := (zlp_mem _ _ _).mp hq
  rw [Nat.zero_add] at h2
  by_cases hij1 : i + 1 = j
  · subst hij1
    rw [List.getElem?_set] at h1
    split at h1
    · split at h1
      · cases h1
      · cases h1
    · omega
  · rw [List.getElem?_set_ne hij1] at h1
    by_cases hij : i = j
    · subst hij
      rw [List.getElem?_set] at h1
      split at h1
      · split at h1
        · cases h1; rw [h2]; exact List.mem_cons_self
        · cases h1
      · omega
    · rw [List.getElem?_set_ne hij] at h1
      refine List.mem_cons_of_mem _ (List.mem_filter.mpr ⟨(zlp_mem _ _ _).mpr ⟨j, u, h1, by rw [Nat.zero_add]; exact h2⟩, ?_⟩)
      rw [h2]
      simp only [Bool.and_eq_true, Bool.not_eq_true', beq_eq_false_iff_ne, ne_eq, Bool.and_eq_false_iff]
      refine ⟨fun e => hij e.symm, fun e => hij1 e.symm, ?_⟩
      by_cases e : j + 1 = i
      · right
        rw [zwide_cat, znw_spec hw e h1]
        decide
      · exact Or.inl e
/-- what holds while a method runs -/
def zCx (Γ : GG) (M : MT) (p : Program) (s : State) (m : MethodId) (args : Array Value) (meth : Method) (c : Code) : Prop :=
  CallFix p m c (mB M) (mL M) s args BIG (mY M).cls ∧ meth.sig.returnType = mR M ∧ meth.locks = false ∧ c.exceptionTable.toList = tableOf (mH M) ∧ meth.name = (mY M).name ∧ zKK Γ s ∧ zBs Γ s s.heap
/-- from here, with these locals, this stack, this heap, the method goes to its end with Q; cu, su: what has been made -/
def zW (Γ : GG) (M : MT) (pc : Nat) (lo : List (Option AV)) (st : List AV) (σ : HS) (cu su : Nat) (Q : Res → HS → Prop) : Prop :=
  ∀ (l : Launch) (p : Program) (e : Env) (s : State) (m : MethodId) (args : Array Value) (below : List Frame) (meth : Method) (c : Code) (H : Heap) (locs : List Loc) (ls : Array Slot),
    l.stackTraces = false → zCx Γ M p s m args meth c → va_S (zA Γ) s.heap H locs → zH Γ σ H → lv_has ls (mL M) (zlp 0 lo) →
    W p l e (zrm M) s m args below meth c H locs cu su (vx_MQ below (zQ Γ Q) (zX Γ Q) args s (mC M) (mS M) (zA Γ)) (F0 m pc ls (st.map toV))
/-- the method, begun with these arguments in this heap, goes to its end with Q -/
def zM (Γ : GG) (M : MT) (av : List AV) (σ : HS) (Q : Res → HS → Prop) : Prop :=
  ∀ l : Launch, l.stackTraces = false → vx_Met l (mY M) (zws M) (zrm M) (va_Pc (av.map toV) (fun U => zKK Γ U ∧ zBs Γ U U.heap ∧ zH Γ σ U.heap)) (zQ Γ Q) (zX Γ Q) (mC M) (mS M) (zA Γ)
section ZROWS
variable {Γ : GG} {M : MT} {pc : Nat} {lo : List (Option AV)} {st : List AV} {σ : HS} {cu su : Nat} {Q : Res → HS → Prop}

theorem zW_iconst {n : Int} (d : decode (mB M) pc = .ok (.iconst n, 1)) (k : zW Γ M (pc + 1) lo (vI n :: st) σ cu su Q) : zW Γ M pc lo st σ cu su Q := by
  intro l p e s m args below meth c H locs ls hl C hS hH hL
  exact lv_iconst C.1.1 C.1.2.1 d rfl (k l p e s m args below meth c H locs ls hl C hS hH hL)
theorem zW_bipush {n : Int} (d : decode (mB M) pc = .ok (.bipush n, 2)) (hv : (Int8.ofInt n).toInt32 = iI n) (k : zW Γ M (pc + 2) lo (vI n :: st) σ cu su Q) : zW Γ M pc lo st σ cu su Q := by
  intro l p e s m args below meth c H locs ls hl C hS hH hL
  exact lv_bipush C.1.1 C.1.2.1 d hv (k l p e s m args below meth c H locs ls hl C hS hH hL)
theorem zW_sipush {n : Int} (d : decode (mB M) pc = .ok (.sipush n, 3)) (hv : (Int16.ofInt n).toInt32 = iI n) (k : zW Γ M (pc + 3) lo (vI n :: st) σ cu su Q) : zW Γ M pc lo st σ cu su Q := by
  intro l p e s m args below meth c H locs ls hl C hS hH hL
  exact lv_sipush C.1.1 C.1.2.1 d hv (k l p e s m args below meth c H locs ls hl C hS hH hL)
theorem zW_lconst {n : Fin 2} {z : Int} (d : decode (mB M) pc = .ok (.lconst n, 1)) (hv : Int64.ofNat (n : Nat) = jJ z) (k : zW Γ M (pc + 1) lo (vJ z :: st) σ cu su Q) : zW Γ M pc lo st σ cu su Q := by
  intro l p e s m args below meth c H locs ls hl C hS hH hL
  exact lv_lconst C.1.1 C.1.2.1 d hv (k l p e s m args below meth c H locs ls hl C hS hH hL)
theorem zW_iload {i : Nat} {x : Int} (d : decode (mB M) pc = .ok (.iload i, 2)) (hv : lo[i]? = some (some (vI x))) (k : zW Γ M (pc + 2) lo (vI x :: st) σ cu su Q) : zW Γ M pc lo st σ cu su Q := by
  intro l p e s m args below meth c H locs ls hl C hS hH hL
  exact lv_iload C.1.1 C.1.2.1 d (zlp_at hL hv) (k l p e s m args below meth c H locs ls hl C hS hH hL)
theorem zW_iload_n {i : Fin 4} {x : Int} (d : decode (mB M) pc = .ok (.iload_n i, 1)) (hv : lo[(i : Nat)]? = some (some (vI x))) (k : zW Γ M (pc + 1) lo (vI x :: st) σ cu su Q) : zW Γ M pc lo st σ cu su Q := by
  intro l p e s m args below meth c H locs ls hl C hS hH hL
  exact lv_iload_n C.1.1 C.1.2.1 d rfl (zlp_at hL hv) (k l p e s m args below meth c H locs ls hl C hS hH hL)
theorem zW_lload {i : Nat} {x : Int} (d : decode (mB M) pc = .ok (.lload i, 2)) (hv : lo[i]? = some (some (vJ x))) (k : zW Γ M (pc + 2) lo (vJ x :: st) σ cu su Q) : zW Γ M pc lo st σ cu su Q := by
  intro l p e s m args below meth c H locs ls hl C hS hH hL
  exact lv_lload C.1.1 C.1.2.1 d (zlp_at hL hv) (k l p e s m args below meth c H locs ls hl C hS hH hL)
theorem zW_lload_n {i : Fin 4} {x : Int} (d : decode (mB M) pc = .ok (.lload_n i, 1)) (hv : lo[(i : Nat)]? = some (some (vJ x))) (k : zW Γ M (pc + 1) lo (vJ x :: st) σ cu su Q) : zW Γ M pc lo st σ cu su Q := by
  intro l p e s m args below meth c H locs ls hl C hS hH hL
  exact lv_lload_n C.1.1 C.1.2.1 d rfl (zlp_at hL hv) (k l p e s m args below meth c H locs ls hl C hS hH hL)
theorem zW_aload {i : Nat} {r : Option Nat} (d : decode (mB M) pc = .ok (.aload i, 2)) (hv : lo[i]? = some (some (vR r))) (k : zW Γ M (pc + 2) lo (vR r :: st) σ cu su Q) : zW Γ M pc lo st σ cu su Q := by
  intro l p e s m args below meth c H locs ls hl C hS hH hL
  cases r with
  | none => exact lv_aloadN C.1.1 C.1.2.1 d (zlp_at hL hv) (k l p e s m args below meth c H locs ls hl C hS hH hL)
  | some x => exact lv_aload C.1.1 C.1.2.1 d (zlp_at hL hv) (k l p e s m args below meth c H locs ls hl C hS hH hL)
theorem zW_aload_n {i : Fin 4} {r : Option Nat} (d : decode (mB M) pc = .ok (.aload_n i, 1)) (hv : lo[(i : Nat)]? = some (some (vR r))) (k : zW Γ M (pc + 1) lo (vR r :: st) σ cu su Q) : zW Γ M pc lo st σ cu su Q := by
  intro l p e s m args below meth c H locs ls hl C hS hH hL
  cases r with
  | none => exact lv_aload_nN C.1.1 C.1.2.1 d rfl (zlp_at hL hv) (k l p e s m args below meth c H locs ls hl C hS hH hL)
  | some x => exact lv_aload_n C.1.1 C.1.2.1 d rfl (zlp_at hL hv) (k l p e s m args below meth c H locs ls hl C hS hH hL)
theorem zW_istore {i : Nat} {x : Int} {lo' : List (Option AV)} (d : decode (mB M) pc = .ok (.istore i, 2)) (hi : i < mL M) (hw : znw lo i = true) (hs : lo.set i (some (vI x)) = lo') (k : zW Γ M (pc + 2) lo' st σ cu su Q) : zW Γ M pc lo (vI x :: st) σ cu su Q := by
  subst hs
  intro l p e s m args below meth c H locs ls hl C hS hH hL
  exact lv_istore C.1.1 C.1.2.1 d hL hi rfl (fun ls' h' => k l p e s m args below meth c H locs ls' hl C hS hH (zlp_set1 h' hw))
theorem zW_istore_n {i : Fin 4} {x : Int} {lo' : List (Option AV)} (d : decode (mB M) pc = .ok (.istore_n i, 1)) (hi : (i : Nat) < mL M) (hw : znw lo i = true) (hs : lo.set i (some (vI x)) = lo') (k : zW Γ M (pc + 1) lo' st σ cu su Q) : zW Γ M pc lo (vI x :: st) σ cu su Q := by
  subst hs
  intro l p e s m args below meth c H locs ls hl C hS hH hL
  exact lv_istore_n C.1.1 C.1.2.1 d rfl hL hi rfl (fun ls' h' => k l p e s m args below meth c H locs ls' hl C hS hH (zlp_set1 h' hw))
theorem zW_astore {i : Nat} {r : Option Nat} {lo' : List (Option AV)} (d : decode (mB M) pc = .ok (.astore i, 2)) (hi : i < mL M) (hw : znw lo i = true) (hs : lo.set i (some (vR r)) = lo') (k : zW Γ M (pc + 2) lo' st σ cu su Q) : zW Γ M pc lo (vR r :: st) σ cu su Q := by
  subst hs
  intro l p e s m args below meth c H locs ls hl C hS hH hL
  cases r with
  | none => exact lv_astoreN C.1.1 C.1.2.1 d hL hi rfl (fun ls' h' => k l p e s m args below meth c H locs ls' hl C hS hH (zlp_set1 (v := vR none) h' hw))
  | some x => exact lv_astore C.1.1 C.1.2.1 d hL hi rfl (fun ls' h' => k l p e s m args below meth c H locs ls' hl C hS hH (zlp_set1 (v := vR (some x)) h' hw))
theorem zW_astore_n {i : Fin 4} {r : Option Nat} {lo' : List (Option AV)} (d : decode (mB M) pc = .ok (.astore_n i, 1)) (hi : (i : Nat) < mL M) (hw : znw lo i = true) (hs : lo.set i (some (vR r)) = lo') (k : zW Γ M (pc + 1) lo' st σ cu su Q) : zW Γ M pc lo (vR r :: st) σ cu su Q := by
  subst hs
  intro l p e s m args below meth c H locs ls hl C hS hH hL
  cases r with
  | none => exact lv_astore_nN C.1.1 C.1.2.1 d rfl hL hi rfl (fun ls' h' => k l p e s m args below meth c H locs ls' hl C hS hH (zlp_set1 (v := vR none) h' hw))
  | some x => exact lv_astore_n C.1.1 C.1.2.1 d rfl hL hi rfl (fun ls' h' => k l p e s m args below meth c H locs ls' hl C hS hH (zlp_set1 (v := vR (some x)) h' hw))
theorem zW_lstore {i : Nat} {x : Int} {lo' : List (Option AV)} (d : decode (mB M) pc = .ok (.lstore i, 2)) (hi : i + 1 < mL M) (hw : znw lo i = true) (hs : (lo.set i (some (vJ x))).set (i + 1) none = lo') (k : zW Γ M (pc + 2) lo' st σ cu su Q) : zW Γ M pc lo (vJ x :: st) σ cu su Q := by
  subst hs
  intro l p e s m args below meth c H locs ls hl C hS hH hL
  exact lv_lstore C.1.1 C.1.2.1 d hL hi rfl (fun ls' h' => k l p e s m args below meth c H locs ls' hl C hS hH (zlp_set2 (v := vJ x) h' hw))
theorem zW_lstore_n {i : Fin 4} {x : Int} {lo' : List (Option AV)} (d : decode (mB M) pc = .ok (.lstore_n i, 1)) (hi : (i : Nat) + 1 < mL M) (hw : znw lo i = true) (hs : (lo.set i (some (vJ x))).set (i + 1) none = lo') (k : zW Γ M (pc + 1) lo' st σ cu su Q) : zW Γ M pc lo (vJ x :: st) σ cu su Q := by
  subst hs
  intro l p e s m args below meth c H locs ls hl C hS hH hL
  exact lv_lstore_n C.1.1 C.1.2.1 d rfl hL hi rfl (fun ls' h' => k l p e s m args below meth c H locs ls' hl C hS hH (zlp_set2 (v := vJ x) h' hw))
theorem zlp_place {lo : List (Option AV)} {i : Nat} {v : AV} (hv : lo[i]? = some (some v)) : ∃ k : Nat, (zlp 0 lo)[k]? = some (i, toV v) :=
  List.getElem?_of_mem ((zlp_mem lo 0 (i, toV v)).mpr ⟨i, v, hv, by rw [Nat.zero_add]⟩)
theorem zW_iinc {i : Nat} {n x : Int} {lo' : List (Option AV)} (d : decode (mB M) pc = .ok (.iinc i n, 3)) (hv : lo[i]? = some (some (vI x))) (hi : i < mL M) (hw : znw lo i = true) (hs : lo.set i (some (vI (x + n))) = lo') (k : zW Γ M (pc + 3) lo' st σ cu su Q) : zW Γ M pc lo st σ cu su Q := by
  subst hs
  intro l p e s m args below meth c H locs ls hl C hS hH hL
  obtain ⟨j, hj⟩ := zlp_place hv
  exact lv_iinc (v := iI (x + n)) C.1.1 C.1.2.1 d hL hj (iI_add x n) hi rfl (fun ls' h' => k l p e s m args below meth c H locs ls' hl C hS hH (zlp_set1 (v := vI (x + n)) h' hw))

theorem zW_iadd {x y : Int} (d : decode (mB M) pc = .ok (.iadd, 1)) (k : zW Γ M (pc + 1) lo (vI (x + y) :: st) σ cu su Q) : zW Γ M pc lo (vI y :: vI x :: st) σ cu su Q := by
  intro l p e s m args below meth c H locs ls hl C hS hH hL
  have h9 := (k l p e s m args below meth c H locs ls hl C hS hH hL)
  rw [List.map_cons, toV_I, ← iI_add] at h9
  exact lv_iadd C.1.1 C.1.2.1 d h9
theorem zW_isub {x y : Int} (d : decode (mB M) pc = .ok (.isub, 1)) (k : zW Γ M (pc + 1) lo (vI (x - y) :: st) σ cu su Q) : zW Γ M pc lo (vI y :: vI x :: st) σ cu su Q := by
  intro l p e s m args below meth c H locs ls hl C hS hH hL
  have h9 := (k l p e s m args below meth c H locs ls hl C hS hH hL)
  rw [List.map_cons, toV_I, ← iI_sub] at h9
  exact lv_isub C.1.1 C.1.2.1 d h9
theorem zW_imul {x y : Int} (d : decode (mB M) pc = .ok (.imul, 1)) (k : zW Γ M (pc + 1) lo (vI (x * y) :: st) σ cu su Q) : zW Γ M pc lo (vI y :: vI x :: st) σ cu su Q := by
  intro l p e s m args below meth c H locs ls hl C hS hH hL
  have h9 := (k l p e s m args below meth c H locs ls hl C hS hH hL)
  rw [List.map_cons, toV_I, ← iI_mul] at h9
  exact lv_imul C.1.1 C.1.2.1 d h9
theorem zW_ladd {x y : Int} (d : decode (mB M) pc = .ok (.ladd, 1)) (k : zW Γ M (pc + 1) lo (vJ (x + y) :: st) σ cu su Q) : zW Γ M pc lo (vJ y :: vJ x :: st) σ cu su Q := by
  intro l p e s m args below meth c H locs ls hl C hS hH hL
  have h9 := (k l p e s m args below meth c H locs ls hl C hS hH hL)
  rw [List.map_cons, toV_J, ← jJ_add] at h9
  exact lv_ladd C.1.1 C.1.2.1 d h9
theorem zW_lsub {x y : Int} (d : decode (mB M) pc = .ok (.lsub, 1)) (k : zW Γ M (pc + 1) lo (vJ (x - y) :: st) σ cu su Q) : zW Γ M pc lo (vJ y :: vJ x :: st) σ cu su Q := by
  intro l p e s m args below meth c H locs ls hl C hS hH hL
  have h9 := (k l p e s m args below meth c H locs ls hl C hS hH hL)
  rw [List.map_cons, toV_J, ← jJ_sub] at h9
  exact lv_lsub C.1.1 C.1.2.1 d h9
theorem zW_iand {x y : Int} (d : decode (mB M) pc = .ok (.iand, 1)) (k : zW Γ M (pc + 1) lo (vI ((iI x &&& iI y).toInt) :: st) σ cu su Q) : zW Γ M pc lo (vI y :: vI x :: st) σ cu su Q := by
  intro l p e s m args below meth c H locs ls hl C hS hH hL
  have h9 := (k l p e s m args below meth c H locs ls hl C hS hH hL)
  rw [List.map_cons, toV_I, iI_of] at h9
  exact lv_iand C.1.1 C.1.2.1 d h9
theorem zW_ixor {x y : Int} (d : decode (mB M) pc = .ok (.ixor, 1)) (k : zW Γ M (pc + 1) lo (vI ((iI x ^^^ iI y).toInt) :: st) σ cu su Q) : zW Γ M pc lo (vI y :: vI x :: st) σ cu su Q := by
  intro l p e s m args below meth c H locs ls hl C hS hH hL
  have h9 := (k l p e s m args below meth c H locs ls hl C hS hH hL)
  rw [List.map_cons, toV_I, iI_of] at h9
  exact lv_ixor C.1.1 C.1.2.1 d h9
theorem zW_ishr {x y : Int} (d : decode (mB M) pc = .ok (.ishr, 1)) (k : zW Γ M (pc + 1) lo (vI ((iI x >>> (iI y &&& 31)).toInt) :: st) σ cu su Q) : zW Γ M pc lo (vI y :: vI x :: st) σ cu su Q := by
  intro l p e s m args below meth c H locs ls hl C hS hH hL
  have h9 := (k l p e s m args below meth c H locs ls hl C hS hH hL)
  rw [List.map_cons, toV_I, iI_of] at h9
  exact lv_ishr C.1.1 C.1.2.1 d h9
theorem zdiv {x y : Int} (hx : InR x) (hy : InR y) (h0 : 0 ≤ x) (h1 : 0 < y) : iI x / iI y = iI (x / y) := by
  apply Int32.toInt_inj.mp
  have hq : x / y ≤ x := Int.ediv_le_self y h0
  have hq0 : 0 ≤ x / y := Int.ediv_nonneg h0 (by omega)
  rw [Int32.toInt_div_of_ne_right _ _ (fun q => by have h9 := congrArg Int32.toInt q; rw [iI_toInt hy] at h9; have h8 : ((-1 : Int32)).toInt = -1 := (by decide); omega), iI_toInt hx, iI_toInt hy, iI_toInt ⟨by have := hx.1; omega, by have := hx.2; omega⟩, Int.tdiv_eq_ediv_of_nonneg h0]
theorem zne0 {y : Int} (hy : InR y) (h1 : 0 < y) : ¬ iI y = 0 := by
  intro h
  have := (iI_inj hy InR_0).mp (h.trans iI_0.symm)
  omega
theorem zrem {x y : Int} (hx : InR x) (hy : InR y) (h0 : 0 ≤ x) (h1 : 0 < y) : iI x - iI x / iI y * iI y = iI (x % y) := by
  rw [zdiv hx hy h0 h1, iI_mul, iI_sub]
  congr 1
  have := Int.emod_add_mul_ediv x y
  have e : x / y * y = y * (x / y) := Int.mul_comm _ _
  omega
theorem zW_idiv {x y : Int} (d : decode (mB M) pc = .ok (.idiv, 1)) (hx : InR x) (hy : InR y) (h0 : 0 ≤ x) (h1 : 0 < y) (k : zW Γ M (pc + 1) lo (vI (x / y) :: st) σ cu su Q) : zW Γ M pc lo (vI y :: vI x :: st) σ cu su Q := by
  intro l p e s m args below meth c H locs ls hl C hS hH hL
  have h9 := (k l p e s m args below meth c H locs ls hl C hS hH hL)
  rw [List.map_cons, toV_I, ← zdiv hx hy h0 h1] at h9
  exact lv_idiv C.1.1 C.1.2.1 d (zne0 hy h1) h9
theorem zW_irem {x y : Int} (d : decode (mB M) pc = .ok (.irem, 1)) (hx : InR x) (hy : InR y) (h0 : 0 ≤ x) (h1 : 0 < y) (k : zW Γ M (pc + 1) lo (vI (x % y) :: st) σ cu su Q) : zW Γ M pc lo (vI y :: vI x :: st) σ cu su Q := by
  intro l p e s m args below meth c H locs ls hl C hS hH hL
  have h9 := (k l p e s m args below meth c H locs ls hl C hS hH hL)
  rw [List.map_cons, toV_I, ← zrem hx hy h0 h1] at h9
  exact lv_irem C.1.1 C.1.2.1 d (zne0 hy h1) h9
theorem zW_iushr {x y z : Int} (d : decode (mB M) pc = .ok (.iushr, 1)) (hv : ((iI x).toUInt32 >>> ((iI y).toUInt32 &&& Int32.toUInt32 31)).toInt32 = iI z) (k : zW Γ M (pc + 1) lo (vI z :: st) σ cu su Q) : zW Γ M pc lo (vI y :: vI x :: st) σ cu su Q := by
  intro l p e s m args below meth c H locs ls hl C hS hH hL
  exact lv_iushr C.1.1 C.1.2.1 d hv (k l p e s m args below meth c H locs ls hl C hS hH hL)
theorem zW_i2l {x : Int} (d : decode (mB M) pc = .ok (.i2l, 1)) (hx : InR x) (k : zW Γ M (pc + 1) lo (vJ x :: st) σ cu su Q) : zW Γ M pc lo (vI x :: st) σ cu su Q := by
  intro l p e s m args below meth c H locs ls hl C hS hH hL
  refine lv_i2l (v := jJ x) C.1.1 C.1.2.1 d ?_ (k l p e s m args below meth c H locs ls hl C hS hH hL)
  apply Int64.toInt_inj.mp
  rw [Int32.toInt_toInt64, iI_toInt hx, jJ_toInt ⟨by have := hx.1; omega, by have := hx.2; omega⟩]
theorem zW_l2i {x : Int} (d : decode (mB M) pc = .ok (.l2i, 1)) (k : zW Γ M (pc + 1) lo (vI x :: st) σ cu su Q) : zW Γ M pc lo (vJ x :: st) σ cu su Q := by
  intro l p e s m args below meth c H locs ls hl C hS hH hL
  refine lv_l2i (v := iI x) C.1.1 C.1.2.1 d ?_ (k l p e s m args below meth c H locs ls hl C hS hH hL)
  unfold jJ iI
  exact Int64.toInt32_ofInt
theorem zW_i2c {x : Int} (d : decode (mB M) pc = .ok (.i2c, 1)) (hv : ((iI x).toUInt32 % 65536).toInt32 = iI x) (k : zW Γ M (pc + 1) lo (vI x :: st) σ cu su Q) : zW Γ M pc lo (vI x :: st) σ cu su Q := by
  intro l p e s m args below meth c H locs ls hl C hS hH hL
  exact lv_i2c C.1.1 C.1.2.1 d hv (k l p e s m args below meth c H locs ls hl C hS hH hL)
theorem zW_i2b {x z : Int} (d : decode (mB M) pc = .ok (.i2b, 1)) (hv : (iI x).toInt8.toInt32 = iI z) (k : zW Γ M (pc + 1) lo (vI z :: st) σ cu su Q) : zW Γ M pc lo (vI x :: st) σ cu su Q := by
  intro l p e s m args below meth c H locs ls hl C hS hH hL
  exact lv_i2b C.1.1 C.1.2.1 d hv (k l p e s m args below meth c H locs ls hl C hS hH hL)
theorem zW_dup {v : AV} (d : decode (mB M) pc = .ok (.dup, 1)) (hv : zwide v = false) (k : zW Γ M (pc + 1) lo (v :: v :: st) σ cu su Q) : zW Γ M pc lo (v :: st) σ cu su Q := by
  intro l p e s m args below meth c H locs ls hl C hS hH hL
  exact lv_dup C.1.1 C.1.2.1 d (by rw [zwide_cat, hv]; rfl) (k l p e s m args below meth c H locs ls hl C hS hH hL)
theorem zW_pop {v : AV} (d : decode (mB M) pc = .ok (.pop, 1)) (hv : zwide v = false) (k : zW Γ M (pc + 1) lo st σ cu su Q) : zW Γ M pc lo (v :: st) σ cu su Q := by
  intro l p e s m args below meth c H locs ls hl C hS hH hL
  exact lv_pop C.1.1 C.1.2.1 d (by rw [zwide_cat, hv]; rfl) (k l p e s m args below meth c H locs ls hl C hS hH hL)
theorem zW_dup2 {u v : AV} (d : decode (mB M) pc = .ok (.dup2, 1)) (hu : zwide u = false) (hv : zwide v = false) (k : zW Γ M (pc + 1) lo (u :: v :: u :: v :: st) σ cu su Q) : zW Γ M pc lo (u :: v :: st) σ cu su Q := by
  intro l p e s m args below meth c H locs ls hl C hS hH hL
  exact lv_dup2_11 C.1.1 C.1.2.1 d (by rw [zwide_cat, hu]; rfl) (by rw [zwide_cat, hv]; rfl) (k l p e s m args below meth c H locs ls hl C hS hH hL)
theorem zW_icmp_eq {x y : Int} {off : Int} {tgt : Nat} (d : decode (mB M) pc = .ok (.if_icmp .eq off, 3)) (ht : (pc : Int) + off = (tgt : Int)) (hx : InR x) (hy : InR y) (kt : x = y → zW Γ M tgt lo st σ cu su Q) (kf : ¬ (x = y) → zW Γ M (pc + 3) lo st σ cu su Q) : zW Γ M pc lo (vI y :: vI x :: st) σ cu su Q := by
  intro l p e s m args below meth c H locs ls hl C hS hH hL
  have e9 := iI_inj hx hy
  exact lv_icmp_eq C.1.1 C.1.2.1 d ht (fun h => (kt (e9.mp h) l p e s m args below meth c H locs ls hl C hS hH hL)) (fun h => (kf (fun q => h (e9.mpr q)) l p e s m args below meth c H locs ls hl C hS hH hL))
theorem zW_if_eq {x : Int} {off : Int} {tgt : Nat} (d : decode (mB M) pc = .ok (.ifCond .eq off, 3)) (ht : (pc : Int) + off = (tgt : Int)) (hx : InR x) (kt : x = 0 → zW Γ M tgt lo st σ cu su Q) (kf : ¬ (x = 0) → zW Γ M (pc + 3) lo st σ cu su Q) : zW Γ M pc lo (vI x :: st) σ cu su Q := by
  intro l p e s m args below meth c H locs ls hl C hS hH hL
  have e9 := iI_inj hx InR_0
  rw [iI_0] at e9
  exact lv_if_eq C.1.1 C.1.2.1 d ht (fun h => (kt (e9.mp h) l p e s m args below meth c H locs ls hl C hS hH hL)) (fun h => (kf (fun q => h (e9.mpr q)) l p e s m args below meth c H locs ls hl C hS hH hL))
theorem zW_icmp_ne {x y : Int} {off : Int} {tgt : Nat} (d : decode (mB M) pc = .ok (.if_icmp .ne off, 3)) (ht : (pc : Int) + off = (tgt : Int)) (hx : InR x) (hy : InR y) (kt : ¬ x = y → zW Γ M tgt lo st σ cu su Q) (kf : x = y → zW Γ M (pc + 3) lo st σ cu su Q) : zW Γ M pc lo (vI y :: vI x :: st) σ cu su Q := by
  intro l p e s m args below meth c H locs ls hl C hS hH hL
  have e9 := not_congr (iI_inj hx hy)
  exact lv_icmp_ne C.1.1 C.1.2.1 d ht (fun h => (kt (e9.mp h) l p e s m args below meth c H locs ls hl C hS hH hL)) (fun h => (kf (Decidable.not_not.mp (fun q => (e9.mpr q) h)) l p e s m args below meth c H locs ls hl C hS hH hL))
theorem zW_if_ne {x : Int} {off : Int} {tgt : Nat} (d : decode (mB M) pc = .ok (.ifCond .ne off, 3)) (ht : (pc : Int) + off = (tgt : Int)) (hx : InR x) (kt : ¬ x = 0 → zW Γ M tgt lo st σ cu su Q) (kf : x = 0 → zW Γ M (pc + 3) lo st σ cu su Q) : zW Γ M pc lo (vI x :: st) σ cu su Q := by
  intro l p e s m args below meth c H locs ls hl C hS hH hL
  have e9 := not_congr (iI_inj hx InR_0)
  rw [iI_0] at e9
  exact lv_if_ne C.1.1 C.1.2.1 d ht (fun h => (kt (e9.mp h) l p e s m args below meth c H locs ls hl C hS hH hL)) (fun h => (kf (Decidable.not_not.mp (fun q => (e9.mpr q) h)) l p e s m args below meth c H locs ls hl C hS hH hL))
theorem zW_icmp_lt {x y : Int} {off : Int} {tgt : Nat} (d : decode (mB M) pc = .ok (.if_icmp .lt off, 3)) (ht : (pc : Int) + off = (tgt : Int)) (hx : InR x) (hy : InR y) (kt : x < y → zW Γ M tgt lo st σ cu su Q) (kf : ¬ (x < y) → zW Γ M (pc + 3) lo st σ cu su Q) : zW Γ M pc lo (vI y :: vI x :: st) σ cu su Q := by
  intro l p e s m args below meth c H locs ls hl C hS hH hL
  have e9 := iI_lt hx hy
  exact lv_icmp_lt C.1.1 C.1.2.1 d ht (fun h => (kt (e9.mp h) l p e s m args below meth c H locs ls hl C hS hH hL)) (fun h => (kf (fun q => h (e9.mpr q)) l p e s m args below meth c H locs ls hl C hS hH hL))
theorem zW_if_lt {x : Int} {off : Int} {tgt : Nat} (d : decode (mB M) pc = .ok (.ifCond .lt off, 3)) (ht : (pc : Int) + off = (tgt : Int)) (hx : InR x) (kt : x < 0 → zW Γ M tgt lo st σ cu su Q) (kf : ¬ (x < 0) → zW Γ M (pc + 3) lo st σ cu su Q) : zW Γ M pc lo (vI x :: st) σ cu su Q := by
  intro l p e s m args below meth c H locs ls hl C hS hH hL
  have e9 := iI_lt hx InR_0
  rw [iI_0] at e9
  exact lv_if_lt C.1.1 C.1.2.1 d ht (fun h => (kt (e9.mp h) l p e s m args below meth c H locs ls hl C hS hH hL)) (fun h => (kf (fun q => h (e9.mpr q)) l p e s m args below meth c H locs ls hl C hS hH hL))
theorem zW_icmp_ge {x y : Int} {off : Int} {tgt : Nat} (d : decode (mB M) pc = .ok (.if_icmp .ge off, 3)) (ht : (pc : Int) + off = (tgt : Int)) (hx : InR x) (hy : InR y) (kt : y ≤ x → zW Γ M tgt lo st σ cu su Q) (kf : ¬ (y ≤ x) → zW Γ M (pc + 3) lo st σ cu su Q) : zW Γ M pc lo (vI y :: vI x :: st) σ cu su Q := by
  intro l p e s m args below meth c H locs ls hl C hS hH hL
  have e9 := iI_le hy hx
  exact lv_icmp_ge C.1.1 C.1.2.1 d ht (fun h => (kt (e9.mp h) l p e s m args below meth c H locs ls hl C hS hH hL)) (fun h => (kf (fun q => h (e9.mpr q)) l p e s m args below meth c H locs ls hl C hS hH hL))
theorem zW_if_ge {x : Int} {off : Int} {tgt : Nat} (d : decode (mB M) pc = .ok (.ifCond .ge off, 3)) (ht : (pc : Int) + off = (tgt : Int)) (hx : InR x) (kt : 0 ≤ x → zW Γ M tgt lo st σ cu su Q) (kf : ¬ (0 ≤ x) → zW Γ M (pc + 3) lo st σ cu su Q) : zW Γ M pc lo (vI x :: st) σ cu su Q := by
  intro l p e s m args below meth c H locs ls hl C hS hH hL
  have e9 := iI_le InR_0 hx
  rw [iI_0] at e9
  exact lv_if_ge C.1.1 C.1.2.1 d ht (fun h => (kt (e9.mp h) l p e s m args below meth c H locs ls hl C hS hH hL)) (fun h => (kf (fun q => h (e9.mpr q)) l p e s m args below meth c H locs ls hl C hS hH hL))
theorem zW_icmp_gt {x y : Int} {off : Int} {tgt : Nat} (d : decode (mB M) pc = .ok (.if_icmp .gt off, 3)) (ht : (pc : Int) + off = (tgt : Int)) (hx : InR x) (hy : InR y) (kt : y < x → zW Γ M tgt lo st σ cu su Q) (kf : ¬ (y < x) → zW Γ M (pc + 3) lo st σ cu su Q) : zW Γ M pc lo (vI y :: vI x :: st) σ cu su Q := by
  intro l p e s m args below meth c H locs ls hl C hS hH hL
  have e9 := iI_lt hy hx
  exact lv_icmp_gt C.1.1 C.1.2.1 d ht (fun h => (kt (e9.mp h) l p e s m args below meth c H locs ls hl C hS hH hL)) (fun h => (kf (fun q => h (e9.mpr q)) l p e s m args below meth c H locs ls hl C hS hH hL))
theorem zW_if_gt {x : Int} {off : Int} {tgt : Nat} (d : decode (mB M) pc = .ok (.ifCond .gt off, 3)) (ht : (pc : Int) + off = (tgt : Int)) (hx : InR x) (kt : 0 < x → zW Γ M tgt lo st σ cu su Q) (kf : ¬ (0 < x) → zW Γ M (pc + 3) lo st σ cu su Q) : zW Γ M pc lo (vI x :: st) σ cu su Q := by
  intro l p e s m args below meth c H locs ls hl C hS hH hL
  have e9 := iI_lt InR_0 hx
  rw [iI_0] at e9
  exact lv_if_gt C.1.1 C.1.2.1 d ht (fun h => (kt (e9.mp h) l p e s m args below meth c H locs ls hl C hS hH hL)) (fun h => (kf (fun q => h (e9.mpr q)) l p e s m args below meth c H locs ls hl C hS hH hL))
theorem zW_icmp_le {x y : Int} {off : Int} {tgt : Nat} (d : decode (mB M) pc = .ok (.if_icmp .le off, 3)) (ht : (pc : Int) + off = (tgt : Int)) (hx : InR x) (hy : InR y) (kt : x ≤ y → zW Γ M tgt lo st σ cu su Q) (kf : ¬ (x ≤ y) → zW Γ M (pc + 3) lo st σ cu su Q) : zW Γ M pc lo (vI y :: vI x :: st) σ cu su Q := by
  intro l p e s m args below meth c H locs ls hl C hS hH hL
  have e9 := iI_le hx hy
  exact lv_icmp_le C.1.1 C.1.2.1 d ht (fun h => (kt (e9.mp h) l p e s m args below meth c H locs ls hl C hS hH hL)) (fun h => (kf (fun q => h (e9.mpr q)) l p e s m args below meth c H locs ls hl C hS hH hL))
theorem zW_if_le {x : Int} {off : Int} {tgt : Nat} (d : decode (mB M) pc = .ok (.ifCond .le off, 3)) (ht : (pc : Int) + off = (tgt : Int)) (hx : InR x) (kt : x ≤ 0 → zW Γ M tgt lo st σ cu su Q) (kf : ¬ (x ≤ 0) → zW Γ M (pc + 3) lo st σ cu su Q) : zW Γ M pc lo (vI x :: st) σ cu su Q := by
  intro l p e s m args below meth c H locs ls hl C hS hH hL
  have e9 := iI_le hx InR_0
  rw [iI_0] at e9
  exact lv_if_le C.1.1 C.1.2.1 d ht (fun h => (kt (e9.mp h) l p e s m args below meth c H locs ls hl C hS hH hL)) (fun h => (kf (fun q => h (e9.mpr q)) l p e s m args below meth c H locs ls hl C hS hH hL))
theorem zW_goto {off : Int} {tgt : Nat} (d : decode (mB M) pc = .ok (.goto off, 3)) (ht : (pc : Int) + off = (tgt : Int)) (k : zW Γ M tgt lo st σ cu su Q) : zW Γ M pc lo st σ cu su Q := by
  intro l p e s m args below meth c H locs ls hl C hS hH hL
  exact lv_goto C.1.1 C.1.2.1 d ht (k l p e s m args below meth c H locs ls hl C hS hH hL)
def zcmp (x y : Int) : Int := if x < y then -1 else if x = y then 0 else 1
theorem zcmp_eq {x y : Int} (hx : InL x) (hy : InL y) : lg_cmp (jJ x) (jJ y) = iI (zcmp x y) := by
  have h1 := jJ_lt hx hy
  have h2 := jJ_lt hy hx
  have h3 := jJ_inj hx hy
  unfold lg_cmp zcmp
  by_cases a : x < y
  · have b : ¬ y < x := by omega
    have c : ¬ x = y := by omega
    simp [h2, h3, a, b, c]
    first | rfl | decide
  · by_cases c : x = y
    · subst c
      simp
      first | rfl | decide
    · have b : y < x := by omega
      simp [h2, h3, a, b, c]
      first | rfl | decide
theorem zW_lcmp {x y : Int} (d : decode (mB M) pc = .ok (.lcmp, 1)) (hx : InL x) (hy : InL y) (k : zW Γ M (pc + 1) lo (vI (zcmp x y) :: st) σ cu su Q) : zW Γ M pc lo (vJ y :: vJ x :: st) σ cu su Q := by
  intro l p e s m args below meth c H locs ls hl C hS hH hL
  have h9 := (k l p e s m args below meth c H locs ls hl C hS hH hL)
  rw [List.map_cons, toV_I, ← zcmp_eq hx hy] at h9
  exact W.lcmp C.1.1 C.1.2.1 d h9
theorem zW_ireturn {x : Int} {ty : FieldType} (d : decode (mB M) pc = .ok (.ireturn, 1)) (hr : mR M = some ty) (hn : narrow ty (.int (iI x)) = .int (iI x)) (hc : cu ≤ mC M) (hs : su ≤ mS M) (h : Q (.inl (some (vI x))) σ) : zW Γ M pc lo [vI x] σ cu su Q := by
  intro l p e s m args below meth c H locs ls hl C hS hH hL
  exact W.widen hc hs (vx_ret (W.zret C.1.1 C.1.2.1 (C.2.1.trans hr) hn (fun t ht hW => ⟨⟨some (vI x), σ, rfl, h, by rw [ht]; exact hH⟩, hS.F ht⟩) hS.2.2 d C.2.2.1))
theorem zW_lreturn {x : Int} (d : decode (mB M) pc = .ok (.lreturn, 1)) (hr : mR M = some .long) (hc : cu ≤ mC M) (hs : su ≤ mS M) (h : Q (.inl (some (vJ x))) σ) : zW Γ M pc lo [vJ x] σ cu su Q := by
  intro l p e s m args below meth c H locs ls hl C hS hH hL
  exact W.widen hc hs (vx_ret (W.lret C.1.1 C.1.2.1 (C.2.1.trans hr) (fun t ht hW => ⟨⟨some (vJ x), σ, rfl, h, by rw [ht]; exact hH⟩, hS.F ht⟩) hS.2.2 d C.2.2.1))
theorem zW_areturn {r : Option Nat} {rt : FieldType} (d : decode (mB M) pc = .ok (.areturn, 1)) (hr : mR M = some rt) (hrt : (∃ n, rt = .object n) ∨ ∃ t, rt = .array t) (hc : cu ≤ mC M) (hs : su ≤ mS M) (h : Q (.inl (some (vR r))) σ) : zW Γ M pc lo [vR r] σ cu su Q := by
  intro l p e s m args below meth c H locs ls hl C hS hH hL
  refine W.widen hc hs (vx_ret (W.aret (v := toV (vR r)) C.1.1 C.1.2.1 (C.2.1.trans hr) hrt ?_ (fun t ht hW => ⟨⟨some (vR r), σ, rfl, h, by rw [ht]; exact hH⟩, hS.F ht⟩) hS.2.2 d C.2.2.1))
  cases r with
  | none => exact Or.inl rfl
  | some a => exact Or.inr ⟨a, rfl⟩
theorem zW_return (d : decode (mB M) pc = .ok (.return_, 1)) (hr : mR M = none) (hc : cu ≤ mC M) (hs : su ≤ mS M) (h : Q (.inl none) σ) : zW Γ M pc lo [] σ cu su Q := by
  intro l p e s m args below meth c H locs ls hl C hS hH hL
  exact W.widen hc hs (vx_ret (W.vret C.1.1 C.1.2.1 (C.2.1.trans hr) (fun t ht hW => ⟨⟨none, σ, rfl, h, by rw [ht]; exact hH⟩, hS.F ht⟩) hS.2.2 d C.2.2.1))
theorem zW_mono {Q' : Res → HS → Prop} (h : zW Γ M pc lo st σ cu su Q) (hQ : ∀ r σ', Q r σ' → Q' r σ') : zW Γ M pc lo st σ cu su Q' := by
  intro l p e s m args below meth c H locs ls hl C hS hH hL
  intro T hT X
  obtain ⟨t, a1, o, b1, b2, b3⟩ := h l p e s m args below meth c H locs ls hl C hS hH hL T hT X
  refine ⟨t, a1, o, b1, b2, ?_⟩
  rcases b3 with ⟨⟨⟨r, σ', e1, e2, e3⟩, e4⟩, e5⟩ | ⟨q, e1, E, ce, L, ⟨⟨σ', f1, f2⟩, f3⟩, f4⟩
  · exact Or.inl ⟨⟨⟨r, σ', e1, hQ _ _ e2, e3⟩, e4⟩, e5⟩
  · exact Or.inr ⟨q, e1, E, ce, L, ⟨⟨σ', hQ _ _ f1, f2⟩, f3⟩, f4⟩

end ZROWS
