/-! the abstract machine over the kit's rows: values are whole numbers and addresses; the heap is four functions; every method is told by what it does to them -/
abbrev AV : Type := Int ⊕ Int ⊕ Option Nat
abbrev vI (z : Int) : AV := .inl z
abbrev vJ (z : Int) : AV := .inr (.inl z)
abbrev vR (r : Option Nat) : AV := .inr (.inr r)
def iI (z : Int) : Int32 := Int32.ofInt z
def jJ (z : Int) : Int64 := Int64.ofInt z
def toV : AV → Value
  | .inl z => .int (iI z)
  | .inr (.inl z) => .long (jJ z)
  | .inr (.inr r) => va_rf r
theorem toV_I (z : Int) : toV (vI z) = .int (iI z) := rfl
theorem toV_J (z : Int) : toV (vJ z) = .long (jJ z) := rfl
theorem toV_R (r : Option Nat) : toV (vR r) = va_rf r := rfl
/-- a value that takes two places -/
def zwide : AV → Bool
  | .inr (.inl _) => true
  | _ => false
theorem zwide_cat (v : AV) : (toV v).category = if zwide v then 2 else 1 := by
  rcases v with z | z | r
  · rfl
  · rfl
  · cases r <;> rfl
/-! numbers in range -/
def InR (z : Int) : Prop := -2147483648 ≤ z ∧ z ≤ 2147483647
def InL (z : Int) : Prop := -9223372036854775808 ≤ z ∧ z ≤ 9223372036854775807
theorem iI_toInt {z : Int} (h : InR z) : (iI z).toInt = z := by
  unfold iI
  exact Int32.toInt_ofInt_of_le (by have := h.1; omega) (by have := h.2; omega)
theorem jJ_toInt {z : Int} (h : InL z) : (jJ z).toInt = z := by
  unfold jJ
  exact Int64.toInt_ofInt_of_le (by have := h.1; omega) (by have := h.2; omega)
theorem iI_inj {x y : Int} (hx : InR x) (hy : InR y) : iI x = iI y ↔ x = y := by
  constructor
  · intro h
    rw [← iI_toInt hx, ← iI_toInt hy, h]
  · intro h; rw [h]
theorem iI_le {x y : Int} (hx : InR x) (hy : InR y) : iI x ≤ iI y ↔ x ≤ y := by
  rw [Int32.le_iff_toInt_le, iI_toInt hx, iI_toInt hy]
theorem iI_lt {x y : Int} (hx : InR x) (hy : InR y) : iI x < iI y ↔ x < y := by
  rw [Int32.lt_iff_toInt_lt, iI_toInt hx, iI_toInt hy]
theorem jJ_inj {x y : Int} (hx : InL x) (hy : InL y) : jJ x = jJ y ↔ x = y := by
  constructor
  · intro h
    rw [← jJ_toInt hx, ← jJ_toInt hy, h]
  · intro h; rw [h]
theorem jJ_lt {x y : Int} (hx : InL x) (hy : InL y) : jJ x < jJ y ↔ x < y := by
  rw [Int64.lt_iff_toInt_lt, jJ_toInt hx, jJ_toInt hy]
theorem iI_0 : iI 0 = 0 := rfl
theorem InR_0 : InR 0 := ⟨by decide, by decide⟩
theorem InR_of (x : Int32) : InR x.toInt := ⟨by have := Int32.le_toInt x; simpa using this, by have := Int32.toInt_lt x; omega⟩
theorem iI_of (x : Int32) : iI x.toInt = x := by
  unfold iI
  exact Int32.ofInt_toInt x
theorem InL_of (x : Int64) : InL x.toInt := ⟨by have := Int64.le_toInt x; simpa using this, by have := Int64.toInt_lt x; omega⟩
theorem jJ_of (x : Int64) : jJ x.toInt = x := by
  unfold jJ
  exact Int64.ofInt_toInt x
theorem iI_add (x y : Int) : iI x + iI y = iI (x + y) := by
  unfold iI
  exact (Int32.ofInt_add x y).symm
theorem iI_sub (x y : Int) : iI x - iI y = iI (x - y) := by
  unfold iI
  exact (Int32.ofInt_sub x y).symm
theorem iI_mul (x y : Int) : iI x * iI y = iI (x * y) := by
  unfold iI
  exact (Int32.ofInt_mul x y).symm
theorem iI_neg (x : Int) : - iI x = iI (-x) := by
  unfold iI
  exact (Int32.ofInt_neg x).symm
theorem jJ_add (x y : Int) : jJ x + jJ y = jJ (x + y) := by
  unfold jJ
  exact (Int64.ofInt_add x y).symm
theorem jJ_sub (x y : Int) : jJ x - jJ y = jJ (x - y) := by
  unfold jJ
  exact (Int64.ofInt_sub x y).symm
/-! the heap -/
abbrev HS : Type := (Nat → Nat × Nat) × (Nat → Nat → Int) × (Nat → Nat → Int) × (Nat → Nat → Int) × (Nat → Nat → Option Nat) × Nat
def zK (σ : HS) (a : Nat) : Nat × Nat := σ.1 a
/-- whole numbers in the slots of objects -/
def zO (σ : HS) (a k : Nat) : Int := σ.2.1 a k
/-- whole numbers in rows -/
def zI (σ : HS) (a k : Nat) : Int := σ.2.2.1 a k
def zJ (σ : HS) (a k : Nat) : Int := σ.2.2.2.1 a k
def zP (σ : HS) (a k : Nat) : Option Nat := σ.2.2.2.2.1 a k
def zN (σ : HS) : Nat := σ.2.2.2.2.2
def up2 {α : Type} (f : Nat → Nat → α) (a k : Nat) (x : α) : Nat → Nat → α := fun b j => if b = a ∧ j = k then x else f b j
def sO (σ : HS) (a k : Nat) (x : Int) : HS := (σ.1, up2 σ.2.1 a k x, σ.2.2)
def sI (σ : HS) (a k : Nat) (x : Int) : HS := (σ.1, σ.2.1, up2 σ.2.2.1 a k x, σ.2.2.2)
def sJ (σ : HS) (a k : Nat) (x : Int) : HS := (σ.1, σ.2.1, σ.2.2.1, up2 σ.2.2.2.1 a k x, σ.2.2.2.2)
def sP (σ : HS) (a k : Nat) (x : Option Nat) : HS := (σ.1, σ.2.1, σ.2.2.1, σ.2.2.2.1, up2 σ.2.2.2.2.1 a k x, σ.2.2.2.2.2)
def sN (σ : HS) (n : Nat) : HS := (σ.1, σ.2.1, σ.2.2.1, σ.2.2.2.1, σ.2.2.2.2.1, n)
/-- a whole row of numbers anew -/
def sIr (σ : HS) (a : Nat) (f : Nat → Int) : HS := (σ.1, σ.2.1, (fun b j => if b = a then f j else σ.2.2.1 b j), σ.2.2.2)
/-- a new thing of kind K at the place zN σ, all zero -/
def sNew (σ : HS) (K : Nat × Nat) : HS := (fun a => if a = zN σ then K else σ.1 a, fun a k => if a = zN σ then 0 else σ.2.1 a k, fun a k => if a = zN σ then 0 else σ.2.2.1 a k, fun a k => if a = zN σ then 0 else σ.2.2.2.1 a k, fun a k => if a = zN σ then none else σ.2.2.2.2.1 a k, zN σ + 1)
theorem zK_sNew (σ : HS) (K : Nat × Nat) (a : Nat) : zK (sNew σ K) a = if a = zN σ then K else zK σ a := rfl
theorem zO_sNew (σ : HS) (K : Nat × Nat) (a k : Nat) : zO (sNew σ K) a k = if a = zN σ then 0 else zO σ a k := rfl
theorem zI_sNew (σ : HS) (K : Nat × Nat) (a k : Nat) : zI (sNew σ K) a k = if a = zN σ then 0 else zI σ a k := rfl
theorem zJ_sNew (σ : HS) (K : Nat × Nat) (a k : Nat) : zJ (sNew σ K) a k = if a = zN σ then 0 else zJ σ a k := rfl
theorem zP_sNew (σ : HS) (K : Nat × Nat) (a k : Nat) : zP (sNew σ K) a k = if a = zN σ then none else zP σ a k := rfl
theorem zN_sNew (σ : HS) (K : Nat × Nat) : zN (sNew σ K) = zN σ + 1 := rfl
theorem zI_sIr (σ : HS) (a b j : Nat) (f : Nat → Int) : zI (sIr σ a f) b j = if b = a then f j else zI σ b j := rfl
theorem zO_sO (σ : HS) (a k b j : Nat) (x : Int) : zO (sO σ a k x) b j = if b = a ∧ j = k then x else zO σ b j := rfl
theorem zO_sOs (σ : HS) (a k : Nat) (x : Int) : zO (sO σ a k x) a k = x := by rw [zO_sO, if_pos ⟨rfl, rfl⟩]
theorem zO_sOa (σ : HS) {a b : Nat} (k j : Nat) (x : Int) (h : b ≠ a) : zO (sO σ a k x) b j = zO σ b j := by rw [zO_sO, if_neg (fun q => h q.1)]
theorem zO_sOk (σ : HS) (a b : Nat) {k j : Nat} (x : Int) (h : j ≠ k) : zO (sO σ a k x) b j = zO σ b j := by rw [zO_sO, if_neg (fun q => h q.2)]
theorem zK_sO (σ : HS) (a k : Nat) (x : Int) : zK (sO σ a k x) = zK σ := rfl
theorem zI_sO (σ : HS) (a k : Nat) (x : Int) : zI (sO σ a k x) = zI σ := rfl
theorem zJ_sO (σ : HS) (a k : Nat) (x : Int) : zJ (sO σ a k x) = zJ σ := rfl
theorem zP_sO (σ : HS) (a k : Nat) (x : Int) : zP (sO σ a k x) = zP σ := rfl
theorem zN_sO (σ : HS) (a k : Nat) (x : Int) : zN (sO σ a k x) = zN σ := rfl
theorem zI_sI (σ : HS) (a k b j : Nat) (x : Int) : zI (sI σ a k x) b j = if b = a ∧ j = k then x else zI σ b j := rfl
theorem zI_sIs (σ : HS) (a k : Nat) (x : Int) : zI (sI σ a k x) a k = x := by rw [zI_sI, if_pos ⟨rfl, rfl⟩]
theorem zI_sIa (σ : HS) {a b : Nat} (k j : Nat) (x : Int) (h : b ≠ a) : zI (sI σ a k x) b j = zI σ b j := by rw [zI_sI, if_neg (fun q => h q.1)]
theorem zI_sIk (σ : HS) (a b : Nat) {k j : Nat} (x : Int) (h : j ≠ k) : zI (sI σ a k x) b j = zI σ b j := by rw [zI_sI, if_neg (fun q => h q.2)]
theorem zK_sI (σ : HS) (a k : Nat) (x : Int) : zK (sI σ a k x) = zK σ := rfl
theorem zO_sI (σ : HS) (a k : Nat) (x : Int) : zO (sI σ a k x) = zO σ := rfl
theorem zJ_sI (σ : HS) (a k : Nat) (x : Int) : zJ (sI σ a k x) = zJ σ := rfl
theorem zP_sI (σ : HS) (a k : Nat) (x : Int) : zP (sI σ a k x) = zP σ := rfl
theorem zN_sI (σ : HS) (a k : Nat) (x : Int) : zN (sI σ a k x) = zN σ := rfl
theorem zJ_sJ (σ : HS) (a k b j : Nat) (x : Int) : zJ (sJ σ a k x) b j = if b = a ∧ j = k then x else zJ σ b j := rfl
theorem zJ_sJs (σ : HS) (a k : Nat) (x : Int) : zJ (sJ σ a k x) a k = x := by rw [zJ_sJ, if_pos ⟨rfl, rfl⟩]
theorem zJ_sJa (σ : HS) {a b : Nat} (k j : Nat) (x : Int) (h : b ≠ a) : zJ (sJ σ a k x) b j = zJ σ b j := by rw [zJ_sJ, if_neg (fun q => h q.1)]
theorem zJ_sJk (σ : HS) (a b : Nat) {k j : Nat} (x : Int) (h : j ≠ k) : zJ (sJ σ a k x) b j = zJ σ b j := by rw [zJ_sJ, if_neg (fun q => h q.2)]
theorem zK_sJ (σ : HS) (a k : Nat) (x : Int) : zK (sJ σ a k x) = zK σ := rfl
theorem zO_sJ (σ : HS) (a k : Nat) (x : Int) : zO (sJ σ a k x) = zO σ := rfl
theorem zI_sJ (σ : HS) (a k : Nat) (x : Int) : zI (sJ σ a k x) = zI σ := rfl
theorem zP_sJ (σ : HS) (a k : Nat) (x : Int) : zP (sJ σ a k x) = zP σ := rfl
theorem zN_sJ (σ : HS) (a k : Nat) (x : Int) : zN (sJ σ a k x) = zN σ := rfl
theorem zP_sP (σ : HS) (a k b j : Nat) (x : Option Nat) : zP (sP σ a k x) b j = if b = a ∧ j = k then x else zP σ b j := rfl
theorem zP_sPs (σ : HS) (a k : Nat) (x : Option Nat) : zP (sP σ a k x) a k = x := by rw [zP_sP, if_pos ⟨rfl, rfl⟩]
theorem zP_sPa (σ : HS) {a b : Nat} (k j : Nat) (x : Option Nat) (h : b ≠ a) : zP (sP σ a k x) b j = zP σ b j := by rw [zP_sP, if_neg (fun q => h q.1)]
theorem zP_sPk (σ : HS) (a b : Nat) {k j : Nat} (x : Option Nat) (h : j ≠ k) : zP (sP σ a k x) b j = zP σ b j := by rw [zP_sP, if_neg (fun q => h q.2)]
theorem zK_sP (σ : HS) (a k : Nat) (x : Option Nat) : zK (sP σ a k x) = zK σ := rfl
theorem zO_sP (σ : HS) (a k : Nat) (x : Option Nat) : zO (sP σ a k x) = zO σ := rfl
theorem zI_sP (σ : HS) (a k : Nat) (x : Option Nat) : zI (sP σ a k x) = zI σ := rfl
theorem zJ_sP (σ : HS) (a k : Nat) (x : Option Nat) : zJ (sP σ a k x) = zJ σ := rfl
theorem zN_sP (σ : HS) (a k : Nat) (x : Option Nat) : zN (sP σ a k x) = zN σ := rfl
theorem zK_sIr (σ : HS) (a : Nat) (f : Nat → Int) : zK (sIr σ a f) = zK σ := rfl
theorem zO_sIr (σ : HS) (a : Nat) (f : Nat → Int) : zO (sIr σ a f) = zO σ := rfl
theorem zJ_sIr (σ : HS) (a : Nat) (f : Nat → Int) : zJ (sIr σ a f) = zJ σ := rfl
theorem zP_sIr (σ : HS) (a : Nat) (f : Nat → Int) : zP (sIr σ a f) = zP σ := rfl
theorem zN_sIr (σ : HS) (a : Nat) (f : Nat → Int) : zN (sIr σ a f) = zN σ := rfl
theorem zK_sN (σ : HS) (n : Nat) : zK (sN σ n) = zK σ := rfl
theorem zO_sN (σ : HS) (n : Nat) : zO (sN σ n) = zO σ := rfl
theorem zI_sN (σ : HS) (n : Nat) : zI (sN σ n) = zI σ := rfl
theorem zJ_sN (σ : HS) (n : Nat) : zJ (sN σ n) = zJ σ := rfl
theorem zP_sN (σ : HS) (n : Nat) : zP (sN σ n) = zP σ := rfl
theorem zN_sN (σ : HS) (n : Nat) : zN (sN σ n) = n := rfl
/-! the kinds: 0 to 10 objects (vwCl), 11 to 18 rows -/
def zRt : List (List Bool) := [[true, true, false, true, true, false, true, true], [true, false], [true, true, true, true, false, false, false], [true, false, false], [true, true, false, false, false], [true], [true, true, false, false, true, false, false, false, false], [true, true, true, false], [true, false], [true, false, true, true, false, true, true, true, true, true, true, true, true, true],
  [false, true, false, false, false, false, true, false, false, false, true, false, true, false, true, false, true, true, true, true, false, false, true, true, true, true, true, true, true, true, false, false, false, false, false, false, false]]
def zR (ci k : Nat) : Bool := (zRt.getD ci []).getD k false
def zNF (ci : Nat) : Nat := (zRt.getD ci []).length
def zV (σ : HS) (a ci k : Nat) : Value := if zR ci k then va_rf (zP σ a k) else .int (iI (zO σ a k))
def zTy : Nat → FieldType
  | 11 => .byte
  | 12 => .char
  | 13 => .int
  | 14 => .long
  | 15 => .boolean
  | 16 => .object "FreeGroupCalculator$Graph"
  | 17 => .object "FreeGroupCalculator$State"
  | 18 => .object "FreeGroupCalculator$Word"
  | _ => .int
/-- what a run has fixed: numbers of the kinds, their slots, the rows' kinds, where its own heap begins, the constants' places, the script -/
abbrev GG : Type := (Nat → ClassId) × (Nat → Nat → Nat) × (Nat → ClassId) × Nat × (Nat → Nat) × (Nat → Nat) × Nat × Nat × (Nat → Int32)
def gC (Γ : GG) : Nat → ClassId := Γ.1
def gS (Γ : GG) : Nat → Nat → Nat := Γ.2.1
def gD (Γ : GG) : Nat → ClassId := Γ.2.2.1
def gB (Γ : GG) : Nat := Γ.2.2.2.1
def gT (Γ : GG) : Nat → Nat := Γ.2.2.2.2.1
def gU (Γ : GG) : Nat → Nat := Γ.2.2.2.2.2.1
def gb (Γ : GG) : Nat := Γ.2.2.2.2.2.2.1
def gL (Γ : GG) : Nat := Γ.2.2.2.2.2.2.2.1
def gx (Γ : GG) : Nat → Int32 := Γ.2.2.2.2.2.2.2.2
def zA (Γ : GG) : Nat → Prop := fun q => gB Γ ≤ q
def zInt (K : Nat) : Prop := K = 11 ∨ K = 12 ∨ K = 13 ∨ K = 15
def zCell (Γ : GG) (σ : HS) (H : Heap) (a : Nat) : Prop :=
  ((zK σ a).1 < 11 → t_OB a (gC Γ (zK σ a).1) (zNF (zK σ a).1) (gS Γ (zK σ a).1) H (zV σ a (zK σ a).1)) ∧
  ((zK σ a).1 = 14 → H[a]? = some (arrV (gD Γ 14) (zK σ a).2 (fun j => .long (jJ (zJ σ a j))))) ∧
  (zInt (zK σ a).1 → H[a]? = some (arrV (gD Γ (zK σ a).1) (zK σ a).2 (fun j => .int (iI (zI σ a j))))) ∧
  (16 ≤ (zK σ a).1 → (zK σ a).1 < 19 → H[a]? = some (arrV (gD Γ (zK σ a).1) (zK σ a).2 (fun j => va_rf (zP σ a j))))
def zH (Γ : GG) (σ : HS) (H : Heap) : Prop := (∀ a, zCell Γ σ H a) ∧ H.size = zN σ ∧ ∀ a, (zK σ a).1 < 19 → gB Γ ≤ a
def zTys (Γ : GG) : List (ClassId × FieldType) := [(gD Γ 11, zTy 11), (gD Γ 12, zTy 12), (gD Γ 13, zTy 13), (gD Γ 14, zTy 14), (gD Γ 15, zTy 15), (gD Γ 16, zTy 16), (gD Γ 17, zTy 17), (gD Γ 18, zTy 18)]
def zKK (Γ : GG) (U : State) : Prop := va_K (gC Γ, gS Γ) vwCl (zTys Γ) U
theorem zKK.arr {Γ : GG} {U : State} (h : zKK Γ U) {K : Nat} (h1 : 11 ≤ K) (h2 : K < 19) : ArrOfT U (gD Γ K) (zTy K) ∧ va_RA U (gD Γ K) (zTy K) := by
  have hk : (zTys Γ)[K - 11]? = some (gD Γ K, zTy K) := by
    rcases (by omega : K = 11 ∨ K = 12 ∨ K = 13 ∨ K = 14 ∨ K = 15 ∨ K = 16 ∨ K = 17 ∨ K = 18) with r | r | r | r | r | r | r | r <;> subst r <;> rfl
  exact h.2 (K - 11) _ hk
/-! the constants -/
def zNest : List (String × Nat × MethodName × String) := [(RX9, 32, yX6_init, RX9), (RX9, 45, yX0_init, RX9), (RX9, 52, yX4_init, RX9), (RX9, 59, yX5_init, RX9), (RX9, 78, yX1_init, RX9), (RX9, 83, yX2_init, RX9), (RX0, 111, yX9_isInverse, RX9), (RX4, 45, yX9_isInverse, RX9), (RX6, 127, yX9_codeOfByte, RX9), (RX5, 31, yX9_isInverse, RX9), (RX1, 26, yX9_letterOfCode, RX9), (RX1, 38, yX9_isInverse, RX9)]
def zStr : List (String × Nat × String) := [(RX6, 63, "rank"), (RX6, 87, "set"), (RX6, 92, "join"), (RX9, 337, "there is no such number"), (RX9, 90, "the input buffer is full"), (RX9, 100, "no such length"), (RX9, 107, "the text has an error"), (RX9, 183, "the words are not conjugate"), (RX9, 340, "the word is empty"), (RX9, 204, "no such degree"), (RX9, 264, "not a letter of the group"), (RX9, 358, "the result has more than 60 letters"), (RX9, 279, "no such exponent"), (RX9, 288, "the subgroup has 6 generating words"), (RX9, 303, "there is no edit to undo"), (RX9, 311, "there is no saved state")]
def zAO : List String := ["FreeGroupCalculator$Graph", "FreeGroupCalculator$State", "FreeGroupCalculator$Word"]
def zExc : List String := ["java/lang/IllegalStateException", "java/lang/IllegalArgumentException", "java/lang/IndexOutOfBoundsException", "java/util/NoSuchElementException"]
def zDecl : List MethodName := [⟨"java/lang/RuntimeException", "<init>", "()V"⟩, ⟨"java/lang/RuntimeException", "<init>", "(Ljava/lang/String;)V"⟩, ⟨"java/lang/Exception", "<init>", "()V"⟩, ⟨"java/lang/Exception", "<init>", "(Ljava/lang/String;)V"⟩, ⟨"java/lang/Throwable", "<init>", "()V"⟩, ⟨"java/lang/Throwable", "<init>", "(Ljava/lang/String;)V"⟩]
def zNc : List (String × String) := [("java/util/NoSuchElementException", "java/lang/IndexOutOfBoundsException"), ("java/lang/IllegalArgumentException", "java/lang/IndexOutOfBoundsException"), ("java/lang/IllegalStateException", "java/lang/IndexOutOfBoundsException"), ("java/lang/IllegalStateException", "java/lang/IllegalArgumentException")]
def zB2 (U : State) : Prop := (∀ C ∈ zAO, va_AO C U) ∧ (∀ x ∈ zDecl, va_Nw (.declares x) U) ∧ (∀ E ∈ zExc, va_Nw (.castable E E) U) ∧ ∀ q ∈ zNc, va_Nc q.1 q.2 U
theorem zB2.moved {s U : State} (hW : s.WarmedH U.vm) (h : zB2 s) : zB2 U :=
  ⟨fun C hC => va_AO.moved hW.alike (h.1 C hC), fun x hx => va_Nw.warmD hW (h.2.1 x hx), fun E hE => va_Nw.warmC hW (h.2.2.1 E hE), fun q hq => va_Nc.moved hW.alike (h.2.2.2 q hq)⟩
def zLen : List Nat := [4, 3, 4]
def zByt : List (List Int32) := [[114, 97, 110, 107], [115, 101, 116], [106, 111, 105, 110]]
/-- what stands fast below the run's own heap -/
def zBs (Γ : GG) (U : State) (H : Heap) : Prop :=
  (∀ q ∈ zNest, va_Nw (.methodLinkNest q.1 q.2.1 q.2.2.1 q.2.2.2) U) ∧ vx_Zq Bundle.tN "UNASSIGNED_STACK" Bundle.steD (zA Γ) U H ∧ vx_Zq Bundle.tN "SUPPRESSED_SENTINEL" Bundle.listD (zA Γ) U H ∧
  (∀ (k : Nat) (q : String × Nat × String), zStr[k]? = some q → vk_R q.1 q.2.1 q.2.2 (gT Γ k) U) ∧ vk_S 3 zLen zByt (gT Γ) (gU Γ) (zA Γ) U H ∧ (va_Z "java/lang/String" "COMPACT_STRINGS" "Z" (.int 1) (zA Γ) U H ∧ va_Zq "jdk/internal/util/Preconditions" "SIOOBE_FORMATTER" "Ljava/util/function/BiFunction;" (zA Γ) U H) ∧
  va_X (gb Γ) (gL Γ) (gx Γ) U H ∧ gb Γ < gB Γ ∧ gB Γ ≤ H.size ∧ zB2 U
theorem zBs.moved {Γ : GG} {s U : State} {H H1 : Heap} (hW : s.WarmedH U.vm) (h : zBs Γ s H) (hz : H.size ≤ H1.size) (hq : ∀ q : Nat, q < H.size → ¬ zA Γ q → H1[q]? = H[q]?) : zBs Γ U H1 := by
  obtain ⟨h1, h2, h3, h4, h5, h6, h7, h8, h9, h10⟩ := h
  refine ⟨fun q hq => va_Nw.warmM hW (h1 q hq), (vx_Zq.moved hW.alike h2).kept hq, (vx_Zq.moved hW.alike h3).kept hq, fun k q hk => vk_R.warm hW (h4 k q hk), (vk_S.moved hW.alike h5).kept hq, ⟨(va_Z.moved hW.alike h6.1).kept hq, (va_Zq.moved hW.alike h6.2).kept hq⟩, ?_, h8, Nat.le_trans h9 hz, h10.moved hW⟩
  exact (va_X.moved hW.alike h7).kept (hq _ (by omega) (fun q => by unfold zA at q; omega))
theorem zBs.frame {Γ : GG} {U : State} {H : Heap} (a : Array Value) (g : JFrame) (mk : MethodId) (h : zBs Γ U H) : zBs Γ (U.calling g mk a) H :=
  zBs.moved (s := U) (U := U.calling g mk a) (State.WarmedH.refl U) h (Nat.le_refl _) (fun _ _ _ => rfl)
/-! the words -/
def BIG : List Cond := lw_tbl.filter goodWord
theorem mem_BIG {w : Cond} (i : Nat) (h : lw_tbl[i]? = some w) (g : goodWord w = true) : w ∈ BIG := List.mem_filter.mpr ⟨List.mem_of_getElem? h, g⟩
theorem BIG_good : ∀ w ∈ BIG, goodWord w = true := fun w h => (List.mem_filter.mp h).2
theorem BIG_tbl : ∀ w ∈ BIG, w ∈ lw_tbl := fun w h => (List.mem_filter.mp h).1
theorem BIG_in {ws : List Cond} (h : ∀ w ∈ ws, w ∈ BIG) : GoodIn BIG ws := fun w hw => ⟨h w hw, good_of_word (BIG_good w (h w hw))⟩
