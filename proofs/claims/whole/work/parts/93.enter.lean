/-! what stands fast at the law's entry -/
section ENTER
variable {args : Array Value} {s : State}
def stAll : Cond := Jvm.Cond.and given_1 narrow_1
def stT (i : Nat) : Term := .string (zStr.getD i ("", 0, "")).1 (zStr.getD i ("", 0, "")).2.1
/-- the words of the tables that are used here -/
def stW : List Cond := zNest.map (fun q => Cond.methodLinkNest q.1 q.2.1 q.2.2.1 q.2.2.2) ++ zAO.map (fun C => Cond.arrayOver (.object C)) ++ zDecl.map Cond.declares ++ zExc.map (fun E => Cond.castable E E) ++ zStr.map (fun q => Cond.stringRef q.1 q.2.1 q.2.2) ++ (List.range 11).map (fun ci => Cond.instantiable (zcN ci) (zcn ci)) ++ [Cond.arrayClass .byte, Cond.arrayClass .char, Cond.arrayClass .int, Cond.arrayClass .long, Cond.arrayClass .boolean] ++
  [Cond.laysStatic Bundle.tN "UNASSIGNED_STACK" Bundle.steD, Cond.laysStatic Bundle.tN "SUPPRESSED_SENTINEL" Bundle.listD, Cond.laysStatic "java/lang/String" "COMPACT_STRINGS" "Z", Cond.laysStatic "jdk/internal/util/Preconditions" "SIOOBE_FORMATTER" "Ljava/util/function/BiFunction;", Cond.initialized Bundle.tN, Cond.initialized "java/lang/String", Cond.initialized "jdk/internal/util/Preconditions"]
set_option maxRecDepth 100000 in
theorem stW_in : ∀ w ∈ stW, w ∈ tables_1 := by decide +kernel
/-- what is given of the start and used here -/
def stN : List Cond := [Cond.isRef (.static Bundle.tN "UNASSIGNED_STACK" Bundle.steD), Cond.isRef (.static Bundle.tN "SUPPRESSED_SENTINEL" Bundle.listD), Cond.eq (.static "java/lang/String" "COMPACT_STRINGS" "Z") (.int 1), Cond.isRef (.static "jdk/internal/util/Preconditions" "SIOOBE_FORMATTER" "Ljava/util/function/BiFunction;")] ++ zNc.map (fun q => Cond.not (.castable q.1 q.2)) ++ (List.range 16).map (fun i => Cond.exactly (stT i) "java/lang/String") ++ (List.range 3).map (fun i => Cond.eq (.field (stT i) "java/lang/String" "coder" "B") (.int 0)) ++ (List.range 3).map (fun i => Cond.arrayOf (.field (stT i) "java/lang/String" "value" "[B") .byte) ++ (List.range 3).map (fun i => Cond.eq (.length (.field (stT i) "java/lang/String" "value" "[B")) (.int (Int32.ofNat (zLen.getD i 0))))
def stE : List Cond := (List.range 3).flatMap (fun i => (List.range (zLen.getD i 0)).map (fun j => Cond.eq (.elem (.field (stT i) "java/lang/String" "value" "[B") (.int (Int32.ofNat j))) (.int ((zByt.getD i []).getD j 0))))
def stD : List Cond := [Cond.not (.eq (stT 0) (stT 1)), Cond.not (.eq (stT 0) (stT 2)), Cond.not (.eq (stT 1) (stT 2))]
set_option maxRecDepth 100000 in
theorem stN_in : ∀ w ∈ stN ++ stE ++ stD, w ∈ flatC stAll := by decide +kernel
set_option maxRecDepth 100000 in
theorem st_hn (h : stAll.before args s = true) : ∀ w ∈ stN ++ stE ++ stD, w.before args s = true := fun w hw => flat_of_before _ h w (stN_in w hw)
set_option maxRecDepth 100000 in
theorem st_K (hts : ∀ w ∈ lw_tbl, w.before args s = true) : ∃ (C : Nat → ClassId) (S : Nat → Nat → Nat) (D : Nat → ClassId), (∀ (c : Nat) (q : vw_C), vwCl[c]? = some q → u_Kn s q.1 q.2.1 q.2.2 (C c) (S c)) ∧ ∀ K, 11 ≤ K → K < 19 → ArrOfT s (D K) (zTy K) ∧ va_RA s (D K) (zTy K) := by
  have ht : ∀ w ∈ stW, w.before args s = true := fun w hw => hts w (List.mem_append_right _ (stW_in w hw))
  have h0 : ∀ ci : Nat, ∃ q : ClassId × (Nat → Nat), ci < 11 → u_Kn s (zcN ci) (zcT ci) (zcn ci) q.1 q.2 := by
    intro ci
    by_cases hi : ci < 11
    · have hin : Cond.instantiable (zcN ci) (zcn ci) ∈ stW := by
        have : Cond.instantiable (zcN ci) (zcn ci) ∈ (List.range 11).map (fun ci => Cond.instantiable (zcN ci) (zcn ci)) := List.mem_map.mpr ⟨ci, List.mem_range.mpr hi, rfl⟩
        simp only [stW, List.mem_append]
        exact Or.inl (Or.inl (Or.inr this))
      obtain ⟨c, i, h⟩ := u_known hts (fun w hw => BIG_tbl w (zcl_ws ci hi w hw)) (ht _ hin)
      exact ⟨(c, i), fun _ => h⟩
    · exact ⟨(0, fun _ => 0), fun h => absurd h hi⟩
  have pa : ∀ ty : FieldType, (∀ C, ty ≠ .object C) → (Cond.arrayClass ty).before args s = true → ∃ cA, ArrOfT s cA ty ∧ va_RA s cA ty := fun ty hn h => by
    obtain ⟨cA, kA, comp, hf, hk, hkind⟩ := Cond.arrayClass_spec h
    refine ⟨cA, fun n z => ⟨(fun k h => by cases h), kA, hk, comp, hkind⟩, ?_⟩
    cases ty <;> first | exact hf | exact absurd rfl (hn _)
  have po : ∀ C : String, (Cond.arrayOver (.object C)).before args s = true → ∃ cA, ArrOfT s cA (.object C) ∧ va_RA s cA (.object C) := fun C h => by
    obtain ⟨comp, cA, kA, hc, -, hk, hkind, hf⟩ := Cond.arrayOver_spec h
    exact ⟨cA, fun n z => ⟨(fun k h => by cases h), kA, hk, comp, hkind⟩, kA, comp, hk, hkind, hc, hf⟩
  have h1 : ∀ K : Nat, ∃ cA : ClassId, 11 ≤ K → K < 19 → ArrOfT s cA (zTy K) ∧ va_RA s cA (zTy K) := by
    intro K
    have go : ∀ {ty : FieldType}, zTy K = ty → (∃ cA, ArrOfT s cA ty ∧ va_RA s cA ty) → ∃ cA : ClassId, 11 ≤ K → K < 19 → ArrOfT s cA (zTy K) ∧ va_RA s cA (zTy K) := fun e h => by
      obtain ⟨cA, h⟩ := h
      exact ⟨cA, fun _ _ => by rw [e]; exact h⟩
    by_cases hK : 11 ≤ K ∧ K < 19
    · rcases (by omega : K = 11 ∨ K = 12 ∨ K = 13 ∨ K = 14 ∨ K = 15 ∨ K = 16 ∨ K = 17 ∨ K = 18) with r | r | r | r | r | r | r | r
      · exact go (ty := .byte) (by rw [r]; rfl) (pa _ (fun C h => by cases h) (ht _ (by simp [stW])))
      · exact go (ty := .char) (by rw [r]; rfl) (pa _ (fun C h => by cases h) (ht _ (by simp [stW])))
      · exact go (ty := .int) (by rw [r]; rfl) (pa _ (fun C h => by cases h) (ht _ (by simp [stW])))
      · exact go (ty := .long) (by rw [r]; rfl) (pa _ (fun C h => by cases h) (ht _ (by simp [stW])))
      · exact go (ty := .boolean) (by rw [r]; rfl) (pa _ (fun C h => by cases h) (ht _ (by simp [stW])))
      · exact go (ty := .object "FreeGroupCalculator$Graph") (by rw [r]; rfl) (po _ (ht _ (by simp [stW, zAO])))
      · exact go (ty := .object "FreeGroupCalculator$State") (by rw [r]; rfl) (po _ (ht _ (by simp [stW, zAO])))
      · exact go (ty := .object "FreeGroupCalculator$Word") (by rw [r]; rfl) (po _ (ht _ (by simp [stW, zAO])))
    · exact ⟨0, fun a b => absurd ⟨a, b⟩ hK⟩
  obtain ⟨f, hf⟩ := Classical.axiomOfChoice h0
  obtain ⟨D, hD⟩ := Classical.axiomOfChoice h1
  refine ⟨fun c => (f c).1, fun c => (f c).2, D, fun c q hq => ?_, hD⟩
  have hc : c < 11 := (List.getElem?_eq_some_iff.mp hq).1
  have e := zcl_vw c hc
  rw [hq] at e
  rw [Option.some.inj e]
  exact hf c hc
set_option maxRecDepth 100000 in
/-- the constants' places -/
theorem st_S (hts : ∀ w ∈ lw_tbl, w.before args s = true) (hgv : stAll.before args s = true) : ∃ gt gu : Nat → Nat, (∀ (k : Nat) (q : String × Nat × String), zStr[k]? = some q → vk_R q.1 q.2.1 q.2.2 (gt k) s) ∧ vk_S 3 zLen zByt gt gu (fun q : Nat => s.heap.size ≤ q) s s.heap := by
  have hA : ∀ a : Nat, a < s.heap.size → ¬ (fun q : Nat => s.heap.size ≤ q) a := fun a h => Nat.not_le.mpr h
  have hn := st_hn hgv
  have hN : ∀ w ∈ stN, w.before args s = true := fun w hw => hn w (List.mem_append_left _ (List.mem_append_left _ hw))
  have hex : ∀ i, i < 16 → (Cond.exactly (stT i) "java/lang/String").before args s = true := fun i hi => hN _ (by
    have : Cond.exactly (stT i) "java/lang/String" ∈ (List.range 16).map (fun i => Cond.exactly (stT i) "java/lang/String") := List.mem_map.mpr ⟨i, List.mem_range.mpr hi, rfl⟩
    simp only [stN, List.mem_append]
    exact Or.inl (Or.inl (Or.inl (Or.inr this))))
  have hco : ∀ i, i < 3 → (Cond.eq (.field (stT i) "java/lang/String" "coder" "B") (.int 0)).before args s = true := fun i hi => hN _ (by
    have : Cond.eq (.field (stT i) "java/lang/String" "coder" "B") (.int 0) ∈ (List.range 3).map (fun i => Cond.eq (.field (stT i) "java/lang/String" "coder" "B") (.int 0)) := List.mem_map.mpr ⟨i, List.mem_range.mpr hi, rfl⟩
    simp only [stN, List.mem_append]
    exact Or.inl (Or.inl (Or.inr this)))
  have har : ∀ i, i < 3 → (Cond.arrayOf (.field (stT i) "java/lang/String" "value" "[B") .byte).before args s = true := fun i hi => hN _ (by
    have : Cond.arrayOf (.field (stT i) "java/lang/String" "value" "[B") .byte ∈ (List.range 3).map (fun i => Cond.arrayOf (.field (stT i) "java/lang/String" "value" "[B") .byte) := List.mem_map.mpr ⟨i, List.mem_range.mpr hi, rfl⟩
    simp only [stN, List.mem_append]
    exact Or.inl (Or.inr this))
  have hle : ∀ i, i < 3 → (Cond.eq (.length (.field (stT i) "java/lang/String" "value" "[B")) (.int (Int32.ofNat (zLen.getD i 0)))).before args s = true := fun i hi => hN _ (by
    have : Cond.eq (.length (.field (stT i) "java/lang/String" "value" "[B")) (.int (Int32.ofNat (zLen.getD i 0))) ∈ (List.range 3).map (fun i => Cond.eq (.length (.field (stT i) "java/lang/String" "value" "[B")) (.int (Int32.ofNat (zLen.getD i 0)))) := List.mem_map.mpr ⟨i, List.mem_range.mpr hi, rfl⟩
    simp only [stN, List.mem_append]
    exact Or.inr this)
  have hel : ∀ i, i < 3 → ∀ j, j < zLen.getD i 0 → (Cond.eq (.elem (.field (stT i) "java/lang/String" "value" "[B") (.int (Int32.ofNat j))) (.int ((zByt.getD i []).getD j 0))).before args s = true := fun i hi j hj => hn _ (by
    refine List.mem_append_left _ (List.mem_append_right _ ?_)
    exact List.mem_flatMap.mpr ⟨i, List.mem_range.mpr hi, List.mem_map.mpr ⟨j, List.mem_range.mpr hj, rfl⟩⟩)
  have hD : ∀ w ∈ stD, w.before args s = true := fun w hw => hn w (List.mem_append_right _ hw)
  have hne : ∀ i j : Nat, i < 3 → j < 3 → i ≠ j → (Cond.not (Cond.eq (stT i) (stT j))).before args s = true ∨ (Cond.not (Cond.eq (stT j) (stT i))).before args s = true := fun i j hi hj hij => by
    rcases (by omega : (i = 0 ∧ j = 1) ∨ (i = 0 ∧ j = 2) ∨ (i = 1 ∧ j = 2) ∨ (i = 1 ∧ j = 0) ∨ (i = 2 ∧ j = 0) ∨ (i = 2 ∧ j = 1)) with ⟨r1, r2⟩ | ⟨r1, r2⟩ | ⟨r1, r2⟩ | ⟨r1, r2⟩ | ⟨r1, r2⟩ | ⟨r1, r2⟩ <;> rw [r1, r2]
    · exact Or.inl (hD _ (by simp [stD]))
    · exact Or.inl (hD _ (by simp [stD]))
    · exact Or.inl (hD _ (by simp [stD]))
    · exact Or.inr (hD _ (by simp [stD]))
    · exact Or.inr (hD _ (by simp [stD]))
    · exact Or.inr (hD _ (by simp [stD]))
  obtain ⟨aK, aV, hS, hev⟩ := vk_Sof (tm := stT) (len := zLen) (byt := zByt) (N := 3) (by decide) (fun i hi => hex i (by omega)) hco har hle hel hne hA
  have h0 : ∀ i : Nat, ∃ a : Nat, i < 16 → (stT i).eval args s none [] s = some (.ref a) := by
    intro i
    by_cases hi : i < 16
    · obtain ⟨a, c, cA, kA, q1, -⟩ := Cond.exactly_spec (args := args) (first := s) (o := none) (s := s) (idx := []) (t := stT i) (cls := "java/lang/String") (hex i hi)
      exact ⟨a, fun _ => q1⟩
    · exact ⟨0, fun h => absurd h hi⟩
  obtain ⟨ad, had⟩ := Classical.axiomOfChoice h0
  have e3 : ∀ i, i < 3 → ad i = aK i := fun i hi => by
    have := (had i (by omega)).symm.trans (hev i hi)
    injection this with this
    injection this
  refine ⟨ad, aV, fun k q hq => ?_, ⟨fun i hi => by rw [e3 i hi]; exact hS.1 i hi, fun i j hi hj e => hS.2 i j hi hj (by rw [← e3 i hi, ← e3 j hj]; exact e)⟩⟩
  have hk : k < 16 := (List.getElem?_eq_some_iff.mp hq).1
  have hd : zStr.getD k ("", 0, "") = q := by rw [List.getD_eq_getElem?_getD, hq]; rfl
  have h2 := had k hk
  unfold stT at h2
  rw [hd] at h2
  refine vk_R.of (A := args) (hts _ (List.mem_append_right _ (stW_in _ ?_))) h2
  have : Cond.stringRef q.1 q.2.1 q.2.2 ∈ zStr.map (fun q => Cond.stringRef q.1 q.2.1 q.2.2) := List.mem_map.mpr ⟨q, List.mem_of_getElem? hq, rfl⟩
  simp only [stW, List.mem_append]
  exact Or.inl (Or.inl (Or.inl (Or.inr this)))
set_option maxRecDepth 100000 in
theorem st_B (hts : ∀ w ∈ lw_tbl, w.before args s = true) (hgv : stAll.before args s = true) : zB2 s := by
  have ht : ∀ w ∈ stW, w.before args s = true := fun w hw => hts w (List.mem_append_right _ (stW_in w hw))
  have hN : ∀ w ∈ stN, w.before args s = true := fun w hw => st_hn hgv w (List.mem_append_left _ (List.mem_append_left _ hw))
  refine ⟨fun C hC => va_AO.of (A := args) (ht _ ?_), fun x hx => va_Nw.of rfl (A := args) (ht _ ?_), fun E hE => va_Nw.of rfl (A := args) (ht _ ?_), fun q hq => va_Nc.of (args := args) (hN _ ?_)⟩
  · have : Cond.arrayOver (.object C) ∈ zAO.map (fun C => Cond.arrayOver (.object C)) := List.mem_map.mpr ⟨C, hC, rfl⟩
    simp only [stW, List.mem_append]
    exact Or.inl (Or.inl (Or.inl (Or.inl (Or.inl (Or.inl (Or.inr this))))))
  · have : Cond.declares x ∈ zDecl.map Cond.declares := List.mem_map.mpr ⟨x, hx, rfl⟩
    simp only [stW, List.mem_append]
    exact Or.inl (Or.inl (Or.inl (Or.inl (Or.inl (Or.inr this)))))
  · have : Cond.castable E E ∈ zExc.map (fun E => Cond.castable E E) := List.mem_map.mpr ⟨E, hE, rfl⟩
    simp only [stW, List.mem_append]
    exact Or.inl (Or.inl (Or.inl (Or.inl (Or.inr this))))
  · have : Cond.not (.castable q.1 q.2) ∈ zNc.map (fun q => Cond.not (.castable q.1 q.2)) := List.mem_map.mpr ⟨q, hq, rfl⟩
    simp only [stN, List.mem_append]
    exact Or.inl (Or.inl (Or.inl (Or.inl (Or.inr this))))
set_option maxRecDepth 100000 in
/-- all of it, for a script at b -/
theorem st_all {b L : Nat} {xs : Nat → Int32} (hts : ∀ w ∈ lw_tbl, w.before args s = true) (hgv : stAll.before args s = true) (hX : va_X b L xs s s.heap) (hb : b < s.heap.size) : ∃ Γ : GG, gb Γ = b ∧ gL Γ = L ∧ gB Γ = s.heap.size ∧ zKK Γ s ∧ zBs Γ s s.heap := by
  have ht : ∀ w ∈ stW, w.before args s = true := fun w hw => hts w (List.mem_append_right _ (stW_in w hw))
  have hN : ∀ w ∈ stN, w.before args s = true := fun w hw => st_hn hgv w (List.mem_append_left _ (List.mem_append_left _ hw))
  have hA : ∀ a : Nat, a < s.heap.size → ¬ (fun q : Nat => s.heap.size ≤ q) a := fun a h => Nat.not_le.mpr h
  obtain ⟨C, S, D, k1, k2⟩ := st_K hts
  obtain ⟨gt, gu, s1, s2⟩ := st_S hts hgv
  refine ⟨(C, S, D, s.heap.size, gt, gu, b, L, xs), rfl, rfl, rfl, ⟨k1, fun k q hq => ?_⟩, fun q hq => va_Nw.of rfl (A := args) (ht _ ?_), vx_Zqof (args := args) (ht _ (by simp [stW])) (ht _ (by simp [stW])) (hN _ (by simp [stN])) hA, vx_Zqof (args := args) (ht _ (by simp [stW])) (ht _ (by simp [stW])) (hN _ (by simp [stN])) hA, s1, s2, ⟨va_Zof (args := args) (ht _ (by simp [stW])) (ht _ (by simp [stW])) (va_eqt (hN _ (by simp [stN]))) hA, va_Zqof (args := args) (ht _ (by simp [stW])) (ht _ (by simp [stW])) (hN _ (by simp [stN])) hA⟩, hX, hb, Nat.le_refl _, st_B hts hgv⟩
  · have hk : k < 8 := (List.getElem?_eq_some_iff.mp hq).1
    rcases (by omega : k = 0 ∨ k = 1 ∨ k = 2 ∨ k = 3 ∨ k = 4 ∨ k = 5 ∨ k = 6 ∨ k = 7) with r | r | r | r | r | r | r | r <;> subst r <;> cases Option.some.inj hq
    · exact k2 11 (by decide) (by decide)
    · exact k2 12 (by decide) (by decide)
    · exact k2 13 (by decide) (by decide)
    · exact k2 14 (by decide) (by decide)
    · exact k2 15 (by decide) (by decide)
    · exact k2 16 (by decide) (by decide)
    · exact k2 17 (by decide) (by decide)
    · exact k2 18 (by decide) (by decide)
  · have : Cond.methodLinkNest q.1 q.2.1 q.2.2.1 q.2.2.2 ∈ zNest.map (fun q => Cond.methodLinkNest q.1 q.2.1 q.2.2.1 q.2.2.2) := List.mem_map.mpr ⟨q, hq, rfl⟩
    simp only [stW, List.mem_append]
    exact Or.inl (Or.inl (Or.inl (Or.inl (Or.inl (Or.inl (Or.inl this))))))
end ENTER
