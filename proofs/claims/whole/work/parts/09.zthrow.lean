/-! throws and catches -/
def zNm : List String := ["java/lang/RuntimeException", "java/lang/Exception"]
def zTw (E : String) (ic : Nat) : List Cond := vx_atS RX9 ic E zNm
def zBad (E : String) : List Cond := Cond.castable E E :: zDecl.map Cond.declares
/-- a throw of E, its pool places in RX9 -/
def zTok (E : String) (ik ic : Nat) : Prop := (∀ w ∈ (zTw E ic).filter goodWord, w ∈ lw_tbl) ∧ (∀ w ∈ (zTw E ic).filter (fun w => !goodWord w), w ∈ zBad E) ∧ Cond.classLink RX9 ik E ∈ BIG ∧ Cond.initialized E ∈ BIG ∧ Bundle.fit E = true ∧ (Cond.classLink RX9 ik E :: Cond.initialized E :: zTw E ic).all vx_ot = true
theorem zTok_0 : zTok "java/lang/IllegalStateException" 88 92 := ⟨by decide +kernel, by decide +kernel, List.mem_filter.mpr ⟨by decide +kernel, by decide +kernel⟩, List.mem_filter.mpr ⟨by decide +kernel, by decide +kernel⟩, by decide +kernel, by decide +kernel⟩
theorem zTok_1 : zTok "java/lang/IllegalArgumentException" 98 102 := ⟨by decide +kernel, by decide +kernel, List.mem_filter.mpr ⟨by decide +kernel, by decide +kernel⟩, List.mem_filter.mpr ⟨by decide +kernel, by decide +kernel⟩, by decide +kernel, by decide +kernel⟩
theorem zTok_2 : zTok "java/lang/IndexOutOfBoundsException" 335 339 := ⟨by decide +kernel, by decide +kernel, List.mem_filter.mpr ⟨by decide +kernel, by decide +kernel⟩, List.mem_filter.mpr ⟨by decide +kernel, by decide +kernel⟩, by decide +kernel, by decide +kernel⟩
section ZTHROW
variable {Γ : GG} {M M' : MT} {pc : Nat} {lo : List (Option AV)} {st : List AV} {σ : HS} {cu su : Nat} {Q : Res → HS → Prop}
theorem zH_grow {H H' : Heap} (h : zH Γ σ H) (hz : H.size ≤ H'.size) (hq : ∀ q : Nat, q < H.size → H'[q]? = H[q]?) : zH Γ (sN σ H'.size) H' := by
  refine ⟨fun b => ?_, rfl, h.2.2⟩
  have hcell := h.1 b
  by_cases hlt : b < H.size
  · exact zCell_keep rfl (fun k => rfl) (fun k => rfl) (fun k => rfl) (fun k => rfl) (hq b hlt) hcell
  · have h9 : H[b]? = none := by simp; omega
    obtain ⟨c1, c2, c3, c4⟩ := hcell
    unfold zCell
    rw [zK_sN]
    refine ⟨fun g => ?_, fun g => ?_, fun g => ?_, fun g g' => ?_⟩
    · obtain ⟨cell, q1, -⟩ := c1 g
      rw [h9] at q1; cases q1
    · have := c2 g
      rw [h9] at this; cases this
    · have := c3 g
      rw [h9] at this; cases this
    · have := c4 g g'
      rw [h9] at this; cases this
theorem zhat {E : String} {ik ic : Nat} {args : Array Value} {s : State} (T : zTok E ik ic) (hE : E ∈ zExc) (hts : ∀ w ∈ BIG, w.before args s = true) (hB : zB2 s) : ∀ w ∈ vx_atS RX9 ic E zNm, w.before args s = true := by
  intro w hw
  by_cases g : goodWord w = true
  · exact hts w (List.mem_filter.mpr ⟨T.1 w (List.mem_filter.mpr ⟨hw, g⟩), g⟩)
  · have hb := T.2.1 w (List.mem_filter.mpr ⟨hw, by simpa using g⟩)
    rcases List.mem_cons.mp hb with rfl | hb
    · exact va_Nw.use rfl (hB.2.2.1 E hE)
    · obtain ⟨x, hx, rfl⟩ := List.mem_map.mp hb
      exact va_Nw.use rfl (hB.2.1 x hx)
theorem zF_grow {A : Nat → Prop} {s t : State} {H : Heap} {locs : List Loc} (hS : va_S A s.heap H locs) (hz : H.size ≤ t.heap.size) (hq : ∀ q : Nat, q < H.size → t.heap[q]? = H[q]?) : va_F A s t :=
  ⟨Nat.le_trans hS.1 hz, fun q h1 h2 => (hq q (Nat.lt_of_lt_of_le h1 hS.1)).trans (hS.2.1 q h1 h2)⟩
theorem zW_throw {E tx : String} {ik ic is k : Nat} (T : zTok E ik ic) (hE : E ∈ zExc) (hown9 : (mY M).cls = RX9) (hh : mH M = []) (hk : zStr[k]? = some (RX9, is, tx))
    (d0 : decode (mB M) pc = .ok (.new ik, 3)) (d3 : decode (mB M) (pc + 3) = .ok (.dup, 1)) (d4 : decode (mB M) (pc + 4) = .ok (.ldc is, 2)) (d6 : decode (mB M) (pc + 6) = .ok (.invokespecial ic, 3)) (d9 : decode (mB M) (pc + 9) = .ok (.athrow, 1))
    (hf : 6 ≤ mF M) (hw : zcat st + 82 ≤ mW M) (hc : cu + 1 ≤ mC M) (hs : su + 6 ≤ mS M) (hQ : ∀ n, Q (.inr E) (sN σ n)) : zW Γ M pc lo st σ cu su Q := by
  intro l p e s m args below meth c H locs ls hl C hS hH hL
  obtain ⟨⟨hx, hb, hml, hown, hts⟩, hret, hlk, htab, hnam, hKK, hBs⟩ := id C
  rw [hown9] at hown
  refine vx_throwS (names := zNm) hx hb hl hown T.2.2.2.2.1 (by decide +kernel) (hts _ T.2.2.1) (hts _ T.2.2.2.1) (hBs.2.2.2.1 k _ hk) (zhat T hE hts hBs.2.2.2.2.2.2.2.2.2) (fun w hw => List.all_eq_true.mp T.2.2.2.2.2 w hw) hBs.2.1 hBs.2.2.1 hS (hL.1.trans hml.symm) d0 d3 d4 d6 d9 (fun x hx9 => ?_) (show 2 + 3 < mF M by omega) (by rw [zcat_eq]; show zcat st + (13 * (2 + 1) + 43) ≤ mW M; omega) hc hs hlk (fun t ha hz hq => ⟨⟨sN σ t.heap.size, hQ _, zH_grow hH hz hq⟩, zF_grow hS hz hq⟩) hS.2.2 hc hs
  rw [htab, hh] at hx9
  cases hx9
theorem zW_throwW {E tx : String} {ik ic is k : Nat} (T : zTok E ik ic) (hE : E ∈ zExc) (hown9 : (mY M).cls = RX9) (hh : mH M = []) (hk : zStr[k]? = some (RX9, is, tx))
    (d0 : decode (mB M) pc = .ok (.new ik, 3)) (d3 : decode (mB M) (pc + 3) = .ok (.dup, 1)) (d4 : decode (mB M) (pc + 4) = .ok (.ldc_w is, 3)) (d7 : decode (mB M) (pc + 7) = .ok (.invokespecial ic, 3)) (d10 : decode (mB M) (pc + 10) = .ok (.athrow, 1))
    (hf : 6 ≤ mF M) (hw : zcat st + 82 ≤ mW M) (hc : cu + 1 ≤ mC M) (hs : su + 6 ≤ mS M) (hQ : ∀ n, Q (.inr E) (sN σ n)) : zW Γ M pc lo st σ cu su Q := by
  intro l p e s m args below meth c H locs ls hl C hS hH hL
  obtain ⟨⟨hx, hb, hml, hown, hts⟩, hret, hlk, htab, hnam, hKK, hBs⟩ := id C
  rw [hown9] at hown
  refine vx_throwSW (names := zNm) hx hb hl hown T.2.2.2.2.1 (by decide +kernel) (hts _ T.2.2.1) (hts _ T.2.2.2.1) (hBs.2.2.2.1 k _ hk) (zhat T hE hts hBs.2.2.2.2.2.2.2.2.2) (fun w hw => List.all_eq_true.mp T.2.2.2.2.2 w hw) hBs.2.1 hBs.2.2.1 hS (hL.1.trans hml.symm) d0 d3 d4 d7 d10 (fun x hx9 => ?_) (show 2 + 3 < mF M by omega) (by rw [zcat_eq]; show zcat st + (13 * (2 + 1) + 43) ≤ mW M; omega) hc hs hlk (fun t ha hz hq => ⟨⟨sN σ t.heap.size, hQ _, zH_grow hH hz hq⟩, zF_grow hS hz hq⟩) hS.2.2 hc hs
  rw [htab, hh] at hx9
  cases hx9
/-- caught by the row x of the method's table; the rows ahead name others -/
theorem zWx_catch {E : String} {pre suf : List (Nat × Nat × Nat × Nat)} {x : Nat × Nat × Nat × Nat} (hh : mH M = pre ++ x :: suf) (hpass : ∀ z ∈ pre, z.2.2.2 ≠ 0 ∧ ∃ nm : String, Cond.classLink (mY M).cls z.2.2.2 nm ∈ BIG ∧ (E, nm) ∈ zNc) (h1 : x.1 ≤ pc) (h2 : pc < x.2.1) (h0 : x.2.2.2 ≠ 0) (hlink : Cond.classLink (mY M).cls x.2.2.2 E ∈ BIG) (hE : E ∈ zExc)
    (k : ∀ q : Nat, zW Γ M x.2.2.1 lo [vR (some q)] σ cu su Q) : zWx Γ M pc lo st σ cu su E Q := by
  intro l p e s m args below meth c H locs ls q ce hl C hS hH hL g1 g2 g3
  obtain ⟨⟨hx, hb, hml, hown, hts⟩, hret, hlk, htab, hnam, hKK, hBs⟩ := id C
  have hB := hBs.2.2.2.2.2.2.2.2.2
  refine vx_catch (own := (mY M).cls) (name := E) hown (tableOf pre) ⟨x.1, x.2.1, x.2.2.1, x.2.2.2⟩ (tableOf suf) (by rw [htab, hh]; simp [tableOf]) (fun z hz => ?_) ?_ h0 (hts _ hlink) (va_Nw.use rfl (hB.2.2.1 E hE)) g1 g2 g3 (k q l p e s m args below meth c H locs ls hl C hS hH hL)
  · obtain ⟨z0, hz0, rfl⟩ := List.mem_map.mp hz
    obtain ⟨n1, nm, n2, n3⟩ := hpass z0 hz0
    exact Or.inr ⟨n1, nm, hts _ n2, hB.2.2.2 _ n3⟩
  · simp [covers, h1, h2]
theorem zW_tswIn {df lw hi : Int} {offs : Array Int} {len : Nat} {x off : Int} {tgt : Nat} (d : decode (mB M) pc = .ok (.tableswitch df lw hi offs, len)) (hx : InR x) (h1 : lw ≤ x) (h2 : x ≤ hi) (ho : offs[(x - lw).toNat]? = some off) (ht : (pc : Int) + off = (tgt : Int)) (k : zW Γ M tgt lo st σ cu su Q) : zW Γ M pc lo (vI x :: st) σ cu su Q := by
  intro l p e s m args below meth c H locs ls hl C hS hH hL
  exact lv_tableIn C.1.1 C.1.2.1 d (by rw [iI_toInt hx]; omega) (by rw [iI_toInt hx]; omega) (by rw [iI_toInt hx]; exact ho) ht (k l p e s m args below meth c H locs ls hl C hS hH hL)
theorem zW_tswOut {df lw hi : Int} {offs : Array Int} {len : Nat} {x : Int} {tgt : Nat} (d : decode (mB M) pc = .ok (.tableswitch df lw hi offs, len)) (hx : InR x) (h : x < lw ∨ hi < x) (ht : (pc : Int) + df = (tgt : Int)) (k : zW Γ M tgt lo st σ cu su Q) : zW Γ M pc lo (vI x :: st) σ cu su Q := by
  intro l p e s m args below meth c H locs ls hl C hS hH hL
  exact lv_tableOut C.1.1 C.1.2.1 d (by rw [iI_toInt hx]; exact h) ht (k l p e s m args below meth c H locs ls hl C hS hH hL)
theorem zW_ldc {i : Nat} {z : Int} (d : decode (mB M) pc = .ok (.ldc i, 2)) (hc : Cond.constant (mY M).cls i (iI z) ∈ BIG) (k : zW Γ M (pc + 2) lo (vI z :: st) σ cu su Q) : zW Γ M pc lo st σ cu su Q := by
  intro l p e s m args below meth c H locs ls hl C hS hH hL
  exact lv_ldc C.1.1 C.1.2.1 C.1.2.2.2.1 (C.1.2.2.2.2 _ hc) d (k l p e s m args below meth c H locs ls hl C hS hH hL)
theorem zW_ldcw {i : Nat} {z : Int} (d : decode (mB M) pc = .ok (.ldc_w i, 3)) (hc : Cond.constant (mY M).cls i (iI z) ∈ BIG) (k : zW Γ M (pc + 3) lo (vI z :: st) σ cu su Q) : zW Γ M pc lo st σ cu su Q := by
  intro l p e s m args below meth c H locs ls hl C hS hH hL
  exact lv_ldcw C.1.1 C.1.2.1 C.1.2.2.2.1 (C.1.2.2.2.2 _ hc) d (k l p e s m args below meth c H locs ls hl C hS hH hL)
/-- a constant text -/
theorem zW_ldcS {i k9 : Nat} {tx : String} (d : decode (mB M) pc = .ok (.ldc i, 2)) (hk : zStr[k9]? = some ((mY M).cls, i, tx)) (k : zW Γ M (pc + 2) lo (vR (some (gT Γ k9)) :: st) σ cu su Q) : zW Γ M pc lo st σ cu su Q := by
  intro l p e s m args below meth c H locs ls hl C hS hH hL
  exact va_ldcS C.1.1 C.1.2.1 C.1.2.2.2.1 (C.2.2.2.2.2.2.2.2.2.1 k9 _ hk) d (k l p e s m args below meth c H locs ls hl C hS hH hL)
end ZTHROW
