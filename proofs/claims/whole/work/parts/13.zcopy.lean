/-! System.arraycopy between rows of ints -/
section ZCOPY
variable {p : Program} {l : Launch} {e : Env} {R : Room} {s : State} {m : MethodId} {args : Array Value} {below : List Frame} {meth : Method} {c : Code} {H : Heap} {locs : List Loc} {cells slots : Nat} {Q : State → Prop}
variable {cc : ByteArray} {pc : Nat} {ls : Array Slot} {rest : List Value}
theorem zcopyW (hexec : p.tables.exec = Jvm.exec) (hb : c.code = cc) (hml : c.maxLocals = ls.size) {own : String} {index : Nat} (hown : s.vm.findClass own = some m.cls) (hlink : (Cond.methodLink own index arraycopyName).before args s = true) (hnat : (Cond.native arraycopyName).before args s = true) (hstat : (Cond.static arraycopyName).before args s = true) (hini : (Cond.initialized "java/lang/System").before args s = true)
    {a0 a : Nat} {c0 c1 : ClassId} {n0 n1 : Nat} {f g : Nat → Int32} {ty : FieldType} (hc0 : H[a0]? = some (arrV c0 n0 (fun j => .int (f j)))) (hc1 : H[a]? = some (arrV c1 n1 (fun j => .int (g j)))) (hA0 : ArrOfT s c0 ty) (hA1 : ArrOfT s c1 ty) (hprim : refKind ty = false)
    {sp dp n : Int32} (h1 : ¬ sp < 0) (h2 : ¬ dp < 0) (h3 : ¬ n < 0) (h4 : sp.toNatClampNeg + n.toNatClampNeg ≤ n0) (h5 : dp.toNatClampNeg + n.toNatClampNeg ≤ n1) (hfit : ∀ i, i < n.toNatClampNeg → fits ty (.int (f (sp.toNatClampNeg + i))) = true)
    (hframes : 1 ≤ R.frames) (hlocals : (rest.map fun v => v.category).sum + (nativeFrameWords "java/lang/System" "arraycopy" 5 + 11) ≤ R.locals) (hdg : decode cc pc = .ok (.invokestatic index, 3))
    (kk : ∀ (H1 : Heap) (L : List Loc), H1[a]? = some (arrV c1 n1 (fun j => .int (va_cpy f g sp.toNatClampNeg dp.toNatClampNeg n.toNatClampNeg j))) → H1.size = H.size → (∀ q : Nat, q ≠ a → H1[q]? = H[q]?) → (∀ x ∈ L, x.base = a) → W p l e R s m args below meth c H1 (locs ++ L) cells slots Q (F0 m (pc + 3) ls rest)) : W p l e R s m args below meth c H locs cells slots Q (F0 m pc ls (.int n :: .int dp :: .ref a :: .int sp :: .ref a0 :: rest)) := by
  have nn : ∀ z : Int32, ¬ z < 0 → z.toInt = (z.toNatClampNeg : Int) := by
    intro z hz
    have hz0 : (0 : Int) ≤ z.toInt := by
      have := Int32.not_lt.mp hz
      simpa using Int32.le_iff_toInt_le.mp this
    show z.toInt = ((z.toInt.toNat : Nat) : Int)
    omega
  intro T hT X
  obtain ⟨-, k0, hk0, cm0, hkk0⟩ := hA0 n0 (fun j => .int (f j))
  obtain ⟨-, k1, hk1, cm1, hkk1⟩ := hA1 n1 (fun j => .int (g j))
  obtain ⟨vm', X', stp⟩ := X.arraycopy hexec hown hlink hnat hstat hini (src := a0) (dst := a) (cs := arrV c0 n0 (fun j => .int (f j))) (cd := arrV c1 n1 (fun j => .int (g j))) (srcPos := sp) (destPos := dp) (n := n) (by rw [hT]; exact hc0) (by rw [hT]; exact hc1)
    (fun _ h => by cases h) (fun _ h => by cases h) (fun h => by cases h) (fun h => by cases h) hk0 hk1 hkk0 hkk1 (by simp [hprim]) h1 h2 h3
    (by rw [nn sp h1, nn n h3, arrV_size]; omega)
    (by rw [nn dp h2, nn n h3, arrV_size]; omega)
    (fun vm₁ _ i hi => by
      have e9 : (arrV c0 n0 (fun j => .int (f j))).slots.getD (sp.toNatClampNeg + i) .null = .int (f (sp.toNatClampNeg + i)) := by
        rw [Array.getD_eq_getD_getElem?, arrV_read _ _ (by omega)]
        rfl
      refine ⟨?_, ?_⟩
      · rw [e9]
        exact hfit i hi
      · rw [e9]
        exact trivial)
    (g := F0 m pc ls (.int n :: .int dp :: .ref a :: .int sp :: .ref a0 :: rest)) rfl (by rw [hml]) (rest := rest) rfl (by rw [hb]; exact hdg) hframes (by show 2 * 0 + _ + _ ≤ _; omega)
  have e1 : copied (arrV c0 n0 (fun j => .int (f j))) (arrV c1 n1 (fun j => .int (g j))) sp dp n = arrV c1 n1 (fun j => .int (va_cpy f g sp.toNatClampNeg dp.toNatClampNeg n.toNatClampNeg j)) := va_copied (fun z => .int z) c0 c1 f g h4
  rw [e1] at X' stp
  have hl : a < H.size := (Array.getElem?_eq_some_iff.mp hc1).1
  have hheap : ((T.setVm vm').setCell a (arrV c1 n1 (fun j => .int (va_cpy f g sp.toNatClampNeg dp.toNatClampNeg n.toNatClampNeg j)))).heap = H.setIfInBounds a (arrV c1 n1 (fun j => .int (va_cpy f g sp.toNatClampNeg dp.toNatClampNeg n.toNatClampNeg j))) := by rw [← hT]; rfl
  obtain ⟨t, a1, b1⟩ := kk _ _ (show (H.setIfInBounds a _)[a]? = some _ by simp [Array.getElem?_setIfInBounds, hl]) (by simp) (fun q hq => by simp [Array.getElem?_setIfInBounds, Ne.symm hq]) (fun q hq => by
      obtain ⟨z, -, hz⟩ := List.mem_map.mp hq
      rw [← hz]) _ hheap X'
  exact ⟨t, stp t a1, b1⟩
end ZCOPY
section ZCOPY2
variable {Γ : GG} {M M' : MT} {pc : Nat} {lo : List (Option AV)} {st : List AV} {σ : HS} {cu su : Nat} {Q : Res → HS → Prop}
theorem zclN {z : Int} (h : InR z) : (iI z).toNatClampNeg = z.toNat := by
  show (iI z).toInt.toNat = z.toNat
  rw [iI_toInt h]
theorem zW_copy {idx a0 a n0 n1 : Nat} {sp dp n : Int} (d : decode (mB M) pc = .ok (.invokestatic idx, 3)) (hlk : Cond.methodLink (mY M).cls idx arraycopyName ∈ BIG) (hna : Cond.native arraycopyName ∈ BIG) (hst : Cond.static arraycopyName ∈ BIG) (hin : Cond.initialized "java/lang/System" ∈ BIG) (hk0 : zK σ a0 = (13, n0)) (hk1 : zK σ a = (13, n1)) (h1 : 0 ≤ sp) (h2 : 0 ≤ dp) (h3 : 0 ≤ n) (h4 : sp + n ≤ n0) (h5 : dp + n ≤ n1) (hn0 : n0 ≤ 2147483647) (hn1 : n1 ≤ 2147483647) (hf : 1 ≤ mF M) (hw : zcat st + 40 ≤ mW M)
    (k : zW Γ M (pc + 3) lo st (sIr σ a (fun j => if dp.toNat ≤ j ∧ j < dp.toNat + n.toNat then zI σ a0 (sp.toNat + (j - dp.toNat)) else zI σ a j)) cu su Q) : zW Γ M pc lo (vI n :: vI dp :: vR (some a) :: vI sp :: vR (some a0) :: st) σ cu su Q := by
  intro l p e s m args below meth c H locs ls hl C hS hH hL
  obtain ⟨⟨hx, hb, hml, hown, hts⟩, hret, hlk9, htab, hnam, hKK, hBs⟩ := id C
  have hc0 := (hH.1 a0).2.2.1 (by rw [hk0]; unfold zInt; simp)
  have hc1 := (hH.1 a).2.2.1 (by rw [hk1]; unfold zInt; simp)
  rw [hk0] at hc0
  rw [hk1] at hc1
  have r1 : InR sp := ⟨by omega, by omega⟩
  have r2 : InR dp := ⟨by omega, by omega⟩
  have r3 : InR n := ⟨by omega, by omega⟩
  have nz : ∀ {z : Int}, InR z → 0 ≤ z → ¬ iI z < 0 := fun {z} r h q => by
    have := (iI_lt r InR_0).mp q
    omega
  have hA : zA Γ a := hH.2.2 a (by rw [hk1]; show 13 < 19; decide)
  have hnf : nativeFrameWords "java/lang/System" "arraycopy" 5 + 11 ≤ 40 := by decide +kernel
  refine zcopyW hx hb (hml.trans hL.1.symm) hown (hts _ hlk) (hts _ hna) (hts _ hst) (hts _ hin) hc0 hc1 (hKK.arr (K := 13) (by decide) (by decide)).1 (hKK.arr (K := 13) (by decide) (by decide)).1 rfl (nz r1 h1) (nz r2 h2) (nz r3 h3) (by rw [zclN r1, zclN r3]; omega) (by rw [zclN r2, zclN r3]; omega) (fun _ _ => rfl) hf (by rw [zcat_eq]; show zcat st + _ ≤ mW M; omega) d (fun H' L e1 e2 e3 hLb => k l p e s m args below meth c H' _ ls hl C ⟨by rw [e2]; exact hS.1, fun q g1 g2 => by rw [e3 q (fun q9 => g2 (by rw [q9]; exact hA))]; exact hS.2.1 q g1 g2, fun x hx9 => by
      rcases List.mem_append.mp hx9 with h | h
      · exact hS.2.2 x h
      · rw [hLb x h]; exact hA⟩ (zH_put (a := a) hH rfl rfl (fun b hb9 j => ⟨rfl, by rw [zI_sIr, if_neg hb9], rfl, rfl⟩) e2 e3 ⟨fun g => ?_, fun g => ?_, fun _ => ?_, fun g => ?_⟩) hL)
  · rw [zK_sIr, hk1] at g; dsimp only at g; omega
  · rw [zK_sIr, hk1] at g; dsimp only at g; omega
  · rw [e1, zK_sIr, hk1]
    congr 2
    funext j
    rw [zI_sIr, if_pos rfl, zclN r1, zclN r2, zclN r3]
    show Value.int (if dp.toNat ≤ j ∧ j < dp.toNat + n.toNat then iI (zI σ a0 (sp.toNat + (j - dp.toNat))) else iI (zI σ a j)) = _
    by_cases h : dp.toNat ≤ j ∧ j < dp.toNat + n.toNat
    · rw [if_pos h, if_pos h]
    · rw [if_neg h, if_neg h]
  · rw [zK_sIr, hk1] at g; dsimp only at g; omega
end ZCOPY2
theorem zNat : Cond.native arraycopyName ∈ BIG := mem_BIG (106 + 511) (by decide +kernel) (by decide +kernel)
