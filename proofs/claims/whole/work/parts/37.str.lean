/-! strings that are constants: length, characters -/
section STR
variable {Γ : GG} {M M' : MT} {pc : Nat} {lo : List (Option AV)} {st : List AV} {σ : HS} {cu su : Nat} {Q : Res → HS → Prop}
set_option maxRecDepth 100000 in
theorem zW_getSV {idx j : Nat} (d : decode (mB M) pc = .ok (.getfield idx, 3)) (L : Cond.fieldLink (mY M).cls idx "java/lang/String" "value" "[B" ∈ BIG) (hj : j < 3) (k : zW Γ M (pc + 3) lo (vR (some (gU Γ j)) :: st) σ cu su Q) : zW Γ M pc lo (vR (some (gT Γ j)) :: st) σ cu su Q := by
  intro l p e s m args below meth c H locs ls hl C hS hH hL
  obtain ⟨⟨hx, hb, hml, hown, hts⟩, hret, hlk, htab, hnam, hKK, hBs⟩ := id C
  obtain ⟨-, -, -, -, hE, hZ, -⟩ := hBs
  exact vk_getf hx hb (hE.1 j hj).2.2.1 hS hown (hts _ L) (fun x h => h) d (k l p e s m args below meth c H locs ls hl C hS hH hL)
set_option maxRecDepth 100000 in
theorem zW_getSC {idx j : Nat} (d : decode (mB M) pc = .ok (.getfield idx, 3)) (L : Cond.fieldLink (mY M).cls idx "java/lang/String" "coder" "B" ∈ BIG) (hj : j < 3) (k : zW Γ M (pc + 3) lo (vI 0 :: st) σ cu su Q) : zW Γ M pc lo (vR (some (gT Γ j)) :: st) σ cu su Q := by
  intro l p e s m args below meth c H locs ls hl C hS hH hL
  obtain ⟨⟨hx, hb, hml, hown, hts⟩, hret, hlk, htab, hnam, hKK, hBs⟩ := id C
  obtain ⟨-, -, -, -, hE, hZ, -⟩ := hBs
  exact vk_getf hx hb (hE.1 j hj).2.1 hS hown (hts _ L) (fun x h => h) d (k l p e s m args below meth c H locs ls hl C hS hH hL)
set_option maxRecDepth 100000 in
theorem zW_getCS {idx : Nat} (d : decode (mB M) pc = .ok (.getstatic idx, 3)) (L : Cond.fieldLink (mY M).cls idx "java/lang/String" "COMPACT_STRINGS" "Z" ∈ BIG) (k : zW Γ M (pc + 3) lo (vI 1 :: st) σ cu su Q) : zW Γ M pc lo st σ cu su Q := by
  intro l p e s m args below meth c H locs ls hl C hS hH hL
  obtain ⟨⟨hx, hb, hml, hown, hts⟩, hret, hlk, htab, hnam, hKK, hBs⟩ := id C
  obtain ⟨-, -, -, -, hE, hZ, -⟩ := hBs
  exact va_gets hx hb hZ.1 hS hown (hts _ L) (fun x h => h) d (k l p e s m args below meth c H locs ls hl C hS hH hL)
set_option maxRecDepth 100000 in
theorem zW_getFM {idx : Nat} (d : decode (mB M) pc = .ok (.getstatic idx, 3)) (L : Cond.fieldLink (mY M).cls idx "jdk/internal/util/Preconditions" "SIOOBE_FORMATTER" "Ljava/util/function/BiFunction;" ∈ BIG) (k : ∀ r, zW Γ M (pc + 3) lo (vR r :: st) σ cu su Q) : zW Γ M pc lo st σ cu su Q := by
  intro l p e s m args below meth c H locs ls hl C hS hH hL
  obtain ⟨⟨hx, hb, hml, hown, hts⟩, hret, hlk, htab, hnam, hKK, hBs⟩ := id C
  obtain ⟨-, -, -, -, hE, hZ, -⟩ := hBs
  rcases hZ.2 with h | ⟨t, h⟩
  · exact va_gets hx hb h hS hown (hts _ L) (fun x h => h) d (k none l p e s m args below meth c H locs ls hl C hS hH hL)
  · exact va_gets hx hb h hS hown (hts _ L) (fun x h => h) d (k (some t) l p e s m args below meth c H locs ls hl C hS hH hL)
set_option maxRecDepth 100000 in
theorem zLen_v : ∀ j, j < 3 → Int32.ofNat (zLen.getD j 0) = iI ((zLen.getD j 0 : Nat) : Int) := by decide
set_option maxRecDepth 100000 in
theorem zW_lenS {j : Nat} (d : decode (mB M) pc = .ok (.arraylength, 1)) (hj : j < 3) (k : zW Γ M (pc + 1) lo (vI (zLen.getD j 0 : Nat) :: st) σ cu su Q) : zW Γ M pc lo (vR (some (gU Γ j)) :: st) σ cu su Q := by
  intro l p e s m args below meth c H locs ls hl C hS hH hL
  obtain ⟨⟨hx, hb, hml, hown, hts⟩, hret, hlk, htab, hnam, hKK, hBs⟩ := id C
  obtain ⟨-, -, -, -, hE, hZ, -⟩ := hBs
  exact va_tlen hx hb (hE.1 j hj).2.2.2 hS (zLen_v j hj) d (k l p e s m args below meth c H locs ls hl C hS hH hL)
def zch (j i : Nat) : Int := ((zByt.getD j []).getD i 0).toInt
set_option maxRecDepth 100000 in
theorem zW_bldS {j : Nat} {i : Nat} (d : decode (mB M) pc = .ok (.baload, 1)) (hj : j < 3) (hi : i < zLen.getD j 0) (k : zW Γ M (pc + 1) lo (vI (zch j i) :: st) σ cu su Q) : zW Γ M pc lo (vI (i : Int) :: vR (some (gU Γ j)) :: st) σ cu su Q := by
  intro l p e s m args below meth c H locs ls hl C hS hH hL
  obtain ⟨⟨hx, hb, hml, hown, hts⟩, hret, hlk, htab, hnam, hKK, hBs⟩ := id C
  obtain ⟨-, -, -, -, hE, hZ, -⟩ := hBs
  have hle : zLen.getD j 0 ≤ 4 := by
    have : ∀ j, j < 3 → zLen.getD j 0 ≤ 4 := by decide
    exact this j hj
  obtain ⟨hin, hcl⟩ := zin (i := (i : Int)) (n := zLen.getD j 0) (by omega) (by omega) (by omega)
  have h9 := (k l p e s m args below meth c H locs ls hl C hS hH hL)
  refine va_tb hx hb (hE.1 j hj).2.2.2 hS hin (v := .int (iI (zch j i))) ?_ d h9
  rw [hcl]
  show Value.int ((zByt.getD j []).getD ((i : Int)).toNat 0) = _
  unfold zch
  rw [iI_of]
  rfl
set_option maxRecDepth 100000 in
theorem zW_callVS {idx n j : Nat} {av : List AV} {stk : List AV} (d : decode (mB M) pc = .ok (.invokevirtual idx, 3)) (hh : mH M' = []) (he : zCeV M' n) (hlk : Cond.methodLink (mY M).cls idx (mY M') ∈ BIG) (hrm : zRm M M' cu su) (hn : av.length = n) (hst : stk = av.reverse ++ vR (some (gT Γ j)) :: st) (hcat : zcat st ≤ 8) (hj : j < 3) (hC : (mY M').cls = "java/lang/String")
    (k : zM Γ M' (vR (some (gT Γ j)) :: av) σ (zc Γ M pc lo st (cu + mC M') (su + mS M') Q)) : zW Γ M pc lo stk σ cu su Q := by
  intro l p e s m args below meth c H locs ls hl C hS hH hL
  subst hst
  obtain ⟨⟨hx, hb, hml, hown, hts⟩, hret, hlk9, htab, hnam, hKK, hBs⟩ := id C
  obtain ⟨-, -, -, -, hE, hZ, -⟩ := hBs
  have hrv := vk_recv hE hj hS
  have hpre := zPre (av := vR (some (gT Γ j)) :: av) C hS hH
  have hcw : CallW (zrm M) s args (mY M).cls (mY M').cls idx (mY M') (mB M') (mL M') (mR M') (zws M') (zrm M') (mC M') (mS M') n := ⟨zcallB C hh he.1.1 hlk hrm, hts _ he.1.2, hts _ he.2⟩
  refine zrun hl C hS hL (vx_runV (As := av.map toV) (rest := st.map toV) (n := n) ⟨hx, hb, hml, hown, hts⟩ (k l hl) hcw ⟨hpre.1, (by rw [hC]; exact hrv), hpre.2⟩ rfl (by rw [List.length_map]; exact hn) hL.1 ?_ (lv_room (by rw [zcat_eq]; exact hcat)) d ⟨hrm.2.2.1, hrm.2.2.2⟩)
  show ((av.reverse ++ vR (some (gT Γ j)) :: st).map toV) = _
  rw [List.map_append, List.map_reverse]; rfl
end STR
abbrev mJ0_coder : MT := (yJ0_coder_7d493, cJ0_coder_7d493, 1, (Option.some Jvm.ClassFile.FieldType.byte), [], 0, 0, 0, 0)
abbrev mJ0_length : MT := (yJ0_length_8abf5, cJ0_length_8abf5, 1, (Option.some Jvm.ClassFile.FieldType.int), [], 1, 20, 0, 0)
abbrev mJ0_isLatin1 : MT := (yJ0_isLatin1_aae02, cJ0_isLatin1_aae02, 1, (Option.some Jvm.ClassFile.FieldType.boolean), [], 0, 0, 0, 0)
abbrev mJ3_checkIndex : MT := (yJ3_checkIndex_8e157, cJ3_checkIndex_8e157, 3, (Option.some Jvm.ClassFile.FieldType.int), [], 0, 0, 0, 0)
abbrev mJ0_checkIndex : MT := (yJ0_checkIndex_df160, cJ0_checkIndex_df160, 2, (Option.none : Option Jvm.ClassFile.FieldType), [], 1, 22, 0, 0)
abbrev mJ1_charAt : MT := (yJ1_charAt_3b067, cJ1_charAt_3b067, 2, (Option.some Jvm.ClassFile.FieldType.char), [], 2, 43, 0, 0)
abbrev mJ0_charAt : MT := (yJ0_charAt_5068e, cJ0_charAt_5068e, 2, (Option.some Jvm.ClassFile.FieldType.char), [], 3, 64, 0, 0)
set_option maxRecDepth 100000 in
theorem eJ0_coder : zCeV mJ0_coder 0 := ⟨⟨⟨b607, b18, by decide +kernel, by decide +kernel, by decide +kernel⟩, b605⟩, b606⟩
set_option maxRecDepth 100000 in
theorem eJ0_length : zCeV mJ0_length 0 := ⟨⟨⟨b603, b18, by decide +kernel, by decide +kernel, by decide +kernel⟩, b601⟩, b602⟩
set_option maxRecDepth 100000 in
theorem eJ0_isLatin1 : zCeV mJ0_isLatin1 0 := ⟨⟨⟨b617, b18, by decide +kernel, by decide +kernel, by decide +kernel⟩, b615⟩, b616⟩
set_option maxRecDepth 100000 in
theorem eJ3_checkIndex : zCeS mJ3_checkIndex 3 := ⟨⟨b628, b20, by decide +kernel, by decide +kernel, by decide +kernel⟩, b627⟩
set_option maxRecDepth 100000 in
theorem eJ0_checkIndex : zCeS mJ0_checkIndex 2 := ⟨⟨b623, b18, by decide +kernel, by decide +kernel, by decide +kernel⟩, b622⟩
set_option maxRecDepth 100000 in
theorem eJ1_charAt : zCeS mJ1_charAt 2 := ⟨⟨b620, b19, by decide +kernel, by decide +kernel, by decide +kernel⟩, b619⟩
set_option maxRecDepth 100000 in
theorem eJ0_charAt : zCeV mJ0_charAt 1 := ⟨⟨⟨b613, b18, by decide +kernel, by decide +kernel, by decide +kernel⟩, b611⟩, b612⟩
section STR2
variable {Γ : GG} {σ : HS} {Q : Res → HS → Prop} {j : Nat}
set_option maxRecDepth 100000 in
theorem zcVS0 {M M' : MT} {pc : Nat} {lo : List (Option AV)} {st : List AV} {cu su idx : Nat} (d : decode (mB M) pc = .ok (.invokevirtual idx, 3)) (hh : mH M' = []) (he : zCeV M' 0) (hlk : Cond.methodLink (mY M).cls idx (mY M') ∈ BIG) (hrm : zRm M M' cu su) (hhm : mH M = []) (hcat : zcat st ≤ 8) (hj : j < 3) (hC : (mY M').cls = "java/lang/String")
    (k : zM Γ M' [vR (some (gT Γ j))] σ (zk Γ M pc lo st (cu + mC M') (su + mS M') Q)) : zW Γ M pc lo (vR (some (gT Γ j)) :: st) σ cu su Q :=
  zW_callVS (av := []) d hh he hlk hrm rfl rfl hcat hj hC (zM_mono k (zk_zc hhm hrm.2.2.1 hrm.2.2.2))
set_option maxRecDepth 100000 in
theorem zcVS1 {M M' : MT} {pc : Nat} {lo : List (Option AV)} {st : List AV} {cu su idx : Nat} {x : AV} (d : decode (mB M) pc = .ok (.invokevirtual idx, 3)) (hh : mH M' = []) (he : zCeV M' 1) (hlk : Cond.methodLink (mY M).cls idx (mY M') ∈ BIG) (hrm : zRm M M' cu su) (hhm : mH M = []) (hcat : zcat st ≤ 8) (hj : j < 3) (hC : (mY M').cls = "java/lang/String")
    (k : zM Γ M' [vR (some (gT Γ j)), x] σ (zk Γ M pc lo st (cu + mC M') (su + mS M') Q)) : zW Γ M pc lo (x :: vR (some (gT Γ j)) :: st) σ cu su Q :=
  zW_callVS (av := [x]) d hh he hlk hrm rfl rfl hcat hj hC (zM_mono k (zk_zc hhm hrm.2.2.1 hrm.2.2.2))
set_option maxRecDepth 100000 in
theorem s_coder (hj : j < 3) (hQ : Q (.inl (some (vI 0))) σ) : zM Γ mJ0_coder [vR (some (gT Γ j))] σ Q := by
  refine zM_of (n := 0) (by decide +kernel) rfl rfl rfl ?_
  refine zW_getCS dJ0_coder_7d493_0 b608 ?_
  refine zW_if_eq (tgt := 13) dJ0_coder_7d493_3 (by decide) (by unfold InR; omega) (fun h => absurd h (by decide)) (fun _ => ?_)
  refine zW_aload_n dJ0_coder_7d493_6 rfl ?_
  refine zW_getSC dJ0_coder_7d493_7 b1906 hj ?_
  refine zW_goto (tgt := 14) dJ0_coder_7d493_10 (by decide) ?_
  exact zW_ireturn dJ0_coder_7d493_14 rfl rfl (by decide) (by decide) hQ
set_option maxRecDepth 100000 in
theorem s_isLatin1 (hj : j < 3) (hQ : Q (.inl (some (vI 1))) σ) : zM Γ mJ0_isLatin1 [vR (some (gT Γ j))] σ Q := by
  refine zM_of (n := 0) (by decide +kernel) rfl rfl rfl ?_
  refine zW_getCS dJ0_isLatin1_aae02_0 b608 ?_
  refine zW_if_eq (tgt := 17) dJ0_isLatin1_aae02_3 (by decide) (by unfold InR; omega) (fun h => absurd h (by decide)) (fun _ => ?_)
  refine zW_aload_n dJ0_isLatin1_aae02_6 rfl ?_
  refine zW_getSC dJ0_isLatin1_aae02_7 b1906 hj ?_
  refine zW_if_ne (tgt := 17) dJ0_isLatin1_aae02_10 (by decide) (by unfold InR; omega) (fun h => absurd rfl h) (fun _ => ?_)
  refine zW_iconst dJ0_isLatin1_aae02_13 ?_
  refine zW_goto (tgt := 18) dJ0_isLatin1_aae02_14 (by decide) ?_
  exact zW_ireturn dJ0_isLatin1_aae02_18 rfl rfl (by decide) (by decide) hQ
set_option maxRecDepth 100000 in
theorem zW_ishr0 {M : MT} {pc : Nat} {lo : List (Option AV)} {st : List AV} {cu su : Nat} (d : decode (mB M) pc = .ok (.ishr, 1)) (hj : j < 3) (k : zW Γ M (pc + 1) lo (vI (zLen.getD j 0 : Nat) :: st) σ cu su Q) : zW Γ M pc lo (vI 0 :: vI (zLen.getD j 0 : Nat) :: st) σ cu su Q := by
  refine zW_ishr d ?_
  have : ∀ j, j < 3 → (iI ((zLen.getD j 0 : Nat) : Int) >>> (iI 0 &&& 31)).toInt = ((zLen.getD j 0 : Nat) : Int) := by decide
  rw [this j hj]
  exact k
set_option maxRecDepth 100000 in
theorem s_length (hj : j < 3) (hQ : Q (.inl (some (vI (zLen.getD j 0 : Nat)))) σ) : zM Γ mJ0_length [vR (some (gT Γ j))] σ Q := by
  refine zM_of (n := 0) (by decide +kernel) rfl rfl rfl ?_
  refine zW_aload_n dJ0_length_8abf5_0 rfl ?_
  refine zW_getSV dJ0_length_8abf5_1 b1905 hj ?_
  refine zW_lenS dJ0_length_8abf5_4 hj ?_
  refine zW_aload_n dJ0_length_8abf5_5 rfl ?_
  refine zcVS0 dJ0_length_8abf5_6 rfl eJ0_coder b604 ⟨by decide, by decide, by decide, by decide⟩ rfl (Nat.le_of_ble_eq_true rfl) hj rfl (s_coder hj ?_)
  refine zW_ishr0 dJ0_length_8abf5_9 hj ?_
  exact zW_ireturn dJ0_length_8abf5_10 rfl rfl (by decide) (by decide) hQ
set_option maxRecDepth 100000 in
theorem s_pcheck {i n : Nat} {r : Option Nat} (hi : i < n) (hn : n ≤ 4) (hQ : Q (.inl (some (vI (i : Int)))) σ) : zM Γ mJ3_checkIndex [vI (i : Int), vI (n : Int), vR r] σ Q := by
  refine zM_of (n := 0) (by decide +kernel) rfl rfl rfl ?_
  refine zW_iload_n dJ3_checkIndex_8e157_0 rfl ?_
  refine zW_if_lt (tgt := 9) dJ3_checkIndex_8e157_1 (by decide) (by unfold InR; omega) (fun h => absurd h (by omega)) (fun _ => ?_)
  refine zW_iload_n dJ3_checkIndex_8e157_4 rfl ?_
  refine zW_iload_n dJ3_checkIndex_8e157_5 rfl ?_
  refine zW_icmp_lt (tgt := 16) dJ3_checkIndex_8e157_6 (by decide) (by unfold InR; omega) (by unfold InR; omega) (fun _ => ?_) (fun h => absurd (by omega : (i : Int) < (n : Int)) h)
  refine zW_iload_n dJ3_checkIndex_8e157_16 rfl ?_
  exact zW_ireturn dJ3_checkIndex_8e157_17 rfl rfl (by decide) (by decide) hQ
set_option maxRecDepth 100000 in
theorem s_scheck {i n : Nat} (hi : i < n) (hn : n ≤ 4) (hQ : Q (.inl none) σ) : zM Γ mJ0_checkIndex [vI (i : Int), vI (n : Int)] σ Q := by
  refine zM_of (n := 0) (by decide +kernel) rfl rfl rfl ?_
  refine zW_iload_n dJ0_checkIndex_df160_0 rfl ?_
  refine zW_iload_n dJ0_checkIndex_df160_1 rfl ?_
  refine zW_getFM dJ0_checkIndex_df160_2 b624 (fun r => ?_)
  refine zcS3 dJ0_checkIndex_df160_5 rfl eJ3_checkIndex b626 ⟨by decide, by decide, by decide, by decide⟩ rfl (Nat.le_of_ble_eq_true rfl) (s_pcheck hi hn ?_)
  refine zW_pop dJ0_checkIndex_df160_8 rfl ?_
  exact zW_return dJ0_checkIndex_df160_9 rfl (by decide) (by decide) hQ
set_option maxRecDepth 100000 in
theorem zch_v : ∀ j, j < 3 → ∀ i, i < zLen.getD j 0 → (iI (zch j i) &&& iI 255).toInt = zch j i ∧ 0 ≤ zch j i ∧ zch j i < 256 ∧ zch j i = (((if j = 0 then kwR else if j = 1 then kwS else kwJ).getD i 0 : Nat) : Int) := by decide
set_option maxRecDepth 100000 in
theorem s_lcharAt {i : Nat} (hj : j < 3) (hi : i < zLen.getD j 0) (hQ : Q (.inl (some (vI (zch j i)))) σ) : zM Γ mJ1_charAt [vR (some (gU Γ j)), vI (i : Int)] σ Q := by
  have hle : zLen.getD j 0 ≤ 4 := by
    have : ∀ j, j < 3 → zLen.getD j 0 ≤ 4 := by decide
    exact this j hj
  obtain ⟨v1, v2, v3, -⟩ := zch_v j hj i hi
  have e : zch j i = ((zch j i).toNat : Int) := by omega
  refine zM_of (n := 0) (by decide +kernel) rfl rfl rfl ?_
  refine zW_iload_n dJ1_charAt_3b067_0 rfl ?_
  refine zW_aload_n dJ1_charAt_3b067_1 rfl ?_
  refine zW_lenS dJ1_charAt_3b067_2 hj ?_
  refine zcS2 dJ1_charAt_3b067_3 rfl eJ0_checkIndex b621 ⟨by decide, by decide, by decide, by decide⟩ rfl (Nat.le_of_ble_eq_true rfl) (s_scheck hi hle ?_)
  refine zW_aload_n dJ1_charAt_3b067_6 rfl ?_
  refine zW_iload_n dJ1_charAt_3b067_7 rfl ?_
  refine zW_bldS dJ1_charAt_3b067_8 hj hi ?_
  refine zW_sipush dJ1_charAt_3b067_9 (by decide) ?_
  refine zW_iand dJ1_charAt_3b067_12 ?_
  rw [v1]
  refine zW_i2cN dJ1_charAt_3b067_13 e (by omega) ?_
  rw [← e]
  refine zW_ireturn dJ1_charAt_3b067_14 rfl ?_ (by decide) (by decide) hQ
  rw [e]
  exact znc _ (by omega)
set_option maxRecDepth 100000 in
theorem s_charAt {i : Nat} (hj : j < 3) (hi : i < zLen.getD j 0) (hQ : Q (.inl (some (vI (zch j i)))) σ) : zM Γ mJ0_charAt [vR (some (gT Γ j)), vI (i : Int)] σ Q := by
  obtain ⟨v1, v2, v3, -⟩ := zch_v j hj i hi
  have e : zch j i = ((zch j i).toNat : Int) := by omega
  refine zM_of (n := 0) (by decide +kernel) rfl rfl rfl ?_
  refine zW_aload_n dJ0_charAt_5068e_0 rfl ?_
  refine zcVS0 dJ0_charAt_5068e_1 rfl eJ0_isLatin1 b614 ⟨by decide, by decide, by decide, by decide⟩ rfl (Nat.le_of_ble_eq_true rfl) hj rfl (s_isLatin1 hj ?_)
  refine zW_if_eq (tgt := 16) dJ0_charAt_5068e_4 (by decide) (by unfold InR; omega) (fun h => absurd h (by decide)) (fun _ => ?_)
  refine zW_aload_n dJ0_charAt_5068e_7 rfl ?_
  refine zW_getSV dJ0_charAt_5068e_8 b1905 hj ?_
  refine zW_iload_n dJ0_charAt_5068e_11 rfl ?_
  refine zcS2 dJ0_charAt_5068e_12 rfl eJ1_charAt b618 ⟨by decide, by decide, by decide, by decide⟩ rfl (Nat.le_of_ble_eq_true rfl) (s_lcharAt hj hi ?_)
  refine zW_ireturn dJ0_charAt_5068e_15 rfl ?_ (by decide) (by decide) hQ
  rw [e]
  exact znc _ (by omega)
end STR2
