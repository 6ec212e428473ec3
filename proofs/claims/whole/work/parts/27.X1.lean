/-! FormattedText -/
def fp (f : Nat) : Nat → Prop := fun a => a = f ∨ a = f + 1
def FK (σ : HS) (f : Nat) : Prop := zK σ f = (1, 0) ∧ zP σ f 0 = some (f + 1) ∧ zK σ (f + 1) = (12, 180)
def FD (σ : HS) (f : Nat) (t : List Nat) : Prop := FK σ f ∧ zO σ f 1 = (t.length : Int) ∧ t.length ≤ 180 ∧ (∀ j, j < t.length → zI σ (f + 1) j = ((t.getD j 0 : Nat) : Int)) ∧ ∀ y ∈ t, y < 256
set_option maxRecDepth 100000 in
theorem FK.md {σ σ' : HS} {f : Nat} {P : Nat → Prop} (m : Md σ σ' P) (h : FK σ f) : FK σ' f := by
  unfold FK at *
  rw [m.K, m.P]
  exact h
set_option maxRecDepth 100000 in
theorem FD.md {σ σ' : HS} {f : Nat} {t : List Nat} {P : Nat → Prop} (m : Md σ σ' P) (h : FD σ f t) (h1 : ¬ P f) (h2 : ¬ P (f + 1)) : FD σ' f t := by
  refine ⟨h.1.md m, ?_, h.2.2.1, ?_, h.2.2.2.2⟩
  · rw [m.o h1]; exact h.2.1
  · rw [m.i h2]; exact h.2.2.2.1
set_option maxRecDepth 100000 in
theorem getD_append_last (l : List Nat) (x : Nat) (j : Nat) (hj : j < (l ++ [x]).length) : (l ++ [x]).getD j 0 = if j = l.length then x else l.getD j 0 := by
  by_cases e : j = l.length
  · rw [if_pos e, e]; simp
  · rw [if_neg e]
    have : j < l.length := by simp at hj; omega
    rw [List.getD_eq_getElem?_getD, List.getD_eq_getElem?_getD, List.getElem?_append_left this]
section FORMATTED
variable {Γ : GG} {σ : HS} {Q : Res → HS → Prop} {f : Nat} {t : List Nat}
set_option maxRecDepth 100000 in
theorem f_write {x : Nat} (h : FD σ f t) (hn : t.length < 180) (hx : x < 256) (hQ : ∀ σ', FD σ' f (t ++ [x]) → Md σ σ' (fp f) → Q (.inl none) σ') : zM Γ mX1_write [vR (some f), vI x] σ Q := by
  obtain ⟨⟨h0, h1, h2⟩, hl, hle, hg, hb⟩ := id h
  refine zM_of (n := 0) (by decide +kernel) rfl rfl rfl ?_
  refine zW_aload_n dX1_write_0 rfl ?_
  refine zgI dX1_write_1 fX1_15 (by assumption) rfl (by assumption) ?_
  refine zW_sipush dX1_write_4 (by decide) ?_
  refine zW_icmp_ge (tgt := 30) dX1_write_7 (by decide) (by first | assumption | omega | (unfold InR; omega) | (unfold InL; omega) | (simp only [InR] at *; omega)) (by first | assumption | omega | (unfold InR; omega) | (unfold InL; omega) | (simp only [InR] at *; omega)) (fun q => ?_) (fun q => ?_)
  · exact absurd q (by omega)
  · refine zW_aload_n dX1_write_10 rfl ?_
    refine zgP dX1_write_11 fX1_9 (by assumption) rfl (by assumption) ?_
    refine zW_aload_n dX1_write_14 rfl ?_
    refine zgI dX1_write_15 fX1_15 h0 rfl hl ?_
    refine zW_iload_n dX1_write_18 rfl ?_
    refine zW_cast dX1_write_19 (by assumption) (by first | assumption | omega | (unfold InR; omega) | (unfold InL; omega) | (simp only [InR] at *; omega)) (by first | assumption | omega | (unfold InR; omega) | (unfold InL; omega) | (simp only [InR] at *; omega)) (by first | assumption | omega | (unfold InR; omega) | (unfold InL; omega) | (simp only [InR] at *; omega)) (znc _ hx) ?_
    refine zW_aload_n dX1_write_20 rfl ?_
    refine zW_dup dX1_write_21 rfl ?_
    refine zgI dX1_write_22 fX1_15 h0 rfl hl ?_
    refine zW_iconst dX1_write_25 ?_
    refine zW_iadd dX1_write_26 ?_
    refine zpI dX1_write_27 fX1_15 (by assumption) rfl (Or.inl rfl) (zst_int _) ?_
    refine zW_return dX1_write_30 rfl (by first | decide | (show _ ≤ (0 : Nat); omega)) (by first | decide | (show _ ≤ (0 : Nat); omega)) ?_
    have m : Md σ (sO (sI σ (f + 1) ((t.length : Int)).toNat (x : Int)) f 1 ((t.length : Int) + 1)) (fp f) := (Md.I (P := fp f) (Or.inr rfl)).tr (Md.O (P := fp f) (Or.inl rfl)) (fun _ q => q)
    refine hQ _ ⟨⟨h0, h1, h2⟩, ?_, by simp; omega, fun j hj => ?_, fun y hy => ?_⟩ m
    · rw [zO_sOs]; simp
    · rw [getD_append_last _ _ _ hj]
      show zI (sI σ (f + 1) ((t.length : Int)).toNat (x : Int)) (f + 1) j = _
      rw [zI_sI]
      by_cases e : j = t.length
      · rw [if_pos ⟨rfl, by omega⟩, if_pos e]
      · rw [if_neg (fun z => e (by omega)), if_neg e]
        exact hg j (by simp at hj; omega)
    · rcases List.mem_append.mp hy with z | z
      · exact hb y z
      · rw [List.mem_singleton.mp z]; exact hx
set_option maxRecDepth 100000 in
theorem f_clear {M : MT} (h : FK σ f) : FD (sO σ f 1 0) f [] := ⟨h, zO_sOs _ _ _ _, Nat.zero_le _, fun j hj => absurd hj (Nat.not_lt_zero j), fun y hy => by cases hy⟩
set_option maxRecDepth 100000 in
theorem f_writeLetters {w c cap : Nat} {l : List Nat} (h : FK σ f) (hw : Wd σ w c cap l) (hd : w ≠ f ∧ w ≠ f + 1 ∧ c ≠ f ∧ c ≠ f + 1) (hn : l.length ≤ 180) (hQ : ∀ σ', FD σ' f (l.map lco) → Md σ σ' (fp f) → Q (.inl none) σ') : zM Γ mX1_writeLetters [vR (some f), vR (some w)] σ Q := by
  obtain ⟨h0, h1, h2⟩ := id h
  refine zM_of (n := 1) (by decide +kernel) rfl rfl rfl ?_
  have loop : ∀ n i σ1, i + n = l.length → FD σ1 f ((l.take i).map lco) → Md σ σ1 (fp f) → zW Γ mX1_writeLetters 7 [some (vR (some f)), some (vR (some w)), some (vI i)] [] σ1 0 0 Q := by
    intro n
    induction n with
    | zero =>
      intro i σ1 hi hF m1
      have hw1 := hw.md m1 (fun q => by unfold fp at q; omega) (fun q => by unfold fp at q; omega)
      refine zW_iload_n dX1_writeLetters_7 rfl ?_
      refine zW_aload_n dX1_writeLetters_8 rfl ?_
      refine zgI dX1_writeLetters_9 fX1_19 hw1.1.1 rfl hw1.2.1 ?_
      refine zW_icmp_ge (tgt := 34) dX1_writeLetters_12 (by decide) (by first | assumption | omega | (unfold InR; omega) | (unfold InL; omega) | (simp only [InR] at *; omega)) (by first | assumption | omega | (unfold InR; omega) | (unfold InL; omega) | (simp only [InR] at *; omega)) (fun q => ?_) (fun q => ?_)
      · refine zW_return dX1_writeLetters_34 rfl (by first | decide | (show _ ≤ (0 : Nat); omega)) (by first | decide | (show _ ≤ (0 : Nat); omega)) ?_
        have e : l.take i = l := List.take_of_length_le (by omega)
        rw [e] at hF
        exact hQ _ hF m1
      · exact absurd q (by omega)
    | succ n ih =>
      intro i σ1 hi hF m1
      have hw1 := hw.md m1 (fun q => by unfold fp at q; omega) (fun q => by unfold fp at q; omega)
      have hx := getD_lt hw.lt (i := i) (by omega)
      have hx2 := lco_lt hx
      have hc9 := hw.1.2.2.2
      have hc8 := hw.cap
      refine zW_iload_n dX1_writeLetters_7 rfl ?_
      refine zW_aload_n dX1_writeLetters_8 rfl ?_
      refine zgI dX1_writeLetters_9 fX1_19 hw1.1.1 rfl hw1.2.1 ?_
      refine zW_icmp_ge (tgt := 34) dX1_writeLetters_12 (by decide) (by first | assumption | omega | (unfold InR; omega) | (unfold InL; omega) | (simp only [InR] at *; omega)) (by first | assumption | omega | (unfold InR; omega) | (unfold InL; omega) | (simp only [InR] at *; omega)) (fun q => ?_) (fun q => ?_)
      · exact absurd q (by omega)
      · refine zW_aload_n dX1_writeLetters_15 rfl ?_
        refine zW_aload_n dX1_writeLetters_16 rfl ?_
        refine zgP dX1_writeLetters_17 fX1_22 hw1.1.1 rfl hw1.1.2.1 ?_
        refine zW_iload_n dX1_writeLetters_20 rfl ?_
        refine zrI dX1_writeLetters_21 hw1.1.2.2.1 (by first | assumption | omega | (unfold InR; omega) | (unfold InL; omega) | (simp only [InR] at *; omega)) (by first | assumption | omega | (unfold InR; omega) | (unfold InL; omega) | (simp only [InR] at *; omega)) (by first | assumption | omega | (unfold InR; omega) | (unfold InL; omega) | (simp only [InR] at *; omega)) (hw1.2.2.2.1 i (by omega)) ?_
        refine zcSN1 dX1_writeLetters_22 rfl eX9_letterOfCode (host := RX9) (by decide +kernel) ⟨by decide, by decide, by decide, by decide⟩ rfl (Nat.le_of_ble_eq_true rfl) (x_letterOfCode hx ?_)
        refine zcV1 dX1_writeLetters_25 rfl eX1_write b1188 ⟨by decide, by decide, by decide, by decide⟩ rfl hF.1.1 rfl (by decide) (Nat.le_of_ble_eq_true rfl) (f_write hF (by simp; omega) (by omega) (fun σ2 hF2 m2 => ?_))
        refine zW_iinc dX1_writeLetters_28 rfl (by decide) rfl rfl ?_
        refine zW_goto (tgt := 7) dX1_writeLetters_31 (by decide) ?_
        refine ih (i + 1) σ2 (by omega) ?_ (m1.tr m2 (fun _ q => q))
        have e : l.take (i + 1) = l.take i ++ [l.getD i 0] := by
          rw [List.take_add_one, List.getD_eq_getElem?_getD, List.getElem?_eq_getElem (by omega)]
          rfl
        rw [e, List.map_append]
        exact hF2
  refine zW_aload_n dX1_writeLetters_0 rfl ?_
  refine zW_iconst dX1_writeLetters_1 ?_
  refine zpI dX1_writeLetters_2 fX1_15 h0 rfl (Or.inl rfl) (zst_int _) ?_
  refine zW_iconst dX1_writeLetters_5 ?_
  refine zW_istore_n dX1_writeLetters_6 (by decide) rfl rfl ?_
  exact loop l.length 0 _ (by omega) (f_clear (M := mX1_write) h) (Md.O (Or.inl rfl))
set_option maxRecDepth 100000 in
theorem f_writeNumber {n : Nat} (h : FD σ f t) (hn : n < 100) (hl : t.length + (dgs n).length ≤ 180) (hQ : ∀ σ', FD σ' f (t ++ dgs n) → Md σ σ' (fp f) → Q (.inl none) σ') : zM Γ mX1_writeNumber [vR (some f), vI n] σ Q := by
  refine zM_of (n := 0) (by decide +kernel) rfl rfl rfl ?_
  have snd : ∀ σ1 t1, FD σ1 f t1 → Md σ σ1 (fp f) → t1.length < 180 → t ++ dgs n = t1 ++ [48 + n % 10] → zW Γ mX1_writeNumber 18 [some (vR (some f)), some (vI n)] [] σ1 0 0 Q := by
    intro σ1 t1 hF m1 ht he
    have e : ((48 : Int) + ((n : Int) % 10)) = ((48 + n % 10 : Nat) : Int) := by omega
    refine zW_aload_n dX1_writeNumber_18 rfl ?_
    refine zW_bipush dX1_writeNumber_19 (by decide) ?_
    refine zW_iload_n dX1_writeNumber_21 rfl ?_
    refine zW_bipush dX1_writeNumber_22 (by decide) ?_
    refine zW_irem dX1_writeNumber_24 (by first | assumption | omega | (unfold InR; omega) | (unfold InL; omega) | (simp only [InR] at *; omega)) (by first | assumption | omega | (unfold InR; omega) | (unfold InL; omega) | (simp only [InR] at *; omega)) (by first | assumption | omega | (unfold InR; omega) | (unfold InL; omega) | (simp only [InR] at *; omega)) (by first | assumption | omega | (unfold InR; omega) | (unfold InL; omega) | (simp only [InR] at *; omega)) ?_
    refine zW_iadd dX1_writeNumber_25 ?_
    refine zW_i2cN dX1_writeNumber_26 e (by omega) ?_
    refine zcV1 dX1_writeNumber_27 rfl eX1_write b1188 ⟨by decide, by decide, by decide, by decide⟩ rfl hF.1.1 rfl (by decide) (Nat.le_of_ble_eq_true rfl) (f_write hF ht (by omega) (fun σ2 hF2 m2 => ?_))
    refine zW_return dX1_writeNumber_30 rfl (by first | decide | (show _ ≤ (0 : Nat); omega)) (by first | decide | (show _ ≤ (0 : Nat); omega)) ?_
    rw [← he] at hF2
    exact hQ _ hF2 (m1.tr m2 (fun _ q => q))
  refine zW_iload_n dX1_writeNumber_0 rfl ?_
  refine zW_bipush dX1_writeNumber_1 (by decide) ?_
  refine zW_icmp_lt (tgt := 18) dX1_writeNumber_3 (by decide) (by first | assumption | omega | (unfold InR; omega) | (unfold InL; omega) | (simp only [InR] at *; omega)) (by first | assumption | omega | (unfold InR; omega) | (unfold InL; omega) | (simp only [InR] at *; omega)) (fun q => ?_) (fun q => ?_)
  · have e : dgs n = [48 + n % 10] := by unfold dgs; rw [if_neg (by omega)]; rfl
    rw [e] at hl
    exact snd σ t h Md.rf (by simp at hl; omega) (by rw [e])
  · have e2 : dgs n = [48 + n / 10] ++ [48 + n % 10] := by unfold dgs; rw [if_pos (by omega)]
    rw [e2] at hl
    have e : ((48 : Int) + ((n : Int) / 10)) = ((48 + n / 10 : Nat) : Int) := by omega
    refine zW_aload_n dX1_writeNumber_6 rfl ?_
    refine zW_bipush dX1_writeNumber_7 (by decide) ?_
    refine zW_iload_n dX1_writeNumber_9 rfl ?_
    refine zW_bipush dX1_writeNumber_10 (by decide) ?_
    refine zW_idiv dX1_writeNumber_12 (by first | assumption | omega | (unfold InR; omega) | (unfold InL; omega) | (simp only [InR] at *; omega)) (by first | assumption | omega | (unfold InR; omega) | (unfold InL; omega) | (simp only [InR] at *; omega)) (by first | assumption | omega | (unfold InR; omega) | (unfold InL; omega) | (simp only [InR] at *; omega)) (by first | assumption | omega | (unfold InR; omega) | (unfold InL; omega) | (simp only [InR] at *; omega)) ?_
    refine zW_iadd dX1_writeNumber_13 ?_
    refine zW_i2cN dX1_writeNumber_14 e (by omega) ?_
    refine zcV1 dX1_writeNumber_15 rfl eX1_write b1188 ⟨by decide, by decide, by decide, by decide⟩ rfl h.1.1 rfl (by decide) (Nat.le_of_ble_eq_true rfl) (f_write h (by simp at hl; omega) (by omega) (fun σ2 hF2 m2 => ?_))
    refine snd σ2 _ hF2 m2 (by simp at hl; simp; omega) ?_
    rw [e2, List.append_assoc]
set_option maxRecDepth 100000 in
theorem f_writeRun {c n : Nat} (h : FD σ f t) (hc : c < 8) (hn : n < 100) (hl : t.length + (rtx c n).length ≤ 180) (hQ : ∀ σ', FD σ' f (t ++ rtx c n) → Md σ σ' (fp f) → Q (.inl none) σ') : zM Γ mX1_writeRun [vR (some f), vI c, vI n] σ Q := by
  refine zM_of (n := 0) (by decide +kernel) rfl rfl rfl ?_
  have hlc : lco (2 * (c / 2)) = 97 + c / 2 := by
    unfold lco
    rw [if_pos (by omega)]
    omega
  have fin : ∀ σ1 t1, FD σ1 f t1 → Md σ σ1 (fp f) → t ++ rtx c n = t1 ++ (if c % 2 = 1 ∨ 1 < n then dgs n else []) → zW Γ mX1_writeRun 24 [some (vR (some f)), some (vI c), some (vI n)] [] σ1 0 0 Q := by
    intro σ1 t1 hF m1 he
    have num : (c % 2 = 1 ∨ 1 < n) → zW Γ mX1_writeRun 36 [some (vR (some f)), some (vI c), some (vI n)] [] σ1 0 0 Q := by
      intro hc9
      rw [if_pos hc9] at he
      have hl9 : t1.length + (dgs n).length ≤ 180 := by
        have := congrArg List.length he
        rw [List.length_append, List.length_append] at this
        omega
      refine zW_aload_n dX1_writeRun_36 rfl ?_
      refine zW_iload_n dX1_writeRun_37 rfl ?_
      refine zcV1 dX1_writeRun_38 rfl eX1_writeNumber b1193 ⟨by decide, by decide, by decide, by decide⟩ rfl hF.1.1 rfl (by decide) (Nat.le_of_ble_eq_true rfl) (f_writeNumber hF hn hl9 (fun σ2 hF2 m2 => ?_))
      refine zW_return dX1_writeRun_41 rfl (by first | decide | (show _ ≤ (0 : Nat); omega)) (by first | decide | (show _ ≤ (0 : Nat); omega)) ?_
      rw [← he] at hF2
      exact hQ _ hF2 (m1.tr m2 (fun _ q => q))
    refine zW_iload_n dX1_writeRun_24 rfl ?_
    refine zcSN1 dX1_writeRun_25 rfl eX9_isInverse (host := RX9) (by decide +kernel) ⟨by decide, by decide, by decide, by decide⟩ rfl (Nat.le_of_ble_eq_true rfl) (x_isInverse (by omega) ?_)
    refine zW_if_ne (tgt := 36) dX1_writeRun_28 (by decide) (by first | assumption | omega | (unfold InR; omega) | (unfold InL; omega) | (simp only [InR] at *; omega)) (fun q => ?_) (fun q => ?_)
    · exact num (Or.inl (by omega))
    · refine zW_iload_n dX1_writeRun_31 rfl ?_
      refine zW_iconst dX1_writeRun_32 ?_
      refine zW_icmp_le (tgt := 41) dX1_writeRun_33 (by decide) (by first | assumption | omega | (unfold InR; omega) | (unfold InL; omega) | (simp only [InR] at *; omega)) (by first | assumption | omega | (unfold InR; omega) | (unfold InL; omega) | (simp only [InR] at *; omega)) (fun q2 => ?_) (fun q2 => ?_)
      · refine zW_return dX1_writeRun_41 rfl (by first | decide | (show _ ≤ (0 : Nat); omega)) (by first | decide | (show _ ≤ (0 : Nat); omega)) ?_
        rw [if_neg (by omega), List.append_nil] at he
        rw [← he] at hF
        exact hQ _ hF m1
      · exact num (Or.inr (by omega))
  have hr : rtx c n = [97 + c / 2] ++ ((if c % 2 = 1 then [45] else []) ++ if c % 2 = 1 ∨ 1 < n then dgs n else []) := rfl
  refine zW_aload_n dX1_writeRun_0 rfl ?_
  refine zW_iload_n dX1_writeRun_1 rfl ?_
  refine zW_bipush dX1_writeRun_2 (by decide) ?_
  refine zW_iandm2 dX1_writeRun_4 (show c < 256 by omega) ?_
  refine zcSN1 dX1_writeRun_5 rfl eX9_letterOfCode (host := RX9) (by decide +kernel) ⟨by decide, by decide, by decide, by decide⟩ rfl (Nat.le_of_ble_eq_true rfl) (x_letterOfCode (x := 2 * (c / 2)) (by omega) ?_)
  refine zcV1 dX1_writeRun_8 rfl eX1_write b1188 ⟨by decide, by decide, by decide, by decide⟩ rfl h.1.1 rfl (by decide) (Nat.le_of_ble_eq_true rfl) (f_write h (by rw [hr, List.length_append] at hl; simp at hl; omega) (by rw [hlc]; omega) (fun σ2 hF2 m2 => ?_))
  refine zW_iload_n dX1_writeRun_11 rfl ?_
  refine zcSN1 dX1_writeRun_12 rfl eX9_isInverse (host := RX9) (by decide +kernel) ⟨by decide, by decide, by decide, by decide⟩ rfl (Nat.le_of_ble_eq_true rfl) (x_isInverse (by omega) ?_)
  rw [hlc] at hF2
  refine zW_if_eq (tgt := 24) dX1_writeRun_15 (by decide) (by first | assumption | omega | (unfold InR; omega) | (unfold InL; omega) | (simp only [InR] at *; omega)) (fun q => ?_) (fun q => ?_)
  · rw [if_neg (show ¬ c % 2 = 1 by omega), List.nil_append] at hr
    exact fin σ2 _ hF2 m2 (by rw [hr, List.append_assoc])
  · rw [if_pos (show c % 2 = 1 by omega)] at hr
    refine zW_aload_n dX1_writeRun_18 rfl ?_
    refine zW_bipush dX1_writeRun_19 (by decide) ?_
    refine zcV1 dX1_writeRun_21 rfl eX1_write b1188 ⟨by decide, by decide, by decide, by decide⟩ rfl hF2.1.1 rfl (by decide) (Nat.le_of_ble_eq_true rfl) (f_write (x := 45) hF2 (by rw [hr] at hl; simp at hl; simp; omega) (by omega) (fun σ3 hF3 m3 => ?_))
    refine fin σ3 _ hF3 (m2.tr m3 (fun _ q => q)) ?_
    rw [hr, List.append_assoc, List.append_assoc]
set_option maxRecDepth 100000 in
theorem f_writeRuns {w c cap : Nat} {l : List Nat} (h : FK σ f) (hw : Wd σ w c cap l) (hd : w ≠ f ∧ w ≠ f + 1 ∧ c ≠ f ∧ c ≠ f + 1) (hn : l.length ≤ 60) (hQ : ∀ σ', FD σ' f (wtx l) → Md σ σ' (fp f) → Q (.inl none) σ') : zM Γ mX1_writeRuns [vR (some f), vR (some w)] σ Q := by
  obtain ⟨h0, h1, h2⟩ := id h
  have hT := rnF_len l 0
  refine zM_of (n := 2) (by decide +kernel) rfl rfl rfl ?_
  have loop : ∀ n i r σ1 t1, i + n = l.length → r ≤ i → FD σ1 f t1 → Md σ σ1 (fp f) → t1 ++ rnF (l.drop i) r = rnF l 0 → zW Γ mX1_writeRuns 9 [some (vR (some f)), some (vR (some w)), some (vI r), some (vI i)] [] σ1 0 0 Q := by
    intro n
    induction n with
    | zero =>
      intro i r σ1 t1 hi hr hF m1 he
      have hw1 := hw.md m1 (fun q => by unfold fp at q; omega) (fun q => by unfold fp at q; omega)
      refine zW_iload_n dX1_writeRuns_9 rfl ?_
      refine zW_aload_n dX1_writeRuns_10 rfl ?_
      refine zgI dX1_writeRuns_11 fX1_19 hw1.1.1 rfl hw1.2.1 ?_
      refine zW_icmp_ge (tgt := 66) dX1_writeRuns_14 (by decide) (by first | assumption | omega | (unfold InR; omega) | (unfold InL; omega) | (simp only [InR] at *; omega)) (by first | assumption | omega | (unfold InR; omega) | (unfold InL; omega) | (simp only [InR] at *; omega)) (fun q => ?_) (fun q => ?_)
      · have e : l.drop i = [] := by rw [List.drop_eq_nil_iff]; omega
        rw [e] at he
        have e2 : t1 = rnF l 0 := by rw [← he]; exact (List.append_nil t1).symm
        refine zW_aload_n dX1_writeRuns_66 rfl ?_
        refine zgI dX1_writeRuns_67 fX1_15 hF.1.1 rfl hF.2.1 ?_
        unfold wtx at hQ
        have hF9 := hF.2.2.1
        refine zW_if_ne (tgt := 79) dX1_writeRuns_70 (by decide) (by first | assumption | omega | (unfold InR; omega) | (unfold InL; omega) | (simp only [InR] at *; omega)) (fun q2 => ?_) (fun q2 => ?_)
        · refine zW_return dX1_writeRuns_79 rfl (by first | decide | (show _ ≤ (0 : Nat); omega)) (by first | decide | (show _ ≤ (0 : Nat); omega)) ?_
          rw [if_neg (fun z => q2 (by rw [e2, z]; rfl)), ← e2] at hQ
          exact hQ _ hF m1
        · have e3 : t1 = [] := List.eq_nil_of_length_eq_zero (by omega)
          refine zW_aload_n dX1_writeRuns_73 rfl ?_
          refine zW_bipush dX1_writeRuns_74 (by decide) ?_
          refine zcV1 dX1_writeRuns_76 rfl eX1_write b1188 ⟨by decide, by decide, by decide, by decide⟩ rfl hF.1.1 rfl (by decide) (Nat.le_of_ble_eq_true rfl) (f_write (x := 49) hF (by rw [e3]; decide) (by omega) (fun σ3 hF3 m3 => ?_))
          refine zW_return dX1_writeRuns_79 rfl (by first | decide | (show _ ≤ (0 : Nat); omega)) (by first | decide | (show _ ≤ (0 : Nat); omega)) ?_
          rw [if_pos (e2.symm.trans e3)] at hQ
          rw [e3] at hF3
          exact hQ _ hF3 (m1.tr m3 (fun _ q => q))
      · exact absurd q (by omega)
    | succ n ih =>
      intro i r σ1 t1 hi hr hF m1 he
      have hw1 := hw.md m1 (fun q => by unfold fp at q; omega) (fun q => by unfold fp at q; omega)
      have hx := getD_lt hw.lt (i := i) (by omega)
      have hc9 := hw.1.2.2.2
      have hc8 := hw.cap
      rw [drop_cons (i := i) (by omega)] at he
      have he' : t1 ++ (if (l.drop (i + 1)).head? = some (l.getD i 0) then rnF (l.drop (i + 1)) (r + 1) else rtx (l.getD i 0) (r + 1) ++ rnF (l.drop (i + 1)) 0) = rnF l 0 := he
      have out : (l.drop (i + 1)).head? ≠ some (l.getD i 0) → zW Γ mX1_writeRuns 47 [some (vR (some f)), some (vR (some w)), some (vI ((r : Int) + 1)), some (vI i)] [] σ1 0 0 Q := by
        intro hne
        rw [if_neg hne] at he'
        have hl9 : t1.length + (rtx (l.getD i 0) (r + 1)).length ≤ 180 := by
          have := congrArg List.length he'
          rw [List.length_append, List.length_append] at this
          omega
        refine zW_aload_n dX1_writeRuns_47 rfl ?_
        refine zW_aload_n dX1_writeRuns_48 rfl ?_
        refine zgP dX1_writeRuns_49 fX1_22 hw1.1.1 rfl hw1.1.2.1 ?_
        refine zW_iload_n dX1_writeRuns_52 rfl ?_
        refine zrI dX1_writeRuns_53 hw1.1.2.2.1 (by first | assumption | omega | (unfold InR; omega) | (unfold InL; omega) | (simp only [InR] at *; omega)) (by first | assumption | omega | (unfold InR; omega) | (unfold InL; omega) | (simp only [InR] at *; omega)) (by first | assumption | omega | (unfold InR; omega) | (unfold InL; omega) | (simp only [InR] at *; omega)) (hw1.2.2.2.1 i (by omega)) ?_
        refine zW_iload_n dX1_writeRuns_54 rfl ?_
        refine zcV2 dX1_writeRuns_55 rfl eX1_writeRun b1183 ⟨by decide, by decide, by decide, by decide⟩ rfl hF.1.1 rfl (by decide) (Nat.le_of_ble_eq_true rfl) (f_writeRun (n := r + 1) hF hx (by omega) hl9 (fun σ2 hF2 m2 => ?_))
        refine zW_iconst dX1_writeRuns_58 ?_
        refine zW_istore_n dX1_writeRuns_59 (by decide) rfl rfl ?_
        refine zW_iinc dX1_writeRuns_60 rfl (by decide) rfl rfl ?_
        refine zW_goto (tgt := 9) dX1_writeRuns_63 (by decide) ?_
        refine ih (i + 1) 0 σ2 _ (by omega) (by omega) hF2 (m1.tr m2 (fun _ q => q)) ?_
        rw [List.append_assoc]
        exact he'
      refine zW_iload_n dX1_writeRuns_9 rfl ?_
      refine zW_aload_n dX1_writeRuns_10 rfl ?_
      refine zgI dX1_writeRuns_11 fX1_19 hw1.1.1 rfl hw1.2.1 ?_
      refine zW_icmp_ge (tgt := 66) dX1_writeRuns_14 (by decide) (by first | assumption | omega | (unfold InR; omega) | (unfold InL; omega) | (simp only [InR] at *; omega)) (by first | assumption | omega | (unfold InR; omega) | (unfold InL; omega) | (simp only [InR] at *; omega)) (fun q => ?_) (fun q => ?_)
      · exact absurd q (by omega)
      · refine zW_iinc dX1_writeRuns_17 rfl (by decide) rfl rfl ?_
        refine zW_iload_n dX1_writeRuns_20 rfl ?_
        refine zW_iconst dX1_writeRuns_21 ?_
        refine zW_iadd dX1_writeRuns_22 ?_
        refine zW_aload_n dX1_writeRuns_23 rfl ?_
        refine zgI dX1_writeRuns_24 fX1_19 hw1.1.1 rfl hw1.2.1 ?_
        refine zW_icmp_eq (tgt := 47) dX1_writeRuns_27 (by decide) (by first | assumption | omega | (unfold InR; omega) | (unfold InL; omega) | (simp only [InR] at *; omega)) (by first | assumption | omega | (unfold InR; omega) | (unfold InL; omega) | (simp only [InR] at *; omega)) (fun q2 => ?_) (fun q2 => ?_)
        · refine out ?_
          have e : l.drop (i + 1) = [] := by rw [List.drop_eq_nil_iff]; omega
          rw [e]
          exact fun z => by cases z
        · have hx2 := getD_lt hw.lt (i := i + 1) (by omega)
          have hh : (l.drop (i + 1)).head? = some (l.getD (i + 1) 0) := by rw [drop_cons (i := i + 1) (by omega)]; rfl
          refine zW_aload_n dX1_writeRuns_30 rfl ?_
          refine zgP dX1_writeRuns_31 fX1_22 hw1.1.1 rfl hw1.1.2.1 ?_
          refine zW_iload_n dX1_writeRuns_34 rfl ?_
          refine zW_iconst dX1_writeRuns_35 ?_
          refine zW_iadd dX1_writeRuns_36 ?_
          refine zrI dX1_writeRuns_37 hw1.1.2.2.1 (by first | assumption | omega | (unfold InR; omega) | (unfold InL; omega) | (simp only [InR] at *; omega)) (by first | assumption | omega | (unfold InR; omega) | (unfold InL; omega) | (simp only [InR] at *; omega)) (by first | assumption | omega | (unfold InR; omega) | (unfold InL; omega) | (simp only [InR] at *; omega)) (hw1.2.2.2.1 (i + 1) (by omega)) ?_
          refine zW_aload_n dX1_writeRuns_38 rfl ?_
          refine zgP dX1_writeRuns_39 fX1_22 hw1.1.1 rfl hw1.1.2.1 ?_
          refine zW_iload_n dX1_writeRuns_42 rfl ?_
          refine zrI dX1_writeRuns_43 hw1.1.2.2.1 (by first | assumption | omega | (unfold InR; omega) | (unfold InL; omega) | (simp only [InR] at *; omega)) (by first | assumption | omega | (unfold InR; omega) | (unfold InL; omega) | (simp only [InR] at *; omega)) (by first | assumption | omega | (unfold InR; omega) | (unfold InL; omega) | (simp only [InR] at *; omega)) (hw1.2.2.2.1 i (by omega)) ?_
          refine zW_icmp_eq (tgt := 60) dX1_writeRuns_44 (by decide) (by first | assumption | omega | (unfold InR; omega) | (unfold InL; omega) | (simp only [InR] at *; omega)) (by first | assumption | omega | (unfold InR; omega) | (unfold InL; omega) | (simp only [InR] at *; omega)) (fun q3 => ?_) (fun q3 => ?_)
          · refine zW_iinc dX1_writeRuns_60 rfl (by decide) rfl rfl ?_
            refine zW_goto (tgt := 9) dX1_writeRuns_63 (by decide) ?_
            rw [hh, if_pos (by congr 1; omega)] at he'
            exact ih (i + 1) (r + 1) σ1 t1 (by omega) (by omega) hF m1 he'
          · refine out ?_
            rw [hh]
            intro z
            have := Option.some.inj z
            omega
  refine zW_aload_n dX1_writeRuns_0 rfl ?_
  refine zW_iconst dX1_writeRuns_1 ?_
  refine zpI dX1_writeRuns_2 fX1_15 h0 rfl (Or.inl rfl) (zst_int _) ?_
  refine zW_iconst dX1_writeRuns_5 ?_
  refine zW_istore_n dX1_writeRuns_6 (by decide) rfl rfl ?_
  refine zW_iconst dX1_writeRuns_7 ?_
  refine zW_istore_n dX1_writeRuns_8 (by decide) rfl rfl ?_
  exact loop l.length 0 0 _ [] (by omega) (Nat.le_refl _) (f_clear (M := mX1_write) h) (Md.O (Or.inl rfl)) rfl
end FORMATTED
