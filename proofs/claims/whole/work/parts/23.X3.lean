/-! History: the states before the last edits, the newest first -/
def hp (h : Nat) : Nat → Prop := fun a => h ≤ a ∧ a < h + 354
def HK (σ : HS) (h : Nat) : Prop := zK σ h = (3, 0) ∧ zP σ h 0 = some (h + 1) ∧ zK σ (h + 1) = (17, 8) ∧ (∀ i, i < 8 → zP σ (h + 1) i = some (h + 2 + 44 * i)) ∧ ∀ i, i < 8 → SK σ (h + 2 + 44 * i)
def HD (σ : HS) (h : Nat) (hi : List ST) : Prop := HK σ h ∧ hi.length ≤ 8 ∧ zO σ h 2 = (hi.length : Int) ∧ ∃ nx : Nat, nx < 8 ∧ zO σ h 1 = (nx : Int) ∧ ∀ (i : Nat) (x : ST), hi[i]? = some x → SD σ (h + 2 + 44 * ((nx + 7 - i) % 8)) x
set_option maxRecDepth 100000 in
theorem HK.md {σ σ' : HS} {h : Nat} {P : Nat → Prop} (m : Md σ σ' P) (H : HK σ h) : HK σ' h := by
  refine ⟨?_, ?_, ?_, ?_, fun i hi => (H.2.2.2.2 i hi).md m⟩
  · rw [m.K]; exact H.1
  · rw [m.P]; exact H.2.1
  · rw [m.K]; exact H.2.2.1
  · rw [m.P]; exact H.2.2.2.1
set_option maxRecDepth 100000 in
theorem HD.md {σ σ' : HS} {h : Nat} {hi : List ST} {P : Nat → Prop} (m : Md σ σ' P) (H : HD σ h hi) (hp' : ∀ a, hp h a → ¬ P a) : HD σ' h hi := by
  obtain ⟨nx, n1, n2, n3⟩ := H.2.2.2
  have h0 : ¬ P h := hp' _ (by unfold hp; omega)
  refine ⟨H.1.md m, H.2.1, ?_, nx, n1, ?_, fun i x hx => (n3 i x hx).md m (fun a q => hp' a ?_)⟩
  · rw [m.o h0]; exact H.2.2.1
  · rw [m.o h0]; exact n2
  · unfold sp at q
    unfold hp
    omega
section HISTORY
variable {Γ : GG} {σ : HS} {Q : Res → HS → Prop}
set_option maxRecDepth 100000 in
theorem h_forget {h : Nat} {hi : List ST} (H : HD σ h hi) (hQ : ∀ σ', HD σ' h [] → Md σ σ' (hp h) → Q (.inl none) σ') : zM Γ mX3_forget [vR (some h)] σ Q := by
  obtain ⟨h0, h1, h2, h3, h4⟩ := id H.1
  obtain ⟨nx, n1, n2, n3⟩ := H.2.2.2
  refine zM_of (n := 0) (by decide +kernel) rfl rfl rfl ?_
  refine zW_aload_n dX3_forget_0 rfl ?_
  refine zW_iconst dX3_forget_1 ?_
  refine zpI dX3_forget_2 fX3_18 (by assumption) rfl (Or.inl rfl) (zst_int _) ?_
  refine zW_return dX3_forget_5 rfl (by first | decide | (show _ ≤ (0 : Nat); omega)) (by first | decide | (show _ ≤ (0 : Nat); omega)) ?_
  have m : Md σ (sO σ h 2 0) (hp h) := Md.O (by unfold hp; omega)
  refine hQ _ ⟨H.1.md m, by simp, zO_sOs _ _ _ _, nx, n1, ?_, fun i x hx => by simp at hx⟩ m
  rw [zO_sOk _ _ _ _ (by omega)]; exact n2
set_option maxRecDepth 100000 in
theorem h_record {h s : Nat} {x : ST} {hi : List ST} (H : HD σ h hi) (S : SD σ s x) (hd : s + 44 ≤ h ∨ h + 354 ≤ s) (hQ : ∀ σ', HD σ' h ((x :: hi).take 8) → Md σ σ' (hp h) → Q (.inl none) σ') : zM Γ mX3_record [vR (some h), vR (some s)] σ Q := by
  obtain ⟨h0, h1, h2, h3, h4⟩ := id H.1
  obtain ⟨nx, n1, n2, n3⟩ := H.2.2.2
  have hlen := H.2.1
  refine zM_of (n := 0) (by decide +kernel) rfl rfl rfl ?_
  have hk := h4 nx n1
  refine zW_aload_n dX3_record_0 rfl ?_
  refine zgP dX3_record_1 fX3_11 h0 rfl h1 ?_
  refine zW_aload_n dX3_record_4 rfl ?_
  refine zgI dX3_record_5 fX3_22 h0 rfl n2 ?_
  refine zrP dX3_record_8 (by assumption) (by decide) (by decide) (by first | assumption | omega | (unfold InR; omega) | (unfold InL; omega) | (simp only [InR] at *; omega)) (by first | assumption | omega | (unfold InR; omega) | (unfold InL; omega) | (simp only [InR] at *; omega)) (by first | assumption | omega | (unfold InR; omega) | (unfold InL; omega) | (simp only [InR] at *; omega)) (h3 nx n1) ?_
  refine zW_aload_n dX3_record_9 rfl ?_
  refine zcV1 dX3_record_10 rfl eX7_copyFrom b1077 ⟨by decide, by decide, by decide, by decide⟩ rfl hk.1 rfl (by decide) (Nat.le_of_ble_eq_true rfl) (st_copyFrom hk S (by omega) (fun σ3 S3 m3 => ?_))
  have g0 : zK σ3 h = (3, 0) := by rw [m3.K]; exact h0
  have o1 : zO σ3 h 1 = (nx : Int) := by rw [m3.o (by unfold sp; omega)]; exact n2
  have o2 : zO σ3 h 2 = (hi.length : Int) := by rw [m3.o (by unfold sp; omega)]; exact H.2.2.1
  refine zW_aload_n dX3_record_13 rfl ?_
  refine zW_aload_n dX3_record_14 rfl ?_
  refine zgI dX3_record_15 fX3_22 g0 rfl o1 ?_
  refine zW_iconst dX3_record_18 ?_
  refine zW_iadd dX3_record_19 ?_
  refine zW_bipush dX3_record_20 (by decide) ?_
  refine zW_irem dX3_record_22 (by first | assumption | omega | (unfold InR; omega) | (unfold InL; omega) | (simp only [InR] at *; omega)) (by first | assumption | omega | (unfold InR; omega) | (unfold InL; omega) | (simp only [InR] at *; omega)) (by first | assumption | omega | (unfold InR; omega) | (unfold InL; omega) | (simp only [InR] at *; omega)) (by first | assumption | omega | (unfold InR; omega) | (unfold InL; omega) | (simp only [InR] at *; omega)) ?_
  refine zpI dX3_record_23 fX3_22 (by assumption) rfl (Or.inl rfl) (zst_int _) ?_
  refine zW_aload_n dX3_record_26 rfl ?_
  refine zW_aload_n dX3_record_27 rfl ?_
  refine zgI dX3_record_28 fX3_18 g0 rfl ((zO_sOk _ _ _ _ (by omega)).trans o2) ?_
  refine zW_iconst dX3_record_31 ?_
  refine zW_iadd dX3_record_32 ?_
  refine zW_bipush dX3_record_33 (by decide) ?_
  refine zW_mmin dX3_record_35 (by first | assumption | omega | (unfold InR; omega) | (unfold InL; omega) | (simp only [InR] at *; omega)) (by first | assumption | omega | (unfold InR; omega) | (unfold InL; omega) | (simp only [InR] at *; omega)) b1078 b452 b4 b453 (Nat.le_of_ble_eq_true rfl) (Nat.le_of_ble_eq_true rfl) (Nat.le_of_ble_eq_true rfl) (Nat.le_of_ble_eq_true rfl) ?_
  refine zpI dX3_record_38 fX3_18 (by assumption) rfl (Or.inl rfl) (zst_int _) ?_
  refine zW_return dX3_record_41 rfl (by first | decide | (show _ ≤ (0 : Nat); omega)) (by first | decide | (show _ ≤ (0 : Nat); omega)) ?_
  have m : Md σ (sO (sO σ3 h 1 (((nx : Int) + 1) % 8)) h 2 (min ((hi.length : Int) + 1) 8)) (hp h) := by
    refine (m3.wk (P' := hp h) (fun a q => ?_)).tr ((Md.O (P := fun a => a = h) rfl).tr (Md.O (P := fun a => a = h) rfl) (fun a q => q)) (fun a q => ?_)
    · unfold sp at q; unfold hp; omega
    · unfold hp; omega
  have m4 : Md σ3 (sO (sO σ3 h 1 (((nx : Int) + 1) % 8)) h 2 (min ((hi.length : Int) + 1) 8)) (fun a => a = h) := (Md.O (P := fun a => a = h) rfl).tr (Md.O (P := fun a => a = h) rfl) (fun a q => q)
  refine hQ _ ⟨H.1.md m, ?_, ?_, (nx + 1) % 8, by omega, ?_, fun i y hy => ?_⟩ m
  · rw [List.length_take]; omega
  · rw [zO_sOs, List.length_take, List.length_cons]; omega
  · rw [zO_sOk _ _ _ _ (by omega), zO_sOs]; omega
  · have hi8 : i < 8 := by
      have := (List.getElem?_eq_some_iff.mp hy).1
      rw [List.length_take] at this
      omega
    rw [List.getElem?_take_of_lt hi8] at hy
    rcases i with _ | i
    · have e : ((nx + 1) % 8 + 7 - 0) % 8 = nx := by omega
      rw [e]
      have : x = y := by simpa using hy
      rw [← this]
      exact S3.md m4 (fun a q q' => by unfold sp at q; omega)
    · have e : ((nx + 1) % 8 + 7 - (i + 1)) % 8 = (nx + 7 - i) % 8 := by omega
      rw [e]
      have hy2 : hi[i]? = some y := by simpa using hy
      refine ((n3 i y hy2).md m3 (fun a q q' => ?_)).md m4 (fun a q q' => by unfold sp at q; omega)
      unfold sp at q q'
      omega
set_option maxRecDepth 100000 in
theorem h_takeBack {h s : Nat} {x y : ST} {hi : List ST} (H : HD σ h (y :: hi)) (S : SD σ s x) (hd : s + 44 ≤ h ∨ h + 354 ≤ s) (hQ : ∀ σ', HD σ' h hi → SD σ' s y → Md σ σ' (fun a => a = h ∨ sp s a) → Q (.inl none) σ') : zM Γ mX3_takeBack [vR (some h), vR (some s)] σ Q := by
  obtain ⟨h0, h1, h2, h3, h4⟩ := id H.1
  obtain ⟨nx, n1, n2, n3⟩ := H.2.2.2
  have hlen := H.2.1
  have hc := H.2.2.1
  rw [List.length_cons] at hlen hc
  refine zM_of (n := 0) (by decide +kernel) rfl rfl rfl ?_
  refine zW_aload_n dX3_takeBack_0 rfl ?_
  refine zgI dX3_takeBack_1 fX3_18 (by assumption) rfl (by assumption) ?_
  refine zW_if_le (tgt := 46) dX3_takeBack_4 (by decide) (by first | assumption | omega | (unfold InR; omega) | (unfold InL; omega) | (simp only [InR] at *; omega)) (fun g => ?_) (fun g => ?_)
  · exact absurd g (by omega)
  · have e1 : ((nx : Int) + 8 - 1) % 8 = (((nx + 7) % 8 : Nat) : Int) := by omega
    have hy := n3 0 y rfl
    rw [Nat.sub_zero] at hy
    have m1 : Md σ (sO σ h 1 (((nx : Int) + 8 - 1) % 8)) (fun a => a = h) := Md.O rfl
    refine zW_aload_n dX3_takeBack_7 rfl ?_
    refine zW_aload_n dX3_takeBack_8 rfl ?_
    refine zgI dX3_takeBack_9 fX3_22 h0 rfl n2 ?_
    refine zW_bipush dX3_takeBack_12 (by decide) ?_
    refine zW_iadd dX3_takeBack_14 ?_
    refine zW_iconst dX3_takeBack_15 ?_
    refine zW_isub dX3_takeBack_16 ?_
    refine zW_bipush dX3_takeBack_17 (by decide) ?_
    refine zW_irem dX3_takeBack_19 (by first | assumption | omega | (unfold InR; omega) | (unfold InL; omega) | (simp only [InR] at *; omega)) (by first | assumption | omega | (unfold InR; omega) | (unfold InL; omega) | (simp only [InR] at *; omega)) (by first | assumption | omega | (unfold InR; omega) | (unfold InL; omega) | (simp only [InR] at *; omega)) (by first | assumption | omega | (unfold InR; omega) | (unfold InL; omega) | (simp only [InR] at *; omega)) ?_
    refine zpI dX3_takeBack_20 fX3_22 (by assumption) rfl (Or.inl rfl) (zst_int _) ?_
    refine zW_aload_n dX3_takeBack_23 rfl ?_
    refine zW_aload_n dX3_takeBack_24 rfl ?_
    refine zgP dX3_takeBack_25 fX3_11 h0 rfl h1 ?_
    refine zW_aload_n dX3_takeBack_28 rfl ?_
    refine zgI dX3_takeBack_29 fX3_22 h0 rfl (zO_sOs _ _ _ _) ?_
    refine zrP dX3_takeBack_32 h2 (by decide) (by decide) (by first | assumption | omega | (unfold InR; omega) | (unfold InL; omega) | (simp only [InR] at *; omega)) (by first | assumption | omega | (unfold InR; omega) | (unfold InL; omega) | (simp only [InR] at *; omega)) (by first | assumption | omega | (unfold InR; omega) | (unfold InL; omega) | (simp only [InR] at *; omega)) (zixP (f := zP _ (h + 1)) (j := (nx + 7) % 8) (by omega) (h3 _ (by omega))) ?_
    refine zcV1 dX3_takeBack_33 rfl eX7_copyFrom b1077 ⟨by decide, by decide, by decide, by decide⟩ rfl S.1.1 rfl (by decide) (Nat.le_of_ble_eq_true rfl) (st_copyFrom (S.1.md m1) (hy.md m1 (fun a q q' => by unfold sp at q; omega)) (by omega) (fun σ3 S3 m3 => ?_))
    have g0 : zK σ3 h = (3, 0) := by rw [m3.K]; exact h0
    have o1 : zO σ3 h 1 = (((nx + 7) % 8 : Nat) : Int) := by rw [m3.o (by unfold sp; omega), zO_sOs]; exact e1
    have o2 : zO σ3 h 2 = ((hi.length + 1 : Nat) : Int) := by rw [m3.o (by unfold sp; omega), zO_sOk _ _ _ _ (by omega)]; exact hc
    refine zW_aload_n dX3_takeBack_36 rfl ?_
    refine zW_dup dX3_takeBack_37 rfl ?_
    refine zgI dX3_takeBack_38 fX3_18 g0 rfl o2 ?_
    refine zW_iconst dX3_takeBack_41 ?_
    refine zW_isub dX3_takeBack_42 ?_
    refine zpI dX3_takeBack_43 fX3_18 (by assumption) rfl (Or.inl rfl) (zst_int _) ?_
    refine zW_return dX3_takeBack_46 rfl (by first | decide | (show _ ≤ (0 : Nat); omega)) (by first | decide | (show _ ≤ (0 : Nat); omega)) ?_
    have m4 : Md σ3 (sO σ3 h 2 (((hi.length + 1 : Nat) : Int) - 1)) (fun a => a = h) := Md.O rfl
    have m : Md σ (sO σ3 h 2 (((hi.length + 1 : Nat) : Int) - 1)) (fun a => a = h ∨ sp s a) := ((m1.wk (P' := fun a => a = h ∨ sp s a) (fun a q => Or.inl q)).tr (m3.wk (P' := fun a => a = h ∨ sp s a) (fun a q => Or.inr q)) (fun a q => q)).tr m4 (fun a q => Or.inl q)
    refine hQ _ ⟨H.1.md m, by omega, ?_, (nx + 7) % 8, by omega, ?_, fun i z hz => ?_⟩ (S3.md m4 (fun a q q' => by unfold sp at q; omega)) m
    · rw [zO_sOs]; omega
    · rw [zO_sOk _ _ _ _ (by omega)]; exact o1
    · have hi8 : i < 7 := by
        have := (List.getElem?_eq_some_iff.mp hz).1
        omega
      have e : ((nx + 7) % 8 + 7 - i) % 8 = (nx + 7 - (i + 1)) % 8 := by omega
      rw [e]
      have hz2 : (y :: hi)[i + 1]? = some z := by simpa using hz
      refine (n3 (i + 1) z hz2).md m (fun a q q' => ?_)
      unfold sp at q q'
      omega
end HISTORY
