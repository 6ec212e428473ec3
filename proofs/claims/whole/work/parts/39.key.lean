/-! Parser: keywords -/
def kwL : Nat → List Nat
  | 0 => kwR
  | 1 => kwS
  | _ => kwJ
section KEY
variable {Γ : GG} {σ : HS} {Q : Res → HS → Prop} {q inp n : Nat} {tx : Nat → Nat}
set_option maxRecDepth 100000 in
theorem kwL_v : ∀ j, j < 3 → (kwL j).length = zLen.getD j 0 ∧ zLen.getD j 0 ≤ 4 ∧ ∀ i, i < zLen.getD j 0 → zch j i = (((kwL j).getD i 0 : Nat) : Int) := by decide
set_option maxRecDepth 100000 in
theorem p_isKeyword {j m0 : Nat} {t : Nat × Nat × Nat} (h : PT σ q inp n tx t) (ht : isTok tx n m0 t) (hj : j < 3) (hQ : Q (.inl (some (vI (if kw (kwL j) tx t then 1 else 0)))) σ) : zM Γ mX6_isKeyword [vR (some q), vR (some (gT Γ j))] σ Q := by
  obtain ⟨l1, l2, l3, l4, l5, l6, l7⟩ := ht.le
  obtain ⟨hS, k6, k7, k8, k2, k3⟩ := id h
  obtain ⟨a1, a2, a3, a4, a5, a6, a7, a8, a9, a10, a11⟩ := id hS
  obtain ⟨w1, w2, w3⟩ := kwL_v j hj
  refine zM_of (n := 2) (by decide +kernel) rfl rfl rfl ?_
  have no : kw (kwL j) tx t = false → ∀ z, zW Γ mX6_isKeyword 26 [some (vR (some q)), some (vR (some (gT Γ j))), some (vI (zLen.getD j 0 : Nat)), z] [] σ 0 0 Q := by
    intro hk z
    rw [hk] at hQ
    refine zW_iconst dX6_isKeyword_26 ?_
    refine zW_ireturn dX6_isKeyword_27 rfl rfl (by first | decide | (show _ ≤ (0 : Nat); omega)) (by first | decide | (show _ ≤ (0 : Nat); omega)) ?_
    exact hQ
  refine zW_aload_n dX6_isKeyword_0 rfl ?_
  refine zcVS0 dX6_isKeyword_1 rfl eJ0_length b600 ⟨by decide, by decide, by decide, by decide⟩ rfl (Nat.le_of_ble_eq_true rfl) hj rfl (s_length hj ?_)
  refine zW_istore_n dX6_isKeyword_4 (by decide) rfl rfl ?_
  refine zW_aload_n dX6_isKeyword_5 rfl ?_
  refine zgI dX6_isKeyword_6 fX6_57 a1 rfl k6 ?_
  refine zW_iconst dX6_isKeyword_9 ?_
  refine zW_icmp_ne (tgt := 26) dX6_isKeyword_10 (by decide) (by first | assumption | omega | (unfold InR; omega) | (unfold InL; omega) | (simp only [InR] at *; omega)) (by first | assumption | omega | (unfold InR; omega) | (unfold InL; omega) | (simp only [InR] at *; omega)) (fun g => ?_) (fun g => ?_)
  · refine no ?_ _
    unfold kw
    rw [show decide (t.1 = 1) = false by rw [decide_eq_false_iff_not]; omega]
    rfl
  · refine zW_aload_n dX6_isKeyword_13 rfl ?_
    refine zgI dX6_isKeyword_14 fX6_47 a1 rfl k8 ?_
    refine zW_aload_n dX6_isKeyword_17 rfl ?_
    refine zgI dX6_isKeyword_18 fX6_118 a1 rfl k7 ?_
    refine zW_isub dX6_isKeyword_21 ?_
    refine zW_iload_n dX6_isKeyword_22 rfl ?_
    refine zW_icmp_eq (tgt := 28) dX6_isKeyword_23 (by decide) (by first | assumption | omega | (unfold InR; omega) | (unfold InL; omega) | (simp only [InR] at *; omega)) (by first | assumption | omega | (unfold InR; omega) | (unfold InL; omega) | (simp only [InR] at *; omega)) (fun g2 => ?_) (fun g2 => ?_)
    · have k1 : decide (t.1 = 1) = true := by rw [decide_eq_true_iff]; omega
      have k2' : decide (t.2.2 - t.2.1 = (kwL j).length) = true := by rw [decide_eq_true_iff]; omega
      have loop : ∀ m i, i + m = zLen.getD j 0 → (∀ i', i' < i → tx (t.2.1 + i') = (kwL j).getD i' 0) → zW Γ mX6_isKeyword 30 [some (vR (some q)), some (vR (some (gT Γ j))), some (vI (zLen.getD j 0 : Nat)), some (vI i)] [] σ 0 0 Q := by
        intro m
        induction m with
        | zero =>
          intro i hi hall
          refine zW_iload_n dX6_isKeyword_30 rfl ?_
          refine zW_iload_n dX6_isKeyword_31 rfl ?_
          refine zW_icmp_ge (tgt := 62) dX6_isKeyword_32 (by decide) (by first | assumption | omega | (unfold InR; omega) | (unfold InL; omega) | (simp only [InR] at *; omega)) (by first | assumption | omega | (unfold InR; omega) | (unfold InL; omega) | (simp only [InR] at *; omega)) (fun g3 => ?_) (fun g3 => ?_)
          · have hk : kw (kwL j) tx t = true := by
              unfold kw
              rw [k1, k2', Bool.true_and, Bool.true_and, List.all_eq_true]
              intro i' hi'
              rw [decide_eq_true_iff]
              exact hall i' (by have := List.mem_range.mp hi'; omega)
            rw [if_pos hk] at hQ
            refine zW_iconst dX6_isKeyword_62 ?_
            refine zW_ireturn dX6_isKeyword_63 rfl rfl (by first | decide | (show _ ≤ (0 : Nat); omega)) (by first | decide | (show _ ≤ (0 : Nat); omega)) ?_
            exact hQ
          · exact absurd g3 (by omega)
        | succ m ih =>
          intro i hi hall
          obtain ⟨x1, x2⟩ := a11 (t.2.1 + i) (by omega)
          have wi := w3 i (by omega)
          have wb := (zch_v j hj i (by omega)).2
          refine zW_iload_n dX6_isKeyword_30 rfl ?_
          refine zW_iload_n dX6_isKeyword_31 rfl ?_
          refine zW_icmp_ge (tgt := 62) dX6_isKeyword_32 (by decide) (by first | assumption | omega | (unfold InR; omega) | (unfold InL; omega) | (simp only [InR] at *; omega)) (by first | assumption | omega | (unfold InR; omega) | (unfold InL; omega) | (simp only [InR] at *; omega)) (fun g3 => ?_) (fun g3 => ?_)
          · exact absurd g3 (by omega)
          · refine zW_aload_n dX6_isKeyword_35 rfl ?_
            refine zgP dX6_isKeyword_36 fX6_34 a1 rfl a6 ?_
            refine zW_aload_n dX6_isKeyword_39 rfl ?_
            refine zgI dX6_isKeyword_40 fX6_118 a1 rfl k7 ?_
            refine zW_iload_n dX6_isKeyword_43 rfl ?_
            refine zW_iadd dX6_isKeyword_44 ?_
            refine zrI dX6_isKeyword_45 a7 (by first | assumption | omega | (unfold InR; omega) | (unfold InL; omega) | (simp only [InR] at *; omega)) (by first | assumption | omega | (unfold InR; omega) | (unfold InL; omega) | (simp only [InR] at *; omega)) (by first | assumption | omega | (unfold InR; omega) | (unfold InL; omega) | (simp only [InR] at *; omega)) (zix (f := zI σ inp) (j := t.2.1 + i) (by omega) x1) ?_
            refine zW_aload_n dX6_isKeyword_46 rfl ?_
            refine zW_iload_n dX6_isKeyword_47 rfl ?_
            refine zcVS1 dX6_isKeyword_48 rfl eJ0_charAt b610 ⟨by decide, by decide, by decide, by decide⟩ rfl (Nat.le_of_ble_eq_true rfl) hj rfl (s_charAt hj (by omega) ?_)
            change zW Γ mX6_isKeyword 51 _ [vI (zch j i), vI (tx (t.2.1 + i) : Nat)] σ _ _ Q
            refine zW_icmp_eq (tgt := 56) dX6_isKeyword_51 (by decide) (by first | assumption | omega | (unfold InR; omega) | (unfold InL; omega) | (simp only [InR] at *; omega)) (by first | assumption | omega | (unfold InR; omega) | (unfold InL; omega) | (simp only [InR] at *; omega)) (fun g4 => ?_) (fun g4 => ?_)
            · refine zW_iinc dX6_isKeyword_56 rfl (by decide) rfl rfl ?_
              refine zW_goto (tgt := 30) dX6_isKeyword_59 (by decide) ?_
              refine ih (i + 1) (by omega) (fun i' hi' => ?_)
              by_cases e : i' = i
              · rw [e]; omega
              · exact hall i' (by omega)
            · refine zW_iconst dX6_isKeyword_54 ?_
              refine zW_ireturn dX6_isKeyword_55 rfl rfl (by first | decide | (show _ ≤ (0 : Nat); omega)) (by first | decide | (show _ ≤ (0 : Nat); omega)) ?_
              have hk : kw (kwL j) tx t = false := by
                unfold kw
                rw [k1, k2', Bool.true_and, Bool.true_and, List.all_eq_false]
                refine ⟨i, List.mem_range.mpr (by omega), ?_⟩
                rw [decide_eq_true_iff]
                omega
              rw [hk] at hQ
              exact hQ
      refine zW_iconst dX6_isKeyword_28 ?_
      refine zW_istore_n dX6_isKeyword_29 (by decide) rfl rfl ?_
      exact loop (zLen.getD j 0) 0 (by omega) (fun i' hi' => absurd hi' (by omega))
    · refine no ?_ _
      unfold kw
      rw [show decide (t.2.2 - t.2.1 = (kwL j).length) = false by rw [decide_eq_false_iff_not]; omega, Bool.false_and, Bool.and_false]
end KEY
