/-! Word: what it holds, its methods -/
/-- w is a word with the row c of cap places -/
def Wk (σ : HS) (w c cap : Nat) : Prop := zK σ w = (8, 0) ∧ zP σ w 0 = some c ∧ zK σ c = (13, cap) ∧ cap ≤ 3600
/-- .. and holds the letters l -/
def Wd (σ : HS) (w c cap : Nat) (l : List Nat) : Prop := Wk σ w c cap ∧ zO σ w 1 = (l.length : Int) ∧ l.length ≤ cap ∧ (∀ j, j < l.length → zI σ c j = ((l.getD j 0 : Nat) : Int)) ∧ ∀ y ∈ l, y < 8
/-- nothing changed but numbers in the objects os, in the rows rs -/
def Md (σ σ' : HS) (os rs : List Nat) : Prop := zK σ' = zK σ ∧ zP σ' = zP σ ∧ zJ σ' = zJ σ ∧ zN σ' = zN σ ∧ (∀ a, a ∉ os → zO σ' a = zO σ a) ∧ ∀ a, a ∉ rs → zI σ' a = zI σ a
theorem Md.rf {σ : HS} {os rs : List Nat} : Md σ σ os rs := ⟨rfl, rfl, rfl, rfl, fun _ _ => rfl, fun _ _ => rfl⟩
theorem Md.tr {σ σ' σ'' : HS} {os rs : List Nat} (h : Md σ σ' os rs) (h' : Md σ' σ'' os rs) : Md σ σ'' os rs :=
  ⟨h'.1.trans h.1, h'.2.1.trans h.2.1, h'.2.2.1.trans h.2.2.1, h'.2.2.2.1.trans h.2.2.2.1, fun a ha => (h'.2.2.2.2.1 a ha).trans (h.2.2.2.2.1 a ha), fun a ha => (h'.2.2.2.2.2 a ha).trans (h.2.2.2.2.2 a ha)⟩
theorem Md.wk {σ σ' : HS} {os rs os' rs' : List Nat} (h : Md σ σ' os rs) (ho : ∀ a ∈ os, a ∈ os') (hr : ∀ a ∈ rs, a ∈ rs') : Md σ σ' os' rs' :=
  ⟨h.1, h.2.1, h.2.2.1, h.2.2.2.1, fun a ha => h.2.2.2.2.1 a (fun q => ha (ho a q)), fun a ha => h.2.2.2.2.2 a (fun q => ha (hr a q))⟩
theorem Md.O {σ : HS} {a k : Nat} {x : Int} {os rs : List Nat} (h : a ∈ os) : Md σ (sO σ a k x) os rs :=
  ⟨rfl, rfl, rfl, rfl, fun b hb => funext fun j => zO_sOa σ k j x (fun q => hb (q ▸ h)), fun _ _ => rfl⟩
theorem Md.I {σ : HS} {a k : Nat} {x : Int} {os rs : List Nat} (h : a ∈ rs) : Md σ (sI σ a k x) os rs :=
  ⟨rfl, rfl, rfl, rfl, fun _ _ => rfl, fun b hb => funext fun j => zI_sIa σ k j x (fun q => hb (q ▸ h))⟩
theorem Md.Ir {σ : HS} {a : Nat} {f : Nat → Int} {os rs : List Nat} (h : a ∈ rs) : Md σ (sIr σ a f) os rs :=
  ⟨rfl, rfl, rfl, rfl, fun _ _ => rfl, fun b hb => funext fun j => by rw [zI_sIr, if_neg (fun q : b = a => hb (q ▸ h))]⟩
theorem Wk.md {σ σ' : HS} {w c cap : Nat} {os rs : List Nat} (m : Md σ σ' os rs) (h : Wk σ w c cap) : Wk σ' w c cap := by
  unfold Wk
  rw [m.1, m.2.1]
  exact h
theorem Wd.md {σ σ' : HS} {w c cap : Nat} {l : List Nat} {os rs : List Nat} (m : Md σ σ' os rs) (h : Wd σ w c cap l) (hw : w ∉ os) (hc : c ∉ rs) : Wd σ' w c cap l := by
  refine ⟨h.1.md m, ?_, h.2.2.1, fun j hj => ?_, h.2.2.2.2⟩
  · rw [m.2.2.2.2.1 w hw]; exact h.2.1
  · rw [m.2.2.2.2.2 c hc]; exact h.2.2.2.1 j hj
/-- a letter is put at a word's end -/
def pw (l : List Nat) (x : Nat) : List Nat := if l.getLast? = some (x ^^^ 1) then l.dropLast else l ++ [x]
def pws (l xs : List Nat) : List Nat := xs.foldl pw l
def invw (l : List Nat) : List Nat := (l.map (fun y => y ^^^ 1)).reverse
theorem x1_lt {x : Nat} (h : x < 8) : x ^^^ 1 < 8 := by
  have : ∀ x, x < 8 → x ^^^ 1 < 8 := by decide
  exact this x h
theorem pw_lt {l : List Nat} {x : Nat} (hl : ∀ y ∈ l, y < 8) (hx : x < 8) : ∀ y ∈ pw l x, y < 8 := by
  intro y hy
  unfold pw at hy
  split at hy
  · exact hl y ((List.dropLast_sublist l).subset hy)
  · rcases List.mem_append.mp hy with h | h
    · exact hl y h
    · rw [List.mem_singleton.mp h]; exact hx
theorem pw_len (l : List Nat) (x : Nat) : (pw l x).length ≤ l.length + 1 := by
  unfold pw
  split
  · rw [List.length_dropLast]; omega
  · simp
theorem getD_last {l : List Nat} (h : 0 < l.length) : l.getLast? = some (l.getD (l.length - 1) 0) := by
  rw [List.getLast?_eq_getElem?, List.getD_eq_getElem?_getD, List.getElem?_eq_getElem (by omega)]
  rfl
theorem zix {f : Nat → Int} {i j : Nat} {v : Int} (e : i = j) (h : f j = v) : f i = v := by rw [e]; exact h
section WORD
variable {Γ : GG} {σ : HS} {Q : Res → HS → Prop}
set_option maxRecDepth 100000 in
theorem w_put {w c cap x : Nat} {l : List Nat} (h : Wd σ w c cap l) (hx : x < 8) (hn : l.length < cap) (hQ : ∀ σ', Wd σ' w c cap (pw l x) → Md σ σ' [w] [c] → Q (.inl none) σ') : zM Γ mX8_put [vR (some w), vI x] σ Q := by
  obtain ⟨⟨hw, hc, hcc, hcap⟩, hlen, hle, hget, hlt⟩ := id h
  refine zM_of (n := 0) (by decide +kernel) rfl rfl rfl ?_
  have push : pw l x = l ++ [x] → Q (.inl none) (sO (sI σ c l.length x) w 1 (l.length + 1)) := by
    intro e
    refine hQ _ ?_ ((Md.I (by simp)).tr (Md.O (by simp)))
    rw [e]
    refine ⟨⟨hw, hc, hcc, hcap⟩, ?_, ?_, fun j hj => ?_, fun y hy => ?_⟩
    · rw [zO_sOs]; simp
    · simp; omega
    · rw [zI_sO, zI_sI]
      by_cases hjl : j = l.length
      · rw [if_pos ⟨rfl, hjl⟩, hjl]; simp
      · have : j < l.length := by simp at hj; omega
        rw [if_neg (fun q => hjl q.2), hget j this]
        simp [List.getD_eq_getElem?_getD, List.getElem?_append_left this]
    · rcases List.mem_append.mp hy with h | h
      · exact hlt y h
      · rw [List.mem_singleton.mp h]; exact hx
  have tail : pw l x = l ++ [x] → zW Γ mX8_put 37 [some (vR (some w)), some (vI x)] [] σ 0 0 Q := by
    intro e
    refine zW_aload_n dX8_put_37 rfl ?_
    refine zgI dX8_put_38 fX8_19 hw rfl hlen ?_
    refine zW_aload_n dX8_put_41 rfl ?_
    refine zgP dX8_put_42 fX8_13 hw rfl hc ?_
    refine zW_alen dX8_put_45 hcc (by decide) (by decide) ?_
    refine zW_icmp_ge (tgt := 69) dX8_put_46 (by decide) (by first | assumption | omega | (unfold InR; omega) | (unfold InL; omega) | (simp only [InR] at *; omega)) (by first | assumption | omega | (unfold InR; omega) | (unfold InL; omega) | (simp only [InR] at *; omega)) (fun h1 => ?_) (fun h1 => ?_)
    · exact absurd h1 (by omega)
    · refine zW_aload_n dX8_put_49 rfl ?_
      refine zgP dX8_put_50 fX8_13 hw rfl hc ?_
      refine zW_aload_n dX8_put_53 rfl ?_
      refine zgI dX8_put_54 fX8_19 hw rfl hlen ?_
      refine zW_iload_n dX8_put_57 rfl ?_
      refine zW_iast dX8_put_58 hcc (by first | assumption | omega | (unfold InR; omega) | (unfold InL; omega) | (simp only [InR] at *; omega)) (by first | assumption | omega | (unfold InR; omega) | (unfold InL; omega) | (simp only [InR] at *; omega)) (by first | assumption | omega | (unfold InR; omega) | (unfold InL; omega) | (simp only [InR] at *; omega)) ?_
      refine zW_aload_n dX8_put_59 rfl ?_
      refine zW_dup dX8_put_60 rfl ?_
      refine zgI dX8_put_61 fX8_19 hw rfl hlen ?_
      refine zW_iconst dX8_put_64 ?_
      refine zW_iadd dX8_put_65 ?_
      refine zpI dX8_put_66 fX8_19 hw rfl (Or.inl rfl) (zst_int _) ?_
      refine zW_return dX8_put_69 rfl (by decide) (by decide) ?_
      have := push e
      simpa using this
  refine zW_aload_n dX8_put_0 rfl ?_
  refine zgI dX8_put_1 fX8_19 hw rfl hlen ?_
  refine zW_if_le (tgt := 37) dX8_put_4 (by decide) (by first | assumption | omega | (unfold InR; omega) | (unfold InL; omega) | (simp only [InR] at *; omega)) (fun h1 => ?_) (fun h1 => ?_)
  · refine tail ?_
    have : l = [] := List.eq_nil_of_length_eq_zero (by omega)
    subst this
    rfl
  · have h2 : 0 < l.length := by omega
    have h8 := x1_lt hx
    have h7 : l.getD (l.length - 1) 0 < 8 := hlt _ (by rw [List.getD_eq_getElem?_getD, List.getElem?_eq_getElem (by omega)]; exact List.getElem_mem _)
    have e9 : ((l.length : Int) - 1).toNat = l.length - 1 := by omega
    refine zW_aload_n dX8_put_7 rfl ?_
    refine zgP dX8_put_8 fX8_13 hw rfl hc ?_
    refine zW_aload_n dX8_put_11 rfl ?_
    refine zgI dX8_put_12 fX8_19 hw rfl hlen ?_
    refine zW_iconst dX8_put_15 ?_
    refine zW_isub dX8_put_16 ?_
    refine zrI dX8_put_17 hcc (by first | assumption | omega | (unfold InR; omega) | (unfold InL; omega) | (simp only [InR] at *; omega)) (by first | assumption | omega | (unfold InR; omega) | (unfold InL; omega) | (simp only [InR] at *; omega)) (by first | assumption | omega | (unfold InR; omega) | (unfold InL; omega) | (simp only [InR] at *; omega)) (zix (f := zI σ c) e9 (hget _ (by omega))) ?_
    refine zW_iload_n dX8_put_18 rfl ?_
    refine zW_iconst dX8_put_19 ?_
    refine zW_ixor1 dX8_put_20 hx ?_
    refine zW_icmp_ne (tgt := 37) dX8_put_21 (by decide) (by first | assumption | omega | (unfold InR; omega) | (unfold InL; omega) | (simp only [InR] at *; omega)) (by first | assumption | omega | (unfold InR; omega) | (unfold InL; omega) | (simp only [InR] at *; omega)) (fun h3 => ?_) (fun h3 => ?_)
    · refine tail ?_
      unfold pw
      rw [getD_last h2, if_neg]
      intro q
      have := Option.some.inj q
      omega
    · refine zW_aload_n dX8_put_24 rfl ?_
      refine zW_dup dX8_put_25 rfl ?_
      refine zgI dX8_put_26 fX8_19 hw rfl hlen ?_
      refine zW_iconst dX8_put_29 ?_
      refine zW_isub dX8_put_30 ?_
      refine zpI dX8_put_31 fX8_19 hw rfl (Or.inl rfl) (zst_int _) ?_
      refine zW_goto (tgt := 69) dX8_put_34 (by decide) ?_
      refine zW_return dX8_put_69 rfl (by decide) (by decide) ?_
      refine hQ _ ?_ (Md.O (by simp))
      have e : pw l x = l.dropLast := by
        unfold pw
        rw [getD_last h2, if_pos]
        congr 1
        omega
      rw [e]
      refine ⟨⟨hw, hc, hcc, hcap⟩, ?_, ?_, fun j hj => ?_, fun y hy => hlt y ((List.dropLast_sublist l).subset hy)⟩
      · rw [zO_sOs, List.length_dropLast]; omega
      · rw [List.length_dropLast]; omega
      · rw [List.length_dropLast] at hj
        rw [zI_sO, hget j (by omega)]
        rw [List.getD_eq_getElem?_getD, List.getD_eq_getElem?_getD, List.getElem?_dropLast, if_pos hj]
end WORD
