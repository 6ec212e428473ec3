/-! frames; what every call keeps -/
section FRAMES
variable {σ σ' : HS} {x y : Nat} {A : AA} {P : Nat → Prop} {t : ST} {k g r : Nat} {l w : List Nat}
set_option maxRecDepth 100000 in
theorem CI.out (m : Md σ σ' P) (h : CI σ x A) (no : ∀ a, x ≤ a → a < x + 521 → ¬ P a) : CI σ' x A := by
  obtain ⟨a1, a2, a3, a4, a5, a6, a7, a8, a9, a10⟩ := h
  refine ⟨a1.md m, a2.md m (no _ (by omega) (by omega)) (no _ (by omega) (by omega)), a3.md m (fun a z => no a (by unfold sp at z; omega) (by unfold sp at z; omega)), a4.md m (no _ (by omega) (by omega)) (fun a z => no a (by unfold sp at z; omega) (by unfold sp at z; omega)), a5.md m (fun a z => no a (by unfold hp at z; omega) (by unfold hp at z; omega)), ?_, a7.md m (no _ (by omega) (by omega)) (no _ (by omega) (by omega)), a8.md m (no _ (by omega) (by omega)) (no _ (by omega) (by omega)), fun g hg => (a9 g hg).md m (fun a z => no a (by unfold bp at z; omega) (by unfold bp at z; omega)), a10.md m (no _ (by omega) (by omega))⟩
  rw [m.o (no _ (by omega) (by omega))]
  exact a6
set_option maxRecDepth 100000 in
theorem RI.out (m : Mx σ σ' P) (h : RI σ y A) (no : ∀ a, y ≤ a → a < y + 18 → ¬ P a) : RI σ' y A := by
  have e : ∀ i, i < 18 → zK σ' (y + i) = zK σ (y + i) ∧ zO σ' (y + i) = zO σ (y + i) ∧ zI σ' (y + i) = zI σ (y + i) ∧ zJ σ' (y + i) = zJ σ (y + i) ∧ zP σ' (y + i) = zP σ (y + i) := fun i hi => m (y + i) (no _ (by omega) (by omega))
  obtain ⟨k0, o0, -, -, p0⟩ := e 0 (by decide)
  rw [Nat.add_zero] at k0 o0 p0
  have i1 := (e 1 (by decide)).2.2.1
  have i2 := (e 2 (by decide)).2.2.1
  have i3 := (e 3 (by decide)).2.2.1
  obtain ⟨a1, a2, a3, a4, a5, a6, a7, a8⟩ := h
  have es : ∀ {B t}, SR σ y B t → SR σ' y B t := fun h => h.same (fun k _ _ => by rw [i1])
  refine ⟨⟨by rw [k0]; exact a1.1, fun i hi => ⟨by rw [p0]; exact (a1.2 i hi).1, ?_⟩⟩, by rw [o0]; exact a2, es a3, ⟨a4.1, by rw [o0]; exact a4.2.1, ?_⟩, ⟨by rw [o0]; exact a5.1, fun t ht => es (a5.2 t ht)⟩, ⟨by rw [o0]; exact a6.1, a6.2.1, fun i hi => by rw [i2]; exact a6.2.2.1 i hi, a6.2.2.2⟩, ⟨by rw [o0]; exact a7.1, by rw [o0]; exact a7.2⟩, ⟨by rw [o0]; exact a8.1, a8.2.1, fun i hi => by rw [i3]; exact a8.2.2.1 i hi, a8.2.2.2⟩⟩
  · have := (e (1 + i) (by omega)).1
    rw [← Nat.add_assoc] at this
    rw [this]; exact (a1.2 i hi).2
  · obtain ⟨f, f1, f2, f3⟩ := a4.2.2
    exact ⟨f, f1, by rw [o0]; exact f2, fun i t ht => es (f3 i t ht)⟩
/-- reduced, of letters below 2 k -/
def LW (k : Nat) (l : List Nat) : Prop := red l ∧ ∀ c ∈ l, c < 2 * k
set_option maxRecDepth 100000 in
theorem LW.nil : LW k [] := ⟨red_nil, fun c hc => by cases hc⟩
set_option maxRecDepth 100000 in
theorem LW.pws (h : LW k l) (hw : ∀ c ∈ w, c < 2 * k) : LW k (pws l w) := ⟨red_pws w h.1, pws_all (p := fun c => c < 2 * k) w h.2 hw⟩
set_option maxRecDepth 100000 in
theorem WO.lw (h : WO k l) : LW k l := ⟨h.1, h.2.2⟩
set_option maxRecDepth 100000 in
theorem LW.wo (h : LW k l) (hl : l.length ≤ 60) : WO k l := ⟨h.1, hl, h.2⟩
set_option maxRecDepth 100000 in
theorem SO.reg (h : SO t) (hw : WO (sRk t) w) (r : Nat) : SO (sReg t r w) := by
  refine ⟨h.1, fun k hk => ?_, h.2.2⟩
  show WO (sRk t) (if k = r then w else sRg t k)
  split
  · exact hw
  · exact h.2.1 k hk
set_option maxRecDepth 100000 in
theorem SO.gen {ws : List (List Nat)} (h : SO t) (hl : ws.length ≤ 6) (hw : ∀ w ∈ ws, WO (sRk t) w) : SO (sSet t g ws) := by
  refine ⟨h.1, h.2.1, fun f hf => ?_⟩
  show (if f = g then ws else sGw t f).length ≤ 6 ∧ ∀ w ∈ (if f = g then ws else sGw t f), WO (sRk t) w
  split
  · exact ⟨hl, hw⟩
  · exact h.2.2 f hf
set_option maxRecDepth 100000 in
theorem AO.his (ao : AO A) : ∀ u ∈ (aSt A :: aHi A).take 8, SO u := fun u hu => by
  rcases List.mem_cons.mp (List.mem_of_mem_take hu) with e | e
  · rw [e]; exact ao.1
  · exact ao.2.1 u e
set_option maxRecDepth 100000 in
theorem AO.wi {hi : List ST} (ao : AO A) (hS : SO t) (hh : ∀ u ∈ hi, SO u) : AO (aWith A t hi) := ⟨hS, hh, ao.2.2.1, ao.2.2.2⟩
set_option maxRecDepth 100000 in
theorem AO.set {p : Int} (ao : AO A) (hw : WO (sRk (aSt A)) w) : AO (aSet A p w) := ao.wi (ao.1.reg hw _) ao.his
set_option maxRecDepth 100000 in
theorem AO.store {p : Int} {n : Nat} (ao : AO A) (hw : LW (sRk (aSt A)) w) : AO (o_store A p w n).2.2 := by
  unfold o_store
  split
  · exact ao.set (hw.wo (by assumption))
  · exact ao
set_option maxRecDepth 100000 in
theorem AO.win {l : List Nat} (ao : AO A) (hl : ∀ b ∈ l, b < 256) : AO (aWin A l) := ⟨ao.1, ao.2.1, ao.2.2.1, hl⟩
set_option maxRecDepth 100000 in
theorem AO.wfm (ao : AO A) : AO (aWfm A l) := ao
set_option maxRecDepth 100000 in
theorem AO.in8 (ao : AO A) {r : Int} (hr : inR8 r) : ∀ c ∈ reg A r, c < 2 * sRk (aSt A) := (ao.rr hr).2.2
set_option maxRecDepth 100000 in
theorem AO.inv (ao : AO A) (h : ∀ c ∈ l, c < 2 * sRk (aSt A)) : ∀ c ∈ invw l, c < 2 * sRk (aSt A) := invw_all ao.1.1.2 h
set_option maxRecDepth 100000 in
theorem ao_setProduct {p r s : Int} (ao : AO A) : AO (o_setProduct A p r s).2.2 := by
  unfold o_setProduct
  repeat' split
  all_goals first | exact ao | skip
  exact ao.store ((LW.nil.pws (ao.in8 (by assumption))).pws (ao.in8 (by assumption)))
set_option maxRecDepth 100000 in
theorem ao_setConjugate {p r s : Int} (ao : AO A) : AO (o_setConjugate A p r s).2.2 := by
  unfold o_setConjugate
  repeat' split
  all_goals first | exact ao | skip
  exact ao.store (((LW.nil.pws (ao.inv (ao.in8 (by assumption)))).pws (ao.in8 (by assumption))).pws (ao.in8 (by assumption)))
set_option maxRecDepth 100000 in
theorem ao_setCommutator {p r s : Int} (ao : AO A) : AO (o_setCommutator A p r s).2.2 := by
  unfold o_setCommutator comw
  repeat' split
  all_goals first | exact ao | skip
  exact ao.store ((((LW.nil.pws (ao.inv (ao.in8 (by assumption)))).pws (ao.inv (ao.in8 (by assumption)))).pws (ao.in8 (by assumption))).pws (ao.in8 (by assumption)))
set_option maxRecDepth 100000 in
theorem ao_setInverse {p r : Int} (ao : AO A) : AO (o_setInverse A p r).2.2 := by
  unfold o_setInverse
  repeat' split
  all_goals first | exact ao | skip
  exact ao.store (LW.nil.pws (ao.inv (ao.in8 (by assumption))))
set_option maxRecDepth 100000 in
theorem LW.pwn (h : ∀ c ∈ w, c < 2 * k) : ∀ n, LW k (pwn w n) := by
  intro n
  induction n with
  | zero => exact LW.nil
  | succ n ih => exact ih.pws h
set_option maxRecDepth 100000 in
theorem ao_setPower {p r e : Int} (ao : AO A) : AO (o_setPower A p r e).2.2 := by
  unfold o_setPower
  repeat' split
  all_goals first | exact ao | skip
  refine ao.store ?_
  unfold powL
  split
  · exact LW.pwn (ao.in8 (by assumption)) _
  · exact LW.pwn (ao.inv (ao.in8 (by assumption))) _
set_option maxRecDepth 100000 in
theorem LW.rtw (h : LW k l) : LW k (rootW l) := by
  unfold rootW
  exact (LW.nil.pws (fun c hc => h.2 c (List.mem_of_mem_take hc))).pws (fun c hc => h.2 c (List.mem_of_mem_drop hc))
set_option maxRecDepth 100000 in
theorem rootL_cr (l : List Nat) : rootL l ≤ crl l := by
  by_cases h : ∃ r, RootIs l r
  · exact rootL_le h
  · unfold rootL
    rw [dif_neg h]
    exact Nat.zero_le _
set_option maxRecDepth 100000 in
theorem ao_setRoot {p r : Int} (ao : AO A) : AO (o_setRoot A p r).2.2 := by
  unfold o_setRoot
  repeat' split
  all_goals first | exact ao | skip
  rename_i h1 h2 h3
  have hr := ao.rr h2
  refine ao.set (hr.lw.rtw.wo ?_)
  have a1 := rootL_cr (reg A r)
  have a2 := cs_le (reg A r)
  have a3 := hr.2.1
  have a4 := pws_len ((reg A r).drop ((reg A r).length - cs (reg A r))) (pws [] ((reg A r).take (cs (reg A r) + rootL (reg A r))))
  have a5 := pws_len ((reg A r).take (cs (reg A r) + rootL (reg A r))) []
  rw [List.length_drop] at a4
  rw [List.length_take] at a5
  have e : ([] : List Nat).length = 0 := rfl
  unfold crl at a1
  unfold rootW
  omega
set_option maxRecDepth 100000 in
theorem ao_substitute {p r t s : Int} (ao : AO A) : AO (o_substitute A p r t s).2.2 := by
  unfold o_substitute
  repeat' split
  all_goals first | exact ao | skip
  rename_i h1 h2 h3 h4
  refine ao.store ?_
  have hs := ao.in8 h4
  have : ∀ (u : List Nat) (a : List Nat), LW (sRk (aSt A)) a → (∀ c ∈ u, c < 2 * sRk (aSt A)) → LW (sRk (aSt A)) (u.foldl (fun a c => pws a (sbx t.toNat (reg A s) c)) a) := by
    intro u
    induction u with
    | nil => exact fun a ha _ => ha
    | cons c u ih =>
      intro a ha hu
      refine ih _ (ha.pws ?_) (fun d hd => hu d (List.mem_cons_of_mem _ hd))
      unfold sbx
      split
      · split
        · exact ao.inv hs
        · exact hs
      · intro d hd
        rw [List.mem_singleton.mp hd]
        exact hu c List.mem_cons_self
  exact this _ [] LW.nil (ao.in8 h2)
set_option maxRecDepth 100000 in
theorem ao_addGeneratingWord {g r : Int} (ao : AO A) : AO (o_addGeneratingWord A g r).2.2 := by
  unfold o_addGeneratingWord
  repeat' split
  all_goals first | exact ao | skip
  rename_i h1 h2 h3
  obtain ⟨a1, a2⟩ := ao.1.2.2 g.toNat (by omega)
  refine ao.wi (ao.1.gen (by rw [List.length_append]; show _ + 1 ≤ 6; omega) (fun w hw => ?_)) ao.his
  rcases List.mem_append.mp hw with z | z
  · exact a2 w z
  · rw [List.mem_singleton.mp z]; exact ao.rr h2
set_option maxRecDepth 100000 in
theorem ao_removeGeneratingWord {g k : Int} (ao : AO A) : AO (o_removeGeneratingWord A g k).2.2 := by
  unfold o_removeGeneratingWord
  repeat' split
  all_goals first | exact ao | skip
  rename_i h1 h2
  obtain ⟨a1, a2⟩ := ao.1.2.2 g.toNat (by omega)
  refine ao.wi (ao.1.gen ?_ (fun w hw => a2 w (List.mem_of_mem_eraseIdx hw))) ao.his
  rw [List.length_eraseIdx_of_lt (by omega)]
  omega
set_option maxRecDepth 100000 in
theorem ao_undo (ao : AO A) : AO (o_undo A).2.2 := by
  unfold o_undo
  have h := ao.2.1
  split
  · exact ao
  · rename_i z hi hA
    rw [hA] at h
    exact ao.wi (h z List.mem_cons_self) (fun u hu => h u (List.mem_cons_of_mem _ hu))
set_option maxRecDepth 100000 in
theorem ao_save (ao : AO A) : AO (o_save A).2.2 := ⟨ao.1, ao.2.1, fun t ht => by rw [← Option.some.inj ht]; exact ao.1, ao.2.2.2⟩
set_option maxRecDepth 100000 in
theorem ao_restore (ao : AO A) : AO (o_restore A).2.2 := by
  unfold o_restore
  split
  · exact ao
  · rename_i t hA
    exact ao.wi (ao.2.2.1 t hA) ao.his
set_option maxRecDepth 100000 in
theorem byts_lt (v : Int) : ∀ b ∈ byts v, b < 256 := by
  intro b hb
  unfold byts at hb
  simp only [List.mem_cons, List.not_mem_nil, or_false] at hb
  rcases hb with e | e | e | e <;> rw [e] <;> exact byt_lt _ _
set_option maxRecDepth 100000 in
theorem ao_append {v0 v1 v2 v3 v4 : Int} (ao : AO A) : AO (o_append A v0 v1 v2 v3 v4).2.2 := by
  unfold o_append
  split
  · refine ao.win (fun b hb => ?_)
    simp only [List.mem_append] at hb
    rcases hb with ((((h | h) | h) | h) | h) | h
    · exact ao.2.2.2 b h
    all_goals exact byts_lt _ b h
  · exact ao
set_option maxRecDepth 100000 in
theorem ao_truncate {n : Int} (ao : AO A) : AO (o_truncate A n).2.2 := by
  unfold o_truncate
  split
  · exact ao.win (fun b hb => ao.2.2.2 b (List.mem_of_mem_take hb))
  · exact ao
set_option maxRecDepth 100000 in
theorem ao_setRegister {p : Int} (ao : AO A) : AO (o_setRegister A p).2.2 := by
  unfold o_setRegister
  split
  · split
    · rename_i hok
      split
      · rename_i hl
        have hw : LW (sRk (aSt A)) (inw A) := LW.nil.pws (fun c hc => by
          obtain ⟨b, hb, rfl⟩ := List.mem_map.mp hc
          have := hok b hb
          have := @cob_lt b (sRk (aSt A))
          omega)
        exact ⟨(ao.set (p := p) (hw.wo hl)).1, (ao.set (p := p) (hw.wo hl)).2.1, ao.2.2.1, fun b hb => by cases hb⟩
      · exact ao
    · exact ao
  · exact ao
section PARSED
variable {tx : Nat → Nat} {n : Nat} {z : ST}
set_option maxRecDepth 100000 in
theorem itm1_lw {t : Nat × Nat × Nat} {w w' : List Nat} (h : itm1 tx k t w = .inr w') (hw : LW k w) (hl : w.length ≤ 60) : LW k w' ∧ w'.length ≤ 60 := by
  unfold itm1 at h
  split at h
  · split at h
    · rw [← Sum.inr.inj h]; exact ⟨hw, hl⟩
    · cases h
  · split at h
    · cases h
    · split at h
      · cases h
      · rename_i ht
        split at h
        · cases h
        · rw [← Sum.inr.inj h]
          refine ⟨hw.pws (fun c hc => ?_), by omega⟩
          unfold tcds at hc
          obtain ⟨i, hi, rfl⟩ := List.mem_map.mp hc
          have h1 : tokl tx k t = true := by
            cases e : tokl tx k t with
            | true => rfl
            | false => exact absurd e ht
          unfold tokl at h1
          have h2 := of_decide_eq_true (List.all_eq_true.mp h1 i hi)
          have := @cob_lt (tx (t.2.1 + i)) k
          omega
set_option maxRecDepth 100000 in
theorem itm_lw : ∀ f (t : Nat × Nat × Nat) (w w' : List Nat) (t' : Nat × Nat × Nat), itm tx n k f t w = .inr (w', t') → LW k w → w.length ≤ 60 → LW k w' ∧ w'.length ≤ 60 := by
  intro f
  induction f with
  | zero => intro t w w' t' h; cases h
  | succ f ih =>
    intro t w w' t' h hw hl
    unfold itm at h
    split at h
    · have := Sum.inr.inj h
      rw [← (Prod.mk.inj this).1]; exact ⟨hw, hl⟩
    · split at h
      · cases h
      · rename_i w2 h2
        obtain ⟨g1, g2⟩ := itm1_lw h2 hw hl
        exact ih _ _ _ _ h g1 g2
set_option maxRecDepth 100000 in
theorem stmS_so {z' : ST} {t t' : Nat × Nat × Nat} (h : stmS tx n z t = .inr (z', t')) (hz : SO z) : SO z' := by
  unfold stmS at h
  split at h
  · cases h
  · split at h
    · cases h
    · split at h
      · cases h
      · rename_i w h2
        split at h
        · cases h
        · rename_i w2 t2 h3
          have := (Prod.mk.inj (Sum.inr.inj h)).1
          rw [← this]
          obtain ⟨g1, g2⟩ := itm1_lw h2 LW.nil (Nat.zero_le _)
          obtain ⟨g3, g4⟩ := itm_lw _ _ _ _ _ h3 g1 g2
          exact hz.reg (g3.wo g4) _
set_option maxRecDepth 100000 in
theorem stmJ_so {z' : ST} {t t' : Nat × Nat × Nat} (h : stmJ tx n z t = .inr (z', t')) (hz : SO z) : SO z' := by
  unfold stmJ at h
  split at h
  · cases h
  · split at h
    · cases h
    · split at h
      · cases h
      · split at h
        · cases h
        · split at h
          · cases h
          · split at h
            · cases h
            · have := (Prod.mk.inj (Sum.inr.inj h)).1
              rw [← this]
              obtain ⟨a1, a2⟩ := hz.2.2 (tnum tx t) (by omega)
              refine hz.gen (by rw [List.length_append]; show _ + 1 ≤ 6; omega) (fun w hw => ?_)
              rcases List.mem_append.mp hw with e | e
              · exact a2 w e
              · rw [List.mem_singleton.mp e]; exact hz.2.1 _ (by omega)
set_option maxRecDepth 100000 in
theorem prs_so : ∀ f (t : Nat × Nat × Nat) (z z' : ST), prs tx n f t z = .inr z' → SO z → SO z' := by
  intro f
  induction f with
  | zero => intro t z z' h; cases h
  | succ f ih =>
    intro t z z' h hz
    unfold prs at h
    split at h
    · rw [← Sum.inr.inj h]; exact hz
    · split at h
      · cases h
      · rename_i x' t' h2
        refine ih _ _ _ h ?_
        unfold stm at h2
        split at h2
        · exact stmS_so h2 hz
        · split at h2
          · exact stmJ_so h2 hz
          · cases h2
set_option maxRecDepth 100000 in
theorem prAll_so {z' : ST} (h : prAll tx n = .inr z') : SO z' := by
  unfold prAll at h
  split at h
  · cases h
  · rename_i r t h2
    refine prs_so _ _ _ _ h ⟨?_, fun k hk => ⟨red_nil, Nat.zero_le _, fun c hc => by cases hc⟩, fun g hg => ⟨Nat.zero_le _, fun w hw => by cases hw⟩⟩
    unfold prRank at h2
    split at h2
    · cases h2
    · split at h2
      · cases h2
      · split at h2
        · cases h2
        · split at h2
          · cases h2
          · have := (Prod.mk.inj (Sum.inr.inj h2)).1
            show 1 ≤ r ∧ r ≤ 4
            omega
end PARSED
set_option maxRecDepth 100000 in
theorem ao_load (ao : AO A) : AO (o_load A).2.2 := by
  unfold o_load
  split
  · refine ⟨ao.1, ao.2.1, ao.2.2.1, ?_⟩
    intro b hb
    change b ∈ ([] : List Nat) at hb
    cases hb
  · rename_i t h
    refine ⟨prAll_so h, ?_, ?_, ?_⟩
    · intro u hu
      change u ∈ ([] : List ST) at hu
      cases hu
    · intro u hu
      change (none : Option ST) = some u at hu
      cases hu
    · intro b hb
      change b ∈ ([] : List Nat) at hb
      cases hb
end FRAMES
