/-! the reference: pairs of vertices -/
def IVr (σ : HS) (y : Nat) (S : Nat → Nat → Option Nat) (L : List Nat) (m : Nat) : Prop := (∀ p, p < 130321 → zI σ (y + 17) p = if p ∈ L then 1 else 0) ∧ (∀ (i p : Nat), L[i]? = some p → zI σ (y + 16) i = (p : Int)) ∧ zO σ y 30 = (L.length : Int) ∧ zO σ y 31 = (pecn S L m : Int)
section RINT
variable {Γ : GG} {σ : HS} {Q : Res → HS → Prop} {y : Nat} {A : AA} {G H : GT}
set_option maxRecDepth 100000 in
theorem r_pairs (h : RK σ y) (hG : RG σ y 0 G) (hH : RG σ y 1 H) (oG : GOK G) (oH : GOK H) (hQ : ∀ σ', zO σ' y 30 = ((ixF G H).length : Int) → zO σ' y 31 = (ixE G H : Int) → Mr σ σ' y [30, 31] [16, 17] → Q (.inl none) σ') : zW Γ mX10_intersects 10 [some (vR (some y)), none, none, none, none, none] [] σ 0 0 Q := by
  have hin := pS_in (B := 361) oG oH (by have := oH.2.1; omega)
  have v1 := oG.2.1
  have v2 := oH.2.1
  have hlen : ∀ k, (fnd (pS 361 G H) 0 k).length ≤ 130321 := fun k => nds_len 130321 _ (fnd_nd _ _ k) (fun x hx => by
    have := hin k x hx
    omega)
  have ga : ∀ {σ1}, Mr σ σ1 y [30, 31] [16, 17] → RK σ1 y ∧ RG σ1 y 0 G ∧ RG σ1 y 1 H := fun m => ⟨h.mr m, hG.mr m, hH.mr m⟩
  have loop : ∀ N i σ1 z2 z3 z4 z5, i + N = 130322 → i ≤ (fnd (pS 361 G H) 0 (8 * i)).length → IVr σ1 y (pS 361 G H) (fnd (pS 361 G H) 0 (8 * i)) (4 * i) → Mr σ σ1 y [30, 31] [16, 17] → zW Γ mX10_intersects 57 [some (vR (some y)), some (vI i), z2, z3, z4, z5] [] σ1 0 0 Q := by
    intro N
    induction N with
    | zero =>
      intro i σ1 z2 z3 z4 z5 hi hil hN m1
      have := hlen (8 * i)
      omega
    | succ N ih =>
      intro i σ1 z2 z3 z4 z5 hi hil hN m1
      obtain ⟨k1, hA, hB⟩ := ga m1
      have hl9 := hlen (8 * i)
      refine zW_iload_n dX10_intersects_57 rfl ?_
      refine zW_aload_n dX10_intersects_58 rfl ?_
      refine zgI dX10_intersects_59 fX10_200 k1.1 rfl hN.2.2.1 ?_
      refine zW_icmp_ge (tgt := 202) dX10_intersects_62 (by decide) (by first | assumption | omega | (unfold InR; omega) | (unfold InL; omega) | (simp only [InR] at *; omega)) (by first | assumption | omega | (unfold InR; omega) | (unfold InL; omega) | (simp only [InR] at *; omega)) (fun q => ?_) (fun q => ?_)
      · refine zW_return dX10_intersects_202 rfl (by first | decide | (show _ ≤ (0 : Nat); omega)) (by first | decide | (show _ ≤ (0 : Nat); omega)) ?_
        have e : i = (fnd (pS 361 G H) 0 (8 * i)).length := by omega
        generalize hF : fnd (pS 361 G H) 0 (8 * i) = F at *
        rw [e] at hF hN
        obtain ⟨f1, f2⟩ := full_w oG oH (F := F) hF
        exact hQ σ1 (by rw [hN.2.2.1, f1]) (by rw [hN.2.2.2, f2]) m1
      · have hp : (fnd (pS 361 G H) 0 (8 * i))[i]? = some (fnd (pS 361 G H) 0 (8 * i))[i] := List.getElem?_eq_getElem (by omega)
        generalize (fnd (pS 361 G H) 0 (8 * i))[i] = p at hp
        obtain ⟨p1, p2⟩ := hin _ p (List.mem_of_getElem? hp)
        have i1 : (p : Int) / 361 = ((p / 361 : Nat) : Int) := by omega
        have i2 : (p : Int) % 361 = ((p % 361 : Nat) : Int) := by omega
        have inner : ∀ M c σ2 z3 z4 z5, c + M = 8 → IVr σ2 y (pS 361 G H) (fnd (pS 361 G H) 0 (8 * i + c)) (4 * i + (c + 1) / 2) → Mr σ σ2 y [30, 31] [16, 17] → zW Γ mX10_intersects 67 [some (vR (some y)), some (vI i), some (vI c), z3, z4, z5] [] σ2 0 0 Q := by
          intro M
          induction M with
          | zero =>
            intro c σ2 z3 z4 z5 hc hN2 m2
            have e8 : c = 8 := by omega
            subst e8
            refine zW_iload_n dX10_intersects_67 rfl ?_
            refine zW_bipush dX10_intersects_68 (by decide) ?_
            refine zW_icmp_ge (tgt := 196) dX10_intersects_70 (by decide) (by first | assumption | omega | (unfold InR; omega) | (unfold InL; omega) | (simp only [InR] at *; omega)) (by first | assumption | omega | (unfold InR; omega) | (unfold InL; omega) | (simp only [InR] at *; omega)) (fun q3 => ?_) (fun q3 => ?_)
            · refine zW_iinc dX10_intersects_196 rfl (by decide) rfl rfl ?_
              refine zW_goto (tgt := 57) dX10_intersects_199 (by decide) ?_
              have e1 : 8 * i + 8 = 8 * (i + 1) := by omega
              have e2 : 4 * i + (8 + 1) / 2 = 4 * (i + 1) := by omega
              rw [e1, e2] at hN2
              refine ih (i + 1) σ2 _ _ _ _ (by omega) ?_ hN2 m2
              have := fnd_len (S := pS 361 G H) (r := 0) (show 8 * i ≤ 8 * (i + 1) by omega)
              omega
            · exact absurd q3 (by omega)
          | succ M ih2 =>
            intro c σ2 z3 z4 z5 hc hN2 m2
            have hc8 : c < 8 := by omega
            have t1 := oG.2.2.1 (p / 361) c p1 hc8
            have t2 := oH.2.2.1 (p % 361) c p2 hc8
            have hpc := fnd_at (show 8 * i ≤ 8 * i + c by omega) hp
            have d1 : (8 * i + c) / 8 = i := by omega
            have d2 : (8 * i + c) % 8 = c := by omega
            have hlc1 := hlen (8 * i + c + 1)
            have hlc := hlen (8 * i + c)
            have hil2 := fnd_len (S := pS 361 G H) (r := 0) (show 8 * i ≤ 8 * i + c by omega)
            have hs := pecn_succ (pS 361 G H) (fnd (pS 361 G H) 0 (8 * i + c)) (4 * i + (c + 1) / 2)
            obtain ⟨k2, hA2, hB2⟩ := ga m2
            have hrow := hN2.2.1 i p hpc
            have skip : pS 361 G H p c = none → ∀ z4, zW Γ mX10_intersects 190 [some (vR (some y)), some (vI i), some (vI c), some (vI (gt G (p / 361) c)), z4, z5] [] σ2 0 0 Q := by
              intro hno z4
              have e : fnd (pS 361 G H) 0 (8 * i + c + 1) = fnd (pS 361 G H) 0 (8 * i + c) := fstep_none (v := p) (by rw [d1]; exact hpc) (by rw [d2]; exact hno)
              refine zW_iinc dX10_intersects_190 rfl (by decide) rfl rfl ?_
              refine zW_goto (tgt := 67) dX10_intersects_193 (by decide) ?_
              refine ih2 (c + 1) σ2 _ _ _ (by omega) ?_ m2
              show IVr σ2 y (pS 361 G H) (fnd (pS 361 G H) 0 (8 * i + c + 1)) (4 * i + (c + 1 + 1) / 2)
              rw [e]
              refine ⟨hN2.1, hN2.2.1, hN2.2.2.1, ?_⟩
              rcases Nat.mod_two_eq_zero_or_one c with z | z
              · have e1 : (4 * i + (c + 1) / 2) / 4 = i := by omega
                have e2 : 2 * ((4 * i + (c + 1) / 2) % 4) = c := by omega
                have e3 : 4 * i + (c + 1 + 1) / 2 = 4 * i + (c + 1) / 2 + 1 := by omega
                rw [e1, e2, List.getD_eq_getElem?_getD, hpc] at hs
                change _ = _ + (if (pS 361 G H p c).isSome then 1 else 0) at hs
                rw [hno] at hs
                rw [e3, hs]
                exact hN2.2.2.2
              · rw [show (c + 1 + 1) / 2 = (c + 1) / 2 by omega]
                exact hN2.2.2.2
            refine zW_iload_n dX10_intersects_67 rfl ?_
            refine zW_bipush dX10_intersects_68 (by decide) ?_
            refine zW_icmp_ge (tgt := 196) dX10_intersects_70 (by decide) (by first | assumption | omega | (unfold InR; omega) | (unfold InL; omega) | (simp only [InR] at *; omega)) (by first | assumption | omega | (unfold InR; omega) | (unfold InL; omega) | (simp only [InR] at *; omega)) (fun q3 => ?_) (fun q3 => ?_)
            · exact absurd q3 (by omega)
            · refine zW_aload_n dX10_intersects_73 rfl ?_
              refine zW_iconst dX10_intersects_74 ?_
              refine zW_aload_n dX10_intersects_75 rfl ?_
              refine zgP dX10_intersects_76 fX10_60 k2.1 rfl k2.p_pairs ?_
              refine zW_iload_n dX10_intersects_79 rfl ?_
              refine zrI dX10_intersects_80 k2.k_pairs (by first | assumption | omega | (unfold InR; omega) | (unfold InL; omega) | (simp only [InR] at *; omega)) (by first | assumption | omega | (unfold InR; omega) | (unfold InL; omega) | (simp only [InR] at *; omega)) (by first | assumption | omega | (unfold InR; omega) | (unfold InL; omega) | (simp only [InR] at *; omega)) hrow ?_
              refine zW_sipush dX10_intersects_81 (by decide) ?_
              refine zW_idiv dX10_intersects_84 (by first | assumption | omega | (unfold InR; omega) | (unfold InL; omega) | (simp only [InR] at *; omega)) (by first | assumption | omega | (unfold InR; omega) | (unfold InL; omega) | (simp only [InR] at *; omega)) (by first | assumption | omega | (unfold InR; omega) | (unfold InL; omega) | (simp only [InR] at *; omega)) (by first | assumption | omega | (unfold InR; omega) | (unfold InL; omega) | (simp only [InR] at *; omega)) ?_
              refine zW_iload_n dX10_intersects_85 rfl ?_
              rw [i1]
              refine zcV3 dX10_intersects_86 rfl eX10_step b1688 ⟨by decide, by decide, by decide, by decide⟩ rfl k2.1 rfl (by decide) (Nat.le_of_ble_eq_true rfl) (r_step (g := 0) (a := ((p / 361 : Nat) : Int)) k2 hA2 (by omega) oG ⟨by omega, by omega⟩ hc8 ?_)
              rw [gst_n]
              refine zW_istore_n dX10_intersects_89 (by decide) rfl rfl ?_
              refine zW_aload_n dX10_intersects_90 rfl ?_
              refine zW_iconst dX10_intersects_91 ?_
              refine zW_aload_n dX10_intersects_92 rfl ?_
              refine zgP dX10_intersects_93 fX10_60 k2.1 rfl k2.p_pairs ?_
              refine zW_iload_n dX10_intersects_96 rfl ?_
              refine zrI dX10_intersects_97 k2.k_pairs (by first | assumption | omega | (unfold InR; omega) | (unfold InL; omega) | (simp only [InR] at *; omega)) (by first | assumption | omega | (unfold InR; omega) | (unfold InL; omega) | (simp only [InR] at *; omega)) (by first | assumption | omega | (unfold InR; omega) | (unfold InL; omega) | (simp only [InR] at *; omega)) hrow ?_
              refine zW_sipush dX10_intersects_98 (by decide) ?_
              refine zW_irem dX10_intersects_101 (by first | assumption | omega | (unfold InR; omega) | (unfold InL; omega) | (simp only [InR] at *; omega)) (by first | assumption | omega | (unfold InR; omega) | (unfold InL; omega) | (simp only [InR] at *; omega)) (by first | assumption | omega | (unfold InR; omega) | (unfold InL; omega) | (simp only [InR] at *; omega)) (by first | assumption | omega | (unfold InR; omega) | (unfold InL; omega) | (simp only [InR] at *; omega)) ?_
              refine zW_iload_n dX10_intersects_102 rfl ?_
              rw [i2]
              refine zcV3 dX10_intersects_103 rfl eX10_step b1688 ⟨by decide, by decide, by decide, by decide⟩ rfl k2.1 rfl (by decide) (Nat.le_of_ble_eq_true rfl) (r_step (g := 1) (a := ((p % 361 : Nat) : Int)) k2 hB2 (by omega) oH ⟨by omega, by omega⟩ hc8 ?_)
              rw [gst_n]
              refine zW_istore dX10_intersects_106 (by decide) rfl rfl ?_
              refine zW_iload_n dX10_intersects_108 rfl ?_
              refine zW_iconst dX10_intersects_109 ?_
              refine zW_icmp_eq (tgt := 190) dX10_intersects_110 (by decide) (by first | assumption | omega | (unfold InR; omega) | (unfold InL; omega) | (simp only [InR] at *; omega)) (by first | assumption | omega | (unfold InR; omega) | (unfold InL; omega) | (simp only [InR] at *; omega)) (fun q4 => ?_) (fun q4 => ?_)
              · refine skip ?_ _
                unfold pS
                rw [if_neg (fun z => z.2.1 q4)]
              · refine zW_iload dX10_intersects_113 rfl ?_
                refine zW_iconst dX10_intersects_115 ?_
                refine zW_icmp_ne (tgt := 122) dX10_intersects_116 (by decide) (by first | assumption | omega | (unfold InR; omega) | (unfold InL; omega) | (simp only [InR] at *; omega)) (by first | assumption | omega | (unfold InR; omega) | (unfold InL; omega) | (simp only [InR] at *; omega)) (fun q5 => ?_) (fun q5 => ?_)
                · -- both lead on
                  have hsome : pS 361 G H p c = some ((gt G (p / 361) c).toNat * 361 + (gt H (p % 361) c).toNat) := by
                    unfold pS
                    rw [if_pos ⟨hc8, q4, q5⟩]
                  have hw : 361 * gt G (p / 361) c + gt H (p % 361) c = (((gt G (p / 361) c).toNat * 361 + (gt H (p % 361) c).toNat : Nat) : Int) := by omega
                  generalize hwd : (gt G (p / 361) c).toNat * 361 + (gt H (p % 361) c).toNat = w at *
                  have hw9 : w < 130321 := by omega
                  have hst : fnd (pS 361 G H) 0 (8 * i + c + 1) = if w ∈ fnd (pS 361 G H) 0 (8 * i + c) then fnd (pS 361 G H) 0 (8 * i + c) else fnd (pS 361 G H) 0 (8 * i + c) ++ [w] := fstep_some (v := p) (w := w) (by rw [d1]; exact hpc) (by rw [d2]; exact hsome)
                  have go : ∀ σ3, IVr σ3 y (pS 361 G H) (fnd (pS 361 G H) 0 (8 * i + c)) (4 * i + (c + 1 + 1) / 2) → Mr σ σ3 y [30, 31] [16, 17] → 4 * i + (c + 1 + 1) / 2 ≤ 4 * (fnd (pS 361 G H) 0 (8 * i + c)).length → zW Γ mX10_intersects 138 [some (vR (some y)), some (vI i), some (vI c), some (vI (gt G (p / 361) c)), some (vI (gt H (p % 361) c)), z5] [] σ3 0 0 Q := by
                    intro σ3 hN3 m3 hm9
                    obtain ⟨k3, -, -⟩ := ga m3
                    have hin9 := hN3.1 w hw9
                    refine zW_sipush dX10_intersects_138 (by decide) ?_
                    refine zW_iload_n dX10_intersects_141 rfl ?_
                    refine zW_imul dX10_intersects_142 ?_
                    refine zW_iload dX10_intersects_143 rfl ?_
                    refine zW_iadd dX10_intersects_145 ?_
                    rw [hw]
                    by_cases hmem : w ∈ fnd (pS 361 G H) 0 (8 * i + c)
                    · rw [if_pos hmem] at hst hin9
                      refine zW_istore dX10_intersects_146 (by decide) rfl rfl ?_
                      refine zW_aload_n dX10_intersects_148 rfl ?_
                      refine zgP dX10_intersects_149 fX10_63 k3.1 rfl k3.p_isPair ?_
                      refine zW_iload dX10_intersects_152 rfl ?_
                      refine zrZ dX10_intersects_154 k3.k_isPair (by first | assumption | omega | (unfold InR; omega) | (unfold InL; omega) | (simp only [InR] at *; omega)) (by first | assumption | omega | (unfold InR; omega) | (unfold InL; omega) | (simp only [InR] at *; omega)) (by first | assumption | omega | (unfold InR; omega) | (unfold InL; omega) | (simp only [InR] at *; omega)) hin9 ?_
                      refine zW_if_eq (tgt := 161) dX10_intersects_155 (by decide) (by first | assumption | omega | (unfold InR; omega) | (unfold InL; omega) | (simp only [InR] at *; omega)) (fun q6 => ?_) (fun q6 => ?_)
                      · exact absurd q6 (by decide)
                      · refine zW_goto (tgt := 190) dX10_intersects_158 (by decide) ?_
                        refine zW_iinc dX10_intersects_190 rfl (by decide) rfl rfl ?_
                        refine zW_goto (tgt := 67) dX10_intersects_193 (by decide) ?_
                        refine ih2 (c + 1) σ3 _ _ _ (by omega) ?_ m3
                        show IVr σ3 y (pS 361 G H) (fnd (pS 361 G H) 0 (8 * i + c + 1)) (4 * i + (c + 1 + 1) / 2)
                        rw [hst]
                        exact hN3
                    · rw [if_neg hmem] at hst hin9
                      rw [hst, List.length_append, List.length_singleton] at hlc1
                      refine zW_istore dX10_intersects_146 (by decide) rfl rfl ?_
                      refine zW_aload_n dX10_intersects_148 rfl ?_
                      refine zgP dX10_intersects_149 fX10_63 k3.1 rfl k3.p_isPair ?_
                      refine zW_iload dX10_intersects_152 rfl ?_
                      refine zrZ dX10_intersects_154 k3.k_isPair (by first | assumption | omega | (unfold InR; omega) | (unfold InL; omega) | (simp only [InR] at *; omega)) (by first | assumption | omega | (unfold InR; omega) | (unfold InL; omega) | (simp only [InR] at *; omega)) (by first | assumption | omega | (unfold InR; omega) | (unfold InL; omega) | (simp only [InR] at *; omega)) hin9 ?_
                      refine zW_if_eq (tgt := 161) dX10_intersects_155 (by decide) (by first | assumption | omega | (unfold InR; omega) | (unfold InL; omega) | (simp only [InR] at *; omega)) (fun q6 => ?_) (fun q6 => ?_)
                      · refine zW_aload_n dX10_intersects_161 rfl ?_
                        refine zgP dX10_intersects_162 fX10_63 k3.1 rfl k3.p_isPair ?_
                        refine zW_iload dX10_intersects_165 rfl ?_
                        refine zW_iconst dX10_intersects_167 ?_
                        refine zW_zast dX10_intersects_168 k3.k_isPair (by first | assumption | omega | (unfold InR; omega) | (unfold InL; omega) | (simp only [InR] at *; omega)) (by first | assumption | omega | (unfold InR; omega) | (unfold InL; omega) | (simp only [InR] at *; omega)) (by first | assumption | omega | (unfold InR; omega) | (unfold InL; omega) | (simp only [InR] at *; omega)) rfl ?_
                        refine zW_aload_n dX10_intersects_169 rfl ?_
                        refine zgP dX10_intersects_170 fX10_60 k3.1 rfl k3.p_pairs ?_
                        refine zW_aload_n dX10_intersects_173 rfl ?_
                        refine zgI dX10_intersects_174 fX10_200 k3.1 rfl hN3.2.2.1 ?_
                        refine zW_iload dX10_intersects_177 rfl ?_
                        refine zW_iast dX10_intersects_179 k3.k_pairs (by first | assumption | omega | (unfold InR; omega) | (unfold InL; omega) | (simp only [InR] at *; omega)) (by first | assumption | omega | (unfold InR; omega) | (unfold InL; omega) | (simp only [InR] at *; omega)) (by first | assumption | omega | (unfold InR; omega) | (unfold InL; omega) | (simp only [InR] at *; omega)) ?_
                        refine zW_aload_n dX10_intersects_180 rfl ?_
                        refine zW_dup dX10_intersects_181 rfl ?_
                        refine zgI dX10_intersects_182 fX10_200 k3.1 rfl hN3.2.2.1 ?_
                        refine zW_iconst dX10_intersects_185 ?_
                        refine zW_iadd dX10_intersects_186 ?_
                        refine zpI dX10_intersects_187 fX10_200 k3.1 rfl (Or.inl rfl) (zst_int _) ?_
                        refine zW_iinc dX10_intersects_190 rfl (by decide) rfl rfl ?_
                        refine zW_goto (tgt := 67) dX10_intersects_193 (by decide) ?_
                        have j1 : ((w : Int)).toNat = w := by omega
                        have j2 : (((fnd (pS 361 G H) 0 (8 * i + c)).length : Int)).toNat = (fnd (pS 361 G H) 0 (8 * i + c)).length := by omega
                        rw [j1, j2]
                        obtain ⟨n1, n2, n3, n4⟩ := hN3
                        refine ih2 (c + 1) _ _ _ _ (by omega) ?_ (m3.tr (((Mr.I (by decide)).tr (Mr.I (by decide))).tr (Mr.O (by decide))))
                        show IVr _ y (pS 361 G H) (fnd (pS 361 G H) 0 (8 * i + c + 1)) (4 * i + (c + 1 + 1) / 2)
                        rw [hst]
                        refine ⟨fun r hr => ?_, fun j r hj => ?_, ?_, ?_⟩
                        · rw [zI_sO, zI_sIa _ _ _ _ (by omega), zI_sI]
                          by_cases e : r = w
                          · rw [if_pos ⟨rfl, e⟩, if_pos (by rw [e]; exact List.mem_append_right _ List.mem_cons_self)]
                          · rw [if_neg (fun z => e z.2), n1 r hr]
                            by_cases e2 : r ∈ fnd (pS 361 G H) 0 (8 * i + c)
                            · rw [if_pos e2, if_pos (List.mem_append_left _ e2)]
                            · rw [if_neg e2, if_neg (fun z => (List.mem_append.mp z).elim e2 (fun z => e (List.mem_singleton.mp z)))]
                        · have hjl := (List.getElem?_eq_some_iff.mp hj).1
                          rw [List.length_append, List.length_singleton] at hjl
                          rw [zI_sO]
                          by_cases e : j = (fnd (pS 361 G H) 0 (8 * i + c)).length
                          · rw [e, List.getElem?_append_right (Nat.le_refl _), Nat.sub_self] at hj
                            have e2 : w = r := by simpa using hj
                            rw [e, zI_sIs, e2]
                          · rw [List.getElem?_append_left (by omega)] at hj
                            rw [zI_sIk _ _ _ _ e, zI_sIa _ _ _ _ (by omega)]
                            exact n2 j r hj
                        · rw [zO_sOs, List.length_append, List.length_singleton]
                          rfl
                        · rw [zO_sOk _ _ _ _ (by omega), pecn_app _ _ _ _ hm9]
                          exact n4
                      · exact absurd rfl q6
                  have hlx : i < (fnd (pS 361 G H) 0 (8 * i + c)).length := by omega
                  refine zW_iload_n dX10_intersects_122 rfl ?_
                  refine zW_iconst dX10_intersects_123 ?_
                  refine zW_irem dX10_intersects_124 (by first | assumption | omega | (unfold InR; omega) | (unfold InL; omega) | (simp only [InR] at *; omega)) (by first | assumption | omega | (unfold InR; omega) | (unfold InL; omega) | (simp only [InR] at *; omega)) (by first | assumption | omega | (unfold InR; omega) | (unfold InL; omega) | (simp only [InR] at *; omega)) (by first | assumption | omega | (unfold InR; omega) | (unfold InL; omega) | (simp only [InR] at *; omega)) ?_
                  refine zW_if_ne (tgt := 138) dX10_intersects_125 (by decide) (by first | assumption | omega | (unfold InR; omega) | (unfold InL; omega) | (simp only [InR] at *; omega)) (fun q6 => ?_) (fun q6 => ?_)
                  · refine go σ2 ⟨hN2.1, hN2.2.1, hN2.2.2.1, ?_⟩ m2 (by omega)
                    rw [show (c + 1 + 1) / 2 = (c + 1) / 2 by omega]
                    exact hN2.2.2.2
                  · have hE := hN2.2.2.2
                    refine zW_aload_n dX10_intersects_128 rfl ?_
                    refine zW_dup dX10_intersects_129 rfl ?_
                    refine zgI dX10_intersects_130 fX10_203 k2.1 rfl hE ?_
                    refine zW_iconst dX10_intersects_133 ?_
                    refine zW_iadd dX10_intersects_134 ?_
                    refine zpI dX10_intersects_135 fX10_203 k2.1 rfl (Or.inl rfl) (zst_int _) ?_
                    have e1 : (4 * i + (c + 1) / 2) / 4 = i := by omega
                    have e2 : 2 * ((4 * i + (c + 1) / 2) % 4) = c := by omega
                    have e3 : 4 * i + (c + 1 + 1) / 2 = 4 * i + (c + 1) / 2 + 1 := by omega
                    rw [e1, e2, List.getD_eq_getElem?_getD, hpc] at hs
                    change _ = _ + (if (pS 361 G H p c).isSome then 1 else 0) at hs
                    rw [hsome] at hs
                    change _ = _ + 1 at hs
                    refine go _ ⟨hN2.1, hN2.2.1, ?_, ?_⟩ (m2.tr (Mr.O (by decide))) (by omega)
                    · rw [zO_sOk _ _ _ _ (by omega)]; exact hN2.2.2.1
                    · rw [zO_sOs, e3, hs]; rfl
                · refine zW_goto (tgt := 190) dX10_intersects_119 (by decide) ?_
                  refine skip ?_ _
                  unfold pS
                  rw [if_neg (fun z => z.2.2 q5)]
        refine zW_iconst dX10_intersects_65 ?_
        refine zW_istore_n dX10_intersects_66 (by decide) rfl rfl ?_
        exact inner 8 0 σ1 _ _ _ rfl hN m1
  have clear : ∀ N k σ1, k + N = 130321 → (∀ p, p < k → zI σ1 (y + 17) p = 0) → Mr σ σ1 y [30, 31] [16, 17] → zW Γ mX10_intersects 12 [some (vR (some y)), some (vI k), none, none, none, none] [] σ1 0 0 Q := by
    intro N
    induction N with
    | zero =>
      intro k σ1 hk hall m1
      obtain ⟨k1, -, -⟩ := ga m1
      refine zW_iload_n dX10_intersects_12 rfl ?_
      refine zW_ldc (z := 130321) dX10_intersects_13 b1246 ?_
      refine zW_icmp_ge (tgt := 31) dX10_intersects_15 (by decide) (by first | assumption | omega | (unfold InR; omega) | (unfold InL; omega) | (simp only [InR] at *; omega)) (by first | assumption | omega | (unfold InR; omega) | (unfold InL; omega) | (simp only [InR] at *; omega)) (fun q => ?_) (fun q => ?_)
      · refine zW_aload_n dX10_intersects_31 rfl ?_
        refine zgP dX10_intersects_32 fX10_60 k1.1 rfl k1.p_pairs ?_
        refine zW_iconst dX10_intersects_35 ?_
        refine zW_iconst dX10_intersects_36 ?_
        refine zW_iast dX10_intersects_37 k1.k_pairs (by first | assumption | omega | (unfold InR; omega) | (unfold InL; omega) | (simp only [InR] at *; omega)) (by first | assumption | omega | (unfold InR; omega) | (unfold InL; omega) | (simp only [InR] at *; omega)) (by first | assumption | omega | (unfold InR; omega) | (unfold InL; omega) | (simp only [InR] at *; omega)) ?_
        refine zW_aload_n dX10_intersects_38 rfl ?_
        refine zgP dX10_intersects_39 fX10_63 k1.1 rfl k1.p_isPair ?_
        refine zW_iconst dX10_intersects_42 ?_
        refine zW_iconst dX10_intersects_43 ?_
        refine zW_zast dX10_intersects_44 k1.k_isPair (by first | assumption | omega | (unfold InR; omega) | (unfold InL; omega) | (simp only [InR] at *; omega)) (by first | assumption | omega | (unfold InR; omega) | (unfold InL; omega) | (simp only [InR] at *; omega)) (by first | assumption | omega | (unfold InR; omega) | (unfold InL; omega) | (simp only [InR] at *; omega)) rfl ?_
        refine zW_aload_n dX10_intersects_45 rfl ?_
        refine zW_iconst dX10_intersects_46 ?_
        refine zpI dX10_intersects_47 fX10_200 k1.1 rfl (Or.inl rfl) (zst_int _) ?_
        refine zW_aload_n dX10_intersects_50 rfl ?_
        refine zW_iconst dX10_intersects_51 ?_
        refine zpI dX10_intersects_52 fX10_203 k1.1 rfl (Or.inl rfl) (zst_int _) ?_
        refine zW_iconst dX10_intersects_55 ?_
        refine zW_istore_n dX10_intersects_56 (by decide) rfl rfl ?_
        have i4 : Int.toNat 0 = 0 := rfl
        rw [i4]
        refine loop 130322 0 _ _ _ _ _ rfl (Nat.zero_le _) ⟨fun p hp => ?_, fun j p hj => ?_, ?_, ?_⟩ (m1.tr ((((Mr.I (by decide)).tr (Mr.I (by decide))).tr (Mr.O (by decide))).tr (Mr.O (by decide))))
        · show zI _ (y + 17) p = if p ∈ [0] then 1 else 0
          rw [zI_sO, zI_sO, zI_sI]
          by_cases e : p = 0
          · rw [if_pos ⟨rfl, e⟩, if_pos (by rw [e]; exact List.mem_cons_self)]
          · rw [if_neg (fun z => e z.2), if_neg (fun z => e (List.mem_singleton.mp z)), zI_sIa _ _ _ _ (by omega)]
            exact hall p (by omega)
        · have hjl := (List.getElem?_eq_some_iff.mp hj).1
          change j < 1 at hjl
          have e : j = 0 := by omega
          subst e
          have e2 : (0 : Nat) = p := Option.some.inj hj
          rw [zI_sO, zI_sO, zI_sIa _ _ _ _ (by omega), zI_sIs, ← e2]
          rfl
        · rw [zO_sOk _ _ _ _ (by omega), zO_sOs]
          rfl
        · rw [zO_sOs]
          rfl
      · exact absurd q (by omega)
    | succ N ih =>
      intro k σ1 hk hall m1
      obtain ⟨k1, -, -⟩ := ga m1
      refine zW_iload_n dX10_intersects_12 rfl ?_
      refine zW_ldc (z := 130321) dX10_intersects_13 b1246 ?_
      refine zW_icmp_ge (tgt := 31) dX10_intersects_15 (by decide) (by first | assumption | omega | (unfold InR; omega) | (unfold InL; omega) | (simp only [InR] at *; omega)) (by first | assumption | omega | (unfold InR; omega) | (unfold InL; omega) | (simp only [InR] at *; omega)) (fun q => ?_) (fun q => ?_)
      · exact absurd q (by omega)
      · refine zW_aload_n dX10_intersects_18 rfl ?_
        refine zgP dX10_intersects_19 fX10_63 k1.1 rfl k1.p_isPair ?_
        refine zW_iload_n dX10_intersects_22 rfl ?_
        refine zW_iconst dX10_intersects_23 ?_
        refine zW_zast dX10_intersects_24 k1.k_isPair (by first | assumption | omega | (unfold InR; omega) | (unfold InL; omega) | (simp only [InR] at *; omega)) (by first | assumption | omega | (unfold InR; omega) | (unfold InL; omega) | (simp only [InR] at *; omega)) (by first | assumption | omega | (unfold InR; omega) | (unfold InL; omega) | (simp only [InR] at *; omega)) rfl ?_
        refine zW_iinc dX10_intersects_25 rfl (by decide) rfl rfl ?_
        refine zW_goto (tgt := 12) dX10_intersects_28 (by decide) ?_
        rw [show ((k : Int)).toNat = k by omega]
        refine ih (k + 1) _ (by omega) (fun p hp => ?_) (m1.tr (Mr.I (by decide)))
        by_cases e : p = k
        · rw [e, zI_sIs]
        · rw [zI_sIk _ _ _ _ e]; exact hall p (by omega)
  refine zW_iconst dX10_intersects_10 ?_
  refine zW_istore_n dX10_intersects_11 (by decide) rfl rfl ?_
  exact clear 130321 0 σ (by omega) (fun p hp => absurd hp (Nat.not_lt_zero p)) Mr.rf
set_option maxRecDepth 100000 in
theorem q_intersects (h : RI σ y A) (hQ : ∀ σ1, RG σ1 y 0 (gr A 0) → RG σ1 y 1 (gr A 1) → IsGr (sGw (aSt A) 0) (gr A 0) → IsGr (sGw (aSt A) 1) (gr A 1) → zO σ1 y 30 = ((ixF (gr A 0) (gr A 1)).length : Int) → zO σ1 y 31 = (ixE (gr A 0) (gr A 1) : Int) → Mr σ σ1 y KS RS → zO σ1 y 0 = zO σ y 0 → Q (.inl none) σ1) : zM Γ mX10_intersects [vR (some y)] σ Q := by
  refine zM_of (n := 5) (by decide +kernel) rfl rfl rfl ?_
  refine zW_aload_n dX10_intersects_0 rfl ?_
  refine zW_iconst dX10_intersects_1 ?_
  refine zcV1 dX10_intersects_2 rfl eX10_makes b1644 ⟨by decide, by decide, by decide, by decide⟩ rfl h.1.1 rfl (by decide) (Nat.le_of_ble_eq_true rfl) (q_makes (f := 0) ⟨by decide, by decide⟩ h (fun σ1 hG hIs h1 m1 hoth => ?_))
  refine zW_aload_n dX10_intersects_5 rfl ?_
  refine zW_iconst dX10_intersects_6 ?_
  refine zcV1 dX10_intersects_7 rfl eX10_makes b1644 ⟨by decide, by decide, by decide, by decide⟩ rfl h1.1.1 rfl (by decide) (Nat.le_of_ble_eq_true rfl) (q_makes (f := 1) ⟨by decide, by decide⟩ h1 (fun σ2 hH hIt h2 m2 hoth2 => ?_))
  have hG2 := hoth2 0 (by omega) (by decide) (gr A 0) (by have := hIs.ok.2.1; omega) hG
  exact r_pairs h2.1 hG2 hH hIs.ok hIt.ok (fun σ3 e1 e2 m3 => hQ σ3 (hG2.mr m3) (hH.mr m3) hIs hIt e1 e2 (((m1.wk (Ks' := KS) (Rs' := RS) (by decide) (by decide)).th m2 (by decide) (by decide)).th m3 (by decide) (by decide)) (by rw [m3.o (by decide), m2.o (by decide), m1.o (by decide)]))
set_option maxRecDepth 100000 in
theorem q_intersectionRank (h : RI σ y A) (hQ : RQ σ y (o_intersectionRank A) Q) : zM Γ mX10_intersectionRank [vR (some y)] σ Q := by
  refine zM_of (n := 0) (by decide +kernel) rfl rfl rfl ?_
  refine zW_aload_n dX10_intersectionRank_0 rfl ?_
  refine zW_iconst dX10_intersectionRank_1 ?_
  refine zpI dX10_intersectionRank_2 fX10_75 h.1.1 rfl (Or.inl rfl) (zst_int _) ?_
  have m0 : Mr σ (sO σ y 0 0) y KS RS := Mr.O (by decide)
  have h0 := h.mr m0
  have t0 : zO (sO σ y 0 0) y 0 = 0 := zO_sOs _ _ _ _
  generalize sO σ y 0 0 = σ0 at m0 h0 t0 ⊢
  have a0 : RA σ0 y 0 := h0.ra
  refine zW_aload_n dX10_intersectionRank_5 rfl ?_
  refine zcV0 dX10_intersectionRank_6 rfl eX10_intersects b1760 ⟨by decide, by decide, by decide, by decide⟩ rfl a0.1.1 rfl (by decide) (Nat.le_of_ble_eq_true rfl) (q_intersects h0 (fun σ1 hG hH hIs hIt e1 e2 m1 t1 => ?_))
  have k1 := a0.1.mr m1
  refine zW_aload_n dX10_intersectionRank_9 rfl ?_
  refine zgI dX10_intersectionRank_10 fX10_203 k1.1 rfl e2 ?_
  refine zW_aload_n dX10_intersectionRank_13 rfl ?_
  refine zgI dX10_intersectionRank_14 fX10_200 k1.1 rfl e1 ?_
  refine zW_isub dX10_intersectionRank_17 ?_
  refine zW_iconst dX10_intersectionRank_18 ?_
  refine zW_iadd dX10_intersectionRank_19 ?_
  refine zW_ireturn dX10_intersectionRank_20 rfl rfl (by first | decide | (show _ ≤ (0 : Nat); omega)) (by first | decide | (show _ ≤ (0 : Nat); omega)) ?_
  exact hQ.ask rfl h (m0.tr m1) (by rw [t1]; exact t0)
set_option maxRecDepth 100000 in
theorem q_intersectionIndex (h : RI σ y A) (ao : AO A) (hQ : RQ σ y (o_intersectionIndex A) Q) : zM Γ mX10_intersectionIndex [vR (some y)] σ Q := by
  refine zM_of (n := 0) (by decide +kernel) rfl rfl rfl ?_
  refine zW_aload_n dX10_intersectionIndex_0 rfl ?_
  refine zW_iconst dX10_intersectionIndex_1 ?_
  refine zpI dX10_intersectionIndex_2 fX10_75 h.1.1 rfl (Or.inl rfl) (zst_int _) ?_
  have m0 : Mr σ (sO σ y 0 0) y KS RS := Mr.O (by decide)
  have h0 := h.mr m0
  have t0 : zO (sO σ y 0 0) y 0 = 0 := zO_sOs _ _ _ _
  generalize sO σ y 0 0 = σ0 at m0 h0 t0 ⊢
  have a0 : RA σ0 y 0 := h0.ra
  refine zW_aload_n dX10_intersectionIndex_5 rfl ?_
  refine zcV0 dX10_intersectionIndex_6 rfl eX10_intersects b1760 ⟨by decide, by decide, by decide, by decide⟩ rfl a0.1.1 rfl (by decide) (Nat.le_of_ble_eq_true rfl) (q_intersects h0 (fun σ1 hG hH hIs hIt e1 e2 m1 t1 => ?_))
  have h1 := h0.mr m1
  have a1 := h1.ra
  have oG := hIs.ok
  have oH := hIt.ok
  have t1' : zO σ1 y 0 = 0 := by rw [t1]; exact t0
  have gl0 := ao.gl (f := 0) ⟨by decide, by decide⟩ hIs
  have gl1 := ao.gl (f := 1) ⟨by decide, by decide⟩ hIt
  have v0 := oG.1
  have v0' := oG.2.1
  have v1 := oH.1
  have v1' := oH.2.1
  have no : ¬ (gcomp (gr A 0) (sRk (aSt A)) ∧ gcomp (gr A 1) (sRk (aSt A))) → zW Γ mX10_intersectionIndex 27 [some (vR (some y))] [] σ1 0 0 Q := by
    intro z
    refine zW_iconst dX10_intersectionIndex_27 ?_
    refine zW_goto (tgt := 35) dX10_intersectionIndex_28 (by decide) ?_
    refine zW_ireturn dX10_intersectionIndex_35 rfl rfl (by first | decide | (show _ ≤ (0 : Nat); omega)) (by first | decide | (show _ ≤ (0 : Nat); omega)) ?_
    exact hQ.ask (by unfold o_intersectionIndex; rw [cif_f z]) h (m0.tr m1) t1'
  refine zW_aload_n dX10_intersectionIndex_9 rfl ?_
  refine zW_iconst dX10_intersectionIndex_10 ?_
  refine zcV1 dX10_intersectionIndex_11 rfl eX10_indexOf b1712 ⟨by decide, by decide, by decide, by decide⟩ rfl a1.1.1 rfl (by decide) (Nat.le_of_ble_eq_true rfl) (r_indexOf (g := 0) a1 h1.rk ao.1.1.1 ao.1.1.2 gl0 hG (by omega) oG ?_)
  by_cases g0 : gcomp (gr A 0) (sRk (aSt A))
  · rw [cif_t g0]
    refine zW_iconst dX10_intersectionIndex_14 ?_
    refine zW_icmp_eq (tgt := 27) dX10_intersectionIndex_15 (by decide) (by first | assumption | omega | (unfold InR; omega) | (unfold InL; omega) | (simp only [InR] at *; omega)) (by first | assumption | omega | (unfold InR; omega) | (unfold InL; omega) | (simp only [InR] at *; omega)) (fun q => ?_) (fun q => ?_)
    · exact absurd q (by omega)
    · refine zW_aload_n dX10_intersectionIndex_18 rfl ?_
      refine zW_iconst dX10_intersectionIndex_19 ?_
      refine zcV1 dX10_intersectionIndex_20 rfl eX10_indexOf b1712 ⟨by decide, by decide, by decide, by decide⟩ rfl a1.1.1 rfl (by decide) (Nat.le_of_ble_eq_true rfl) (r_indexOf (g := 1) a1 h1.rk ao.1.1.1 ao.1.1.2 gl1 hH (by omega) oH ?_)
      by_cases g1 : gcomp (gr A 1) (sRk (aSt A))
      · rw [cif_t g1]
        refine zW_iconst dX10_intersectionIndex_23 ?_
        refine zW_icmp_ne (tgt := 31) dX10_intersectionIndex_24 (by decide) (by first | assumption | omega | (unfold InR; omega) | (unfold InL; omega) | (simp only [InR] at *; omega)) (by first | assumption | omega | (unfold InR; omega) | (unfold InL; omega) | (simp only [InR] at *; omega)) (fun q2 => ?_) (fun q2 => ?_)
        · refine zW_aload_n dX10_intersectionIndex_31 rfl ?_
          refine zgI dX10_intersectionIndex_32 fX10_200 a1.1.1 rfl e1 ?_
          refine zW_ireturn dX10_intersectionIndex_35 rfl rfl (by first | decide | (show _ ≤ (0 : Nat); omega)) (by first | decide | (show _ ≤ (0 : Nat); omega)) ?_
          exact hQ.ask (by unfold o_intersectionIndex; rw [cif_t ⟨g0, g1⟩]) h (m0.tr m1) t1'
        · exact absurd q2 (by omega)
      · rw [cif_f g1]
        refine zW_iconst dX10_intersectionIndex_23 ?_
        refine zW_icmp_ne (tgt := 31) dX10_intersectionIndex_24 (by decide) (by first | assumption | omega | (unfold InR; omega) | (unfold InL; omega) | (simp only [InR] at *; omega)) (by first | assumption | omega | (unfold InR; omega) | (unfold InL; omega) | (simp only [InR] at *; omega)) (fun q2 => ?_) (fun q2 => ?_)
        · exact absurd rfl q2
        · exact no (fun z => g1 z.2)
  · rw [cif_f g0]
    refine zW_iconst dX10_intersectionIndex_14 ?_
    refine zW_icmp_eq (tgt := 27) dX10_intersectionIndex_15 (by decide) (by first | assumption | omega | (unfold InR; omega) | (unfold InL; omega) | (simp only [InR] at *; omega)) (by first | assumption | omega | (unfold InR; omega) | (unfold InL; omega) | (simp only [InR] at *; omega)) (fun q => ?_) (fun q => ?_)
    · exact no (fun z => g0 z.1)
    · exact absurd rfl q
end RINT
