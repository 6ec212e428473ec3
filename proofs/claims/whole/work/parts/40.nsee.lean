/-! the throw of NoSuchElementException -/
set_option maxRecDepth 100000 in
theorem zTok_3 : True := trivial
section NSEE
variable {Γ : GG} {M : MT} {pc : Nat} {lo : List (Option AV)} {st : List AV} {σ : HS} {cu su : Nat} {Q : Res → HS → Prop}
set_option maxRecDepth 100000 in
theorem zW_throwN {tx : String} {ik ic is k : Nat} (T : True) (hE : "java/util/NoSuchElementException" ∈ zExc) (hown9 : (mY M).cls = RX9) (hh : mH M = []) (hk : zStr[k]? = some (RX9, is, tx))
    (d0 : decode (mB M) pc = .ok (.new ik, 3)) (d3 : decode (mB M) (pc + 3) = .ok (.dup, 1)) (d4 : decode (mB M) (pc + 4) = .ok (.ldc is, 2)) (d6 : decode (mB M) (pc + 6) = .ok (.invokespecial ic, 3)) (d9 : decode (mB M) (pc + 9) = .ok (.athrow, 1))
    (hf : 6 ≤ mF M) (hw : zcat st + 82 ≤ mW M) (hc : cu + 1 ≤ mC M) (hs : su + 6 ≤ mS M) (hQ : ∀ n, Q (.inr "java/util/NoSuchElementException") (sN σ n)) : zW Γ M pc lo st σ cu su Q := by
  sorry
set_option maxRecDepth 100000 in
theorem zW_throwNW {tx : String} {ik ic is k : Nat} (T : True) (hE : "java/util/NoSuchElementException" ∈ zExc) (hown9 : (mY M).cls = RX9) (hh : mH M = []) (hk : zStr[k]? = some (RX9, is, tx))
    (d0 : decode (mB M) pc = .ok (.new ik, 3)) (d3 : decode (mB M) (pc + 3) = .ok (.dup, 1)) (d4 : decode (mB M) (pc + 4) = .ok (.ldc_w is, 3)) (d7 : decode (mB M) (pc + 7) = .ok (.invokespecial ic, 3)) (d10 : decode (mB M) (pc + 10) = .ok (.athrow, 1))
    (hf : 6 ≤ mF M) (hw : zcat st + 82 ≤ mW M) (hc : cu + 1 ≤ mC M) (hs : su + 6 ≤ mS M) (hQ : ∀ n, Q (.inr "java/util/NoSuchElementException") (sN σ n)) : zW Γ M pc lo st σ cu su Q := by
  sorry
end NSEE
