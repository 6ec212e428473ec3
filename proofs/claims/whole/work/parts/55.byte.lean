/-! bytes with their signs -/
set_option maxRecDepth 100000 in
theorem byt_nat (v s : Int) : byt v s = (iI (shb v s)).toBitVec.toNat % 256 := by
  have e : (iI (shb v s) &&& iI 255).toBitVec = (iI (shb v s)).toBitVec &&& 255#32 := rfl
  have h := and255 (iI (shb v s))
  have h1 : (iI (shb v s) &&& iI 255).toBitVec.toNat = (iI (shb v s)).toBitVec.toNat % 256 := by
    rw [e, BitVec.toNat_and]
    exact Nat.and_two_pow_sub_one_eq_mod _ 8
  have h2 : (iI (shb v s) &&& iI 255).toInt = ((iI (shb v s) &&& iI 255).toBitVec.toNat : Int) := by
    show (iI (shb v s) &&& iI 255).toBitVec.toInt = _
    exact BitVec.toInt_eq_toNat_of_lt (by omega)
  unfold byt byI
  omega
set_option maxRecDepth 100000 in
theorem sx8 (c : BitVec 32) : ((c.signExtend 8).signExtend 32).toInt = sgn (c.toNat % 256) := by
  rw [BitVec.toInt_signExtend_of_le (by decide), BitVec.signExtend_eq_setWidth_of_le _ (by decide), BitVec.toInt_eq_toNat_cond, BitVec.toNat_setWidth]
  unfold sgn
  have e : (2 : Nat) ^ 8 = 256 := by decide
  rw [e]
  by_cases q : c.toNat % 256 < 128
  · rw [if_pos (by omega), if_pos q]
  · rw [if_neg (by omega), if_neg q]
    rfl
set_option maxRecDepth 100000 in
theorem sar8 (b t : BitVec 32) (ht : t.toNat ≤ 24) : (b.sshiftRight' t).toNat % 256 = (b >>> t).toNat % 256 := by
  have e : (b.sshiftRight' t).setWidth 8 = (b >>> t).setWidth 8 := by
    apply BitVec.eq_of_getLsbD_eq
    intro i hi
    rw [BitVec.getLsbD_setWidth, BitVec.getLsbD_setWidth, BitVec.getLsbD_sshiftRight', BitVec.ushiftRight_eq', BitVec.getLsbD_ushiftRight]
    have h32 : ¬ 32 ≤ i := by omega
    rw [if_pos (by omega), decide_eq_false h32]
    rfl
  have := congrArg BitVec.toNat e
  rw [BitVec.toNat_setWidth, BitVec.toNat_setWidth] at this
  exact this
set_option maxRecDepth 100000 in
theorem sgn_in {b : Nat} (h : b < 256) : -128 ≤ sgn b ∧ sgn b < 128 := by
  unfold sgn
  split <;> omega
set_option maxRecDepth 100000 in
theorem byt_s (v s : Int) (hs : s = 24 ∨ s = 16 ∨ s = 8 ∨ s = 0) : (iI v >>> (iI s &&& 31)).toInt8.toInt32 = iI (sgn (byt v s)) := by
  have hb := sgn_in (byt_lt v s)
  apply Int32.toInt_inj.mp
  rw [iI_toInt (by unfold InR; omega), byt_nat]
  have e1 : iI (shb v s) = ((iI v).toUInt32 >>> ((iI s).toUInt32 &&& Int32.toUInt32 31)).toInt32 := iI_of _
  rw [e1]
  show (((iI v >>> (iI s &&& 31)).toBitVec.signExtend 8).signExtend 32).toInt = _
  rw [sx8]
  congr 1
  rcases hs with e | e | e | e <;> subst e
  · exact sar8 (iI v).toBitVec 24#32 (by decide)
  · exact sar8 (iI v).toBitVec 16#32 (by decide)
  · exact sar8 (iI v).toBitVec 8#32 (by decide)
  · exact sar8 (iI v).toBitVec 0#32 (by decide)
set_option maxRecDepth 100000 in
theorem nb8 : ∀ b, b < 256 → narrow .byte (.int (iI (sgn b))) = .int (iI (sgn b)) := by decide +kernel
