/-! Codes as numbers. -/
theorem i_nat {x : Int32} (h : 0 ≤ x.toInt) : x.toInt = (x.toBitVec.toNat : Int) := by
  have e : x.toInt = x.toBitVec.toInt := rfl
  rw [e] at h ⊢
  rw [BitVec.toInt_eq_toNat_cond] at h ⊢
  split
  · rfl
  · rename_i q
    rw [if_neg q] at h
    have := x.toBitVec.isLt
    omega
theorem i_of {x : Int32} {n : Nat} (h : x.toBitVec.toNat = n) (hn : n < 2147483648) : x.toInt = (n : Int) := by
  have e : x.toInt = x.toBitVec.toInt := rfl
  rw [e, BitVec.toInt_eq_toNat_cond, h, if_pos (by omega)]
/-- numbers whose bits do not meet -/
theorem i_or {p q : Int32} {P Q k : Nat} (hp : p.toInt = ((P * 2 ^ k : Nat) : Int)) (hq : q.toInt = (Q : Int)) (hk : Q < 2 ^ k) (hs : P * 2 ^ k + Q < 2147483648) : (p ||| q).toInt = ((P * 2 ^ k + Q : Nat) : Int) := by
  have e1 : p.toBitVec.toNat = P * 2 ^ k := by have := i_nat (x := p) (by omega); omega
  have e2 : q.toBitVec.toNat = Q := by have := i_nat (x := q) (by omega); omega
  refine i_of ?_ hs
  rw [Int32.toBitVec_or, BitVec.toNat_or, e1, e2]
  have := Nat.shiftLeft_add_eq_or_of_lt hk P
  rw [Nat.shiftLeft_eq] at this
  exact this.symm
theorem i_sm {c : Int32} {k : Nat} (hc : (c &&& 31).toBitVec.toNat = k) (hk : k < 31) : ((c &&& 31).toBitVec.smod 32).toNat = k := by
  have h1 : (c &&& 31).toBitVec.msb = false := by
    rw [BitVec.msb_eq_false_iff_two_mul_lt]; omega
  have h2 : BitVec.msb (32 : BitVec 32) = false := by decide
  rw [BitVec.smod_eq, h1, h2]
  show ((c &&& 31).toBitVec.umod 32).toNat = k
  rw [BitVec.umod_eq, BitVec.toNat_umod, hc]
  exact Nat.mod_eq_of_lt (by show k < 32; omega)
theorem i_shl {x : Int32} {X : Nat} (hx : x.toInt = (X : Int)) {c : Int32} {k : Nat} (hc : (c &&& 31).toBitVec.toNat = k) (hk : k < 31) (hs : X * 2 ^ k < 2147483648) : (x <<< (c &&& 31)).toInt = ((X * 2 ^ k : Nat) : Int) := by
  have e1 : x.toBitVec.toNat = X := by have := i_nat (x := x) (by omega); omega
  refine i_of ?_ hs
  rw [Int32.toBitVec_shiftLeft, BitVec.shiftLeft_eq', BitVec.toNat_shiftLeft, e1, i_sm hc hk, Nat.shiftLeft_eq]
  exact Nat.mod_eq_of_lt (by omega)
theorem i_shr {x : Int32} {X : Nat} (hx : x.toInt = (X : Int)) {c : Int32} {k : Nat} (hc : (c &&& 31).toBitVec.toNat = k) (hk : k < 31) : (x >>> (c &&& 31)).toInt = ((X / 2 ^ k : Nat) : Int) := by
  have e1 : x.toBitVec.toNat = X := by have := i_nat (x := x) (by omega); omega
  have hb := (bdI x).2
  have hle : X / 2 ^ k ≤ X := Nat.div_le_self _ _
  refine i_of ?_ (by omega)
  have hm : x.toBitVec.msb = false := by
    rw [BitVec.msb_eq_false_iff_two_mul_lt]; omega
  rw [Int32.toBitVec_shiftRight, BitVec.sshiftRight_eq', BitVec.sshiftRight_eq_of_msb_false hm, BitVec.toNat_ushiftRight, e1, i_sm hc hk, Nat.shiftRight_eq_div_pow]
theorem i_15 {x : Int32} {X : Nat} (hx : x.toInt = (X : Int)) : (x &&& 15).toInt = ((X % 16 : Nat) : Int) := by
  have e1 : x.toBitVec.toNat = X := by have := i_nat (x := x) (by omega); omega
  have hb := (bdI x).2
  refine i_of ?_ (by omega)
  rw [Int32.toBitVec_and, BitVec.toNat_and, e1]
  show X &&& 15 = X % 16
  exact Nat.and_two_pow_sub_one_eq_mod X 4
