/-! Sets of ticks held as bits of two longs. -/
def b6 (x : Int64) (i : Nat) : Bool := x.toBitVec.getLsbD i
theorem z_ofn {k : Int32} (h : 0 ≤ k.toInt) : k = Int32.ofNat k.toNatClampNeg := by
  have hb := (bdI k).2
  have p := z_pp h
  refine Int32.toInt_inj.mp ?_
  rw [Int32.toInt_ofNat_of_lt (by omega)]
  omega
theorem z_oft {K : Nat} (h : K < 1000000) : (Int32.ofNat K).toInt = (K : Int) := Int32.toInt_ofNat_of_lt (by omega)
theorem z_ofc {K : Nat} (h : K < 1000000) : (Int32.ofNat K).toNatClampNeg = K := by
  have e := z_oft h
  have p := z_pp (p := Int32.ofNat K) (by omega)
  omega
theorem l_sm : ∀ K : Fin 64, (((Int32.ofNat K.val).toInt64 &&& 63).toBitVec.smod 64).toNat = K.val := by decide +kernel
theorem l_su : ∀ K : Fin 64, (((Int32.ofNat K.val).toInt64.toUInt64 &&& Int64.toUInt64 63).toBitVec % 64).toNat = K.val := by decide +kernel
theorem l_mk : ∀ K i : Fin 64, (((1 : Int64) <<< ((Int32.ofNat K.val).toInt64 &&& 63)) - 1).toBitVec.getLsbD i.val = decide (i.val < K.val) := by decide +kernel
theorem b6_or {x y : Int64} {i : Nat} : b6 (x ||| y) i = (b6 x i || b6 y i) := by
  unfold b6; rw [Int64.toBitVec_or, BitVec.getLsbD_or]
theorem b6_and {x y : Int64} {i : Nat} : b6 (x &&& y) i = (b6 x i && b6 y i) := by
  unfold b6; rw [Int64.toBitVec_and, BitVec.getLsbD_and]
theorem b6_nt {x : Int64} {i : Nat} (h : i < 64) : b6 (x ^^^ -1) i = !(b6 x i) := by
  unfold b6
  have e : (-1 : Int64).toBitVec = BitVec.allOnes 64 := by decide
  rw [Int64.toBitVec_xor, BitVec.getLsbD_xor, e, BitVec.getLsbD_allOnes, decide_eq_true h, Bool.xor_true]
theorem b6_0 {i : Nat} : b6 0 i = false := by
  unfold b6
  have e : (0 : Int64).toBitVec = 0#64 := by decide
  rw [e]; exact BitVec.getLsbD_zero
theorem b6_ge {x : Int64} {i : Nat} (h : 64 ≤ i) : b6 x i = false := BitVec.getLsbD_of_ge _ _ h
theorem b6_shl {x : Int64} {k : Int32} {K i : Nat} (hk : k = Int32.ofNat K) (h : K < 64) : b6 (x <<< (k.toInt64 &&& 63)) i = (decide (i < 64) && !decide (i < K) && b6 x (i - K)) := by
  subst hk
  have e : (((Int32.ofNat K).toInt64 &&& 63).toBitVec.smod 64).toNat = K := l_sm ⟨K, h⟩
  unfold b6
  rw [Int64.toBitVec_shiftLeft, BitVec.getLsbD_shiftLeft', e]
theorem b6_shr {x : Int64} {k : Int32} {K : Nat} (hk : k = Int32.ofNat K) (h : K < 64) : b6 (x >>> (k.toInt64 &&& 63)) 0 = b6 x K := by
  subst hk
  have e : (((Int32.ofNat K).toInt64 &&& 63).toBitVec.smod 64).toNat = K := l_sm ⟨K, h⟩
  unfold b6
  rw [Int64.toBitVec_shiftRight, BitVec.getLsbD_sshiftRight', e, if_pos (by omega), Nat.add_zero]
  rfl
theorem b6_ush {x : Int64} {k : Int32} {K i : Nat} (hk : k = Int32.ofNat K) (h : K < 64) : b6 (x.toUInt64 >>> (k.toInt64.toUInt64 &&& Int64.toUInt64 63)).toInt64 i = b6 x (K + i) := by
  subst hk
  have e : (((Int32.ofNat K).toInt64.toUInt64 &&& Int64.toUInt64 63).toBitVec % 64).toNat = K := l_su ⟨K, h⟩
  show (x.toUInt64 >>> ((Int32.ofNat K).toInt64.toUInt64 &&& Int64.toUInt64 63)).toBitVec.getLsbD i = _
  rw [UInt64.toBitVec_shiftRight, BitVec.ushiftRight_eq', BitVec.getLsbD_ushiftRight, e]
  rfl
theorem b6_mk {k : Int32} {K i : Nat} (hk : k = Int32.ofNat K) (h : K < 64) : b6 (((1 : Int64) <<< (k.toInt64 &&& 63)) - 1) i = decide (i < K) := by
  subst hk
  by_cases hi : i < 64
  · exact l_mk ⟨K, h⟩ ⟨i, hi⟩
  · rw [b6_ge (by omega)]
    exact (decide_eq_false (by omega)).symm
theorem b6_one {v : Int64} : lg_cmp (v &&& 1) 1 = 0 ↔ b6 v 0 = true := by
  rw [lg_cmp_eq, ← Int64.toBitVec_inj, Int64.toBitVec_and]
  have e : (1 : Int64).toBitVec = 1#64 := by decide
  rw [e, BitVec.and_one_eq_setWidth_ofBool_getLsbD]
  unfold b6
  cases v.toBitVec.getLsbD 0 <;> decide
/-- half the cycle -/
def z_Cc (N : z_A) (h : Nat) : Prop := N 1 8 = Int32.ofNat (2 * h) ∧ N 1 8 / 2 = Int32.ofNat h ∧ 6 ≤ h ∧ h ≤ 60
def rB (h : Nat) (q : Int64 × Int64) (t : Nat) : Bool := if t < h then b6 q.1 t else b6 q.2 (t - h)
/-- no bits but those of the ticks -/
def rZ (h : Nat) (q : Int64 × Int64) : Prop := ∀ i, h ≤ i → b6 q.1 i = false ∧ b6 q.2 i = false
/-- the set, for every tick by its rest -/
def rI (h : Nat) (q : Int64 × Int64) (u : Int) : Bool := rB h q (u % (2 * (h : Int))).toNat
theorem rI_p {h : Nat} {q : Int64 × Int64} {u v : Int} (e : u % (2 * (h : Int)) = v % (2 * (h : Int))) : rI h q u = rI h q v := by
  unfold rI; rw [e]
theorem rI_t {h : Nat} {q : Int64 × Int64} {t : Nat} (ht : t < 2 * h) : rI h q (t : Int) = rB h q t := by
  unfold rI
  rw [Int.emod_eq_of_lt (by omega) (by omega), Int.toNat_natCast]
theorem xHs_b {N : z_A} {q : Int64 × Int64} {t : Int32} {h : Nat} (hc : z_Cc N h) (t0 : 0 ≤ t.toInt) (t1 : t.toInt < 2 * (h : Int)) : xHs N q t = rB h q t.toNatClampNeg := by
  obtain ⟨-, c2, c3, c4⟩ := hc
  have p := z_pp t0
  have eh := z_oft (K := h) (by omega)
  have key : ∀ v : Int64, (if lg_cmp (v &&& 1) 1 = 0 then true else false) = b6 v 0 := fun v => by
    by_cases c : b6 v 0 = true
    · rw [if_pos (b6_one.mpr c), c]
    · rw [if_neg (fun q => c (b6_one.mp q)), Bool.eq_false_iff.mpr c]
  unfold xHs rB
  rw [c2, key]
  by_cases c : t < Int32.ofNat h
  · have c' := Int32.lt_iff_toInt_lt.mp c
    rw [if_pos c, if_pos (by omega)]
    exact b6_shr (z_ofn t0) (by omega)
  · have c' : ¬ t.toInt < (Int32.ofNat h).toInt := fun q => c (Int32.lt_iff_toInt_lt.mpr q)
    rw [if_neg c, if_neg (by omega)]
    have e : (t - Int32.ofNat h).toInt = t.toInt - (h : Int) := by rw [z_dif (by omega) (by omega) (by omega) (by omega), eh]
    have p2 := z_pp (p := t - Int32.ofNat h) (by omega)
    refine b6_shr ?_ (by omega)
    rw [z_ofn (k := t - Int32.ofNat h) (by omega)]
    congr 1
    omega
