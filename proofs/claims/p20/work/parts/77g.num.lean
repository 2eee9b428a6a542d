/-! The number of a code. -/
theorem eR_n {row depth w : Int32} {k R u : Nat} (hk : ((12 - 4 * depth) &&& 31).toBitVec.toNat = k) (k12 : k ≤ 12) (hr : row.toInt = ((R * 2 ^ (k + 4) : Nat) : Int)) (hb : R * 2 ^ (k + 4) + 2 ^ (k + 4) ≤ 65536) (hw : w.toInt = (u : Int)) (hu : u ≤ 12) : (row ||| ((w + 1) <<< ((12 - 4 * depth) &&& 31))).toInt = (((R * 16 + (u + 1)) * 2 ^ k : Nat) : Int) ∧ (R * 16 + (u + 1)) * 2 ^ k < 65536 := by
  have e4 : 2 ^ (k + 4) = 16 * 2 ^ k := by rw [Nat.pow_add, Nat.mul_comm]
  have p0 : 0 < 2 ^ k := Nat.pow_pos (by decide)
  have hx : (w + 1).toInt = ((u + 1 : Nat) : Int) := by
    rw [Int32.toInt_add, bm32]
    have : (1 : Int32).toInt = 1 := rfl
    split <;> omega
  have hm : (u + 1) * 2 ^ k ≤ 13 * 2 ^ k := Nat.mul_le_mul_right _ (by omega)
  have hs : (u + 1) * 2 ^ k < 2 ^ (k + 4) := by omega
  have s := i_shl hx hk (by omega) (by omega)
  have o := i_or hr s hs (by omega)
  have e : R * 2 ^ (k + 4) + (u + 1) * 2 ^ k = (R * 16 + (u + 1)) * 2 ^ k := by rw [e4, Nat.add_mul (R * 16) (u + 1), Nat.mul_assoc]
  rw [e] at o
  exact ⟨o, by omega⟩
theorem eC_n {N : z_A} {sz late row depth w : Int32} {k R u l : Nat} (hk : ((12 - 4 * depth) &&& 31).toBitVec.toNat = k) (k12 : k ≤ 12) (hr : row.toInt = ((R * 2 ^ (k + 4) : Nat) : Int)) (hb : R * 2 ^ (k + 4) + 2 ^ (k + 4) ≤ 65536) (hw : w.toInt = (u : Int)) (hu : u ≤ 12) (hl : (late + xC N w sz).toInt = (l : Int)) (l1 : l < 32767) : (eC N sz late row depth w).toInt = ((l * 65536 + (R * 16 + (u + 1)) * 2 ^ k : Nat) : Int) := by
  obtain ⟨h1, h2⟩ := eR_n hk k12 hr hb hw hu
  have s := i_shl (c := 16) (k := 16) hl (by decide) (by decide) (by omega)
  exact i_or (k := 16) s h1 h2 (by omega)
