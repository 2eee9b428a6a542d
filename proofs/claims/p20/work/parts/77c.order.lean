/-! The order of the reference's rows as an order of numbers. -/
/-- the i-th digit of a row of n wires -/
def nb (n : Int) (f : Nat → Int32) (i : Nat) : Nat := if (i : Int) < n then (f i).toNatClampNeg + 1 else 0
/-- the digits from the i-th on -/
def tl (f : Nat → Nat) : Nat → Nat → Nat
  | 0, _ => 0
  | k + 1, i => f i * 16 ^ k + tl f k (i + 1)
theorem tl_s {f : Nat → Nat} {k i : Nat} : tl f (k + 1) i = f i * 16 ^ k + tl f k (i + 1) := rfl
theorem tl_b {f : Nat → Nat} (h : ∀ i, f i ≤ 15) : ∀ k i, tl f k i < 16 ^ k := by
  intro k
  induction k with
  | zero => intro i; exact Nat.one_pos
  | succ k ih =>
    intro i
    rw [tl_s, Nat.pow_succ]
    have h1 := ih (i + 1)
    have h2 := Nat.mul_le_mul_right (16 ^ k) (h i)
    omega
theorem tl_0 {f : Nat → Nat} : ∀ k i, (∀ j, i ≤ j → f j = 0) → tl f k i = 0 := by
  intro k
  induction k with
  | zero => intro i h; rfl
  | succ k ih =>
    intro i h
    rw [tl_s, h i (Nat.le_refl _), ih (i + 1) (fun j hj => h j (by omega)), Nat.zero_mul]
theorem nb_b {n : Int} {f : Nat → Int32} (h : ∀ i, 0 ≤ (f i).toInt ∧ (f i).toInt ≤ 12) (i : Nat) : nb n f i ≤ 15 := by
  unfold nb
  have := h i
  have := clN (f i)
  split <;> omega
/-- the wires of row Y -/
def rWs (F : z_A) (Y : Nat) : Nat → Int32 := fun i => F 67 (4 * Y + i)
theorem z_ix {y i : Int32} (y0 : 0 ≤ y.toInt) (y1 : y.toInt ≤ 511) (i0 : 0 ≤ i.toInt) (i1 : i.toInt ≤ 4) : (4 * y + i).toNatClampNeg = 4 * y.toNatClampNeg + i.toNatClampNeg := by
  have e := z_m4 (y := y) (i := i) y0 (by omega) i0 (by omega)
  have h1 := z_pp (p := 4 * y + i) (by omega)
  have h2 := z_pp y0
  have h3 := z_pp i0
  omega
theorem nb_lt {n : Int} {f : Nat → Int32} {i : Nat} (h : (i : Int) < n) : nb n f i = (f i).toNatClampNeg + 1 := if_pos h
theorem nb_ge {n : Int} {f : Nat → Int32} {i : Nat} (h : n ≤ (i : Int)) : nb n f i = 0 := if_neg (by omega)
theorem tl_ge {n : Int} {f : Nat → Int32} {k i : Nat} (h : n ≤ (i : Int)) : tl (nb n f) k i = 0 := tl_0 k i (fun j hj => nb_ge (by omega))
theorem mBl_n {F : z_A} {y n : Int32} (y0 : 0 ≤ y.toInt) (y1 : y.toInt ≤ 511) (h66 : (F 66 y.toNatClampNeg).toInt ≤ 4) (hF : ∀ k, 0 ≤ (F 67 k).toInt ∧ (F 67 k).toInt ≤ 12) (hG : ∀ j : Nat, 0 ≤ (F 69 j).toInt ∧ (F 69 j).toInt ≤ 12) (n1 : n.toInt ≤ 4) : ∀ (k : Nat) (i : Int32), 0 ≤ i.toInt → i.toInt + k = 4 → i.toInt ≤ n.toInt → (mBl F y n (k + 1) i = true ↔ tl (nb n.toInt (F 69)) k i.toNatClampNeg < tl (nb (F 66 y.toNatClampNeg).toInt (rWs F y.toNatClampNeg)) k i.toNatClampNeg) := by
  intro k
  induction k with
  | zero =>
    intro i i0 hi hn
    rw [mBl_s, if_neg (by rw [z_ltI]; omega), if_neg (by rw [z_ltI]; omega)]
    constructor
    · intro h; cases h
    · intro h; exact absurd h (Nat.lt_irrefl 0)
  | succ k ih =>
    intro i i0 hi hn
    have pi := z_pp i0
    rw [mBl_s, tl_s, tl_s]
    have hb1 := tl_b (f := nb n.toInt (F 69)) (nb_b hG) k (i.toNatClampNeg + 1)
    have hb2 := tl_b (f := nb (F 66 y.toNatClampNeg).toInt (rWs F y.toNatClampNeg)) (nb_b (fun j => hF _)) k (i.toNatClampNeg + 1)
    by_cases c1 : i < n
    · rw [if_pos c1]
      rw [z_ltI] at c1
      rw [nb_lt (n := n.toInt) (by omega)]
      by_cases c2 : i < F 66 y.toNatClampNeg
      · rw [if_pos c2]
        rw [z_ltI] at c2
        rw [nb_lt (n := (F 66 y.toNatClampNeg).toInt) (by omega), z_ix y0 y1 i0 (by omega)]
        have e1 := z_up1 i0 (by omega)
        have pi1 := z_pp (p := i + 1) (by omega)
        have en : (i + 1).toNatClampNeg = i.toNatClampNeg + 1 := by omega
        have q1 := z_pp (hG i.toNatClampNeg).1
        have q2 := z_pp (hF (4 * y.toNatClampNeg + i.toNatClampNeg)).1
        show (if F 67 (4 * y.toNatClampNeg + i.toNatClampNeg) = F 69 i.toNatClampNeg then _ else _) = true ↔ _ < ((F 67 (4 * y.toNatClampNeg + i.toNatClampNeg)).toNatClampNeg + 1) * 16 ^ k + _
        by_cases c3 : F 67 (4 * y.toNatClampNeg + i.toNatClampNeg) = F 69 i.toNatClampNeg
        · rw [if_pos c3, ih (i + 1) (by omega) (by omega) (by omega), en, c3]
          omega
        · rw [if_neg c3]
          have c4 : ¬ (F 67 (4 * y.toNatClampNeg + i.toNatClampNeg)).toInt = (F 69 i.toNatClampNeg).toInt := fun e => c3 (Int32.toInt_inj.mp e)
          generalize (F 67 (4 * y.toNatClampNeg + i.toNatClampNeg)).toNatClampNeg = p at *
          generalize (F 69 i.toNatClampNeg).toNatClampNeg = q at *
          by_cases c5 : F 69 i.toNatClampNeg < F 67 (4 * y.toNatClampNeg + i.toNatClampNeg)
          · rw [if_pos c5]
            rw [z_ltI] at c5
            have := Nat.mul_le_mul_right (16 ^ k) (show q + 1 + 1 ≤ p + 1 by omega)
            rw [Nat.add_mul (q + 1), Nat.one_mul] at this
            constructor
            · intro _; omega
            · intro _; rfl
          · rw [if_neg c5]
            rw [z_ltI] at c5
            have := Nat.mul_le_mul_right (16 ^ k) (show p + 1 + 1 ≤ q + 1 by omega)
            rw [Nat.add_mul (p + 1), Nat.one_mul] at this
            constructor
            · intro h; cases h
            · intro h; omega
      · rw [if_neg c2]
        rw [z_ltI] at c2
        rw [if_neg (by rw [z_ltI]; omega), nb_ge (n := (F 66 y.toNatClampNeg).toInt) (by omega), tl_ge (n := (F 66 y.toNatClampNeg).toInt) (by omega)]
        constructor
        · intro h; cases h
        · intro h; omega
    · rw [if_neg c1]
      rw [z_ltI] at c1
      rw [nb_ge (n := n.toInt) (by omega), tl_ge (n := n.toInt) (by omega)]
      by_cases c2 : n < F 66 y.toNatClampNeg
      · rw [if_pos c2]
        rw [z_ltI] at c2
        rw [nb_lt (n := (F 66 y.toNatClampNeg).toInt) (by omega)]
        constructor
        · intro _
          have := Nat.mul_le_mul_right (16 ^ k) (show 1 ≤ (rWs F y.toNatClampNeg i.toNatClampNeg).toNatClampNeg + 1 by omega)
          have h16 : 0 < 16 ^ k := Nat.pow_pos (by decide)
          omega
        · intro _; rfl
      · rw [if_neg c2]
        rw [z_ltI] at c2
        rw [nb_ge (n := (F 66 y.toNatClampNeg).toInt) (by omega), tl_ge (n := (F 66 y.toNatClampNeg).toInt) (by omega)]
        constructor
        · intro h; cases h
        · intro h; omega
