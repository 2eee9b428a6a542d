/-! Boxes seen: bits of the one, a walk along the wires of the other. -/
theorem z_b5 {b : Int32} (h0 : 0 ≤ b.toInt) (h1 : b.toInt ≤ 5) : (b &&& 31).toBitVec.toNat = b.toNatClampNeg ∧ b.toNatClampNeg ≤ 5 := by
  rcases (by omega : b.toInt = 0 ∨ b.toInt = 1 ∨ b.toInt = 2 ∨ b.toInt = 3 ∨ b.toInt = 4 ∨ b.toInt = 5) with e | e | e | e | e | e
  · rw [show b = 0 from Int32.toInt_inj.mp e]; decide
  · rw [show b = 1 from Int32.toInt_inj.mp e]; decide
  · rw [show b = 2 from Int32.toInt_inj.mp e]; decide
  · rw [show b = 3 from Int32.toInt_inj.mp e]; decide
  · rw [show b = 4 from Int32.toInt_inj.mp e]; decide
  · rw [show b = 5 from Int32.toInt_inj.mp e]; decide
theorem z_sbit {x b : Int32} (h0 : 0 ≤ b.toInt) (h1 : b.toInt ≤ 5) : (x >>> (b &&& 31)) &&& 1 = 1 ↔ x.toBitVec.getLsbD b.toNatClampNeg = true := by
  obtain ⟨e, l⟩ := z_b5 h0 h1
  have s := i_sm e (by omega)
  rw [← Int32.toBitVec_inj, Int32.toBitVec_and, Int32.toBitVec_shiftRight, BitVec.sshiftRight_eq', s]
  have o : (1 : Int32).toBitVec = 1#32 := rfl
  rw [o, BitVec.and_one_eq_setWidth_ofBool_getLsbD, BitVec.getLsbD_sshiftRight]
  have n1 : ¬ (32 ≤ 0) := by decide
  have n2 : b.toNatClampNeg < 32 := by omega
  rw [Nat.add_zero, if_pos n2]
  cases x.toBitVec.getLsbD b.toNatClampNeg
  · decide
  · decide
theorem z_one {y : Int32} (h0 : 0 ≤ y.toInt) (h1 : y.toInt ≤ 5) {k : Nat} (hk : k ≤ 5) : ((1 : Int32) <<< (y &&& 31)).toBitVec.getLsbD k = true ↔ k = y.toNatClampNeg := by
  rcases (by omega : y.toInt = 0 ∨ y.toInt = 1 ∨ y.toInt = 2 ∨ y.toInt = 3 ∨ y.toInt = 4 ∨ y.toInt = 5) with e | e | e | e | e | e
  · rw [show y = 0 from Int32.toInt_inj.mp e]; revert k; decide
  · rw [show y = 1 from Int32.toInt_inj.mp e]; revert k; decide
  · rw [show y = 2 from Int32.toInt_inj.mp e]; revert k; decide
  · rw [show y = 3 from Int32.toInt_inj.mp e]; revert k; decide
  · rw [show y = 4 from Int32.toInt_inj.mp e]; revert k; decide
  · rw [show y = 5 from Int32.toInt_inj.mp e]; revert k; decide
theorem z_ne5 {b y : Int32} (h0 : 0 ≤ b.toInt) (g0 : 0 ≤ y.toInt) : b.toNatClampNeg = y.toNatClampNeg ↔ b = y := by
  have p := z_pp h0
  have q := z_pp g0
  refine ⟨fun e => Int32.toInt_inj.mp (by omega), fun e => by rw [e]⟩
theorem cX_b {N : z_A} (ha : z_RA N) {c a : Int32} {g : Nat → Int32} (a0 : 0 ≤ a.toInt) (a1 : a.toInt ≤ 5) {b : Int32} (b0 : 0 ≤ b.toInt) (b1 : b.toInt ≤ 5) : ∀ n : Nat, ((cX N c a g n).2.1 >>> (b &&& 31)) &&& 1 = 1 ↔ (b = a ∨ ∃ i, i < n ∧ N 5 (g i).toNatClampNeg = b) := by
  intro n
  rw [z_sbit b0 b1]
  have l := (z_b5 b0 b1).2
  induction n with
  | zero =>
    show ((1 : Int32) <<< (a &&& 31)).toBitVec.getLsbD b.toNatClampNeg = true ↔ _
    rw [z_one a0 a1 l, z_ne5 b0 a0]
    exact ⟨Or.inl, fun h => by rcases h with h | ⟨i, hi, _⟩; exact h; omega⟩
  | succ n ih =>
    have r := ha.2.2.2.1 (g n).toNatClampNeg
    rw [cX_s]
    show ((cX N c a g n).2.1 ||| ((1 : Int32) <<< (N 5 (g n).toNatClampNeg &&& 31))).toBitVec.getLsbD b.toNatClampNeg = true ↔ _
    rw [Int32.toBitVec_or, BitVec.getLsbD_or, Bool.or_eq_true, z_one r.1 r.2 l, z_ne5 b0 r.1]
    refine (or_congr ih Iff.rfl).trans ?_
    constructor
    · rintro ((h | ⟨i, hi, h⟩) | h)
      · exact Or.inl h
      · exact Or.inr ⟨i, by omega, h⟩
      · exact Or.inr ⟨n, by omega, h.symm⟩
    · rintro (h | ⟨i, hi, h⟩)
      · exact Or.inl (Or.inl h)
      · by_cases q : i = n
        · subst q; exact Or.inr h.symm
        · exact Or.inl (Or.inr ⟨i, by omega, h⟩)
theorem mSe_i {A F : z_A} {n b : Int32} (n1 : n.toInt ≤ 4) : ∀ (k : Nat) (i : Int32), 0 ≤ i.toInt → i.toInt ≤ 4 → (4 : Int) < i.toInt + (k : Int) → (mSe A F n b k i = true ↔ ∃ j : Nat, i.toInt ≤ (j : Int) ∧ (j : Int) < n.toInt ∧ A 49 (F 69 j).toNatClampNeg = b) := by
  intro k
  induction k with
  | zero => intro i h0 h1 h2; omega
  | succ k ih =>
    intro i h0 h1 h2
    have p := z_pp h0
    rw [mSe_s]
    split
    · rename_i c1
      rw [z_ltI] at c1
      split
      · rename_i c2
        exact ⟨fun _ => ⟨i.toNatClampNeg, by omega, by omega, c2⟩, fun _ => rfl⟩
      · rename_i c2
        have e := (z_i1 h0 (by omega)).1
        generalize i + 1 = v at *
        rw [ih v (by omega) (by omega) (by omega)]
        constructor
        · rintro ⟨j, h3, h4, h5⟩; exact ⟨j, by omega, h4, h5⟩
        · rintro ⟨j, h3, h4, h5⟩
          by_cases q : j = i.toNatClampNeg
          · subst q; exact absurd h5 c2
          · exact ⟨j, by omega, h4, h5⟩
    · rename_i c1
      rw [z_ltI] at c1
      constructor
      · intro h; cases h
      · rintro ⟨j, h3, h4, h5⟩; omega
/-- both say alike whether a box is seen -/
theorem z_see {N A F : z_A} (ha : z_RA N) (e5 : ∀ k, N 5 k = A 49 k) {c a b n : Int32} (a0 : 0 ≤ a.toInt) (a1 : a.toInt ≤ 5) (b0 : 0 ≤ b.toInt) (b1 : b.toInt ≤ 5) (n0 : 0 ≤ n.toInt) (n1 : n.toInt ≤ 4) : ((cX N c a (F 69) n.toNatClampNeg).2.1 >>> (b &&& 31)) &&& 1 = 1 ↔ mSeen A F a n b = true := by
  rw [cX_b ha a0 a1 b0 b1]
  have p := z_pp n0
  unfold mSeen
  split
  · rename_i q
    exact ⟨fun _ => rfl, fun _ => Or.inl q⟩
  · rename_i q
    rw [mSe_i n1 5 0 (by decide) (by decide) (by decide)]
    constructor
    · rintro (h | ⟨i, hi, h⟩)
      · exact absurd h q
      · exact ⟨i, by show (0 : Int) ≤ _; omega, by omega, by rw [← e5]; exact h⟩
    · rintro ⟨j, h3, h4, h5⟩
      exact Or.inr ⟨j, by omega, by rw [e5]; exact h5⟩
/-- both stand at the same box -/
theorem z_at {N A F : z_A} (e5 : ∀ k, N 5 k = A 49 k) {c a n : Int32} (n0 : 0 ≤ n.toInt) (n1 : n.toInt ≤ 4) : (cX N c a (F 69) n.toNatClampNeg).1 = mAt A F a n := by
  unfold mAt
  split
  · rename_i q; rw [q]; rfl
  · rename_i q
    have p := z_pp n0
    have h : n.toInt ≠ 0 := fun h => q (Int32.toInt_inj.mp h)
    have e : (n - 1).toInt = n.toInt - 1 := by
      rw [Int32.toInt_sub, bm32]
      have : (1 : Int32).toInt = 1 := rfl
      split <;> omega
    have p1 := z_pp (p := n - 1) (by omega)
    generalize n - 1 = m at *
    rw [show n.toNatClampNeg = m.toNatClampNeg + 1 by omega, cX_s]
    exact e5 _
/-- the depth is the level -/
theorem cX_d {N : z_A} {c a : Int32} {g : Nat → Int32} : ∀ n : Nat, n ≤ 4 → (cX N c a g n).2.2.2.2.toInt = (n : Int) := by
  intro n
  induction n with
  | zero => intro _; rfl
  | succ n ih =>
    intro h
    have e := ih (by omega)
    rw [cX_s]
    have := (z_i1 (w := (cX N c a g n).2.2.2.2) (by omega) (by omega)).1
    show ((cX N c a g n).2.2.2.2 + 1).toInt = _
    omega
