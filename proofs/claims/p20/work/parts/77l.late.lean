/-! The number of the way now held. -/
def dR (g : Nat → Int32) : Nat → Nat
  | 0 => 0
  | j + 1 => dR g j * 16 + ((g j).toNatClampNeg + 1)
theorem dR_s {g : Nat → Int32} {j : Nat} : dR g (j + 1) = dR g j * 16 + ((g j).toNatClampNeg + 1) := rfl
theorem dR_b {g : Nat → Int32} (h : ∀ i, 0 ≤ (g i).toInt ∧ (g i).toInt ≤ 12) : ∀ n, dR g n < 16 ^ n := by
  intro n
  induction n with
  | zero => exact Nat.one_pos
  | succ n ih =>
    have q := h n
    have p := z_pp q.1
    rw [dR_s, Nat.pow_succ]
    omega
theorem dR_h {g : Nat → Int32} (h : ∀ i, 0 ≤ (g i).toInt ∧ (g i).toInt ≤ 12) {n : Nat} (n3 : n ≤ 3) : dR g n * 2 ^ ((12 - 4 * n) + 4) + 2 ^ ((12 - 4 * n) + 4) ≤ 65536 := by
  have b := dR_b h n
  rcases (by omega : n = 0 ∨ n = 1 ∨ n = 2 ∨ n = 3) with e | e | e | e <;> subst e <;> simp only [Nat.reduceMul, Nat.reduceSub, Nat.reduceAdd, Nat.reducePow] at b ⊢ <;> omega
theorem cX_r {N : z_A} {c a : Int32} {g : Nat → Int32} (h : ∀ i, 0 ≤ (g i).toInt ∧ (g i).toInt ≤ 12) : ∀ n : Nat, n ≤ 3 → (cX N c a g n).2.2.2.1.toInt = ((dR g n * 2 ^ ((12 - 4 * n) + 4) : Nat) : Int) := by
  intro n
  induction n with
  | zero =>
    intro _
    show (0 : Int32).toInt = ((0 * 2 ^ ((12 - 4 * 0) + 4) : Nat) : Int)
    rw [Nat.zero_mul]
    rfl
  | succ n ih =>
    intro hn
    have q := h n
    have p := z_pp q.1
    have g1 := eR_n (w := g n) (u := (g n).toNatClampNeg) (z_dk (cX_d (N := N) (c := c) (a := a) (g := g) n (by omega)) (by omega)) (by omega) (ih (by omega)) (dR_h h (by omega)) p.symm (by omega)
    rw [cX_s]
    show ((cX N c a g n).2.2.2.1 ||| ((g n + 1) <<< ((12 - 4 * (cX N c a g n).2.2.2.2) &&& 31))).toInt = _
    rw [g1.1, dR_s, show 12 - 4 * (n + 1) + 4 = 12 - 4 * n by omega]
theorem tl_d {g : Nat → Int32} {n : Nat} (n3 : n ≤ 3) {v : Int} (hv : v = (n : Int) + 1) : tl (nb v g) 4 0 = (dR g n * 16 + ((g n).toNatClampNeg + 1)) * 2 ^ (12 - 4 * n) := by
  subst hv
  rcases (by omega : n = 0 ∨ n = 1 ∨ n = 2 ∨ n = 3) with e | e | e | e <;> subst e <;> simp [tl, nb, dR] <;> omega
theorem mLt_x {N A F : z_A} {c a v : Int32} {n : Nat} (n3 : n ≤ 3) (hv : v.toInt = (n : Int) + 1) (e2 : ∀ k, N 2 k = A 46 k) (e5 : ∀ k, N 5 k = A 49 k) (e6 : ∀ k, N 6 k = A 50 k) (e7 : ∀ k, N 7 k = A 51 k) (e9 : N 1 9 = A 45 9) (hw : ∀ j, j ≤ n → xW N (F 69 j) = true) (hb : ∀ j, j < n → xB N (N 5 (F 69 j).toNatClampNeg) = true) : ∀ (k : Nat) (i : Int32), 0 ≤ i.toInt → i.toInt ≤ (n : Int) → (4 : Int) < i.toInt + (k : Int) → mLt A F v c k i (cX N c a (F 69) i.toNatClampNeg).2.2.1 = (cX N c a (F 69) n).2.2.1 + xC N (F 69 n) c := by
  intro k
  induction k with
  | zero => intro i h0 h1 h2; omega
  | succ k ih =>
    intro i h0 h1 h2
    have p := z_pp h0
    have e := z_i1 h0 (by omega)
    have ev : (v - 1).toInt = (n : Int) := by
      rw [Int32.toInt_sub, bm32]
      have : (1 : Int32).toInt = 1 := rfl
      split <;> omega
    rw [mLt_s, if_pos (by rw [z_ltI]; omega)]
    have xc : ∀ j, j ≤ n → xC N (F 69 j) c = c * A 51 (F 69 j).toNatClampNeg + A 50 (F 69 j).toNatClampNeg := fun j hj => by
      unfold xC
      rw [if_pos (hw j hj), e7, e6]
    by_cases q : i.toNatClampNeg < n
    · rw [if_pos (by rw [z_ltI, ev]; omega)]
      have g := ih (i + 1) (by omega) (by omega) (by omega)
      rw [← g, e.2, cX_s]
      show mLt A F v c k (i + 1) _ = mLt A F v c k (i + 1) ((cX N c a (F 69) i.toNatClampNeg).2.2.1 + xC N (F 69 i.toNatClampNeg) c + xS N (F 69 i.toNatClampNeg))
      rw [xc _ (by omega)]
      unfold xS
      rw [if_pos (hw _ (by omega)), if_pos (hb _ q), e2, e5, e9]
    · rw [if_neg (by rw [z_ltI, ev]; omega)]
      have en : i.toNatClampNeg = n := by omega
      rw [en, ← xc n (Nat.le_refl _)]
      cases k with
      | zero => rfl
      | succ k => rw [mLt_s, if_neg (by rw [z_ltI]; omega)]
theorem cX_l {N : z_A} (ha : z_RA N) {c a : Int32} {g : Nat → Int32} (c0 : 0 ≤ c.toInt) (c1 : c.toInt ≤ 8) : ∀ n : Nat, n ≤ 4 → 0 ≤ (cX N c a g n).2.2.1.toInt ∧ (cX N c a g n).2.2.1.toInt ≤ 44 * (n : Int) := by
  intro n
  induction n with
  | zero =>
    intro _
    show 0 ≤ (0 : Int32).toInt ∧ (0 : Int32).toInt ≤ 44 * ((0 : Nat) : Int)
    decide
  | succ n ih =>
    intro hn
    have q := ih (by omega)
    have xc := xC_b ha (w := g n) c0 c1
    have xs := xS_b ha (w := g n)
    rw [cX_s]
    show 0 ≤ ((cX N c a g n).2.2.1 + xC N (g n) c + xS N (g n)).toInt ∧ ((cX N c a g n).2.2.1 + xC N (g n) c + xS N (g n)).toInt ≤ 44 * ((n + 1 : Nat) : Int)
    rw [z_sum (a := (cX N c a g n).2.2.1 + xC N (g n) c) (by rw [z_sum] <;> omega) (by rw [z_sum] <;> omega) xs.1 (by omega), z_sum q.1 (by omega) xc.1 (by omega)]
    omega
/-- the class's code of the way now held is the reference's number of it -/
theorem eC_g {N A F : z_A} (ha : z_RA N) {c a v : Int32} {n : Nat} (n3 : n ≤ 3) (hv : v.toInt = (n : Int) + 1) (c0 : 0 ≤ c.toInt) (c1 : c.toInt ≤ 8) (e2 : ∀ k, N 2 k = A 46 k) (e5 : ∀ k, N 5 k = A 49 k) (e6 : ∀ k, N 6 k = A 50 k) (e7 : ∀ k, N 7 k = A 51 k) (e9 : N 1 9 = A 45 9) (hw : ∀ j, j ≤ n → xW N (F 69 j) = true) (hb : ∀ j, j < n → xB N (N 5 (F 69 j).toNatClampNeg) = true) (h : ∀ i, 0 ≤ (F 69 i).toInt ∧ (F 69 i).toInt ≤ 12) : (eC N c (cX N c a (F 69) n).2.2.1 (cX N c a (F 69) n).2.2.2.1 (cX N c a (F 69) n).2.2.2.2 (F 69 n)).toInt = (cG F (mLt A F v c 5 0 0) v : Int) ∧ 0 ≤ (mLt A F v c 5 0 0).toInt := by
  have e := mLt_x (c := c) (a := a) n3 hv e2 e5 e6 e7 e9 hw hb 5 0 (by decide) (by show (0 : Int) ≤ _; omega) (by decide)
  have e : mLt A F v c 5 0 0 = (cX N c a (F 69) n).2.2.1 + xC N (F 69 n) c := e
  have q := cX_l ha (a := a) (g := F 69) c0 c1 n (by omega)
  have xc := xC_b ha (w := F 69 n) c0 c1
  have s := z_sum (a := (cX N c a (F 69) n).2.2.1) (b := xC N (F 69 n) c) q.1 (by omega) xc.1 (by omega)
  have hn := h n
  have p := z_pp hn.1
  have l0 : 0 ≤ (mLt A F v c 5 0 0).toInt := by rw [e, s]; omega
  have lb : (mLt A F v c 5 0 0).toInt ≤ 200 := by rw [e, s]; omega
  have pl := z_pp l0
  refine ⟨?_, l0⟩
  have g := eC_n (N := N) (sz := c) (late := (cX N c a (F 69) n).2.2.1) (w := F 69 n) (u := (F 69 n).toNatClampNeg) (l := (mLt A F v c 5 0 0).toNatClampNeg) (z_dk (cX_d (N := N) (c := c) (a := a) (g := F 69) n (by omega)) n3) (by omega) (cX_r (N := N) (c := c) (a := a) h n n3) (dR_h h n3) p.symm (by omega) (by rw [pl, e]) (by omega)
  rw [g]
  unfold cG
  rw [tl_d n3 hv]
