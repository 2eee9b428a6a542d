/-! leaves and room: both answer alike. -/
/-- a wire's begin is a box, and it takes time -/
def z_WF (N : z_A) : Prop := ∀ k : Nat, (k : Int) < (N 1 7).toInt → (N 4 k).toInt < (N 1 6).toInt ∧ 1 ≤ (N 7 k).toInt
theorem xO_I {N A : z_A} {w : Int32} (ha : z_RA N) (hN : z_NA N A) (hF : z_WF N) (hw : xW N w = true) : xO N w = A 47 (A 48 w.toNatClampNeg).toNatClampNeg := by
  have ws := xW_s hw
  have p := z_pp ws.1
  have f := (hF w.toNatClampNeg (by omega)).1
  have f0 := (ha.2.2.1 w.toNatClampNeg).1
  have hb : xB N (N 4 w.toNatClampNeg) = true := by
    unfold xB
    rw [if_neg (by rw [z_ltI, tI0]; omega), if_pos (by rw [z_ltI]; exact f)]
  unfold xO
  rw [if_pos hw, if_pos hb, hN.2.2.2.2.2.1, hN.2.2.2.2.2.2.1]
theorem P1_b {N A B G : z_A} {s : Int32} {q L h : Nat} {y : Int32} {m : Int} (P : z_P1 N A B G s q L h y m) (hF : z_WF N) (i : Int32) {k : Int32} (k0 : 0 ≤ k.toInt) (k1 : k.toInt < (L : Int)) : xBo N G q i k = mLe A B s i k := by
  rcases P1_a P k with ⟨-, -, a3, a4, -, -⟩ | ⟨a, -⟩
  · unfold xBo mLe
    rw [P.gy, P.g1, (P1_o P k0 (by omega)).2, xO_I P.k.ha P.k.hN hF a4, a3]
  · exact absurd ⟨k0, k1⟩ a
theorem P1_x {N A B G : z_A} {s : Int32} {q L h : Nat} {y : Int32} {m : Int} (P : z_P1 N A B G s q L h y m) {k j : Int32} (k0 : 0 ≤ k.toInt) (k1 : k.toInt < (L : Int)) (hj : j.toInt = 4 * (mCx B s).toInt + k.toInt) : xA y k = B 56 j.toNatClampNeg ∧ xC N (xA y k) (G q 0) = B 52 s.toNatClampNeg * A 51 (B 56 j.toNatClampNeg).toNatClampNeg + A 50 (B 56 j.toNatClampNeg).toNatClampNeg ∧ xH N (xA y k) = A 46 (A 49 (B 56 j.toNatClampNeg).toNatClampNeg).toNatClampNeg := by
  obtain ⟨-, -, s7⟩ := K1_p P.k
  have L4 := P.k.cw.2.2.1
  have cx := P.cx
  have s0 := P.k.s0
  have c0 := P.k.c0
  have b59 := P.k.hB.2.2.2.2.2.2.1 s.toNatClampNeg
  rcases P1_a P k with ⟨-, -, a3, a4, a5, -⟩ | ⟨a, -⟩
  · have e : xA y k = B 56 j.toNatClampNeg := by
      rw [a3]
      unfold mCw
      congr 1
      have m4 := z_m4 (y := mCx B s) (i := k) (by omega) (by omega) (by omega) (by omega)
      have x1 := z_pp (p := 4 * (3 * s + B 59 s.toNatClampNeg) + k) (by show 0 ≤ (4 * mCx B s + k).toInt; omega)
      have x3 : (4 * (3 * s + B 59 s.toNatClampNeg) + k).toInt = (4 * mCx B s + k).toInt := rfl
      have x2 := z_pp (p := j) (by omega)
      omega
    obtain ⟨-, -, -, -, n2, -, -, n5, n6, n7⟩ := P.k.hN
    refine ⟨e, ?_, ?_⟩
    · rw [← e]
      unfold xC
      rw [if_pos a4, P.g0, n6, n7]
    · rw [← e]
      unfold xH
      rw [if_pos a4, if_pos a5, n2, n5]
  · exact absurd ⟨k0, k1⟩ a
theorem leaves_I {N A B G : z_A} {T : Int32} {St : z_R} {D : Nat → Nat} {n h : Nat} (S : z_SS N A B G T St D n h) (hF : z_WF N) (s i k : Int32) : xLv N T St G s i k = mLv A B s i k := by
  unfold xLv mLv
  rcases pl_I S s with ⟨a, b⟩ | ⟨q, a, b, s0, s1, hq, hp⟩
  · rw [a, b, if_neg (by decide)]
  · rw [a, b, if_pos rfl]
    obtain ⟨L, y, m, P⟩ := P1_i S s0 s1 hq hp
    obtain ⟨-, -, s7⟩ := K1_p P.k
    have L1 := P.k.cw.2.1
    have L4 := P.k.cw.2.2.1
    have cx := P.cx
    have b59 := P.k.hB.2.2.2.2.2.2.1 s.toNatClampNeg
    have eL := z_oft (K := L) (by omega)
    have t1 : Int32.toInt 1 = 1 := rfl
    rw [P1_55 P]
    dsimp only
    rw [P.gy, P1_n P]
    unfold xIn
    by_cases i0 : i < 0
    · rw [if_pos i0, if_pos i0]; rfl
    · rw [if_neg i0, if_neg i0]
      by_cases i9 : 99 < i
      · rw [if_pos i9, if_pos i9]; rfl
      · rw [if_neg i9, if_neg i9, if_pos rfl]
        by_cases k9 : k = 9
        · rw [if_pos k9, if_pos k9]
          have e1 : (Int32.ofNat L - 1).toInt = (L : Int) - 1 := by rw [z_dif (by omega) (by omega) (by omega) (by omega)]; omega
          have m4 := z_m4 (y := mCx B s) (i := Int32.ofNat L) (by omega) (by omega) (by omega) (by omega)
          have hj : (4 * mCx B s + Int32.ofNat L - 1).toInt = 4 * (mCx B s).toInt + (Int32.ofNat L - 1).toInt := by
            rw [z_dif (by omega) (by omega) (by omega) (by omega)]; omega
          obtain ⟨-, x2, -⟩ := P1_x P (k := Int32.ofNat L - 1) (by omega) (by omega) hj
          rw [P1_b P hF i (by omega) (by omega), x2, Int32.add_assoc]
        · rw [if_neg k9, if_neg k9]
          rcases P1_a P k with ⟨a1, a2, -, -, -, a3⟩ | ⟨a1, a2⟩
          · have i2 : xHp y k = true := by unfold xHp; rw [if_neg a3]
            rw [i2, if_pos rfl, if_neg (by rw [z_ltI, tI0]; omega), if_pos (by rw [z_ltI]; omega)]
            exact P1_b P hF i a1 a2
          · have i2 : xHp y k = false := by unfold xHp; rw [if_pos a2]
            rw [i2, if_neg (by decide)]
            by_cases k0 : k < 0
            · rw [if_pos k0]
            · rw [if_neg k0, if_neg]
              rw [z_ltI] at k0 ⊢
              rw [tI0] at k0
              omega
theorem z_rg5 {a b x y z : Int32} : a - (b + (x + y)) - z = a - b - x - y - z := by grind
theorem room_I {N A B G : z_A} {T : Int32} {St : z_R} {D : Nat → Nat} {n h : Nat} (S : z_SS N A B G T St D n h) (hF : z_WF N) (s i k : Int32) : xRm N T St G s i k = mRo A B s i k := by
  unfold xRm mRo
  rcases pl_I S s with ⟨a, b⟩ | ⟨q, a, b, s0, s1, hq, hp⟩
  · rw [a, b, if_neg (by decide)]
  · rw [a, b, if_pos rfl]
    obtain ⟨L, y, m, P⟩ := P1_i S s0 s1 hq hp
    obtain ⟨-, -, s7⟩ := K1_p P.k
    have L1 := P.k.cw.2.1
    have L4 := P.k.cw.2.2.1
    have cx := P.cx
    have b59 := P.k.hB.2.2.2.2.2.2.1 s.toNatClampNeg
    have eL := z_oft (K := L) (by omega)
    have t1 : Int32.toInt 1 = 1 := rfl
    rw [P1_55 P]
    dsimp only
    rw [P.gy]
    unfold xIn
    by_cases i0 : i < 0
    · rw [if_pos i0, if_pos i0]; rfl
    · rw [if_neg i0, if_neg i0]
      by_cases i9 : 99 < i
      · rw [if_pos i9, if_pos i9]; rfl
      · rw [if_neg i9, if_neg i9, if_pos rfl]
        by_cases k1 : k < 1
        · rw [if_pos k1, if_pos k1]
        · rw [if_neg k1, if_neg k1]
          rw [z_ltI] at k1
          rcases P1_a P k with ⟨a1, a2, -, -, -, a3⟩ | ⟨a1, a2⟩
          · have i2 : xHp y k = true := by unfold xHp; rw [if_neg a3]
            rw [i2, if_pos rfl, if_pos (by rw [z_ltI]; omega)]
            have e1 : (k - 1).toInt = k.toInt - 1 := by rw [z_dif (by omega) (by omega) (by omega) (by omega)]; omega
            have m4 := z_m4 (y := mCx B s) (i := k) (by omega) (by omega) (by omega) (by omega)
            have hj : (4 * mCx B s + k - 1).toInt = 4 * (mCx B s).toInt + (k - 1).toInt := by
              rw [z_dif (by omega) (by omega) (by omega) (by omega)]; omega
            obtain ⟨-, x2, x3⟩ := P1_x P (k := k - 1) (by omega) (by omega) hj
            rw [P1_b P hF i a1 a2, P1_b P hF i (k := k - 1) (by omega) (by omega), x2, x3]
            exact z_rg5
          · have i2 : xHp y k = false := by unfold xHp; rw [if_pos a2]
            rw [i2, if_neg (by decide), if_neg]
            rw [z_ltI]
            omega
