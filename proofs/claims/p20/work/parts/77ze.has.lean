/-! The reference's meets and put, as sets of ticks. -/
/-- code y is choice c of stream s -/
def z_CW (N B : z_A) (s c : Nat) (y : Int32) (L : Nat) : Prop := (B 55 (3 * s + c)).toInt = (L : Int) ∧ 1 ≤ L ∧ L ≤ 4 ∧ (∀ k : Nat, k < L → xA y (Int32.ofNat k) = B 56 (4 * (3 * s + c) + k) ∧ xW N (xA y (Int32.ofNat k)) = true ∧ xB N (N 5 (xA y (Int32.ofNat k)).toNatClampNeg) = true) ∧ (∀ k : Nat, L ≤ k → k < 4 → xA y (Int32.ofNat k) = -1) ∧ y >>> ((16 : Int32) &&& 31) = B 57 (3 * s + c) ∧ ∀ i j : Nat, i < j → j < L → ¬ xA y (Int32.ofNat i) = xA y (Int32.ofNat j)
theorem z_CW_y {N B : z_A} {s c : Nat} {y : Int32} {L : Nat} (h : z_CW N B s c y L) : z_WY N y L := by
  obtain ⟨-, -, h2, h3, h4, -⟩ := h
  refine ⟨h2, fun k hk => (h3 k hk).2.1, fun hL => ?_⟩
  rw [h4 L (Nat.le_refl _) hL]
  unfold xW
  exact if_pos (by decide)
theorem cw_w {N B : z_A} {s c : Int32} {y : Int32} {L : Nat} (s0 : 0 ≤ s.toInt) (s1 : s.toInt ≤ 7) (c0 : 0 ≤ c.toInt) (c1 : c.toInt ≤ 2) (h : z_CW N B s.toNatClampNeg c.toNatClampNeg y L) {k : Nat} (hk : k < L) : mCw B s c (Int32.ofNat k) = xA y (Int32.ofNat k) := by
  have L4 := h.2.2.1
  have ek := z_oft (K := k) (by omega)
  have e := z_m3 s0 s1 c0 c1
  have e2 := z_m4 (y := 3 * s + c) (i := Int32.ofNat k) (by omega) (by omega) (by omega) (by omega)
  have p1 := z_pp s0
  have p2 := z_pp c0
  have p3 := z_pp (p := 4 * (3 * s + c) + Int32.ofNat k) (by omega)
  unfold mCw
  rw [(h.2.2.2.1 k hk).1]
  congr 1
  omega
theorem cw_55 {N B : z_A} {s c : Int32} {y : Int32} {L : Nat} (s0 : 0 ≤ s.toInt) (s1 : s.toInt ≤ 7) (c0 : 0 ≤ c.toInt) (c1 : c.toInt ≤ 2) (h : z_CW N B s.toNatClampNeg c.toNatClampNeg y L) : (B 55 (3 * s + c).toNatClampNeg).toInt = (L : Int) := by
  have e := z_m3 s0 s1 c0 c1
  have p1 := z_pp s0
  have p2 := z_pp c0
  have p3 := z_pp (p := 3 * s + c) (by omega)
  have x : (3 * s + c).toNatClampNeg = 3 * s.toNatClampNeg + c.toNatClampNeg := by omega
  rw [x]; exact h.1
theorem cw_t {N A B : z_A} {s w : Int32} (hN : z_NA N A) (hw : xW N w = true) : mTm A B s w = xT N w (B 52 s.toNatClampNeg) := by
  unfold mTm xT
  rw [if_pos hw, hN.2.2.2.2.2.2.2.2.2]
theorem cw_l {N A : z_A} {z w : Int32} (hN : z_NA N A) (hw : xW N w = true) (hb : xB N (N 5 w.toNatClampNeg) = true) : mLg A z w = xC N w z + xS N w := by
  obtain ⟨-, -, -, n9, n2, -, -, n5, n6, n7⟩ := hN
  unfold mLg xC xS
  rw [if_pos hw, if_pos hw, if_pos hb, n9, n2, n5, n6, n7]
  rw [Int32.add_assoc, Int32.add_assoc]
theorem mSt_I {N A B : z_A} {s c : Int32} {y : Int32} {L : Nat} (ha : z_RA N) (hN : z_NA N A) (hB : z_MB B) (s0 : 0 ≤ s.toInt) (s1 : s.toInt ≤ 7) (c0 : 0 ≤ c.toInt) (c1 : c.toInt ≤ 2) (h : z_CW N B s.toNatClampNeg c.toNatClampNeg y L) {r : Nat} (hr : r ≤ L) : ∀ (f i : Nat) (a : Int32), i ≤ r → r < i + f → -1000000 ≤ a.toInt → a.toInt ≤ 1000000 + 44 * (i : Int) → (mSt A B s c (Int32.ofNat r) f (Int32.ofNat i) a).toInt = a.toInt + (oI N (B 52 s.toNatClampNeg) y r - oI N (B 52 s.toNatClampNeg) y i) := by
  have L4 := h.2.2.1
  have zb := hB.2.1 s.toNatClampNeg
  have er := z_oft (K := r) (by omega)
  intro f
  induction f with
  | zero => intro i a h1 h2; omega
  | succ f ih =>
    intro i a h1 h2 a0 a1
    have ei := z_oft (K := i) (by omega)
    rw [mSt_s]
    by_cases q : i < r
    · rw [if_pos (by rw [z_ltI]; omega), cw_w s0 s1 c0 c1 h (show i < L by omega)]
      obtain ⟨-, w2, w3⟩ := h.2.2.2.1 i (by omega)
      rw [cw_l hN w2 w3]
      have u := xC_b ha (w := xA y (Int32.ofNat i)) zb.1 zb.2
      have v := xS_b ha (w := xA y (Int32.ofNat i))
      have e : (xC N (xA y (Int32.ofNat i)) (B 52 s.toNatClampNeg) + xS N (xA y (Int32.ofNat i))).toInt = (xC N (xA y (Int32.ofNat i)) (B 52 s.toNatClampNeg)).toInt + (xS N (xA y (Int32.ofNat i))).toInt := by rw [Int32.toInt_add, bm32]; split <;> omega
      have es : (a + (xC N (xA y (Int32.ofNat i)) (B 52 s.toNatClampNeg) + xS N (xA y (Int32.ofNat i)))).toInt = a.toInt + (xC N (xA y (Int32.ofNat i)) (B 52 s.toNatClampNeg) + xS N (xA y (Int32.ofNat i))).toInt := by rw [Int32.toInt_add, bm32]; split <;> omega
      have eo : oI N (B 52 s.toNatClampNeg) y (i + 1) = oI N (B 52 s.toNatClampNeg) y i + (xC N (xA y (Int32.ofNat i)) (B 52 s.toNatClampNeg) + xS N (xA y (Int32.ofNat i))).toInt := rfl
      have ek : Int32.ofNat i + 1 = Int32.ofNat (i + 1) := Int32.toInt_inj.mp (by rw [z_up1 (by omega) (by omega), ei, z_oft (by omega)]; omega)
      rw [ek, ih (i + 1) _ (by omega) (by omega) (by omega) (by omega), es, eo]
      omega
    · have e : i = r := by omega
      subst e
      rw [if_neg (by rw [z_ltI]; omega)]
      omega
theorem mSo_I {N A B : z_A} {s c t : Int32} {y : Int32} {L : Nat} (ha : z_RA N) (hN : z_NA N A) (hB : z_MB B) (s0 : 0 ≤ s.toInt) (s1 : s.toInt ≤ 7) (c0 : 0 ≤ c.toInt) (c1 : c.toInt ≤ 2) (h : z_CW N B s.toNatClampNeg c.toNatClampNeg y L) (t0 : -1000 ≤ t.toInt) (t1 : t.toInt ≤ 1000) {k : Nat} (hk : k ≤ L) : (mSo A B s c t (Int32.ofNat k)).toInt = t.toInt + oI N (B 52 s.toNatClampNeg) y k := by
  have L4 := h.2.2.1
  have e := mSt_I ha hN hB s0 s1 c0 c1 h hk 5 0 t (Nat.zero_le _) (by omega) (by omega) (by omega)
  have o : oI N (B 52 s.toNatClampNeg) y 0 = 0 := rfl
  rw [o, Int.sub_zero] at e
  exact e
/-- a tick of a wire is taken -/
def hC (C : z_A) (m : Int) (w : Nat) (u : Int) : Prop := ¬ C 61 (120 * w + (u % m).toNat) = 0
theorem hC_p {C : z_A} {m : Int} {w : Nat} {u v : Int} (e : u % m = v % m) : hC C m w u ↔ hC C m w v := by
  unfold hC; rw [e]
theorem mHx_n {A : z_A} (hA : z_MA A) {w y : Int32} (w0 : 0 ≤ w.toInt) (w1 : w.toInt ≤ 11) (y0 : 0 ≤ y.toInt) : (mHx A w y).toNatClampNeg = 120 * w.toNatClampNeg + (y.toInt % (A 45 8).toInt).toNat := by
  have hc := hA.2.2.1
  have e := z_rem (y := y) (c := A 45 8) y0 (by omega)
  have d0 := Int.emod_nonneg y.toInt (show (A 45 8).toInt ≠ 0 by omega)
  have d1 := Int.emod_lt_of_pos y.toInt (show 0 < (A 45 8).toInt by omega)
  have e1 : (120 * w).toInt = 120 * w.toInt := by
    rw [Int32.toInt_mul, bm32]
    have : Int32.toInt 120 = 120 := rfl
    rw [this]; split <;> omega
  unfold mHx
  generalize y - y / A 45 8 * A 45 8 = r at e ⊢
  have e2 : (120 * w + r).toInt = 120 * w.toInt + r.toInt := by rw [z_sum (by omega) (by omega) (by omega) (by omega), e1]
  have p := z_pp (p := 120 * w + r) (by omega)
  have p2 := z_pp w0
  omega
theorem mMj_I {A C : z_A} (hA : z_MA A) {w at_ m tm : Int32} (w0 : 0 ≤ w.toInt) (w1 : w.toInt ≤ 11) (q0 : 0 ≤ at_.toInt) (q1 : at_.toInt ≤ 1300) (m0 : 0 ≤ m.toInt) (m1 : m.toInt ≤ 240) (t1 : tm.toInt ≤ 24) : ∀ (k : Nat) (j : Int32), 0 ≤ j.toInt → j.toInt ≤ 50 → tm.toInt < j.toInt + (k : Int) → (mMj A C w at_ m tm k j = true ↔ ∃ i : Int, j.toInt ≤ i ∧ i < tm.toInt ∧ hC C (A 45 8).toInt w.toNatClampNeg (at_.toInt + m.toInt + i)) := by
  intro k
  induction k with
  | zero =>
    intro j j0 j2 j1
    refine ⟨fun h => (by cases h), ?_⟩
    rintro ⟨i, i1, i2, -⟩; omega
  | succ k ih =>
    intro j j0 j2 j1
    rw [mMj_s]
    by_cases c : j < tm
    · rw [if_pos c]
      rw [z_ltI] at c
      have e3 := z_y3 q0 q1 m0 m1 j0 (by omega)
      have ix := mHx_n hA w0 w1 (y := at_ + m + j) (by omega)
      rw [e3] at ix
      have e1 := z_up1 j0 (by omega)
      by_cases d : C 61 (mHx A w (at_ + m + j)).toNatClampNeg = 0
      · rw [if_pos d, ih (j + 1) (by omega) (by omega) (by omega), e1]
        constructor
        · rintro ⟨i, i1, i2, i3⟩; exact ⟨i, by omega, i2, i3⟩
        · rintro ⟨i, i1, i2, i3⟩
          refine ⟨i, ?_, i2, i3⟩
          by_cases e : i = j.toInt
          · exfalso
            rw [e] at i3
            unfold hC at i3
            rw [ix] at d
            exact i3 d
          · omega
      · rw [if_neg d]
        refine ⟨fun _ => ⟨j.toInt, by omega, c, ?_⟩, fun _ => rfl⟩
        unfold hC
        rw [ix] at d
        exact d
    · rw [if_neg c]
      rw [z_ltI] at c
      refine ⟨fun h => (by cases h), ?_⟩
      rintro ⟨i, i1, i2, -⟩; omega
theorem mMm_I {A C : z_A} (hA : z_MA A) {w at_ per tm : Int32} (w0 : 0 ≤ w.toInt) (w1 : w.toInt ≤ 11) (q0 : 0 ≤ at_.toInt) (q1 : at_.toInt ≤ 1300) (p0 : 0 < per.toInt) (p1 : per.toInt ≤ 120) (t1 : tm.toInt ≤ 24) : ∀ (k : Nat) (m : Int32), 0 ≤ m.toInt → m.toInt ≤ 240 → (A 45 8).toInt < m.toInt + (k : Int) → (mMm A C w at_ per tm k m = true ↔ ∃ i : Int, 0 ≤ i ∧ m.toInt + i * per.toInt < (A 45 8).toInt ∧ ∃ j : Int, 0 ≤ j ∧ j < tm.toInt ∧ hC C (A 45 8).toInt w.toNatClampNeg (at_.toInt + (m.toInt + i * per.toInt) + j)) := by
  have hc := hA.2.2.1
  have t0 : Int32.toInt 0 = 0 := rfl
  intro k
  induction k with
  | zero =>
    intro m m0 m2 m1
    refine ⟨fun h => (by cases h), ?_⟩
    rintro ⟨i, i1, i2, -⟩
    have := Int.mul_nonneg i1 (show 0 ≤ per.toInt by omega)
    omega
  | succ k ih =>
    intro m m0 m2 m1
    rw [mMm_s]
    by_cases c : m < A 45 8
    · rw [if_pos c]
      rw [z_ltI] at c
      have M := mMj_I (C := C) (tm := tm) hA w0 w1 q0 q1 m0 m2 t1 25 0 (by decide) (by decide) (by rw [t0]; omega)
      by_cases d : mMj A C w at_ m tm 25 0 = true
      · rw [if_pos d]
        obtain ⟨j, j1, j2, j3⟩ := M.mp d
        refine ⟨fun _ => ⟨0, Int.le_refl _, by rw [Int.zero_mul]; omega, j, j1, j2, ?_⟩, fun _ => rfl⟩
        rw [Int.zero_mul, Int.add_zero]; exact j3
      · rw [if_neg d]
        have e : (m + per).toInt = m.toInt + per.toInt := z_sum (by omega) (by omega) (by omega) (by omega)
        rw [ih (m + per) (by omega) (by omega) (by omega), e]
        constructor
        · rintro ⟨i, i1, i2, j, j1, j2, j3⟩
          have x : m.toInt + (i + 1) * per.toInt = m.toInt + per.toInt + i * per.toInt := by rw [Int.add_mul]; omega
          exact ⟨i + 1, by omega, by omega, j, j1, j2, by rw [x]; exact j3⟩
        · rintro ⟨i, i1, i2, j, j1, j2, j3⟩
          by_cases e0 : i = 0
          · exfalso
            rw [e0, Int.zero_mul, Int.add_zero] at j3
            exact d (M.mpr ⟨j, j1, j2, j3⟩)
          · have x : m.toInt + per.toInt + (i - 1) * per.toInt = m.toInt + i * per.toInt := by rw [Int.sub_mul]; omega
            exact ⟨i - 1, by omega, by omega, j, j1, j2, by rw [x]; exact j3⟩
    · rw [if_neg c]
      rw [z_ltI] at c
      refine ⟨fun h => (by cases h), ?_⟩
      rintro ⟨i, i1, i2, -⟩
      have := Int.mul_nonneg i1 (show 0 ≤ per.toInt by omega)
      omega
theorem z_VV {c per tm a n : Int} {tk : Int → Prop} (hp : 0 < per) (hn : c = per * n) (n0 : 0 < n) (ht : tm ≤ per) (hk : ∀ u v, u % c = v % c → (tk u ↔ tk v)) : (∃ i, 0 ≤ i ∧ 0 + i * per < c ∧ ∃ j, 0 ≤ j ∧ j < tm ∧ tk (a + (0 + i * per) + j)) ↔ ∃ v, (v - a) % per < tm ∧ tk v := by
  constructor
  · rintro ⟨i, i0, i1, j, j0, j1, h⟩
    refine ⟨_, ?_, h⟩
    rw [z_ue (r := j) (q := i) j0 (by omega) (by rw [Int.mul_comm per i]; omega)]
    exact j1
  · rintro ⟨v, h1, h2⟩
    have r0 := Int.emod_nonneg (v - a) (show per ≠ 0 by omega)
    have e := Int.mul_ediv_add_emod (v - a) per
    generalize (v - a) % per = j at h1 r0 e
    generalize (v - a) / per = Q at e
    have a0 := Int.emod_nonneg Q (show n ≠ 0 by omega)
    have a1 := Int.emod_lt_of_pos Q n0
    have ae := Int.mul_ediv_add_emod Q n
    have lt : Q % n * per < c := by
      have := Int.mul_le_mul_of_nonneg_right (show Q % n ≤ n - 1 by omega) (show 0 ≤ per by omega)
      rw [Int.sub_mul, Int.one_mul, Int.mul_comm n per, ← hn] at this
      omega
    refine ⟨Q % n, a0, by omega, j, r0, h1, ?_⟩
    have x : v = a + (0 + Q % n * per) + j + c * (Q / n) := by
      have y1 : per * Q = per * (n * (Q / n) + Q % n) := by rw [ae]
      rw [Int.mul_add, ← Int.mul_assoc, ← hn] at y1
      rw [Int.mul_comm (Q % n) per]
      omega
    rw [x] at h2
    exact (hk _ _ (Int.add_mul_emod_self_left _ _ _)).mp h2
/-- what both know of a choice: its stream's size and period, too -/
def z_K1 (N A B : z_A) (s c : Int32) (y : Int32) (L h : Nat) (n : Int) : Prop := (z_RA N) ∧ (z_RN N) ∧ (z_MA A) ∧ (z_MB B) ∧ (z_NA N A) ∧ (z_Cc N h) ∧ (0 ≤ s.toInt) ∧ (s.toInt < (B 45 10).toInt) ∧ (0 ≤ c.toInt) ∧ (c.toInt ≤ 2) ∧ (z_CW N B s.toNatClampNeg c.toNatClampNeg y L) ∧ (2 * (h : Int) = (B 53 s.toNatClampNeg).toInt * n) ∧ (0 < n)
theorem z_K1.ha {N A B : z_A} {s c : Int32} {y : Int32} {L h : Nat} {n : Int} (K : z_K1 N A B s c y L h n) : z_RA N := K.1
theorem z_K1.hr {N A B : z_A} {s c : Int32} {y : Int32} {L h : Nat} {n : Int} (K : z_K1 N A B s c y L h n) : z_RN N := K.2.1
theorem z_K1.hA {N A B : z_A} {s c : Int32} {y : Int32} {L h : Nat} {n : Int} (K : z_K1 N A B s c y L h n) : z_MA A := K.2.2.1
theorem z_K1.hB {N A B : z_A} {s c : Int32} {y : Int32} {L h : Nat} {n : Int} (K : z_K1 N A B s c y L h n) : z_MB B := K.2.2.2.1
theorem z_K1.hN {N A B : z_A} {s c : Int32} {y : Int32} {L h : Nat} {n : Int} (K : z_K1 N A B s c y L h n) : z_NA N A := K.2.2.2.2.1
theorem z_K1.hc {N A B : z_A} {s c : Int32} {y : Int32} {L h : Nat} {n : Int} (K : z_K1 N A B s c y L h n) : z_Cc N h := K.2.2.2.2.2.1
theorem z_K1.s0 {N A B : z_A} {s c : Int32} {y : Int32} {L h : Nat} {n : Int} (K : z_K1 N A B s c y L h n) : 0 ≤ s.toInt := K.2.2.2.2.2.2.1
theorem z_K1.s1 {N A B : z_A} {s c : Int32} {y : Int32} {L h : Nat} {n : Int} (K : z_K1 N A B s c y L h n) : s.toInt < (B 45 10).toInt := K.2.2.2.2.2.2.2.1
theorem z_K1.c0 {N A B : z_A} {s c : Int32} {y : Int32} {L h : Nat} {n : Int} (K : z_K1 N A B s c y L h n) : 0 ≤ c.toInt := K.2.2.2.2.2.2.2.2.1
theorem z_K1.c1 {N A B : z_A} {s c : Int32} {y : Int32} {L h : Nat} {n : Int} (K : z_K1 N A B s c y L h n) : c.toInt ≤ 2 := K.2.2.2.2.2.2.2.2.2.1
theorem z_K1.cw {N A B : z_A} {s c : Int32} {y : Int32} {L h : Nat} {n : Int} (K : z_K1 N A B s c y L h n) : z_CW N B s.toNatClampNeg c.toNatClampNeg y L := K.2.2.2.2.2.2.2.2.2.2.1
theorem z_K1.hn {N A B : z_A} {s c : Int32} {y : Int32} {L h : Nat} {n : Int} (K : z_K1 N A B s c y L h n) : 2 * (h : Int) = (B 53 s.toNatClampNeg).toInt * n := K.2.2.2.2.2.2.2.2.2.2.2.1
theorem z_K1.n0 {N A B : z_A} {s c : Int32} {y : Int32} {L h : Nat} {n : Int} (K : z_K1 N A B s c y L h n) : 0 < n := K.2.2.2.2.2.2.2.2.2.2.2.2
theorem K1_c {N A B : z_A} {s c y : Int32} {L h : Nat} {n : Int} (K : z_K1 N A B s c y L h n) : (A 45 8).toInt = 2 * (h : Int) := by
  have c4 := K.hc.2.2.2
  rw [← K.hN.2.2.1, K.hc.1, z_oft (by omega)]
  omega
theorem K1_p {N A B : z_A} {s c y : Int32} {L h : Nat} {n : Int} (K : z_K1 N A B s c y L h n) : 2 ≤ (B 53 s.toNatClampNeg).toInt ∧ (B 53 s.toNatClampNeg).toInt ≤ 120 ∧ s.toInt ≤ 7 := by
  have b := K.hB.1
  have s1 := K.s1
  have s0 := K.s0
  have p := z_pp s0
  have := K.hB.2.2.1 s.toNatClampNeg (by omega)
  omega
theorem K1_w {N A B : z_A} {s c y : Int32} {L h : Nat} {n : Int} (K : z_K1 N A B s c y L h n) {k : Nat} (hk : k < L) : 0 ≤ (xA y (Int32.ofNat k)).toInt ∧ (xA y (Int32.ofNat k)).toInt ≤ 11 ∧ dW y k ≤ 11 := by
  have a := xW_s (K.cw.2.2.2.1 k hk).2.1
  have b := K.hr.2.2.2.1
  have p := z_pp a.1
  unfold dW
  omega
theorem mMk_I {N A B C : z_A} {s c t y : Int32} {L h : Nat} {n : Int} (K : z_K1 N A B s c y L h n) (t0 : 0 ≤ t.toInt) (t1 : t.toInt ≤ 1000) : ∀ (f i : Nat), i ≤ L → L < i + f → (mMk A B C s c t f (Int32.ofNat i) = true ↔ ∃ k, i ≤ k ∧ k < L ∧ ((B 53 s.toNatClampNeg).toInt < dT N (B 52 s.toNatClampNeg) y k ∨ ∃ v, (v - (t.toInt + oI N (B 52 s.toNatClampNeg) y k)) % (B 53 s.toNatClampNeg).toInt < dT N (B 52 s.toNatClampNeg) y k ∧ hC C (A 45 8).toInt (dW y k) v)) := by
  have kc := K1_c K
  obtain ⟨p0, p1, s7⟩ := K1_p K
  have zb := K.hB.2.1 s.toNatClampNeg
  have L4 := K.cw.2.2.1
  have t00 : Int32.toInt 0 = 0 := rfl
  have c120 := K.hA.2.2.1
  intro f
  induction f with
  | zero => intro i h1 h2; omega
  | succ f ih =>
    intro i h1 h2
    have ei := z_oft (K := i) (by omega)
    have e55 := cw_55 K.s0 s7 K.c0 K.c1 K.cw
    rw [mMk_s]
    by_cases q : i < L
    · rw [if_pos (by rw [z_ltI]; omega), cw_w K.s0 s7 K.c0 K.c1 K.cw q]
      obtain ⟨-, w2, w3⟩ := K.cw.2.2.2.1 i q
      obtain ⟨b0, b1, b2⟩ := K1_w K q
      rw [cw_t K.hN w2]
      have so := mSo_I (t := t) K.ha K.hN K.hB K.s0 s7 K.c0 K.c1 K.cw (by omega) t1 (show i ≤ L by omega)
      have sb := mSo_b (s := s) (c := c) (k := Int32.ofNat i) K.hA K.hB t0 t1
      have tb := dT_0 K.ha (z := B 52 s.toNatClampNeg) (y := y) zb.1 zb.2 i
      have dk : dT N (B 52 s.toNatClampNeg) y i = (xT N (xA y (Int32.ofNat i)) (B 52 s.toNatClampNeg)).toInt := rfl
      have ek : Int32.ofNat i + 1 = Int32.ofNat (i + 1) := Int32.toInt_inj.mp (by rw [z_up1 (by omega) (by omega), ei, z_oft (by omega)]; omega)
      by_cases big : B 53 s.toNatClampNeg < xT N (xA y (Int32.ofNat i)) (B 52 s.toNatClampNeg)
      · rw [if_pos big]
        rw [z_ltI] at big
        exact ⟨fun _ => ⟨i, Nat.le_refl _, q, Or.inl (by omega)⟩, fun _ => rfl⟩
      · rw [if_neg big]
        rw [z_ltI] at big
        have M := mMm_I (C := C) (w := xA y (Int32.ofNat i)) (at_ := mSo A B s c t (Int32.ofNat i)) (per := B 53 s.toNatClampNeg) (tm := xT N (xA y (Int32.ofNat i)) (B 52 s.toNatClampNeg)) K.hA b0 b1 sb.1 sb.2 (by omega) p1 (by omega) 121 0 (by decide) (by decide) (by rw [t00]; omega)
        rw [t00, so] at M
        have M2 := M.trans (z_VV (tk := fun v => hC C (A 45 8).toInt (dW y i) v) (by omega) (kc.trans K.hn) K.n0 (by omega) (fun u v e => hC_p e))
        by_cases d : mMm A C (xA y (Int32.ofNat i)) (mSo A B s c t (Int32.ofNat i)) (B 53 s.toNatClampNeg) (xT N (xA y (Int32.ofNat i)) (B 52 s.toNatClampNeg)) 121 0 = true
        · rw [if_pos d]
          exact ⟨fun _ => ⟨i, Nat.le_refl _, q, Or.inr (M2.mp d)⟩, fun _ => rfl⟩
        · rw [if_neg d, ek, ih (i + 1) (by omega) (by omega)]
          constructor
          · rintro ⟨k, k1, k2, k3⟩; exact ⟨k, by omega, k2, k3⟩
          · rintro ⟨k, k1, k2, k3⟩
            refine ⟨k, ?_, k2, k3⟩
            by_cases e : k = i
            · exfalso
              subst e
              rcases k3 with k3 | k3
              · omega
              · exact d (M2.mpr k3)
            · omega
    · have e : i = L := by omega
      subst e
      rw [if_neg (by rw [z_ltI]; omega)]
      refine ⟨fun h => (by cases h), ?_⟩
      rintro ⟨k, k1, k2, -⟩; omega
theorem mMt_I {N A B C : z_A} {s c t y : Int32} {L h : Nat} {n : Int} (K : z_K1 N A B s c y L h n) (t0 : 0 ≤ t.toInt) (t1 : t.toInt ≤ 1000) : mMt A B C s c t = true ↔ mP N (B 52 s.toNatClampNeg) (B 53 s.toNatClampNeg) y L (hC C (A 45 8).toInt) t.toInt := by
  have L4 := K.cw.2.2.1
  have M := mMk_I (C := C) K t0 t1 5 0 (Nat.zero_le _) (by omega)
  unfold mMt mP
  refine M.trans ?_
  constructor
  · rintro ⟨k, -, k2, k3 | k3⟩
    · exact Or.inl ⟨k, k2, k3⟩
    · exact Or.inr ⟨k, k2, k3⟩
  · rintro (⟨k, k2, k3⟩ | ⟨k, k2, k3⟩)
    · exact ⟨k, Nat.zero_le _, k2, Or.inl k3⟩
    · exact ⟨k, Nat.zero_le _, k2, Or.inr k3⟩
