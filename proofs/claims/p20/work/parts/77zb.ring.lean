/-! Turning a set, and the ticks of a stream's letters. -/
theorem z_tm {b c : Int32} (b0 : -100000000 ≤ b.toInt) (b1 : b.toInt ≤ 100000000) (c0 : 0 < c.toInt) (c1 : c.toInt ≤ 1000) : ∃ q : Int, (b - b / c * c).toInt = b.toInt - c.toInt * q ∧ -c.toInt < (b - b / c * c).toInt ∧ (b - b / c * c).toInt < c.toInt ∧ (b.toInt < 0 → (b - b / c * c).toInt ≤ 0) ∧ (0 ≤ b.toInt → 0 ≤ (b - b / c * c).toInt) := by
  by_cases h : 0 ≤ b.toInt
  · have e := z_rem h c0
    have h1 := Int.mul_ediv_add_emod b.toInt c.toInt
    have h2 := Int.emod_nonneg b.toInt (show c.toInt ≠ 0 by omega)
    have h3 := Int.emod_lt_of_pos b.toInt c0
    refine ⟨b.toInt / c.toInt, ?_, ?_, ?_, ?_, ?_⟩ <;> omega
  · obtain ⟨M, hM⟩ : ∃ M : Int, b.toInt = -M := ⟨-b.toInt, by omega⟩
    have h1 := Int.mul_ediv_add_emod M c.toInt
    have h2 := Int.emod_nonneg M (show c.toInt ≠ 0 by omega)
    have h3 := Int.emod_lt_of_pos M c0
    have q0 : 0 ≤ M / c.toInt := Int.ediv_nonneg (by omega) (by omega)
    have q1 : M / c.toInt ≤ M := Int.ediv_le_self _ (by omega)
    have e1 : (b / c).toInt = -(M / c.toInt) := by
      rw [Int32.toInt_div, hM, Int.neg_tdiv, Int.tdiv_eq_ediv_of_nonneg (by omega), bm32]
      split <;> omega
    have e2 : (b / c * c).toInt = -(c.toInt * (M / c.toInt)) := by
      rw [Int32.toInt_mul, e1, Int.neg_mul, Int.mul_comm, bm32]
      generalize c.toInt * (M / c.toInt) = k at *
      split <;> omega
    have e3 : (b - b / c * c).toInt = b.toInt + c.toInt * (M / c.toInt) := by
      rw [Int32.toInt_sub, e2, bm32]
      generalize c.toInt * (M / c.toInt) = k at *
      split <;> omega
    refine ⟨-(M / c.toInt), ?_, ?_, ?_, ?_, ?_⟩
    · rw [e3, Int.mul_neg]; omega
    all_goals omega
theorem z_ue {c r x q : Int} (h0 : 0 ≤ r) (h1 : r < c) (e : x = c * q + r) : x % c = r := by
  rw [e, Int.mul_add_emod_self_left, Int.emod_eq_of_lt h0 h1]
theorem xTn_n {tk b : Int32} (b0 : -100000000 ≤ b.toInt) (b1 : b.toInt ≤ 100000000) (c0 : 0 < tk.toInt) (c1 : tk.toInt ≤ 1000) : (xTn tk b).toInt = b.toInt % tk.toInt := by
  obtain ⟨q, h1, h2, h3, -, -⟩ := z_tm b0 b1 c0 c1
  unfold xTn
  generalize b - b / tk * tk = r at h1 h2 h3 ⊢
  have t0 : Int32.toInt 0 = 0 := rfl
  by_cases c : r < 0
  · rw [if_pos c]
    rw [z_ltI, t0] at c
    have e : (r + tk).toInt = r.toInt + tk.toInt := by rw [Int32.toInt_add, bm32]; split <;> omega
    rw [e]
    exact (z_ue (q := q - 1) (by omega) (by omega) (by rw [Int.mul_sub]; omega)).symm
  · rw [if_neg c]
    rw [z_ltI, t0] at c
    exact (z_ue (q := q) (by omega) (by omega) (by omega)).symm
theorem xOr_b {tk b : Int32} {x y o : Int64} {h K : Nat} (hh : tk / 2 = Int32.ofNat h) (h6 : h ≤ 60) (hs : xSh tk b = Int32.ofNat K) (hK : K < h) (hy : ∀ i, h ≤ i → b6 y i = false) (i : Nat) : b6 (xOr tk b x y o) i = (b6 o i || (decide (i < h) && if K ≤ i then b6 x (i - K) else b6 y (h - K + i))) := by
  have e : tk / 2 - xSh tk b = Int32.ofNat (h - K) := by
    rw [hh, hs]
    have e1 := z_oft (K := h) (by omega)
    have e2 := z_oft (K := K) (by omega)
    have e3 := z_oft (K := h - K) (by omega)
    refine Int32.toInt_inj.mp ?_
    rw [z_dif (by omega) (by omega) (by omega) (by omega)]
    omega
  unfold xOr
  rw [b6_or, b6_and, b6_or, b6_shl hs (by omega), b6_ush e (by omega), b6_mk hh (by omega)]
  congr 1
  by_cases c : i < h
  · rw [decide_eq_true c, decide_eq_true (show i < 64 by omega), Bool.true_and, Bool.and_true, Bool.true_and]
    by_cases k : K ≤ i
    · rw [if_pos k, decide_eq_false (show ¬ i < K by omega), hy (h - K + i) (by omega)]
      simp
    · rw [if_neg k, decide_eq_true (show i < K by omega)]
      simp
  · rw [decide_eq_false c, Bool.and_false, Bool.false_and]
theorem z_wj1 {J : z_J} {p : Nat} {a b : Int64} : z_wj J p a b p = (a, b) := if_pos rfl
theorem z_wj2 {J : z_J} {p q : Nat} {a b : Int64} (h : q ≠ p) : z_wj J p a b q = J q := if_neg h
theorem tu_b {N : z_A} {J : z_J} {p : Nat} {a b : Int64} {y : Int32} {h : Nat} (hc : z_Cc N h) (hab : rZ h (a, b)) (y0 : -100000000 ≤ y.toInt) (y1 : y.toInt ≤ 100000000) : (∀ t, t < 2 * h → rB h (xTu N J p a b y p) t = (rB h (J p) t || rB h (a, b) (((t : Int) - y.toInt) % (2 * (h : Int))).toNat)) ∧ (rZ h (J p) → rZ h (xTu N J p a b y p)) := by
  obtain ⟨c1, c2, c3, c4⟩ := hc
  have tk : (N 1 8).toInt = 2 * (h : Int) := by rw [c1, z_oft (by omega)]; omega
  have tn := xTn_n (tk := N 1 8) y0 y1 (by omega) (by omega)
  rw [tk] at tn
  have d0 := Int.emod_nonneg y.toInt (show (2 * (h : Int)) ≠ 0 by omega)
  have d1 := Int.emod_lt_of_pos y.toInt (show 0 < 2 * (h : Int) by omega)
  have dv := Int.mul_ediv_add_emod y.toInt (2 * (h : Int))
  obtain ⟨Dn, hD⟩ : ∃ Dn : Nat, (Dn : Int) = y.toInt % (2 * (h : Int)) := ⟨(y.toInt % (2 * (h : Int))).toNat, by omega⟩
  have pos : ∀ t, t < 2 * h → (((t : Int) - y.toInt) % (2 * (h : Int))).toNat = if Dn ≤ t then t - Dn else t + 2 * h - Dn := fun t ht => by
    by_cases q : Dn ≤ t
    · rw [if_pos q, z_ue (r := (t : Int) - Dn) (q := -(y.toInt / (2 * (h : Int)))) (by omega) (by omega) (by rw [Int.mul_neg]; omega)]
      omega
    · rw [if_neg q, z_ue (r := (t : Int) - Dn + 2 * (h : Int)) (q := -(y.toInt / (2 * (h : Int))) - 1) (by omega) (by omega) (by rw [Int.mul_sub, Int.mul_neg]; omega)]
      omega
  have ft := fun i hi => (hab i hi).1
  have sd := fun i hi => (hab i hi).2
  have eh := z_oft (K := h) (by omega)
  have ex : xTu N J p a b y p = (xOr (N 1 8) y (xTs (N 1 8) y a b) (xTs (N 1 8) y b a) (J p).1, xOr (N 1 8) y (xTs (N 1 8) y b a) (xTs (N 1 8) y a b) (J p).2) := z_wj1
  by_cases ov : Dn < h
  · have lt : xTn (N 1 8) y < N 1 8 / 2 := by rw [c2, z_ltI]; omega
    have s1 : ∀ u v : Int64, xTs (N 1 8) y u v = u := fun u v => if_pos lt
    have s2 : xSh (N 1 8) y = Int32.ofNat Dn := by
      unfold xSh
      rw [if_pos lt]
      refine Int32.toInt_inj.mp ?_
      rw [z_oft (by omega)]; omega
    rw [ex, s1, s1]
    have o1 := xOr_b (tk := N 1 8) (x := a) (y := b) (o := (J p).1) c2 c4 s2 ov sd
    have o2 := xOr_b (tk := N 1 8) (x := b) (y := a) (o := (J p).2) c2 c4 s2 ov ft
    refine ⟨fun t ht => ?_, fun hJ i hi => ?_⟩
    · rw [pos t ht]
      unfold rB
      by_cases g : t < h
      · rw [if_pos g, if_pos g, o1, decide_eq_true g, Bool.true_and]
        congr 1
        by_cases k : Dn ≤ t
        · rw [if_pos k, if_pos k, if_pos (by omega)]
        · rw [if_neg k, if_neg k, if_neg (by omega)]
          congr 1; omega
      · rw [if_neg g, if_neg g, o2, decide_eq_true (show t - h < h by omega), Bool.true_and]
        congr 1
        by_cases k : Dn ≤ t - h
        · rw [if_pos k, if_pos (show Dn ≤ t by omega), if_neg (show ¬ t - Dn < h by omega)]
          congr 1; omega
        · rw [if_neg k, if_pos (show Dn ≤ t by omega), if_pos (show t - Dn < h by omega)]
          congr 1; omega
    · have n : ¬ i < h := by omega
      constructor
      · show b6 (xOr (N 1 8) y a b (J p).1) i = false
        rw [o1, (hJ i hi).1, decide_eq_false n]; rfl
      · show b6 (xOr (N 1 8) y b a (J p).2) i = false
        rw [o2, (hJ i hi).2, decide_eq_false n]; rfl
  · have lt : ¬ xTn (N 1 8) y < N 1 8 / 2 := by rw [c2, z_ltI]; omega
    have s1 : ∀ u v : Int64, xTs (N 1 8) y u v = v := fun u v => if_neg lt
    have s2 : xSh (N 1 8) y = Int32.ofNat (Dn - h) := by
      unfold xSh
      rw [if_neg lt, c2]
      refine Int32.toInt_inj.mp ?_
      rw [z_dif (by omega) (by omega) (by omega) (by omega), z_oft (K := Dn - h) (by omega)]; omega
    rw [ex, s1, s1]
    have o1 := xOr_b (tk := N 1 8) (x := b) (y := a) (o := (J p).1) c2 c4 s2 (by omega) ft
    have o2 := xOr_b (tk := N 1 8) (x := a) (y := b) (o := (J p).2) c2 c4 s2 (by omega) sd
    refine ⟨fun t ht => ?_, fun hJ i hi => ?_⟩
    · rw [pos t ht]
      unfold rB
      by_cases g : t < h
      · rw [if_pos g, if_pos g, o1, decide_eq_true g, Bool.true_and]
        congr 1
        by_cases k : Dn - h ≤ t
        · rw [if_pos k]
          rw [if_neg (show ¬ Dn ≤ t by omega), if_neg (by omega)]
          congr 1; omega
        · rw [if_neg k, if_neg (show ¬ Dn ≤ t by omega), if_pos (by omega)]
          congr 1; omega
      · rw [if_neg g, if_neg g, o2, decide_eq_true (show t - h < h by omega), Bool.true_and]
        congr 1
        by_cases k : Dn - h ≤ t - h
        · rw [if_pos k, if_pos (show Dn ≤ t by omega), if_pos (by omega)]
          congr 1; omega
        · rw [if_neg k, if_neg (show ¬ Dn ≤ t by omega), if_neg (by omega)]
          congr 1; omega
    · have n : ¬ i < h := by omega
      constructor
      · show b6 (xOr (N 1 8) y b a (J p).1) i = false
        rw [o1, (hJ i hi).1, decide_eq_false n]; rfl
      · show b6 (xOr (N 1 8) y a b (J p).2) i = false
        rw [o2, (hJ i hi).2, decide_eq_false n]; rfl
theorem tu_I {N : z_A} {J : z_J} {p : Nat} {a b : Int64} {y : Int32} {h : Nat} (hc : z_Cc N h) (hab : rZ h (a, b)) (y0 : -100000000 ≤ y.toInt) (y1 : y.toInt ≤ 100000000) (u : Int) : rI h (xTu N J p a b y p) u = (rI h (J p) u || rI h (a, b) (u - y.toInt)) := by
  have h6 := hc.2.2.1
  have d0 := Int.emod_nonneg u (show (2 * (h : Int)) ≠ 0 by omega)
  have d1 := Int.emod_lt_of_pos u (show 0 < 2 * (h : Int) by omega)
  unfold rI
  rw [(tu_b hc hab y0 y1).1 _ (by omega)]
  congr 2
  have e : (((u % (2 * (h : Int))).toNat : Nat) : Int) = u % (2 * (h : Int)) := by omega
  rw [e, Int.emod_sub_emod]
/-- the set of the first ticks -/
theorem z_mkI {tm : Int32} {N : z_A} {h : Nat} (hc : z_Cc N h) (t0 : 0 ≤ tm.toInt) (t1 : tm.toInt ≤ 2 * (h : Int)) : rZ h (((1 : Int64) <<< ((xMn tm (N 1 8 / 2)).toInt64 &&& 63)) - 1, ((1 : Int64) <<< ((xMx (tm - N 1 8 / 2) 0).toInt64 &&& 63)) - 1) ∧ ∀ u : Int, rI h (((1 : Int64) <<< ((xMn tm (N 1 8 / 2)).toInt64 &&& 63)) - 1, ((1 : Int64) <<< ((xMx (tm - N 1 8 / 2) 0).toInt64 &&& 63)) - 1) u = decide (u % (2 * (h : Int)) < tm.toInt) := by
  obtain ⟨c1, c2, c3, c4⟩ := hc
  have eh := z_oft (K := h) (by omega)
  have e0 : Int32.toInt 0 = 0 := rfl
  have m1 : xMn tm (N 1 8 / 2) = Int32.ofNat (min tm.toInt.toNat h) := by
    unfold xMn
    rw [c2]
    refine Int32.toInt_inj.mp ?_
    rw [z_oft (by omega)]
    split
    · rename_i q; rw [z_ltI] at q; omega
    · rename_i q; rw [z_ltI] at q; omega
  have m2 : xMx (tm - N 1 8 / 2) 0 = Int32.ofNat (tm.toInt.toNat - h) := by
    unfold xMx
    rw [c2]
    have e := z_dif (a := tm) (b := Int32.ofNat h) (by omega) (by omega) (by omega) (by omega)
    refine Int32.toInt_inj.mp ?_
    rw [z_oft (by omega)]
    split
    · rename_i q; rw [z_ltI] at q; omega
    · rename_i q; rw [z_ltI] at q; omega
  have k1 := fun i => b6_mk (i := i) m1 (by omega)
  have k2 := fun i => b6_mk (i := i) m2 (by omega)
  refine ⟨fun i hi => ⟨?_, ?_⟩, fun u => ?_⟩
  · rw [k1]; exact decide_eq_false (by omega)
  · rw [k2]; exact decide_eq_false (by omega)
  · have d0 := Int.emod_nonneg u (show (2 * (h : Int)) ≠ 0 by omega)
    have d1 := Int.emod_lt_of_pos u (show 0 < 2 * (h : Int) by omega)
    unfold rI rB
    by_cases g : (u % (2 * (h : Int))).toNat < h
    · rw [if_pos g, k1]
      exact decide_eq_decide.mpr (by omega)
    · rw [if_neg g, k2]
      exact decide_eq_decide.mpr (by omega)
theorem xBl_I {N : z_A} {p : Nat} {f s : Int64} {st per : Int32} {h : Nat} (hc : z_Cc N h) (hf : rZ h (f, s)) (s0 : -10000000 ≤ st.toInt) (s1 : st.toInt ≤ 10000000) (p0 : 0 < per.toInt) (p1 : per.toInt ≤ 120) (n6 : (xLn N per).toInt ≤ 120) : ∀ (k : Nat) (i : Int32) (J : z_J), 0 ≤ i.toInt → (xLn N per).toInt < i.toInt + (k : Int) → (rZ h (J p) → rZ h (xBl N p f s st per k i J p)) ∧ (∀ q, q ≠ p → xBl N p f s st per k i J q = J q) ∧ ∀ u, rI h (xBl N p f s st per k i J p) u = true ↔ (rI h (J p) u = true ∨ ∃ m : Int, i.toInt ≤ m ∧ m < (xLn N per).toInt ∧ rI h (f, s) (u - (st.toInt + m * per.toInt)) = true) := by
  intro k
  induction k with
  | zero =>
    intro i J i0 i1
    refine ⟨id, fun _ _ => rfl, fun u => ⟨Or.inl, fun h => ?_⟩⟩
    rcases h with h | ⟨m, m1, m2, -⟩
    · exact h
    · omega
  | succ k ih =>
    intro i J i0 i1
    have st_ : xBl N p f s st per (k + 1) i J = if i < xLn N per then xBl N p f s st per k (i + 1) (xTu N J p f s (st + i * per)) else J := rfl
    rw [st_]
    by_cases c : i < xLn N per
    · rw [if_pos c]
      rw [z_ltI] at c
      have e1 := z_up1 i0 (by omega)
      have m0 : 0 ≤ i.toInt * per.toInt := Int.mul_nonneg i0 (by omega)
      have m1 : i.toInt * per.toInt ≤ 120 * 120 := Int.mul_le_mul (by omega) p1 (by omega) (by omega)
      have e2 : (i * per).toInt = i.toInt * per.toInt := by
        rw [Int32.toInt_mul, bm32]
        generalize i.toInt * per.toInt = w at *
        split <;> omega
      have e3 : (st + i * per).toInt = st.toInt + i.toInt * per.toInt := by
        rw [Int32.toInt_add, e2, bm32]
        generalize i.toInt * per.toInt = w at *
        split <;> omega
      have y0 : -100000000 ≤ (st + i * per).toInt := by omega
      have y1 : (st + i * per).toInt ≤ 100000000 := by omega
      have T := ih (i + 1) (xTu N J p f s (st + i * per)) (by omega) (by omega)
      refine ⟨fun hJ => T.1 ((tu_b hc hf y0 y1).2 hJ), fun q hq => (T.2.1 q hq).trans (z_wj2 hq), fun u => ?_⟩
      rw [T.2.2 u, tu_I hc hf y0 y1, e1, e3, Bool.or_eq_true]
      constructor
      · rintro ((g | g) | ⟨m, g1, g2, g3⟩)
        · exact Or.inl g
        · exact Or.inr ⟨i.toInt, by omega, c, g⟩
        · exact Or.inr ⟨m, by omega, g2, g3⟩
      · rintro (g | ⟨m, g1, g2, g3⟩)
        · exact Or.inl (Or.inl g)
        · by_cases e : m = i.toInt
          · rw [e] at g3; exact Or.inl (Or.inr g3)
          · exact Or.inr ⟨m, by omega, g2, g3⟩
    · rw [if_neg c]
      rw [z_ltI] at c
      refine ⟨id, fun _ _ => rfl, fun u => ⟨Or.inl, fun h => ?_⟩⟩
      rcases h with h | ⟨m, m1, m2, -⟩
      · exact h
      · omega
/-- ticks that letters of a stream take: by the period alone -/
theorem z_LT {c per tm st u n : Int} (hp : 0 < per) (hn : c = per * n) (n0 : 0 < n) (ht : tm ≤ per) : (∃ m, 0 ≤ m ∧ m < n ∧ (u - (st + m * per)) % c < tm) ↔ (u - st) % per < tm := by
  have cp : per ≤ c := by
    have := Int.mul_le_mul_of_nonneg_left (show 1 ≤ n by omega) (show 0 ≤ per by omega)
    omega
  constructor
  · rintro ⟨m, m0, m1, h⟩
    have r0 := Int.emod_nonneg (u - (st + m * per)) (show c ≠ 0 by omega)
    have e := Int.mul_ediv_add_emod (u - (st + m * per)) c
    generalize (u - (st + m * per)) % c = r at h r0 e
    generalize (u - (st + m * per)) / c = q at e
    have e2 : u - st = per * (m + n * q) + r := by
      rw [Int.mul_add, ← Int.mul_assoc, ← hn, Int.mul_comm per m]; omega
    rw [z_ue r0 (by omega) e2]
    exact h
  · intro h
    have r0 := Int.emod_nonneg (u - st) (show per ≠ 0 by omega)
    have r1 := Int.emod_lt_of_pos (u - st) hp
    have e := Int.mul_ediv_add_emod (u - st) per
    generalize (u - st) % per = r at h r0 r1 e
    generalize (u - st) / per = Q at e
    have q0 := Int.emod_nonneg Q (show n ≠ 0 by omega)
    have q1 := Int.emod_lt_of_pos Q n0
    have qe := Int.mul_ediv_add_emod Q n
    refine ⟨Q % n, q0, q1, ?_⟩
    have e2 : u - (st + Q % n * per) = c * (Q / n) + r := by
      have x : per * Q = c * (Q / n) + per * (Q % n) := by
        rw [hn, Int.mul_assoc, ← Int.mul_add, qe]
      rw [Int.mul_comm (Q % n) per]
      omega
    rw [z_ue r0 (by omega) e2]
    exact h
