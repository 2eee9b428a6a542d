/-! place, leaves, room: both answer alike. -/
theorem pl_I {N A B G : z_A} {T : Int32} {St : z_R} {D : Nat → Nat} {n h : Nat} (S : z_SS N A B G T St D n h) (s : Int32) : (xPl T St G s = none ∧ mIs B s = false) ∨ (∃ q, xPl T St G s = some q ∧ mIs B s = true ∧ 0 ≤ s.toInt ∧ s.toInt < T.toInt ∧ St s.toNatClampNeg = some q ∧ ¬ B 58 s.toNatClampNeg = 0) := by
  by_cases c0 : s < 0
  · refine Or.inl ⟨?_, ?_⟩
    · unfold xPl xOn; rw [if_pos c0]
    · unfold mIs; rw [if_pos c0]
  · have s0 := c0
    rw [z_ltI, tI0] at s0
    have s0 : 0 ≤ s.toInt := by omega
    have ps := z_pp s0
    by_cases c1 : s < T
    · have s1 := c1
      rw [z_ltI] at s1
      have es : s = Int32.ofNat s.toNatClampNeg := z_ofn s0
      have mi : mIs B s = if B 58 s.toNatClampNeg = 0 then false else true := by
        unfold mIs
        rw [if_neg c0, ← S.g3.hT, if_pos c1]
      rcases xPl_n S (i := s.toNatClampNeg) (by omega) with ⟨a, b⟩ | ⟨a, q, b, d⟩
      · rw [← es] at b
        exact Or.inl ⟨b, by rw [mi, if_pos a]⟩
      · rw [← es] at d
        exact Or.inr ⟨q, d, by rw [mi, if_neg a], s0, s1, b, a⟩
    · refine Or.inl ⟨?_, ?_⟩
      · unfold xPl xOn; rw [if_neg c0, if_neg c1]
      · unfold mIs; rw [if_neg c0, ← S.g3.hT, if_neg c1]
/-- all that is known of a stream with a place -/
def z_P1 (N A B G : z_A) (s : Int32) (q L h : Nat) (y : Int32) (m : Int) : Prop := (z_K1 N A B s (B 59 s.toNatClampNeg) y L h m) ∧ (xWn G q = y) ∧ (G q 0 = B 52 s.toNatClampNeg) ∧ (G q 1 = B 53 s.toNatClampNeg) ∧ (G q 4 = B 59 s.toNatClampNeg) ∧ (G q 5 = B 60 s.toNatClampNeg) ∧ (∀ k, k < L → dT N (B 52 s.toNatClampNeg) y k ≤ (B 53 s.toNatClampNeg).toInt) ∧ (0 ≤ (B 60 s.toNatClampNeg).toInt) ∧ ((B 60 s.toNatClampNeg).toInt ≤ 119) ∧ (L = (B 55 (mCx B s).toNatClampNeg).toNatClampNeg) ∧ ((mCx B s).toInt = 3 * s.toInt + (B 59 s.toNatClampNeg).toInt) ∧ (y = sY B G q s.toNatClampNeg ∧ L = sL B s.toNatClampNeg)
theorem z_P1.k {N A B G : z_A} {s : Int32} {q L h : Nat} {y : Int32} {m : Int} (K : z_P1 N A B G s q L h y m) : z_K1 N A B s (B 59 s.toNatClampNeg) y L h m := K.1
theorem z_P1.gy {N A B G : z_A} {s : Int32} {q L h : Nat} {y : Int32} {m : Int} (K : z_P1 N A B G s q L h y m) : xWn G q = y := K.2.1
theorem z_P1.g0 {N A B G : z_A} {s : Int32} {q L h : Nat} {y : Int32} {m : Int} (K : z_P1 N A B G s q L h y m) : G q 0 = B 52 s.toNatClampNeg := K.2.2.1
theorem z_P1.g1 {N A B G : z_A} {s : Int32} {q L h : Nat} {y : Int32} {m : Int} (K : z_P1 N A B G s q L h y m) : G q 1 = B 53 s.toNatClampNeg := K.2.2.2.1
theorem z_P1.g4 {N A B G : z_A} {s : Int32} {q L h : Nat} {y : Int32} {m : Int} (K : z_P1 N A B G s q L h y m) : G q 4 = B 59 s.toNatClampNeg := K.2.2.2.2.1
theorem z_P1.g5 {N A B G : z_A} {s : Int32} {q L h : Nat} {y : Int32} {m : Int} (K : z_P1 N A B G s q L h y m) : G q 5 = B 60 s.toNatClampNeg := K.2.2.2.2.2.1
theorem z_P1.ft {N A B G : z_A} {s : Int32} {q L h : Nat} {y : Int32} {m : Int} (K : z_P1 N A B G s q L h y m) : ∀ k, k < L → dT N (B 52 s.toNatClampNeg) y k ≤ (B 53 s.toNatClampNeg).toInt := K.2.2.2.2.2.2.1
theorem z_P1.t0 {N A B G : z_A} {s : Int32} {q L h : Nat} {y : Int32} {m : Int} (K : z_P1 N A B G s q L h y m) : 0 ≤ (B 60 s.toNatClampNeg).toInt := K.2.2.2.2.2.2.2.1
theorem z_P1.t1 {N A B G : z_A} {s : Int32} {q L h : Nat} {y : Int32} {m : Int} (K : z_P1 N A B G s q L h y m) : (B 60 s.toNatClampNeg).toInt ≤ 119 := K.2.2.2.2.2.2.2.2.1
theorem z_P1.eL {N A B G : z_A} {s : Int32} {q L h : Nat} {y : Int32} {m : Int} (K : z_P1 N A B G s q L h y m) : L = (B 55 (mCx B s).toNatClampNeg).toNatClampNeg := K.2.2.2.2.2.2.2.2.2.1
theorem z_P1.cx {N A B G : z_A} {s : Int32} {q L h : Nat} {y : Int32} {m : Int} (K : z_P1 N A B G s q L h y m) : (mCx B s).toInt = 3 * s.toInt + (B 59 s.toNatClampNeg).toInt := K.2.2.2.2.2.2.2.2.2.2.1
theorem z_P1.sd {N A B G : z_A} {s : Int32} {q L h : Nat} {y : Int32} {m : Int} (K : z_P1 N A B G s q L h y m) : y = sY B G q s.toNatClampNeg ∧ L = sL B s.toNatClampNeg := K.2.2.2.2.2.2.2.2.2.2.2
theorem P1_i {N A B G : z_A} {T : Int32} {St : z_R} {D : Nat → Nat} {n h : Nat} (S : z_SS N A B G T St D n h) {s : Int32} {q : Nat} (s0 : 0 ≤ s.toInt) (s1 : s.toInt < T.toInt) (hq : St s.toNatClampNeg = some q) (hp : ¬ B 58 s.toNatClampNeg = 0) : ∃ L y m, z_P1 N A B G s q L h y m := by
  have T8 : T.toInt ≤ 8 := by rw [S.g3.hT]; exact S.g3.hB.1.2
  have ps := z_pp s0
  obtain ⟨m, K⟩ := SS_K S s0 s1 hq hp
  obtain ⟨G0, G1, G3, -, -⟩ := S.g3.ss s.toNatClampNeg (by omega) q hq
  obtain ⟨q', hq', -, s2⟩ := S.st s.toNatClampNeg (by omega)
  rw [hq] at hq'
  cases hq'
  have hB := S.g3.hB
  have b59 := hB.2.2.2.2.2.2.1 s.toNatClampNeg
  have b60 := hB.2.2.2.2.2.2.2.1 s.toNatClampNeg
  have b54 := hB.2.2.2.2.2.2.2.2.2.2 s.toNatClampNeg (by rw [← S.g3.hT]; omega) hp
  rcases s2 with ⟨a, -⟩ | ⟨-, g4, g5, t53, fit⟩
  · exact absurd a hp
  · have cx : (mCx B s).toInt = 3 * s.toInt + (B 59 s.toNatClampNeg).toInt := z_m3 s0 (by omega) b59.1 b59.2
    have p59 := z_pp b59.1
    have pc := z_pp (p := mCx B s) (by omega)
    refine ⟨_, _, m, K, ?_, G0, G1, g4, g5, fit, b60.1, b60.2, ?_, cx, rfl, rfl⟩
    · unfold xWn sY
      rw [g4]
      exact xWo_y b59.1 (by rw [G3, z_ltI]; exact b54)
    · unfold sL
      congr 2
      omega
theorem xA_o {y i : Int32} (h : ¬ (0 ≤ i.toInt ∧ i.toInt ≤ 3)) : xA y i = -1 := by
  have t4 : Int32.toInt 4 = 4 := rfl
  unfold xA
  by_cases c : i < 0
  · rw [if_pos c]
  · rw [if_neg c, if_neg]
    rw [z_ltI] at c ⊢
    rw [tI0] at c
    omega
theorem P1_a {N A B G : z_A} {s : Int32} {q L h : Nat} {y : Int32} {m : Int} (P : z_P1 N A B G s q L h y m) (i : Int32) : (0 ≤ i.toInt ∧ i.toInt < (L : Int) ∧ xA y i = mCw B s (B 59 s.toNatClampNeg) i ∧ xW N (xA y i) = true ∧ xB N (N 5 (xA y i).toNatClampNeg) = true ∧ ¬ xA y i = -1) ∨ (¬ (0 ≤ i.toInt ∧ i.toInt < (L : Int)) ∧ xA y i = -1) := by
  obtain ⟨-, -, s7⟩ := K1_p P.k
  have L4 := P.k.cw.2.2.1
  by_cases c : 0 ≤ i.toInt ∧ i.toInt < (L : Int)
  · have pi := z_pp c.1
    have ei : i = Int32.ofNat i.toNatClampNeg := z_ofn c.1
    have e := cw_w P.k.s0 s7 P.k.c0 P.k.c1 P.k.cw (k := i.toNatClampNeg) (by omega)
    obtain ⟨-, a, b⟩ := P.k.cw.2.2.2.1 i.toNatClampNeg (by omega)
    rw [← ei] at e a b
    refine Or.inl ⟨c.1, c.2, e.symm, a, b, fun q => ?_⟩
    have := (xW_s a).1
    rw [q] at this
    exact absurd this (by decide)
  · refine Or.inr ⟨c, ?_⟩
    by_cases c2 : 0 ≤ i.toInt ∧ i.toInt ≤ 3
    · have pi := z_pp c2.1
      have ei : i = Int32.ofNat i.toNatClampNeg := z_ofn c2.1
      rw [ei]
      exact P.k.cw.2.2.2.2.1 i.toNatClampNeg (by omega) (by omega)
    · exact xA_o c2
theorem P1_n {N A B G : z_A} {s : Int32} {q L h : Nat} {y : Int32} {m : Int} (P : z_P1 N A B G s q L h y m) : xNw y = Int32.ofNat L := by
  have L1 := P.k.cw.2.1
  have L4 := P.k.cw.2.2.1
  have t : ∀ k : Nat, k < 4 → (if xA y (Int32.ofNat k) = -1 then (0 : Int32) else 1) = if k < L then 1 else 0 := fun k hk => by
    have ek := z_oft (K := k) (by omega)
    rcases P1_a P (Int32.ofNat k) with ⟨a1, a2, -, -, -, a3⟩ | ⟨a1, a2⟩
    · rw [if_neg a3, if_pos (by omega)]
    · rw [if_pos a2, if_neg (by omega)]
  have t0 := t 0 (by omega)
  have t1 := t 1 (by omega)
  have t2 := t 2 (by omega)
  have t3 := t 3 (by omega)
  unfold xNw
  have e0 : (0 : Int32) = Int32.ofNat 0 := rfl
  have e1 : (1 : Int32) = Int32.ofNat 1 := rfl
  have e2 : (2 : Int32) = Int32.ofNat 2 := rfl
  have e3 : (3 : Int32) = Int32.ofNat 3 := rfl
  show (if xA y (Int32.ofNat 0) = -1 then (0 : Int32) else 1) + (if xA y (Int32.ofNat 1) = -1 then 0 else 1) + (if xA y (Int32.ofNat 2) = -1 then 0 else 1) + (if xA y (Int32.ofNat 3) = -1 then 0 else 1) = Int32.ofNat L
  rw [t0, t1, t2, t3]
  rcases (by omega : L = 1 ∨ L = 2 ∨ L = 3 ∨ L = 4) with e | e | e | e <;> subst e <;> rfl
theorem xSt_I {N A B G : z_A} {s : Int32} {q L h : Nat} {y : Int32} {m : Int} (P : z_P1 N A B G s q L h y m) {r : Nat} (hr : r ≤ L) : ∀ (f i : Nat) (a : Int32), i ≤ r → r < i + f → -1000000 ≤ a.toInt → a.toInt ≤ 1000000 + 44 * (i : Int) → (xSt N G q (Int32.ofNat r) f (Int32.ofNat i) a).toInt = a.toInt + (oI N (B 52 s.toNatClampNeg) y r - oI N (B 52 s.toNatClampNeg) y i) := by
  have L4 := P.k.cw.2.2.1
  have zb := P.k.hB.2.1 s.toNatClampNeg
  have er := z_oft (K := r) (by omega)
  have t4 : Int32.toInt 4 = 4 := rfl
  intro f
  induction f with
  | zero => intro i a h1 h2; omega
  | succ f ih =>
    intro i a h1 h2 a0 a1
    have ei := z_oft (K := i) (by omega)
    have st_ : xSt N G q (Int32.ofNat r) (f + 1) (Int32.ofNat i) a = if Int32.ofNat i < Int32.ofNat r then if Int32.ofNat i < 4 then xSt N G q (Int32.ofNat r) f (Int32.ofNat i + 1) (a + (xC N (xA (xWn G q) (Int32.ofNat i)) (G q 0) + xS N (xA (xWn G q) (Int32.ofNat i)))) else a else a := rfl
    rw [st_, P.gy, P.g0]
    by_cases c : i < r
    · rw [if_pos (by rw [z_ltI]; omega), if_pos (by rw [z_ltI]; omega)]
      have u := xC_b P.k.ha (w := xA y (Int32.ofNat i)) zb.1 zb.2
      have v := xS_b P.k.ha (w := xA y (Int32.ofNat i))
      have e : (xC N (xA y (Int32.ofNat i)) (B 52 s.toNatClampNeg) + xS N (xA y (Int32.ofNat i))).toInt = (xC N (xA y (Int32.ofNat i)) (B 52 s.toNatClampNeg)).toInt + (xS N (xA y (Int32.ofNat i))).toInt := by rw [Int32.toInt_add, bm32]; split <;> omega
      have es : (a + (xC N (xA y (Int32.ofNat i)) (B 52 s.toNatClampNeg) + xS N (xA y (Int32.ofNat i)))).toInt = a.toInt + (xC N (xA y (Int32.ofNat i)) (B 52 s.toNatClampNeg) + xS N (xA y (Int32.ofNat i))).toInt := by rw [Int32.toInt_add, bm32]; split <;> omega
      have eo : oI N (B 52 s.toNatClampNeg) y (i + 1) = oI N (B 52 s.toNatClampNeg) y i + (xC N (xA y (Int32.ofNat i)) (B 52 s.toNatClampNeg) + xS N (xA y (Int32.ofNat i))).toInt := rfl
      have ek : Int32.ofNat i + 1 = Int32.ofNat (i + 1) := Int32.toInt_inj.mp (by rw [z_up1 (by omega) (by omega), ei, z_oft (by omega)]; omega)
      rw [ek, ih (i + 1) _ (by omega) (by omega) (by omega) (by omega), es, eo]
      omega
    · have e : i = r := by omega
      subst e
      rw [if_neg (by rw [z_ltI]; omega)]
      omega
theorem P1_o {N A B G : z_A} {s : Int32} {q L h : Nat} {y : Int32} {m : Int} (P : z_P1 N A B G s q L h y m) {k : Int32} (k0 : 0 ≤ k.toInt) (k1 : k.toInt ≤ (L : Int)) : (xSo N G q k).toInt = (B 60 s.toNatClampNeg).toInt + oI N (B 52 s.toNatClampNeg) y k.toNatClampNeg ∧ xSo N G q k = mSo A B s (B 59 s.toNatClampNeg) (B 60 s.toNatClampNeg) k := by
  obtain ⟨-, -, s7⟩ := K1_p P.k
  have L4 := P.k.cw.2.2.1
  have pk := z_pp k0
  have t0 := P.t0
  have t1 := P.t1
  have ek : k = Int32.ofNat k.toNatClampNeg := z_ofn k0
  have a := xSt_I P (r := k.toNatClampNeg) (by omega) 5 0 (G q 5) (Nat.zero_le _) (by omega) (by rw [P.g5]; omega) (by rw [P.g5]; omega)
  have b := mSo_I (t := B 60 s.toNatClampNeg) P.k.ha P.k.hN P.k.hB P.k.s0 s7 P.k.c0 P.k.c1 P.k.cw (by omega) (by omega) (show k.toNatClampNeg ≤ L by omega)
  rw [← ek] at a b
  have o : oI N (B 52 s.toNatClampNeg) y 0 = 0 := rfl
  rw [P.g5, o, Int.sub_zero] at a
  have a' : (xSo N G q k).toInt = (B 60 s.toNatClampNeg).toInt + oI N (B 52 s.toNatClampNeg) y k.toNatClampNeg := by
    unfold xSo
    rw [P.g5]
    exact a
  exact ⟨a', Int32.toInt_inj.mp (a'.trans b.symm)⟩
theorem P1_55 {N A B G : z_A} {s : Int32} {q L h : Nat} {y : Int32} {m : Int} (P : z_P1 N A B G s q L h y m) : B 55 (mCx B s).toNatClampNeg = Int32.ofNat L := by
  have L4 := P.k.cw.2.2.1
  have b := P.k.hB.2.2.2.2.1 (mCx B s).toNatClampNeg
  rw [P.eL]
  exact z_ofn b.1
theorem P1_57 {N A B G : z_A} {s : Int32} {q L h : Nat} {y : Int32} {m : Int} (P : z_P1 N A B G s q L h y m) : y >>> ((16 : Int32) &&& 31) = B 57 (mCx B s).toNatClampNeg := by
  have a := P.k.cw.2.2.2.2.2.1
  have s0 := P.k.s0
  have c0 := P.k.c0
  have ps := z_pp s0
  have pc := z_pp c0
  have cx := P.cx
  have p := z_pp (p := mCx B s) (by omega)
  have e : (mCx B s).toNatClampNeg = 3 * s.toNatClampNeg + (B 59 s.toNatClampNeg).toNatClampNeg := by omega
  rw [e]; exact a
theorem place_I {N A B G : z_A} {T : Int32} {St : z_R} {D : Nat → Nat} {n h : Nat} (S : z_SS N A B G T St D n h) (s k : Int32) : xPlc N T St G s k = mPlc A B s k := by
  unfold xPlc mPlc
  rcases pl_I S s with ⟨a, b⟩ | ⟨q, a, b, s0, s1, hq, hp⟩
  · rw [a, b, if_neg (by decide)]
  · rw [a, b, if_pos rfl]
    obtain ⟨L, y, m, P⟩ := P1_i S s0 s1 hq hp
    obtain ⟨-, -, s7⟩ := K1_p P.k
    have L1 := P.k.cw.2.1
    have L4 := P.k.cw.2.2.1
    have cx := P.cx
    have b59 := P.k.hB.2.2.2.2.2.2.1 s.toNatClampNeg
    have eL := z_oft (K := L) (by omega)
    rw [P1_55 P]
    dsimp only
    rw [P.g4, P.g5, P.gy, P1_n P, P1_57 P]
    have t0 : Int32.toInt 0 = 0 := rfl
    have t1 : Int32.toInt 1 = 1 := rfl
    have t2 : Int32.toInt 2 = 2 := rfl
    have t3 : Int32.toInt 3 = 3 := rfl
    have t10 : Int32.toInt 10 = 10 := rfl
    have t13 : Int32.toInt 13 = 13 := rfl
    have t20 : Int32.toInt 20 = 20 := rfl
    have l10 : (10 + Int32.ofNat L).toInt = 10 + (L : Int) := by rw [z_sum (by omega) (by omega) (by omega) (by omega)]; omega
    have l20 : (20 + Int32.ofNat L).toInt = 20 + (L : Int) := by rw [z_sum (by omega) (by omega) (by omega) (by omega)]; omega
    by_cases k10 : k < 10
    · rw [if_pos k10]
      rw [z_ltI] at k10
      by_cases e0 : k = 0
      · rw [if_pos e0, if_pos e0]
      · rw [if_neg e0, if_neg e0]
        by_cases e1 : k = 1
        · rw [if_pos e1, if_pos e1]
        · rw [if_neg e1, if_neg e1]
          by_cases e2 : k = 2
          · rw [if_pos e2, if_pos e2]
          · rw [if_neg e2, if_neg e2]
            by_cases e3 : k = 3
            · rw [if_pos e3, if_pos e3]
            · rw [if_neg e3, if_neg e3]
              have i1 : xIn k 10 13 = false := by
                unfold xIn
                rw [if_pos (by rw [z_ltI]; omega)]
              have i2 : xHp y (k - 20) = false := by
                unfold xHp
                rw [if_pos]
                refine xA_o (fun c => ?_)
                rw [Int32.toInt_sub, t20, bm32] at c
                have bk := bdI k
                split at c <;> omega
              rw [i1, i2]
              rfl
    · have n0 : ¬ k = 0 := fun e => by rw [e] at k10; exact k10 (by decide)
      have n1 : ¬ k = 1 := fun e => by rw [e] at k10; exact k10 (by decide)
      have n2 : ¬ k = 2 := fun e => by rw [e] at k10; exact k10 (by decide)
      have n3 : ¬ k = 3 := fun e => by rw [e] at k10; exact k10 (by decide)
      rw [if_neg n0, if_neg n1, if_neg n2, if_neg n3, if_neg k10]
      rw [z_ltI] at k10
      by_cases k13 : k.toInt ≤ 13
      · have i1 : xIn k 10 13 = true := by
          unfold xIn
          rw [if_neg (by rw [z_ltI]; omega), if_neg (by rw [z_ltI]; omega)]
        rw [i1, if_pos rfl]
        have e : (k - 10).toInt = k.toInt - 10 := z_dif (by omega) (by omega) (by omega) (by omega)
        rcases P1_a P (k - 10) with ⟨a1, a2, a3, -⟩ | ⟨a1, a2⟩
        · rw [if_pos (by rw [z_ltI]; omega), a3]
          unfold mCw
          congr 1
          have m4 := z_m4 (y := mCx B s) (i := k - 10) (by omega) (by omega) (by omega) (by omega)
          have m4' := z_m4 (y := mCx B s) (i := k) (by omega) (by omega) (by omega) (by omega)
          have d := z_dif (a := 4 * mCx B s + k) (b := 10) (by omega) (by omega) (by omega) (by omega)
          have x1 := z_pp (p := 4 * (3 * s + B 59 s.toNatClampNeg) + (k - 10)) (by show 0 ≤ (4 * mCx B s + (k - 10)).toInt; omega)
          have x2 := z_pp (p := 4 * mCx B s + k - 10) (by omega)
          have x3 : (4 * (3 * s + B 59 s.toNatClampNeg) + (k - 10)).toInt = (4 * mCx B s + (k - 10)).toInt := rfl
          omega
        · rw [if_neg (by rw [z_ltI]; omega), a2, if_pos (by rw [z_ltI]; omega)]
      · have i1 : xIn k 10 13 = false := by
          unfold xIn
          rw [if_neg (by rw [z_ltI]; omega), if_pos (by rw [z_ltI]; omega)]
        rw [i1, if_neg (show ¬ false = true by decide), if_neg (show ¬ k < 10 + Int32.ofNat L by rw [z_ltI]; omega)]
        by_cases k20 : k < 20
        · rw [if_pos k20]
          rw [z_ltI] at k20
          have i2 : xHp y (k - 20) = false := by
            unfold xHp
            rw [if_pos]
            refine xA_o (fun c => ?_)
            rw [Int32.toInt_sub, t20, bm32] at c
            split at c <;> omega
          rw [i2]; rfl
        · rw [if_neg k20]
          rw [z_ltI] at k20
          have bk := bdI k
          have e : (k - 20).toInt = k.toInt - 20 := by
            rw [Int32.toInt_sub, t20, bm32]
            split <;> omega
          rcases P1_a P (k - 20) with ⟨a1, a2, -, -, -, a3⟩ | ⟨a1, a2⟩
          · have i2 : xHp y (k - 20) = true := by unfold xHp; rw [if_neg a3]
            rw [i2, if_pos rfl, if_pos (show k < 20 + Int32.ofNat L by rw [z_ltI]; omega)]
            exact (P1_o P a1 (by omega)).2
          · have i2 : xHp y (k - 20) = false := by unfold xHp; rw [if_pos a2]
            rw [i2, if_neg (show ¬ false = true by decide), if_neg (show ¬ k < 20 + Int32.ofNat L by rw [z_ltI]; omega)]
