/-! The ticks at which a stream's place would meet what is given. -/
theorem xFb_I {N : z_A} {w tm st : Int32} {h : Nat} (hc : z_Cc N h) (t1 : tm.toInt ≤ 100) (s0 : -1000000 ≤ st.toInt) (s1 : st.toInt ≤ 1000000) : ∀ (k : Nat) (i : Int32) (J : z_J), 0 ≤ i.toInt → i.toInt ≤ 200 → tm.toInt < i.toInt + (k : Int) → rZ h (J (15 + w.toNatClampNeg)) → (rZ h (J 14) → rZ h (xFb N w tm st k i J 14)) ∧ (∀ q, q ≠ 14 → xFb N w tm st k i J q = J q) ∧ ∀ u, rI h (xFb N w tm st k i J 14) u = true ↔ (rI h (J 14) u = true ∨ ∃ j : Int, i.toInt ≤ j ∧ j < tm.toInt ∧ rI h (J (15 + w.toNatClampNeg)) (u + (st.toInt + j)) = true) := by
  intro k
  induction k with
  | zero =>
    intro i J i0 i2 i1 hw
    refine ⟨id, fun _ _ => rfl, fun u => ⟨Or.inl, fun h => ?_⟩⟩
    rcases h with h | ⟨m, m1, m2, -⟩
    · exact h
    · omega
  | succ k ih =>
    intro i J i0 i2 i1 hw
    have st_ : xFb N w tm st (k + 1) i J = if i < tm then xFb N w tm st k (i + 1) (xTu N J 14 (J (15 + w.toNatClampNeg)).1 (J (15 + w.toNatClampNeg)).2 (-(st + i))) else J := rfl
    rw [st_]
    by_cases c : i < tm
    · rw [if_pos c]
      rw [z_ltI] at c
      have e1 := z_up1 i0 (by omega)
      have e2 : (st + i).toInt = st.toInt + i.toInt := by rw [Int32.toInt_add, bm32]; split <;> omega
      have e3 : (-(st + i)).toInt = -(st.toInt + i.toInt) := by rw [Int32.toInt_neg, e2, bm32]; split <;> omega
      have y0 : -100000000 ≤ (-(st + i)).toInt := by omega
      have y1 : (-(st + i)).toInt ≤ 100000000 := by omega
      have hw' : rZ h ((J (15 + w.toNatClampNeg)).1, (J (15 + w.toNatClampNeg)).2) := hw
      have keep : ∀ q, q ≠ 14 → xTu N J 14 (J (15 + w.toNatClampNeg)).1 (J (15 + w.toNatClampNeg)).2 (-(st + i)) q = J q := fun q hq => z_wj2 hq
      have T := ih (i + 1) (xTu N J 14 (J (15 + w.toNatClampNeg)).1 (J (15 + w.toNatClampNeg)).2 (-(st + i))) (by omega) (by omega) (by omega) (by rw [keep _ (by omega)]; exact hw)
      refine ⟨fun hJ => T.1 ((tu_b hc hw' y0 y1).2 hJ), fun q hq => (T.2.1 q hq).trans (keep q hq), fun u => ?_⟩
      rw [T.2.2 u, tu_I hc hw' y0 y1, e1, e3, Bool.or_eq_true, keep _ (by omega)]
      have x : u - -(st.toInt + i.toInt) = u + (st.toInt + i.toInt) := by omega
      rw [x]
      constructor
      · rintro ((g | g) | ⟨m, g1, g2, g3⟩)
        · exact Or.inl g
        · exact Or.inr ⟨i.toInt, by omega, c, g⟩
        · exact Or.inr ⟨m, by omega, g2, g3⟩
      · rintro (g | ⟨m, g1, g2, g3⟩)
        · exact Or.inl (Or.inl g)
        · by_cases e : m = i.toInt
          · rw [e] at g3; exact Or.inl (Or.inr g3)
          · exact Or.inr ⟨m, by omega, g2, g3⟩
    · rw [if_neg c]
      rw [z_ltI] at c
      refine ⟨id, fun _ _ => rfl, fun u => ⟨Or.inl, fun h => ?_⟩⟩
      rcases h with h | ⟨m, m1, m2, -⟩
      · exact h
      · omega
theorem xFc_I {N : z_A} {p : Nat} {per : Int32} {h : Nat} {n : Int} (hc : z_Cc N h) (hp : p ≠ 14) (p0 : 0 < per.toInt) (p1 : per.toInt ≤ 120) (hn : (xLn N per).toInt = n) (n6 : n ≤ 120) : ∀ (k : Nat) (i : Int32) (J : z_J), 0 ≤ i.toInt → n < i.toInt + (k : Int) → rZ h (J 14) → (∀ q, q ≠ p → xFc N p per k i J q = J q) ∧ ∀ u, rI h (xFc N p per k i J p) u = true ↔ (rI h (J p) u = true ∨ ∃ j : Int, i.toInt ≤ j ∧ j < n ∧ rI h (J 14) (u - j * per.toInt) = true) := by
  intro k
  induction k with
  | zero =>
    intro i J i0 i1 hw
    refine ⟨fun _ _ => rfl, fun u => ⟨Or.inl, fun h => ?_⟩⟩
    rcases h with h | ⟨m, m1, m2, -⟩
    · exact h
    · omega
  | succ k ih =>
    intro i J i0 i1 hw
    have st_ : xFc N p per (k + 1) i J = if i < xLn N per then xFc N p per k (i + 1) (xTu N J p (J 14).1 (J 14).2 (i * per)) else J := rfl
    rw [st_]
    by_cases c : i < xLn N per
    · rw [if_pos c]
      rw [z_ltI] at c
      have e1 := z_up1 i0 (by omega)
      have m0 : 0 ≤ i.toInt * per.toInt := Int.mul_nonneg i0 (by omega)
      have m1 : i.toInt * per.toInt ≤ 120 * 120 := Int.mul_le_mul (by omega) p1 (by omega) (by omega)
      have e3 : (i * per).toInt = i.toInt * per.toInt := by
        rw [Int32.toInt_mul, bm32]
        generalize i.toInt * per.toInt = w at *
        split <;> omega
      have y0 : -100000000 ≤ (i * per).toInt := by omega
      have y1 : (i * per).toInt ≤ 100000000 := by omega
      have hw' : rZ h ((J 14).1, (J 14).2) := hw
      have keep : ∀ q, q ≠ p → xTu N J p (J 14).1 (J 14).2 (i * per) q = J q := fun q hq => z_wj2 hq
      have T := ih (i + 1) (xTu N J p (J 14).1 (J 14).2 (i * per)) (by omega) (by omega) (by rw [keep 14 (Ne.symm hp)]; exact hw)
      refine ⟨fun q hq => (T.1 q hq).trans (keep q hq), fun u => ?_⟩
      rw [T.2 u, tu_I hc hw' y0 y1, e1, e3, Bool.or_eq_true, keep 14 (Ne.symm hp)]
      constructor
      · rintro ((g | g) | ⟨m, g1, g2, g3⟩)
        · exact Or.inl g
        · exact Or.inr ⟨i.toInt, by omega, by omega, g⟩
        · exact Or.inr ⟨m, by omega, g2, g3⟩
      · rintro (g | ⟨m, g1, g2, g3⟩)
        · exact Or.inl (Or.inl g)
        · by_cases e : m = i.toInt
          · rw [e] at g3; exact Or.inl (Or.inr g3)
          · exact Or.inr ⟨m, by omega, g2, g3⟩
    · rw [if_neg c]
      rw [z_ltI] at c
      refine ⟨fun _ _ => rfl, fun u => ⟨Or.inl, fun h => ?_⟩⟩
      rcases h with h | ⟨m, m1, m2, -⟩
      · exact h
      · omega
theorem xFl_I {N : z_A} {J : z_J} {p h : Nat} (hc : z_Cc N h) (u : Int) : rI h (xFl N J p p) u = true := by
  have h5 := hc.2.2.1
  have h6 := hc.2.2.2
  have e : xFl N J p p = (((1 : Int64) <<< ((N 1 8 / 2).toInt64 &&& 63)) - 1, ((1 : Int64) <<< ((N 1 8 / 2).toInt64 &&& 63)) - 1) := z_wj1
  have d1 := Int.emod_lt_of_pos u (show 0 < 2 * (h : Int) by omega)
  have d0 := Int.emod_nonneg u (show 2 * (h : Int) ≠ 0 by omega)
  rw [e]
  unfold rI rB
  split
  · rw [b6_mk hc.2.1 (by omega)]; exact decide_eq_true (by assumption)
  · rw [b6_mk hc.2.1 (by omega)]; exact decide_eq_true (by omega)
theorem dFa_s {N : z_A} {p : Nat} {z per y k st : Int32} {f : Nat} {J : z_J} : xFa N p z per y (f + 1) k st J = if k < 4 then if xW N (xA y k) = true then if per < xT N (xA y k) z then xFl N J p else xFa N p z per y f (k + 1) (st + (xC N (xA y k) z + xS N (xA y k))) (xFb N (xA y k) (xT N (xA y k) z) st 121 0 J) else xFc N p per 121 0 J else xFc N p per 121 0 J := rfl
theorem xFa_I {N : z_A} {p : Nat} {z per y : Int32} {h L : Nat} {n : Int} (ha : z_RA N) (hr : z_RN N) (hc : z_Cc N h) (hp : p ≠ 14) (hp2 : p < 15 ∨ 27 ≤ p) (z0 : 0 ≤ z.toInt) (z1 : z.toInt ≤ 8) (p0 : 0 < per.toInt) (p1 : per.toInt ≤ 120) (hn : (xLn N per).toInt = n) (n6 : n ≤ 120) (hy : z_WY N y L) : ∀ (f K : Nat) (st : Int32) (J : z_J), K ≤ L → L < K + f → 0 ≤ st.toInt → st.toInt ≤ 44 * (K : Int) → J p = (0, 0) → rZ h (J 14) → (∀ w, w < 12 → rZ h (J (15 + w))) → (∀ q, q ≠ 14 → q ≠ p → xFa N p z per y f (Int32.ofNat K) st J q = J q) ∧ ((∃ k, K ≤ k ∧ k < L ∧ per.toInt < dT N z y k) → ∀ u, rI h (xFa N p z per y f (Int32.ofNat K) st J p) u = true) ∧ ((∀ k, K ≤ k → k < L → dT N z y k ≤ per.toInt) → ∀ u, rI h (xFa N p z per y f (Int32.ofNat K) st J p) u = true ↔ ∃ j : Int, 0 ≤ j ∧ j < n ∧ (rI h (J 14) (u - j * per.toInt) = true ∨ ∃ k, K ≤ k ∧ k < L ∧ ∃ i : Int, 0 ≤ i ∧ i < dT N z y k ∧ rI h (J (15 + dW y k)) (u - j * per.toInt + (st.toInt + (oI N z y k - oI N z y K) + i)) = true)) := by
  obtain ⟨L4, w1, w2⟩ := hy
  intro f
  induction f with
  | zero => intro K st J k1 k2; omega
  | succ f ih =>
    intro K st J k1 k2 s0 s1 jp j14 jw
    have eK := z_oft (K := K) (by omega)
    have e4 : Int32.toInt 4 = 4 := rfl
    have t0 : Int32.toInt 0 = 0 := rfl
    rw [dFa_s]
    by_cases c : K < L
    · have cw := w1 K c
      have cw2 := xW_s cw
      have wb := hr.2.2.2.1
      have pw := z_pp cw2.1
      rw [if_pos (by rw [z_ltI]; omega), if_pos cw]
      have tb := xT_b ha (w := xA y (Int32.ofNat K)) z0 z1
      have dk : dT N z y K = (xT N (xA y (Int32.ofNat K)) z).toInt := rfl
      have dw : dW y K = (xA y (Int32.ofNat K)).toNatClampNeg := rfl
      by_cases big : per < xT N (xA y (Int32.ofNat K)) z
      · rw [if_pos big]
        rw [z_ltI] at big
        refine ⟨fun q _ q2 => z_wj2 q2, fun _ u => xFl_I hc u, fun q => ?_⟩
        have := q K (Nat.le_refl _) c
        omega
      · rw [if_neg big]
        rw [z_ltI] at big
        obtain ⟨g1, g2, g3⟩ := xFb_I (N := N) (w := xA y (Int32.ofNat K)) (tm := xT N (xA y (Int32.ofNat K)) z) (st := st) hc (by omega) (by omega) (by omega) 121 0 J (by decide) (by decide) (by rw [t0]; omega) (jw _ (by omega))
        have a := xC_b ha (w := xA y (Int32.ofNat K)) z0 z1
        have b := xS_b ha (w := xA y (Int32.ofNat K))
        have e : (xC N (xA y (Int32.ofNat K)) z + xS N (xA y (Int32.ofNat K))).toInt = (xC N (xA y (Int32.ofNat K)) z).toInt + (xS N (xA y (Int32.ofNat K))).toInt := by rw [Int32.toInt_add, bm32]; split <;> omega
        have es : (st + (xC N (xA y (Int32.ofNat K)) z + xS N (xA y (Int32.ofNat K)))).toInt = st.toInt + (xC N (xA y (Int32.ofNat K)) z + xS N (xA y (Int32.ofNat K))).toInt := by rw [Int32.toInt_add, bm32]; split <;> omega
        have eo : oI N z y (K + 1) = oI N z y K + (xC N (xA y (Int32.ofNat K)) z + xS N (xA y (Int32.ofNat K))).toInt := rfl
        have ek : Int32.ofNat K + 1 = Int32.ofNat (K + 1) := Int32.toInt_inj.mp (by rw [z_up1 (by omega) (by omega), eK, z_oft (by omega)]; omega)
        rw [ek]
        generalize xFb N (xA y (Int32.ofNat K)) (xT N (xA y (Int32.ofNat K)) z) st 121 0 J = J1 at g1 g2 g3 ⊢
        obtain ⟨t1, t2, t3⟩ := ih (K + 1) (st + (xC N (xA y (Int32.ofNat K)) z + xS N (xA y (Int32.ofNat K)))) J1 (by omega) (by omega) (by omega) (by omega) (by rw [g2 p hp]; exact jp) (g1 j14) (fun w hw => by rw [g2 _ (by omega)]; exact jw w hw)
        refine ⟨fun q q1 q2 => (t1 q q1 q2).trans (g2 q q1), fun q u => t2 ?_ u, fun q u => ?_⟩
        · obtain ⟨k, q1, q2, q3⟩ := q
          refine ⟨k, ?_, q2, q3⟩
          by_cases kk : k = K
          · subst kk; omega
          · omega
        · rw [t3 (fun k h1 h2 => q k (by omega) h2) u]
          have kw : ∀ k, J1 (15 + dW y k) = J (15 + dW y k) := fun k => g2 _ (by omega)
          have x : ∀ k (v i : Int), v + ((st + (xC N (xA y (Int32.ofNat K)) z + xS N (xA y (Int32.ofNat K)))).toInt + (oI N z y k - oI N z y (K + 1)) + i) = v + (st.toInt + (oI N z y k - oI N z y K) + i) := fun k v i => by rw [es, eo]; omega
          constructor
          · rintro ⟨j, j0, j1, g | ⟨k, q1, q2, i, i0, i1, g⟩⟩
            · rcases (g3 _).mp g with g | ⟨i, i0, i1, g⟩
              · exact ⟨j, j0, j1, Or.inl g⟩
              · refine ⟨j, j0, j1, Or.inr ⟨K, Nat.le_refl _, c, i, i0, i1, ?_⟩⟩
                rw [Int.sub_self, Int.add_zero]; exact g
            · refine ⟨j, j0, j1, Or.inr ⟨k, by omega, q2, i, i0, i1, ?_⟩⟩
              rw [x, kw] at g; exact g
          · rintro ⟨j, j0, j1, g | ⟨k, q1, q2, i, i0, i1, g⟩⟩
            · exact ⟨j, j0, j1, Or.inl ((g3 _).mpr (Or.inl g))⟩
            · by_cases kk : k = K
              · subst kk
                rw [Int.sub_self, Int.add_zero] at g
                exact ⟨j, j0, j1, Or.inl ((g3 _).mpr (Or.inr ⟨i, i0, i1, g⟩))⟩
              · refine ⟨j, j0, j1, Or.inr ⟨k, by omega, q2, i, i0, i1, ?_⟩⟩
                rw [x, kw]; exact g
    · have e : K = L := by omega
      subst e
      have st' : (if Int32.ofNat K < 4 then if xW N (xA y (Int32.ofNat K)) = true then if per < xT N (xA y (Int32.ofNat K)) z then xFl N J p else xFa N p z per y f (Int32.ofNat K + 1) (st + (xC N (xA y (Int32.ofNat K)) z + xS N (xA y (Int32.ofNat K)))) (xFb N (xA y (Int32.ofNat K)) (xT N (xA y (Int32.ofNat K)) z) st 121 0 J) else xFc N p per 121 0 J else xFc N p per 121 0 J) = xFc N p per 121 0 J := by
        split
        · rename_i q
          rw [z_ltI] at q
          rw [if_neg (by rw [w2 (by omega)]; decide)]
        · rfl
      rw [st']
      obtain ⟨g1, g2⟩ := xFc_I hc hp p0 p1 hn n6 121 0 J (by decide) (by rw [t0]; omega) j14
      refine ⟨fun q _ q2 => g1 q q2, fun q u => ?_, fun q u => ?_⟩
      · obtain ⟨k, q1, q2, -⟩ := q; omega
      · rw [g2 u, jp, rI_0, t0]
        constructor
        · rintro (g | ⟨j, j0, j1, g⟩)
          · cases g
          · exact ⟨j, j0, j1, Or.inl g⟩
        · rintro ⟨j, j0, j1, g | ⟨k, q1, q2, -⟩⟩
          · exact Or.inr ⟨j, j0, j1, g⟩
          · omega
/-- a stream's place at tick u meets what is taken -/
def mP (N : z_A) (z per y : Int32) (L : Nat) (tk : Nat → Int → Prop) (u : Int) : Prop := (∃ k, k < L ∧ per.toInt < dT N z y k) ∨ ∃ k, k < L ∧ ∃ v, (v - (u + oI N z y k)) % per.toInt < dT N z y k ∧ tk (dW y k) v
theorem dT_0 {N : z_A} (ha : z_RA N) {z y : Int32} (z0 : 0 ≤ z.toInt) (z1 : z.toInt ≤ 8) (k : Nat) : 0 ≤ dT N z y k ∧ dT N z y k ≤ 24 := xT_b ha z0 z1
theorem xFM_I {N : z_A} {p : Nat} {z per y : Int32} {h L : Nat} {n : Int} {J : z_J} (ha : z_RA N) (hr : z_RN N) (hc : z_Cc N h) (hp : 27 ≤ p) (z0 : 0 ≤ z.toInt) (z1 : z.toInt ≤ 8) (p0 : 0 < per.toInt) (p1 : per.toInt ≤ 120) (hn : 2 * (h : Int) = per.toInt * n) (n0 : 0 < n) (hy : z_WY N y L) (jw : ∀ w, w < 12 → rZ h (J (15 + w))) : (∀ q, q ≠ 14 → q ≠ p → xFM N p z per y J q = J q) ∧ ∀ u, rI h (xFM N p z per y J p) u = true ↔ mP N z per y L (fun w v => rI h (J (15 + w)) v = true) u := by
  have h6 := hc.2.2.2
  have n1 : n ≤ 2 * (h : Int) := by
    have := Int.mul_le_mul_of_nonneg_right (show 1 ≤ per.toInt by omega) (show 0 ≤ n by omega)
    omega
  have L4 := hy.1
  have w1 := hy.2.1
  have k1 : ∀ q, q ≠ 14 → q ≠ p → z_wj (z_wj J p 0 0) 14 0 0 q = J q := fun q q1 q2 => (z_wj2 q1).trans (z_wj2 q2)
  obtain ⟨t1, t2, t3⟩ := xFa_I (p := p) (J := z_wj (z_wj J p 0 0) 14 0 0) (z := z) (st := 0) ha hr hc (by omega) (by omega) z0 z1 p0 p1 (xLn_n hc p0 hn) (by omega) hy 5 0 (by omega) (by omega) (by decide) (by decide) (by rw [z_wj2 (by omega), z_wj1]) (by rw [z_wj1]; exact rZ_0) (fun w hw => by rw [k1 _ (by omega) (by omega)]; exact jw w hw)
  unfold xFM
  refine ⟨fun q q1 q2 => (t1 q q1 q2).trans (k1 q q1 q2), fun u => ?_⟩
  unfold mP
  by_cases big : ∃ k, k < L ∧ per.toInt < dT N z y k
  · obtain ⟨k, b1, b2⟩ := big
    exact ⟨fun _ => Or.inl ⟨k, b1, b2⟩, fun _ => t2 ⟨k, Nat.zero_le _, b1, b2⟩ u⟩
  · have sm : ∀ k, 0 ≤ k → k < L → dT N z y k ≤ per.toInt := fun k _ hk => by
      by_cases q : dT N z y k ≤ per.toInt
      · exact q
      · exact absurd ⟨k, hk, by omega⟩ big
    refine (t3 sm u).trans ?_
    have o0 : oI N z y 0 = 0 := rfl
    have e0 : Int32.toInt 0 = 0 := rfl
    have kw : ∀ k, k < L → z_wj (z_wj J p 0 0) 14 0 0 (15 + dW y k) = J (15 + dW y k) := fun k hk => by
      have a := xW_s (w1 k hk)
      have b := hr.2.2.2.1
      have c := z_pp a.1
      exact k1 _ (by omega) (by show 15 + (xA y (Int32.ofNat k)).toNatClampNeg ≠ p; omega)
    constructor
    · rintro ⟨j, j0, j1, g | ⟨k, -, q2, i, i0, i1, g⟩⟩
      · rw [z_wj1, rI_0] at g; cases g
      · refine Or.inr ⟨k, q2, u - j * per.toInt + (oI N z y k + i), ?_, ?_⟩
        · have s := sm k (Nat.zero_le _) q2
          rw [z_ue (r := i) (q := -j) i0 (by omega) (by rw [Int.mul_neg, Int.mul_comm per.toInt j]; omega)]
          exact i1
        · rw [kw k q2, o0, e0, Int.sub_zero, Int.zero_add] at g
          exact g
    · rintro (g | ⟨k, q2, v, g1, g2⟩)
      · exact absurd g big
      · have r0 := Int.emod_nonneg (v - (u + oI N z y k)) (show per.toInt ≠ 0 by omega)
        have e := Int.mul_ediv_add_emod (v - (u + oI N z y k)) per.toInt
        generalize (v - (u + oI N z y k)) % per.toInt = i at g1 r0 e
        generalize (v - (u + oI N z y k)) / per.toInt = Q at e
        have a0 := Int.emod_nonneg (-Q) (show n ≠ 0 by omega)
        have a1 := Int.emod_lt_of_pos (-Q) n0
        have ae := Int.mul_ediv_add_emod (-Q) n
        refine ⟨-Q % n, a0, a1, Or.inr ⟨k, Nat.zero_le _, q2, i, r0, g1, ?_⟩⟩
        rw [kw k q2, o0, e0, Int.sub_zero, Int.zero_add]
        have x : u - -Q % n * per.toInt + (oI N z y k + i) = v + 2 * (h : Int) * (-Q / n) := by
          have y1 : per.toInt * Q = -(per.toInt * (n * (-Q / n) + -Q % n)) := by rw [ae, Int.mul_neg, Int.neg_neg]
          rw [Int.mul_add, ← Int.mul_assoc, ← hn] at y1
          rw [Int.mul_comm (-Q % n) per.toInt]
          omega
        rw [x]
        have y2 : rI h (J (15 + dW y k)) (v + 2 * (h : Int) * (-Q / n)) = rI h (J (15 + dW y k)) v := rI_p (Int.add_mul_emod_self_left _ _ _)
        rw [y2]; exact g2
