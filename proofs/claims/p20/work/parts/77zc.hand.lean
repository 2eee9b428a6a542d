/-! What hand and findMeetings do to the sets of the class. -/
theorem rI_0 {h : Nat} {u : Int} : rI h ((0 : Int64), (0 : Int64)) u = false := by
  unfold rI rB
  split <;> exact b6_0
theorem rZ_0 {h : Nat} : rZ h ((0 : Int64), (0 : Int64)) := fun _ _ => ⟨b6_0, b6_0⟩
theorem xLn_n {N : z_A} {per : Int32} {h : Nat} {n : Int} (hc : z_Cc N h) (p0 : 0 < per.toInt) (hn : 2 * (h : Int) = per.toInt * n) : (xLn N per).toInt = n := by
  obtain ⟨c1, c2, c3, c4⟩ := hc
  have tk : (N 1 8).toInt = 2 * (h : Int) := by rw [c1, z_oft (by omega)]; omega
  have t0 : Int32.toInt 0 = 0 := rfl
  have n0 : 0 ≤ n := by
    by_cases q : 0 ≤ n
    · exact q
    · have := Int.mul_neg_of_pos_of_neg p0 (show n < 0 by omega)
      omega
  have n1 : n ≤ 2 * (h : Int) := by
    have := Int.mul_le_mul_of_nonneg_right (show 1 ≤ per.toInt by omega) n0
    omega
  unfold xLn
  rw [if_pos (by rw [z_ltI]; omega), Int32.toInt_div, tk, Int.tdiv_eq_ediv_of_nonneg (by omega), hn, Int.mul_ediv_cancel_left _ (by omega), bm32]
  split <;> omega
theorem xBL_I {N : z_A} {J : z_J} {p : Nat} {st tm per : Int32} {h : Nat} {n : Int} (hc : z_Cc N h) (p0 : 0 < per.toInt) (p1 : per.toInt ≤ 120) (hn : 2 * (h : Int) = per.toInt * n) (n0 : 0 < n) (s0 : -10000000 ≤ st.toInt) (s1 : st.toInt ≤ 10000000) (t0 : 0 ≤ tm.toInt) (t1 : tm.toInt ≤ per.toInt) : rZ h (xBL N J p st tm per p) ∧ (∀ q, q ≠ p → xBL N J p st tm per q = J q) ∧ ∀ u, rI h (xBL N J p st tm per p) u = true ↔ (u - st.toInt) % per.toInt < tm.toInt := by
  have ln := xLn_n hc p0 hn
  have cp : per.toInt ≤ 2 * (h : Int) := by
    have := Int.mul_le_mul_of_nonneg_left (show 1 ≤ n by omega) (show 0 ≤ per.toInt by omega)
    omega
  have n1 : n ≤ 2 * (h : Int) := by
    have := Int.mul_le_mul_of_nonneg_right (show 1 ≤ per.toInt by omega) (show 0 ≤ n by omega)
    omega
  have h6 := hc.2.2.2
  obtain ⟨k1, k2⟩ := z_mkI (tm := tm) hc t0 (by omega)
  have T := xBl_I (p := p) (st := st) (per := per) hc k1 s0 s1 p0 p1 (by omega) 121 0 (z_wj J p 0 0) (by decide) (by rw [ln]; show n < 0 + 121; omega)
  unfold xBL
  refine ⟨T.1 (by rw [z_wj1]; exact rZ_0), fun q hq => (T.2.1 q hq).trans (z_wj2 hq), fun u => ?_⟩
  rw [T.2.2 u, z_wj1, rI_0, ln]
  have e0 : Int32.toInt 0 = 0 := rfl
  rw [e0, ← z_LT (c := 2 * (h : Int)) (st := st.toInt) (u := u) p0 hn n0 t1]
  constructor
  · rintro (g | ⟨m, g1, g2, g3⟩)
    · cases g
    · rw [k2] at g3; exact ⟨m, g1, g2, of_decide_eq_true g3⟩
  · rintro ⟨m, g1, g2, g3⟩
    exact Or.inr ⟨m, g1, g2, by rw [k2]; exact decide_eq_true g3⟩
theorem ic_I {J : z_J} {p q h : Nat} : (rZ h (J p) → rZ h (J q) → rZ h (xIc J p q p)) ∧ (∀ r, r ≠ p → xIc J p q r = J r) ∧ ∀ u, rI h (xIc J p q p) u = (rI h (J p) u || rI h (J q) u) := by
  have e : xIc J p q p = ((J p).1 ||| (J q).1, (J p).2 ||| (J q).2) := z_wj1
  refine ⟨fun h1 h2 i hi => ?_, fun r hr => z_wj2 hr, fun u => ?_⟩
  · rw [e, b6_or, b6_or, (h1 i hi).1, (h1 i hi).2, (h2 i hi).1, (h2 i hi).2]
    exact ⟨rfl, rfl⟩
  · rw [e]
    unfold rI rB
    split <;> exact b6_or
theorem ex_I {J : z_J} {p q h : Nat} (h6 : h ≤ 60) : (rZ h (J p) → rZ h (xEx J p q p)) ∧ (∀ r, r ≠ p → xEx J p q r = J r) ∧ ∀ u, 0 < h → rI h (xEx J p q p) u = (rI h (J p) u && !(rI h (J q) u)) := by
  have e : xEx J p q p = ((J p).1 &&& ((J q).1 ^^^ -1), (J p).2 &&& ((J q).2 ^^^ -1)) := z_wj1
  refine ⟨fun h1 i hi => ?_, fun r hr => z_wj2 hr, fun u h0 => ?_⟩
  · rw [e, b6_and, b6_and, (h1 i hi).1, (h1 i hi).2]
    exact ⟨rfl, rfl⟩
  · rw [e]
    have d1 := Int.emod_lt_of_pos u (show 0 < 2 * (h : Int) by omega)
    have d0 := Int.emod_nonneg u (show 2 * (h : Int) ≠ 0 by omega)
    unfold rI rB
    split
    · rw [b6_and, b6_nt (by omega)]
    · rw [b6_and, b6_nt (by omega)]
/-- a way's hops -/
def z_WY (N : z_A) (y : Int32) (L : Nat) : Prop := L ≤ 4 ∧ (∀ k : Nat, k < L → xW N (xA y (Int32.ofNat k)) = true) ∧ (L < 4 → xW N (xA y (Int32.ofNat L)) = false)
/-- its k-th wire, and how long a letter takes it -/
def dW (y : Int32) (k : Nat) : Nat := (xA y (Int32.ofNat k)).toNatClampNeg
def dT (N : z_A) (z y : Int32) (k : Nat) : Int := (xT N (xA y (Int32.ofNat k)) z).toInt
/-- from a way's begin till the k-th hop -/
def oI (N : z_A) (z y : Int32) : Nat → Int
  | 0 => 0
  | k + 1 => oI N z y k + (xC N (xA y (Int32.ofNat k)) z + xS N (xA y (Int32.ofNat k))).toInt
theorem oI_b {N : z_A} (ha : z_RA N) {z y : Int32} (z0 : 0 ≤ z.toInt) (z1 : z.toInt ≤ 8) : ∀ k : Nat, 0 ≤ oI N z y k ∧ oI N z y k ≤ 44 * (k : Int) := by
  intro k
  induction k with
  | zero => exact ⟨Int.le_refl _, Int.le_refl _⟩
  | succ k ih =>
    have a := xC_b ha (w := xA y (Int32.ofNat k)) z0 z1
    have b := xS_b ha (w := xA y (Int32.ofNat k))
    have e : (xC N (xA y (Int32.ofNat k)) z + xS N (xA y (Int32.ofNat k))).toInt = (xC N (xA y (Int32.ofNat k)) z).toInt + (xS N (xA y (Int32.ofNat k))).toInt := by rw [Int32.toInt_add, bm32]; split <;> omega
    unfold oI
    omega
def gO (gv : Int32) (a d : Prop) : Prop := if gv = 0 then a ∧ ¬ d else a ∨ d
theorem gO_2 {gv : Int32} {a d e : Prop} : gO gv (gO gv a d) e ↔ gO gv a (d ∨ e) := by
  unfold gO
  split
  · exact ⟨fun h => ⟨h.1.1, fun q => q.elim h.1.2 h.2⟩, fun h => ⟨⟨h.1, fun q => h.2 (Or.inl q)⟩, fun q => h.2 (Or.inr q)⟩⟩
  · exact or_assoc
theorem gO_c {gv : Int32} {a b d e : Prop} (h1 : a ↔ b) (h2 : d ↔ e) : gO gv a d ↔ gO gv b e := by rw [propext h1, propext h2]
theorem gO_f {gv : Int32} {a d : Prop} (h : ¬ d) : gO gv a d ↔ a := by
  unfold gO
  split
  · exact ⟨fun q => q.1, fun q => ⟨q, h⟩⟩
  · exact ⟨fun q => q.elim id (fun q => absurd q h), Or.inl⟩
def dS (N : z_A) (z per y gv k st : Int32) (J : z_J) : z_J := if gv = 0 then xEx (xBL N J 13 st (xT N (xA y k) z) per) (15 + (xA y k).toNatClampNeg) 13 else xIc (xBL N J 13 st (xT N (xA y k) z) per) (15 + (xA y k).toNatClampNeg) 13
theorem dHd_s {N : z_A} {z per y gv k st : Int32} {f : Nat} {J : z_J} : xHd N z per y gv (f + 1) k st J = if k < 4 then if xW N (xA y k) = true then xHd N z per y gv f (k + 1) (st + (xC N (xA y k) z + xS N (xA y k))) (dS N z per y gv k st J) else J else J := rfl
theorem dS_I {N : z_A} {z per y gv k st : Int32} {J : z_J} {h : Nat} {n : Int} (hc : z_Cc N h) (p0 : 0 < per.toInt) (p1 : per.toInt ≤ 120) (hn : 2 * (h : Int) = per.toInt * n) (n0 : 0 < n) (s0 : -10000000 ≤ st.toInt) (s1 : st.toInt ≤ 10000000) (t0 : 0 ≤ (xT N (xA y k) z).toInt) (t1 : (xT N (xA y k) z).toInt ≤ per.toInt) : (∀ w, rZ h (J (15 + w)) → rZ h (dS N z per y gv k st J (15 + w))) ∧ (∀ q, q ≠ 13 → q ≠ 15 + (xA y k).toNatClampNeg → dS N z per y gv k st J q = J q) ∧ ∀ w u, rI h (dS N z per y gv k st J (15 + w)) u = true ↔ gO gv (rI h (J (15 + w)) u = true) ((xA y k).toNatClampNeg = w ∧ (u - st.toInt) % per.toInt < (xT N (xA y k) z).toInt) := by
  obtain ⟨l1, l2, l3⟩ := xBL_I (J := J) (p := 13) (st := st) hc p0 p1 hn n0 s0 s1 t0 t1
  have h6 := hc.2.2.2
  have h5 := hc.2.2.1
  have o : ∀ w, xBL N J 13 st (xT N (xA y k) z) per (15 + w) = J (15 + w) := fun w => l2 _ (by omega)
  unfold dS
  by_cases g : gv = 0
  · rw [if_pos g]
    obtain ⟨e1, e2, e3⟩ := ex_I (J := xBL N J 13 st (xT N (xA y k) z) per) (p := 15 + (xA y k).toNatClampNeg) (q := 13) h6
    refine ⟨fun w hw => ?_, fun q q1 q2 => (e2 q q2).trans (l2 q q1), fun w u => ?_⟩
    · by_cases c : w = (xA y k).toNatClampNeg
      · rw [c] at hw ⊢; exact e1 (by rw [o]; exact hw)
      · rw [e2 _ (by omega), o]; exact hw
    · unfold gO
      rw [if_pos g]
      by_cases c : (xA y k).toNatClampNeg = w
      · subst c
        rw [e3 u (by omega), o, Bool.and_eq_true, Bool.not_eq_true', Bool.eq_false_iff, ne_eq, l3]
        exact ⟨fun q => ⟨q.1, fun r => q.2 r.2⟩, fun q => ⟨q.1, fun r => q.2 ⟨rfl, r⟩⟩⟩
      · rw [e2 _ (by omega), o]
        exact ⟨fun q => ⟨q, fun r => c r.1⟩, fun q => q.1⟩
  · rw [if_neg g]
    obtain ⟨e1, e2, e3⟩ := ic_I (J := xBL N J 13 st (xT N (xA y k) z) per) (p := 15 + (xA y k).toNatClampNeg) (q := 13) (h := h)
    refine ⟨fun w hw => ?_, fun q q1 q2 => (e2 q q2).trans (l2 q q1), fun w u => ?_⟩
    · by_cases c : w = (xA y k).toNatClampNeg
      · rw [c] at hw ⊢; exact e1 (by rw [o]; exact hw) l1
      · rw [e2 _ (by omega), o]; exact hw
    · unfold gO
      rw [if_neg g]
      by_cases c : (xA y k).toNatClampNeg = w
      · subst c
        rw [e3 u, o, Bool.or_eq_true, l3]
        exact ⟨fun q => q.elim Or.inl (fun r => Or.inr ⟨rfl, r⟩), fun q => q.elim Or.inl (fun r => Or.inr r.2)⟩
      · rw [e2 _ (by omega), o]
        exact ⟨Or.inl, fun q => q.elim id (fun r => absurd r.1 c)⟩
theorem xHd_I {N : z_A} {z per y gv : Int32} {h L : Nat} {n : Int} (ha : z_RA N) (hr : z_RN N) (hc : z_Cc N h) (z0 : 0 ≤ z.toInt) (z1 : z.toInt ≤ 8) (p0 : 0 < per.toInt) (p1 : per.toInt ≤ 120) (hn : 2 * (h : Int) = per.toInt * n) (n0 : 0 < n) (hy : z_WY N y L) (hf : ∀ k, k < L → dT N z y k ≤ per.toInt) : ∀ (f K : Nat) (st : Int32) (J : z_J), K ≤ L → L < K + f → -1000000 ≤ st.toInt → st.toInt ≤ 1000000 + 44 * (K : Int) → (∀ w, rZ h (J (15 + w)) → rZ h (xHd N z per y gv f (Int32.ofNat K) st J (15 + w))) ∧ (∀ q, q ≠ 13 → (q < 15 ∨ 27 ≤ q) → xHd N z per y gv f (Int32.ofNat K) st J q = J q) ∧ ∀ w u, rI h (xHd N z per y gv f (Int32.ofNat K) st J (15 + w)) u = true ↔ gO gv (rI h (J (15 + w)) u = true) (∃ k, K ≤ k ∧ k < L ∧ dW y k = w ∧ (u - (st.toInt + (oI N z y k - oI N z y K))) % per.toInt < dT N z y k) := by
  obtain ⟨L4, w1, w2⟩ := hy
  intro f
  induction f with
  | zero => intro K st J k1 k2; omega
  | succ f ih =>
    intro K st J k1 k2 s0 s1
    have eK := z_oft (K := K) (by omega)
    have e4 : Int32.toInt 4 = 4 := rfl
    rw [dHd_s]
    by_cases c : K < L
    · have cw := w1 K c
      have cw2 := xW_s cw
      have wb := hr.2.2.2.1
      have pw := z_pp cw2.1
      rw [if_pos (by rw [z_ltI]; omega), if_pos cw]
      have tb := xT_b ha (w := xA y (Int32.ofNat K)) z0 z1
      have tf : (xT N (xA y (Int32.ofNat K)) z).toInt ≤ per.toInt := hf K c
      obtain ⟨g1, g2, g3⟩ := dS_I (gv := gv) (k := Int32.ofNat K) (st := st) (J := J) hc p0 p1 hn n0 (by omega) (by omega) tb.1 tf
      have a := xC_b ha (w := xA y (Int32.ofNat K)) z0 z1
      have b := xS_b ha (w := xA y (Int32.ofNat K))
      have e : (xC N (xA y (Int32.ofNat K)) z + xS N (xA y (Int32.ofNat K))).toInt = (xC N (xA y (Int32.ofNat K)) z).toInt + (xS N (xA y (Int32.ofNat K))).toInt := by rw [Int32.toInt_add, bm32]; split <;> omega
      have es : (st + (xC N (xA y (Int32.ofNat K)) z + xS N (xA y (Int32.ofNat K)))).toInt = st.toInt + (xC N (xA y (Int32.ofNat K)) z + xS N (xA y (Int32.ofNat K))).toInt := by rw [Int32.toInt_add, bm32]; split <;> omega
      have eo : oI N z y (K + 1) = oI N z y K + (xC N (xA y (Int32.ofNat K)) z + xS N (xA y (Int32.ofNat K))).toInt := rfl
      have ek : Int32.ofNat K + 1 = Int32.ofNat (K + 1) := Int32.toInt_inj.mp (by rw [z_up1 (by omega) (by omega), eK, z_oft (by omega)]; omega)
      rw [ek]
      obtain ⟨t1, t2, t3⟩ := ih (K + 1) (st + (xC N (xA y (Int32.ofNat K)) z + xS N (xA y (Int32.ofNat K)))) (dS N z per y gv (Int32.ofNat K) st J) (by omega) (by omega) (by omega) (by omega)
      refine ⟨fun w hw => t1 w (g1 w hw), fun q q1 q2 => (t2 q q1 q2).trans (g2 q q1 (by omega)), fun w u => ?_⟩
      rw [t3 w u, gO_c (g3 w u) Iff.rfl, gO_2]
      refine gO_c Iff.rfl ?_
      constructor
      · rintro (⟨q1, q2⟩ | ⟨k, q1, q2, q3, q4⟩)
        · refine ⟨K, Nat.le_refl _, c, q1, ?_⟩
          rw [Int.sub_self, Int.add_zero]; exact q2
        · refine ⟨k, by omega, q2, q3, ?_⟩
          rw [es, eo] at q4
          have x : st.toInt + (xC N (xA y (Int32.ofNat K)) z + xS N (xA y (Int32.ofNat K))).toInt + (oI N z y k - (oI N z y K + (xC N (xA y (Int32.ofNat K)) z + xS N (xA y (Int32.ofNat K))).toInt)) = st.toInt + (oI N z y k - oI N z y K) := by omega
          rw [x] at q4; exact q4
      · rintro ⟨k, q1, q2, q3, q4⟩
        by_cases kk : k = K
        · subst kk
          rw [Int.sub_self, Int.add_zero] at q4
          exact Or.inl ⟨q3, q4⟩
        · refine Or.inr ⟨k, by omega, q2, q3, ?_⟩
          rw [es, eo]
          have x : st.toInt + (xC N (xA y (Int32.ofNat K)) z + xS N (xA y (Int32.ofNat K))).toInt + (oI N z y k - (oI N z y K + (xC N (xA y (Int32.ofNat K)) z + xS N (xA y (Int32.ofNat K))).toInt)) = st.toInt + (oI N z y k - oI N z y K) := by omega
          rw [x]; exact q4
    · have e : K = L := by omega
      subst e
      have no : ∀ w u, ¬ ∃ k, K ≤ k ∧ k < K ∧ dW y k = w ∧ (u - (st.toInt + (oI N z y k - oI N z y K))) % per.toInt < dT N z y k := fun w u => by rintro ⟨k, q1, q2, -⟩; omega
      have st' : (if Int32.ofNat K < 4 then if xW N (xA y (Int32.ofNat K)) = true then xHd N z per y gv f (Int32.ofNat K + 1) (st + (xC N (xA y (Int32.ofNat K)) z + xS N (xA y (Int32.ofNat K)))) (dS N z per y gv (Int32.ofNat K) st J) else J else J) = J := by
        split
        · rename_i q
          rw [z_ltI] at q
          rw [if_neg (by rw [w2 (by omega)]; decide)]
        · rfl
      rw [st']
      exact ⟨fun w hw => hw, fun q _ _ => rfl, fun w u => (gO_f (no w u)).symm⟩
/-- a stream's doors -/
def dP (N : z_A) (z per y : Int32) (L : Nat) (t0 : Int) (w : Nat) (u : Int) : Prop := ∃ k, k < L ∧ dW y k = w ∧ (u - (t0 + oI N z y k)) % per.toInt < dT N z y k
theorem xHd_d {N : z_A} {z per y gv : Int32} {h L : Nat} {n : Int} (ha : z_RA N) (hr : z_RN N) (hc : z_Cc N h) (z0 : 0 ≤ z.toInt) (z1 : z.toInt ≤ 8) (p0 : 0 < per.toInt) (p1 : per.toInt ≤ 120) (hn : 2 * (h : Int) = per.toInt * n) (n0 : 0 < n) (hy : z_WY N y L) (hf : ∀ k, k < L → dT N z y k ≤ per.toInt) {st : Int32} {J : z_J} (s0 : -1000000 ≤ st.toInt) (s1 : st.toInt ≤ 1000000) : (∀ w, rZ h (J (15 + w)) → rZ h (xHd N z per y gv 5 0 st J (15 + w))) ∧ (∀ q, q ≠ 13 → (q < 15 ∨ 27 ≤ q) → xHd N z per y gv 5 0 st J q = J q) ∧ ∀ w u, rI h (xHd N z per y gv 5 0 st J (15 + w)) u = true ↔ gO gv (rI h (J (15 + w)) u = true) (dP N z per y L st.toInt w u) := by
  have L4 := hy.1
  obtain ⟨t1, t2, t3⟩ := xHd_I (gv := gv) ha hr hc z0 z1 p0 p1 hn n0 hy hf 5 0 st J (by omega) (by omega) s0 (by omega)
  refine ⟨t1, t2, fun w u => (t3 w u).trans (gO_c Iff.rfl ?_)⟩
  have e : oI N z y 0 = 0 := rfl
  constructor
  · rintro ⟨k, -, q2, q3, q4⟩
    rw [e, Int.sub_zero] at q4; exact ⟨k, q2, q3, q4⟩
  · rintro ⟨k, q2, q3, q4⟩
    exact ⟨k, Nat.zero_le _, q2, q3, by rw [e, Int.sub_zero]; exact q4⟩
