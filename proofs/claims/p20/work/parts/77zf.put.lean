/-! What the reference's put does. -/
def pO (who : Int32) (C C' : z_A) (D : Nat → Prop) : Prop := ∀ x, (D x → C' 61 x = who) ∧ (¬ D x → C' 61 x = C 61 x)
theorem pO_0 {who : Int32} {C : z_A} : pO who C C (fun _ => False) := fun _ => ⟨fun h => h.elim, fun _ => rfl⟩
theorem pO_1 {who : Int32} {C : z_A} {i : Nat} : pO who C (z_wr C 61 i who) (fun x => x = i) := fun x => by
  rw [z_wr_eq]
  unfold upd
  exact ⟨fun h => if_pos h, fun h => if_neg h⟩
theorem pO_t {who : Int32} {C C1 C2 : z_A} {D E : Nat → Prop} (h1 : pO who C C1 D) (h2 : pO who C1 C2 E) : pO who C C2 (fun x => D x ∨ E x) := fun x => by
  constructor
  · intro h
    by_cases e : E x
    · exact (h2 x).1 e
    · rw [(h2 x).2 e]
      exact (h1 x).1 (h.resolve_right e)
  · intro h
    rw [(h2 x).2 (fun e => h (Or.inr e)), (h1 x).2 (fun d => h (Or.inl d))]
theorem pO_c {who : Int32} {C C' : z_A} {D E : Nat → Prop} (h : pO who C C' D) (e : ∀ x, D x ↔ E x) : pO who C C' E := fun x => ⟨fun q => (h x).1 ((e x).mpr q), fun q => (h x).2 (fun d => q ((e x).mp d))⟩
theorem mPj_I {A : z_A} (hA : z_MA A) {w at_ m tm who : Int32} (w0 : 0 ≤ w.toInt) (w1 : w.toInt ≤ 11) (q0 : 0 ≤ at_.toInt) (q1 : at_.toInt ≤ 1300) (m0 : 0 ≤ m.toInt) (m1 : m.toInt ≤ 240) (t1 : tm.toInt ≤ 24) : ∀ (k : Nat) (j : Int32) (C : z_A), 0 ≤ j.toInt → j.toInt ≤ 50 → tm.toInt < j.toInt + (k : Int) → pO who C (mPj A w at_ m tm who k j C) (fun x => ∃ i : Int, j.toInt ≤ i ∧ i < tm.toInt ∧ x = 120 * w.toNatClampNeg + ((at_.toInt + m.toInt + i) % (A 45 8).toInt).toNat) := by
  intro k
  induction k with
  | zero =>
    intro j C j0 j2 j1
    refine pO_c pO_0 (fun x => ⟨fun h => h.elim, ?_⟩)
    rintro ⟨i, i1, i2, -⟩; omega
  | succ k ih =>
    intro j C j0 j2 j1
    rw [mPj_s]
    by_cases c : j < tm
    · rw [if_pos c]
      rw [z_ltI] at c
      have e3 := z_y3 q0 q1 m0 m1 j0 (by omega)
      have ix := mHx_n hA w0 w1 (y := at_ + m + j) (by omega)
      rw [e3] at ix
      have e1 := z_up1 j0 (by omega)
      refine pO_c (pO_t pO_1 (ih (j + 1) _ (by omega) (by omega) (by omega))) (fun x => ?_)
      rw [ix, e1]
      constructor
      · rintro (h | ⟨i, i1, i2, i3⟩)
        · exact ⟨j.toInt, by omega, c, h⟩
        · exact ⟨i, by omega, i2, i3⟩
      · rintro ⟨i, i1, i2, i3⟩
        by_cases e : i = j.toInt
        · rw [e] at i3; exact Or.inl i3
        · exact Or.inr ⟨i, by omega, i2, i3⟩
    · rw [if_neg c]
      rw [z_ltI] at c
      refine pO_c pO_0 (fun x => ⟨fun h => h.elim, ?_⟩)
      rintro ⟨i, i1, i2, -⟩; omega
theorem mPm_I {A : z_A} (hA : z_MA A) {w at_ per tm who : Int32} (w0 : 0 ≤ w.toInt) (w1 : w.toInt ≤ 11) (q0 : 0 ≤ at_.toInt) (q1 : at_.toInt ≤ 1300) (p0 : 0 < per.toInt) (p1 : per.toInt ≤ 120) (t1 : tm.toInt ≤ 24) : ∀ (k : Nat) (m : Int32) (C : z_A), 0 ≤ m.toInt → m.toInt ≤ 240 → (A 45 8).toInt < m.toInt + (k : Int) → pO who C (mPm A w at_ per tm who k m C) (fun x => ∃ i : Int, 0 ≤ i ∧ m.toInt + i * per.toInt < (A 45 8).toInt ∧ ∃ j : Int, 0 ≤ j ∧ j < tm.toInt ∧ x = 120 * w.toNatClampNeg + ((at_.toInt + (m.toInt + i * per.toInt) + j) % (A 45 8).toInt).toNat) := by
  have hc := hA.2.2.1
  have t0 : Int32.toInt 0 = 0 := rfl
  intro k
  induction k with
  | zero =>
    intro m C m0 m2 m1
    refine pO_c pO_0 (fun x => ⟨fun h => h.elim, ?_⟩)
    rintro ⟨i, i1, i2, -⟩
    have := Int.mul_nonneg i1 (show 0 ≤ per.toInt by omega)
    omega
  | succ k ih =>
    intro m C m0 m2 m1
    rw [mPm_s]
    by_cases c : m < A 45 8
    · rw [if_pos c]
      rw [z_ltI] at c
      have M := mPj_I (who := who) (tm := tm) hA w0 w1 q0 q1 m0 m2 t1 25 0 C (by decide) (by decide) (by rw [t0]; omega)
      have e : (m + per).toInt = m.toInt + per.toInt := z_sum (by omega) (by omega) (by omega) (by omega)
      refine pO_c (pO_t M (ih (m + per) _ (by omega) (by omega) (by omega))) (fun x => ?_)
      rw [e, t0]
      constructor
      · rintro (⟨j, j1, j2, j3⟩ | ⟨i, i1, i2, j, j1, j2, j3⟩)
        · refine ⟨0, Int.le_refl _, by rw [Int.zero_mul]; omega, j, j1, j2, ?_⟩
          rw [Int.zero_mul, Int.add_zero]; exact j3
        · have x : m.toInt + (i + 1) * per.toInt = m.toInt + per.toInt + i * per.toInt := by rw [Int.add_mul]; omega
          exact ⟨i + 1, by omega, by omega, j, j1, j2, by rw [x]; exact j3⟩
      · rintro ⟨i, i1, i2, j, j1, j2, j3⟩
        by_cases e0 : i = 0
        · rw [e0, Int.zero_mul, Int.add_zero] at j3
          exact Or.inl ⟨j, j1, j2, j3⟩
        · have x : m.toInt + per.toInt + (i - 1) * per.toInt = m.toInt + i * per.toInt := by rw [Int.sub_mul]; omega
          exact Or.inr ⟨i - 1, by omega, by omega, j, j1, j2, by rw [x]; exact j3⟩
    · rw [if_neg c]
      rw [z_ltI] at c
      refine pO_c pO_0 (fun x => ⟨fun h => h.elim, ?_⟩)
      rintro ⟨i, i1, i2, -⟩
      have := Int.mul_nonneg i1 (show 0 ≤ per.toInt by omega)
      omega
theorem mPk_I {N A B : z_A} {s c t y who : Int32} {L h : Nat} {n : Int} (K : z_K1 N A B s c y L h n) (t0 : 0 ≤ t.toInt) (t1 : t.toInt ≤ 1000) (hf : ∀ k, k < L → dT N (B 52 s.toNatClampNeg) y k ≤ (B 53 s.toNatClampNeg).toInt) : ∀ (f i : Nat) (C : z_A), i ≤ L → L < i + f → pO who C (mPk A B s c t who f (Int32.ofNat i) C) (fun x => ∃ k, i ≤ k ∧ k < L ∧ ∃ v, (v - (t.toInt + oI N (B 52 s.toNatClampNeg) y k)) % (B 53 s.toNatClampNeg).toInt < dT N (B 52 s.toNatClampNeg) y k ∧ x = 120 * dW y k + (v % (A 45 8).toInt).toNat) := by
  have kc := K1_c K
  obtain ⟨p0, p1, s7⟩ := K1_p K
  have zb := K.hB.2.1 s.toNatClampNeg
  have L4 := K.cw.2.2.1
  have t00 : Int32.toInt 0 = 0 := rfl
  have c120 := K.hA.2.2.1
  intro f
  induction f with
  | zero => intro i C h1 h2; omega
  | succ f ih =>
    intro i C h1 h2
    have ei := z_oft (K := i) (by omega)
    have e55 := cw_55 K.s0 s7 K.c0 K.c1 K.cw
    rw [mPk_s]
    by_cases q : i < L
    · rw [if_pos (by rw [z_ltI]; omega), cw_w K.s0 s7 K.c0 K.c1 K.cw q]
      obtain ⟨-, w2, w3⟩ := K.cw.2.2.2.1 i q
      obtain ⟨b0, b1, b2⟩ := K1_w K q
      rw [cw_t K.hN w2]
      have so := mSo_I (t := t) K.ha K.hN K.hB K.s0 s7 K.c0 K.c1 K.cw (by omega) t1 (show i ≤ L by omega)
      have sb := mSo_b (s := s) (c := c) (k := Int32.ofNat i) K.hA K.hB t0 t1
      have tb := dT_0 K.ha (z := B 52 s.toNatClampNeg) (y := y) zb.1 zb.2 i
      have dk : dT N (B 52 s.toNatClampNeg) y i = (xT N (xA y (Int32.ofNat i)) (B 52 s.toNatClampNeg)).toInt := rfl
      have ek : Int32.ofNat i + 1 = Int32.ofNat (i + 1) := Int32.toInt_inj.mp (by rw [z_up1 (by omega) (by omega), ei, z_oft (by omega)]; omega)
      have sm := hf i q
      have M := mPm_I (who := who) (w := xA y (Int32.ofNat i)) (at_ := mSo A B s c t (Int32.ofNat i)) (per := B 53 s.toNatClampNeg) (tm := xT N (xA y (Int32.ofNat i)) (B 52 s.toNatClampNeg)) K.hA b0 b1 sb.1 sb.2 (by omega) p1 (by omega) 121 0 C (by decide) (by decide) (by rw [t00]; omega)
      rw [t00, so] at M
      have M2 := pO_c M (fun x => z_VV (tk := fun v => x = 120 * dW y i + (v % (A 45 8).toInt).toNat) (by omega) (kc.trans K.hn) K.n0 (by omega) (fun u v e => by rw [e]))
      rw [ek]
      refine pO_c (pO_t M2 (ih (i + 1) _ (by omega) (by omega))) (fun x => ?_)
      constructor
      · rintro (h | ⟨k, k1, k2, k3⟩)
        · exact ⟨i, Nat.le_refl _, q, h⟩
        · exact ⟨k, by omega, k2, k3⟩
      · rintro ⟨k, k1, k2, k3⟩
        by_cases e : k = i
        · subst e; exact Or.inl k3
        · exact Or.inr ⟨k, by omega, k2, k3⟩
    · have e : i = L := by omega
      subst e
      rw [if_neg (by rw [z_ltI]; omega)]
      refine pO_c pO_0 (fun x => ⟨fun h => h.elim, ?_⟩)
      rintro ⟨k, k1, k2, -⟩; omega
theorem mPt_c {N A B C : z_A} {s c t y who : Int32} {L h : Nat} {n : Int} (K : z_K1 N A B s c y L h n) (t0 : 0 ≤ t.toInt) (t1 : t.toInt ≤ 1000) (hf : ∀ k, k < L → dT N (B 52 s.toNatClampNeg) y k ≤ (B 53 s.toNatClampNeg).toInt) {w : Nat} {u : Int} : (dP N (B 52 s.toNatClampNeg) (B 53 s.toNatClampNeg) y L t.toInt w u → mPt A B s c t who C 61 (120 * w + (u % (A 45 8).toInt).toNat) = who) ∧ (¬ dP N (B 52 s.toNatClampNeg) (B 53 s.toNatClampNeg) y L t.toInt w u → mPt A B s c t who C 61 (120 * w + (u % (A 45 8).toInt).toNat) = C 61 (120 * w + (u % (A 45 8).toInt).toNat)) := by
  have kc := K1_c K
  obtain ⟨p0, p1, s7⟩ := K1_p K
  have L4 := K.cw.2.2.1
  have c120 := K.hA.2.2.1
  have M := mPk_I (who := who) K t0 t1 hf 5 0 C (Nat.zero_le _) (by omega)
  have dv : (B 53 s.toNatClampNeg).toInt ∣ (A 45 8).toInt := ⟨n, kc.trans K.hn⟩
  have eq : (∃ k, 0 ≤ k ∧ k < L ∧ ∃ v, (v - (t.toInt + oI N (B 52 s.toNatClampNeg) y k)) % (B 53 s.toNatClampNeg).toInt < dT N (B 52 s.toNatClampNeg) y k ∧ 120 * w + (u % (A 45 8).toInt).toNat = 120 * dW y k + (v % (A 45 8).toInt).toNat) ↔ dP N (B 52 s.toNatClampNeg) (B 53 s.toNatClampNeg) y L t.toInt w u := by
    unfold dP
    constructor
    · rintro ⟨k, -, k2, v, k3, k4⟩
      have u0 := Int.emod_nonneg u (show (A 45 8).toInt ≠ 0 by omega)
      have u1 := Int.emod_lt_of_pos u (show 0 < (A 45 8).toInt by omega)
      have v0 := Int.emod_nonneg v (show (A 45 8).toInt ≠ 0 by omega)
      have v1 := Int.emod_lt_of_pos v (show 0 < (A 45 8).toInt by omega)
      have e1 : dW y k = w := by omega
      have e2 : u % (A 45 8).toInt = v % (A 45 8).toInt := by omega
      refine ⟨k, k2, e1, ?_⟩
      have e3 : u % (B 53 s.toNatClampNeg).toInt = v % (B 53 s.toNatClampNeg).toInt := by
        rw [← Int.emod_emod_of_dvd u dv, ← Int.emod_emod_of_dvd v dv, e2]
      rw [(Int.emod_sub_cancel_right _).mpr e3]
      exact k3
    · rintro ⟨k, k2, k3, k4⟩
      exact ⟨k, Nat.zero_le _, k2, u, k4, by rw [k3]⟩
  unfold mPt
  exact ⟨fun d => (M _).1 (eq.mpr d), fun d => (M _).2 (fun q => d (eq.mp q))⟩
theorem mPt_h {N A B C : z_A} {s c t y who : Int32} {L h : Nat} {n : Int} (K : z_K1 N A B s c y L h n) (t0 : 0 ≤ t.toInt) (t1 : t.toInt ≤ 1000) (hf : ∀ k, k < L → dT N (B 52 s.toNatClampNeg) y k ≤ (B 53 s.toNatClampNeg).toInt) (w : Nat) (u : Int) : hC (mPt A B s c t who C) (A 45 8).toInt w u ↔ gO who (hC C (A 45 8).toInt w u) (dP N (B 52 s.toNatClampNeg) (B 53 s.toNatClampNeg) y L t.toInt w u) := by
  obtain ⟨h1, h2⟩ := mPt_c (C := C) (who := who) K t0 t1 hf (w := w) (u := u)
  unfold hC gO
  by_cases d : dP N (B 52 s.toNatClampNeg) (B 53 s.toNatClampNeg) y L t.toInt w u
  · rw [h1 d]
    split
    · rename_i e; exact ⟨fun q => absurd e q, fun q => absurd d q.2⟩
    · rename_i e; exact ⟨fun _ => Or.inr d, fun _ => e⟩
  · rw [h2 d]
    split
    · exact ⟨fun q => ⟨q, d⟩, fun q => q.1⟩
    · exact ⟨Or.inl, fun q => q.elim id (fun r => absurd r d)⟩
