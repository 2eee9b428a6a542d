section Zg
variable {S : ai_S} {d z : Nat} {Q : Option Value → ai_H → Prop} {N G P E : z_A} {W : Nat → Int32} {T Pt : Int32} {J : Nat → Int64 × Int64} {St Sq Lt Hd : z_R} {D : Nat → Nat} {n : Nat} {A B C F U V : z_A} {x : z_X} {m : z_M}
/-- the reference's streams in range -/
def z_MB (B : z_A) : Prop := (0 ≤ (B 45 10).toInt ∧ (B 45 10).toInt ≤ 8) ∧ (∀ k, 0 ≤ (B 52 k).toInt ∧ (B 52 k).toInt ≤ 8) ∧ (∀ k : Nat, (k : Int) < (B 45 10).toInt → 2 ≤ (B 53 k).toInt ∧ (B 53 k).toInt ≤ 120) ∧ (∀ k, 0 ≤ (B 54 k).toInt ∧ (B 54 k).toInt ≤ 3) ∧ (∀ k, 0 ≤ (B 55 k).toInt ∧ (B 55 k).toInt ≤ 4) ∧ (∀ k, 0 ≤ (B 56 k).toInt ∧ (B 56 k).toInt ≤ 11) ∧ (∀ k, 0 ≤ (B 59 k).toInt ∧ (B 59 k).toInt ≤ 2) ∧ (∀ k, 0 ≤ (B 60 k).toInt ∧ (B 60 k).toInt ≤ 119) ∧ (∀ k, B 58 k = 0 ∨ B 58 k = 1) ∧ (∀ k c : Nat, (k : Int) < (B 45 10).toInt → (c : Int) < (B 54 k).toInt → 1 ≤ (B 55 (3 * k + c)).toInt) ∧ (∀ k : Nat, (k : Int) < (B 45 10).toInt → ¬ B 58 k = 0 → (B 59 k).toInt < (B 54 k).toInt)
theorem z_m3 {s c : Int32} (s0 : 0 ≤ s.toInt) (s1 : s.toInt ≤ 7) (c0 : 0 ≤ c.toInt) (c1 : c.toInt ≤ 2) : (3 * s + c).toInt = 3 * s.toInt + c.toInt := by
  have e : (3 * s).toInt = 3 * s.toInt := by
    rw [Int32.toInt_mul, bm32]
    have : Int32.toInt 3 = 3 := rfl
    rw [this]; split <;> omega
  rw [z_sum (by omega) (by omega) (by omega) (by omega), e]
theorem z_m4 {y i : Int32} (y0 : 0 ≤ y.toInt) (y1 : y.toInt ≤ 1000000) (i0 : 0 ≤ i.toInt) (i1 : i.toInt ≤ 1000000) : (4 * y + i).toInt = 4 * y.toInt + i.toInt := by
  have e : (4 * y).toInt = 4 * y.toInt := by
    rw [Int32.toInt_mul, bm32]
    have : Int32.toInt 4 = 4 := rfl
    rw [this]; split <;> omega
  rw [z_sum (by omega) (by omega) (by omega) (by omega), e]
theorem z_i24 {s c : Int32} (s0 : 0 ≤ s.toInt) (s1 : s.toInt ≤ 7) (c0 : 0 ≤ c.toInt) (c1 : c.toInt ≤ 2) : (3 * s + c < 0) = False ∧ (24 ≤ (3 * s + c).toNatClampNeg) = False := by
  have := z_m3 s0 s1 c0 c1
  exact z_in (m := 24) (by omega) (by omega)
theorem z_i96 {s c i : Int32} (s0 : 0 ≤ s.toInt) (s1 : s.toInt ≤ 7) (c0 : 0 ≤ c.toInt) (c1 : c.toInt ≤ 2) (i0 : 0 ≤ i.toInt) (i1 : i.toInt ≤ 3) : (4 * (3 * s + c) + i < 0) = False ∧ (96 ≤ (4 * (3 * s + c) + i).toNatClampNeg) = False := by
  have e := z_m3 s0 s1 c0 c1
  have := z_m4 (y := 3 * s + c) (i := i) (by omega) (by omega) (by omega) (by omega)
  exact z_in (m := 96) (by omega) (by omega)
/-- from one wire's begin to the next's -/
def mLg (A : z_A) (z w : Int32) : Int32 := z * A 51 w.toNatClampNeg + A 50 w.toNatClampNeg + A 46 (A 49 w.toNatClampNeg).toNatClampNeg + 2 * A 45 9
def mCw (B : z_A) (s c i : Int32) : Int32 := B 56 (4 * (3 * s + c) + i).toNatClampNeg
theorem mLg_b {A : z_A} (hA : z_MA A) {z w : Int32} (z0 : 0 ≤ z.toInt) (z1 : z.toInt ≤ 8) : 0 ≤ (mLg A z w).toInt ∧ (mLg A z w).toInt ≤ 44 := by
  obtain ⟨-, -, -, ⟨d0, d1⟩, hh, -, -, -, hl, hs⟩ := hA
  obtain ⟨l0, l1⟩ := hl w.toNatClampNeg
  obtain ⟨k0, k1⟩ := hs w.toNatClampNeg
  obtain ⟨h0, h1⟩ := hh (A 49 w.toNatClampNeg).toNatClampNeg
  obtain ⟨e, e1, e2⟩ := z_mul3 z0 z1 k0 k1
  have e3 : (2 * A 45 9).toInt = 2 * (A 45 9).toInt := by
    rw [Int32.toInt_mul, bm32]
    have : Int32.toInt 2 = 2 := rfl
    rw [this]; split <;> omega
  have f1 := z_sum (a := z * A 51 w.toNatClampNeg) (b := A 50 w.toNatClampNeg) (by omega) (by omega) (by omega) (by omega)
  have f2 := z_sum (a := z * A 51 w.toNatClampNeg + A 50 w.toNatClampNeg) (b := A 46 (A 49 w.toNatClampNeg).toNatClampNeg) (by omega) (by omega) (by omega) (by omega)
  have f3 := z_sum (a := z * A 51 w.toNatClampNeg + A 50 w.toNatClampNeg + A 46 (A 49 w.toNatClampNeg).toNatClampNeg) (b := 2 * A 45 9) (by omega) (by omega) (by omega) (by omega)
  unfold mLg
  omega
def mSt (A B : z_A) (s c r : Int32) : Nat → Int32 → Int32 → Int32
  | 0, _, a => a
  | k + 1, i, a => if i < r then mSt A B s c r k (i + 1) (a + mLg A (B 52 s.toNatClampNeg) (mCw B s c i)) else a
theorem mSt_s {A B : z_A} {s c r i a : Int32} {k : Nat} : mSt A B s c r (k + 1) i a = if i < r then mSt A B s c r k (i + 1) (a + mLg A (B 52 s.toNatClampNeg) (mCw B s c i)) else a := rfl
theorem mSt_b {A B : z_A} (hA : z_MA A) (hB : z_MB B) {s c r : Int32} : ∀ (k : Nat) (i a : Int32), 0 ≤ a.toInt → a.toInt ≤ 100000 → k ≤ 100 → 0 ≤ (mSt A B s c r k i a).toInt ∧ (mSt A B s c r k i a).toInt ≤ a.toInt + 44 * k := by
  intro k
  induction k with
  | zero => intro i a h0 h1 h2; exact ⟨h0, by show a.toInt ≤ _; omega⟩
  | succ k ih =>
    intro i a h0 h1 h2
    have hb := mLg_b hA (w := mCw B s c i) (hB.2.1 s.toNatClampNeg).1 (hB.2.1 s.toNatClampNeg).2
    rw [mSt_s]
    split
    · have e := z_sum h0 (show a.toInt ≤ 100000000 by omega) hb.1 (by omega)
      by_cases hx : a.toInt + 44 ≤ 100000
      · have := ih (i + 1) (a + mLg A (B 52 s.toNatClampNeg) (mCw B s c i)) (by omega) (by omega) (by omega)
        omega
      · have key : ∀ (k : Nat) (i a : Int32), 0 ≤ a.toInt → a.toInt ≤ 100000 + 44 * (100 - k) → k ≤ 100 → 0 ≤ (mSt A B s c r k i a).toInt ∧ (mSt A B s c r k i a).toInt ≤ a.toInt + 44 * k := by
          intro k
          induction k with
          | zero => intro i a h0 h1 h2; exact ⟨h0, by show a.toInt ≤ _; omega⟩
          | succ k ih2 =>
            intro i a h0 h1 h2
            have hb := mLg_b hA (w := mCw B s c i) (hB.2.1 s.toNatClampNeg).1 (hB.2.1 s.toNatClampNeg).2
            rw [mSt_s]
            split
            · have e := z_sum h0 (show a.toInt ≤ 100000000 by omega) hb.1 (by omega)
              have := ih2 (i + 1) (a + mLg A (B 52 s.toNatClampNeg) (mCw B s c i)) (by omega) (by omega) (by omega)
              omega
            · omega
        have := key k (i + 1) (a + mLg A (B 52 s.toNatClampNeg) (mCw B s c i)) (by omega) (by omega) (by omega)
        omega
    · omega
def mSo (A B : z_A) (s c t k : Int32) : Int32 := mSt A B s c k 5 0 t
theorem mSo_b {A B : z_A} (hA : z_MA A) (hB : z_MB B) {s c t k : Int32} (h0 : 0 ≤ t.toInt) (h1 : t.toInt ≤ 1000) : 0 ≤ (mSo A B s c t k).toInt ∧ (mSo A B s c t k).toInt ≤ 1300 := by
  have := mSt_b hA hB (s := s) (c := c) (r := k) 5 0 t h0 (by omega) (by omega)
  unfold mSo
  omega
theorem mA_to {A : z_A} (hA : z_MA A) (w : Nat) : (A 49 w < 0) = False ∧ (6 ≤ (A 49 w).toNatClampNeg) = False := by
  have := hA.2.2.2.2.2.2.2.1 w
  exact z_in (m := 6) (by omega) (by omega)
theorem mA_fr {A : z_A} (hA : z_MA A) (w : Nat) : (A 48 w < 0) = False ∧ (6 ≤ (A 48 w).toNatClampNeg) = False := by
  have := hA.2.2.2.2.2.2.1 w
  exact z_in (m := 6) (by omega) (by omega)
theorem mCw_i {B : z_A} (hB : z_MB B) (s c i : Int32) : (mCw B s c i < 0) = False ∧ (12 ≤ (mCw B s c i).toNatClampNeg) = False := by
  have := hB.2.2.2.2.2.1 (4 * (3 * s + c) + i).toNatClampNeg
  exact z_in (m := 12) this.1 (by unfold mCw; omega)
set_option maxHeartbeats 8000000 in
set_option maxRecDepth 100000 in
theorem k128 (hA : z_MA A) (hB : z_MB B) {s c : Int32} (s0 : 0 ≤ s.toInt) (s1 : s.toInt ≤ 7) (c0 : 0 ≤ c.toInt) (c1 : c.toInt ≤ 2) {r : Int32} (r1 : r.toInt ≤ 4) : ∀ (k : Nat) (i : Int32) (L : ai_L) (a : Int32), ai_look L 0 = some (.ref 45) → ai_look L 1 = some (.int s) → ai_look L 2 = some (.int c) → ai_look L 4 = some (.int r) → ai_look L 5 = some (.int a) → ai_look L 6 = some (.int i) → 0 ≤ i.toInt → i.toInt ≤ 4 → (4 : Int) < i.toInt + (k : Int) → RR S d 128 6 L [] (z_hp x (A, B, C, F, U, V), z) Q = Q (some (.int (mSt A B s c r k i a))) (z_hp x (A, B, C, F, U, V), z) := by
  intro k
  induction k with
  | zero => intro i L a l0 l1 l2 l4 l5 l6 h0 h1 h2; exfalso; omega
  | succ k ih =>
    intro i L a l0 l1 l2 l4 l5 l6 h0 h1 h2
    rw [q128_6]
    rcases z_ltc i r with ⟨a1, b1⟩ | ⟨a1, b1⟩
    · have a2 := z_ltb a1
      have hin := z_inc1 h0 (show i.toInt < 1000000 by omega) (by omega)
      obtain ⟨u1, u2⟩ := z_i96 s0 s1 c0 c1 h0 (show i.toInt ≤ 3 by omega)
      obtain ⟨u3, u4⟩ := z_in (m := 8) s0 (by omega)
      obtain ⟨u5, u6⟩ := mCw_i hB s c i
      obtain ⟨u7, u8⟩ := mA_to hA (mCw B s c i).toNatClampNeg
      unfold mCw at u5 u6 u7 u8
      simp only [q128_0, r128_1, r128_3, r128_4, q128_8, r128_10, q128_13, q128_14, r128_17, r128_18, q128_19, r128_20, q128_21, r128_22, r128_23, q128_24, r128_26, q128_27, r128_28, q128_30, q128_32, q128_33, q128_36, q128_37, q128_38, q128_39, q128_42, q128_44, r128_45, q128_46, q128_47, q128_50, q128_52, r128_53, q128_54, q128_55, q128_58, q128_59, q128_62, q128_64, q128_65, r128_66, r128_67, q128_68, q128_69, r128_72, r128_73, r128_74, r128_75, q128_77, r128_80, q128_83, r128_85, iI_s, gI_s, iJ_s, gJ_s, iA_r, iA_n, iA_f, gA_s, kc_s, ai_look_hit, ai_look_miss, ai_put_nil, ai_put_lt, ai_put_l1, ai_put_eq, ai_put_gt, ai_flt_nil, ai_flt_gt, cat_int, cat_ref, cat_null, cat_float, cat_long, ai_fld, ai_obj, ai_arr, ai_arq, ai_alen, ai_cno, Option.toList_some, Option.toList_none, Option.getD_some, Option.isSome_some, List.cons_append, List.nil_append, ai_sum_n, ai_sum_c, va_rf_s, va_rf_n, true_and, and_true, ne_eq, not_false_eq_true, not_true_eq_false, ↓reduceIte, not_or, reduceCtorEq, Nat.reduceAdd, Nat.reduceLT, Nat.reduceLeDiff, Nat.reduceEqDiff, Int32.reduceLT, Int32.reduceLE, Int32.reduceToNatClampNeg, Int32.reduceAdd, Int32.reduceSub, Int32.reduceMul, or_self, List.getElem?_cons_zero, List.getElem?_cons_succ, List.set_cons_zero, List.set_cons_succ, List.length_cons, List.length_nil, ai_put_si, ai_put_sr, ai_put_sn, ai_put_sf, eq_self, c10, c01, cm10, c0m, if_true, if_false, ite_true, ite_false, not_and, false_and, and_false, and_self, Classical.not_not, z_b_0, z_b_t, z_b_f, z_b_r, z_e45, z_e46, z_e47, z_e48, z_e49, z_e50, z_e51, z_e52, z_e53, z_e54, z_e55, z_e56, z_e57, z_e58, z_e59, z_e60, z_e61, z_e62, z_e63, z_e64, z_e65, z_e66, z_e67, z_e68, z_e69, z_e70, z_e71, z_e72, z_e73, z_e74, z_e75, z_e76, z_e77, z_w45_0, z_w45_3, z_w45_8, z_w45_9, z_w45_10, z_w45_20, z_w45_22, z_w45_27, z_w45_34, z_w45_35, z_w46, z_w47, z_w48, z_w49, z_w50, z_w51, z_w52, z_w53, z_w54, z_w55, z_w56, z_w57, z_w58, z_w59, z_w60, z_w61, z_w62, z_w63, z_w64, z_w65, z_w66, z_w67, z_w68, z_w69, z_w70, z_w71, z_w72, z_w73, z_w74, z_w75, z_w76, z_w77, z_lkE, z_lkA, z_lkB, z_c1_i, z_c1_r, z_c1_n, z_c1_f, mSt_s, l0, l1, l2, l4, l5, l6, a1, b1, u1, u2, u3, u4, u5, u6, u7, u8, mLg, mCw]
      exact ih (i + 1) _ _ (by simp only [z_lkE, z_lkA, z_lkB, z_c1_i, z_c1_r, z_c1_n, z_c1_f, l0, l1, l2, l4, l5, l6, iI_s, iJ_s, Nat.reduceAdd, Nat.reduceEqDiff, not_false_eq_true, reduceCtorEq, va_rf_s, va_rf_n]) (by simp only [z_lkE, z_lkA, z_lkB, z_c1_i, z_c1_r, z_c1_n, z_c1_f, l0, l1, l2, l4, l5, l6, iI_s, iJ_s, Nat.reduceAdd, Nat.reduceEqDiff, not_false_eq_true, reduceCtorEq, va_rf_s, va_rf_n]) (by simp only [z_lkE, z_lkA, z_lkB, z_c1_i, z_c1_r, z_c1_n, z_c1_f, l0, l1, l2, l4, l5, l6, iI_s, iJ_s, Nat.reduceAdd, Nat.reduceEqDiff, not_false_eq_true, reduceCtorEq, va_rf_s, va_rf_n]) (by simp only [z_lkE, z_lkA, z_lkB, z_c1_i, z_c1_r, z_c1_n, z_c1_f, l0, l1, l2, l4, l5, l6, iI_s, iJ_s, Nat.reduceAdd, Nat.reduceEqDiff, not_false_eq_true, reduceCtorEq, va_rf_s, va_rf_n]) (by simp only [z_lkE, z_lkA, z_lkB, z_c1_i, z_c1_r, z_c1_n, z_c1_f, l0, l1, l2, l4, l5, l6, iI_s, iJ_s, Nat.reduceAdd, Nat.reduceEqDiff, not_false_eq_true, reduceCtorEq, va_rf_s, va_rf_n]) (by simp only [z_lkE, z_lkA, z_lkB, z_c1_i, z_c1_r, z_c1_n, z_c1_f, l0, l1, l2, l4, l5, l6, iI_s, iJ_s, Nat.reduceAdd, Nat.reduceEqDiff, not_false_eq_true, reduceCtorEq, va_rf_s, va_rf_n]) (by omega) (by omega) (by omega)
    · simp only [q128_0, r128_1, r128_3, r128_4, q128_8, r128_10, q128_13, q128_14, r128_17, r128_18, q128_19, r128_20, q128_21, r128_22, r128_23, q128_24, r128_26, q128_27, r128_28, q128_30, q128_32, q128_33, q128_36, q128_37, q128_38, q128_39, q128_42, q128_44, r128_45, q128_46, q128_47, q128_50, q128_52, r128_53, q128_54, q128_55, q128_58, q128_59, q128_62, q128_64, q128_65, r128_66, r128_67, q128_68, q128_69, r128_72, r128_73, r128_74, r128_75, q128_77, r128_80, q128_83, r128_85, iI_s, gI_s, iJ_s, gJ_s, iA_r, iA_n, iA_f, gA_s, kc_s, ai_look_hit, ai_look_miss, ai_put_nil, ai_put_lt, ai_put_l1, ai_put_eq, ai_put_gt, ai_flt_nil, ai_flt_gt, cat_int, cat_ref, cat_null, cat_float, cat_long, ai_fld, ai_obj, ai_arr, ai_arq, ai_alen, ai_cno, Option.toList_some, Option.toList_none, Option.getD_some, Option.isSome_some, List.cons_append, List.nil_append, ai_sum_n, ai_sum_c, va_rf_s, va_rf_n, true_and, and_true, ne_eq, not_false_eq_true, not_true_eq_false, ↓reduceIte, not_or, reduceCtorEq, Nat.reduceAdd, Nat.reduceLT, Nat.reduceLeDiff, Nat.reduceEqDiff, Int32.reduceLT, Int32.reduceLE, Int32.reduceToNatClampNeg, Int32.reduceAdd, Int32.reduceSub, Int32.reduceMul, or_self, List.getElem?_cons_zero, List.getElem?_cons_succ, List.set_cons_zero, List.set_cons_succ, List.length_cons, List.length_nil, ai_put_si, ai_put_sr, ai_put_sn, ai_put_sf, eq_self, c10, c01, cm10, c0m, if_true, if_false, ite_true, ite_false, not_and, false_and, and_false, and_self, Classical.not_not, z_b_0, z_b_t, z_b_f, z_b_r, z_e45, z_e46, z_e47, z_e48, z_e49, z_e50, z_e51, z_e52, z_e53, z_e54, z_e55, z_e56, z_e57, z_e58, z_e59, z_e60, z_e61, z_e62, z_e63, z_e64, z_e65, z_e66, z_e67, z_e68, z_e69, z_e70, z_e71, z_e72, z_e73, z_e74, z_e75, z_e76, z_e77, z_w45_0, z_w45_3, z_w45_8, z_w45_9, z_w45_10, z_w45_20, z_w45_22, z_w45_27, z_w45_34, z_w45_35, z_w46, z_w47, z_w48, z_w49, z_w50, z_w51, z_w52, z_w53, z_w54, z_w55, z_w56, z_w57, z_w58, z_w59, z_w60, z_w61, z_w62, z_w63, z_w64, z_w65, z_w66, z_w67, z_w68, z_w69, z_w70, z_w71, z_w72, z_w73, z_w74, z_w75, z_w76, z_w77, z_lkE, z_lkA, z_lkB, z_c1_i, z_c1_r, z_c1_n, z_c1_f, mSt_s, l0, l1, l2, l4, l5, l6, a1, b1]
set_option maxHeartbeats 8000000 in
set_option maxRecDepth 100000 in
theorem m128 (hA : z_MA A) (hB : z_MB B) {s c : Int32} (s0 : 0 ≤ s.toInt) (s1 : s.toInt ≤ 7) (c0 : 0 ≤ c.toInt) (c1 : c.toInt ≤ 2) (t r : Int32) (r1 : r.toInt ≤ 4) : RR S d 128 0 [(0, .ref 45), (1, .int s), (2, .int c), (3, .int t), (4, .int r)] [] (z_hp x (A, B, C, F, U, V), z) Q = Q (some (.int (mSo A B s c t r))) (z_hp x (A, B, C, F, U, V), z) := by
  simp only [q128_0, r128_1, r128_3, r128_4, q128_8, r128_10, q128_13, q128_14, r128_17, r128_18, q128_19, r128_20, q128_21, r128_22, r128_23, q128_24, r128_26, q128_27, r128_28, q128_30, q128_32, q128_33, q128_36, q128_37, q128_38, q128_39, q128_42, q128_44, r128_45, q128_46, q128_47, q128_50, q128_52, r128_53, q128_54, q128_55, q128_58, q128_59, q128_62, q128_64, q128_65, r128_66, r128_67, q128_68, q128_69, r128_72, r128_73, r128_74, r128_75, q128_77, r128_80, q128_83, r128_85, iI_s, gI_s, iJ_s, gJ_s, iA_r, iA_n, iA_f, gA_s, kc_s, ai_look_hit, ai_look_miss, ai_put_nil, ai_put_lt, ai_put_l1, ai_put_eq, ai_put_gt, ai_flt_nil, ai_flt_gt, cat_int, cat_ref, cat_null, cat_float, cat_long, ai_fld, ai_obj, ai_arr, ai_arq, ai_alen, ai_cno, Option.toList_some, Option.toList_none, Option.getD_some, Option.isSome_some, List.cons_append, List.nil_append, ai_sum_n, ai_sum_c, va_rf_s, va_rf_n, true_and, and_true, ne_eq, not_false_eq_true, not_true_eq_false, ↓reduceIte, not_or, reduceCtorEq, Nat.reduceAdd, Nat.reduceLT, Nat.reduceLeDiff, Nat.reduceEqDiff, Int32.reduceLT, Int32.reduceLE, Int32.reduceToNatClampNeg, Int32.reduceAdd, Int32.reduceSub, Int32.reduceMul, or_self, List.getElem?_cons_zero, List.getElem?_cons_succ, List.set_cons_zero, List.set_cons_succ, List.length_cons, List.length_nil, ai_put_si, ai_put_sr, ai_put_sn, ai_put_sf, eq_self, c10, c01, cm10, c0m, if_true, if_false, ite_true, ite_false, not_and, false_and, and_false, and_self, Classical.not_not, z_b_0, z_b_t, z_b_f, z_b_r, z_e45, z_e46, z_e47, z_e48, z_e49, z_e50, z_e51, z_e52, z_e53, z_e54, z_e55, z_e56, z_e57, z_e58, z_e59, z_e60, z_e61, z_e62, z_e63, z_e64, z_e65, z_e66, z_e67, z_e68, z_e69, z_e70, z_e71, z_e72, z_e73, z_e74, z_e75, z_e76, z_e77, z_w45_0, z_w45_3, z_w45_8, z_w45_9, z_w45_10, z_w45_20, z_w45_22, z_w45_27, z_w45_34, z_w45_35, z_w46, z_w47, z_w48, z_w49, z_w50, z_w51, z_w52, z_w53, z_w54, z_w55, z_w56, z_w57, z_w58, z_w59, z_w60, z_w61, z_w62, z_w63, z_w64, z_w65, z_w66, z_w67, z_w68, z_w69, z_w70, z_w71, z_w72, z_w73, z_w74, z_w75, z_w76, z_w77]
  exact k128 hA hB s0 s1 c0 c1 r1 5 0 _ _ rfl rfl rfl rfl rfl rfl (by decide) (by decide) (by decide)
end Zg
