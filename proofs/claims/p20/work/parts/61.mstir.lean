section Zg
variable {S : ai_S} {d z : Nat} {Q : Option Value → ai_H → Prop} {N G P E : z_A} {W : Nat → Int32} {T Pt : Int32} {J : Nat → Int64 × Int64} {St Sq Lt Hd : z_R} {D : Nat → Nat} {n : Nat} {A B C F U V : z_A} {x : z_X} {m : z_M}
theorem z_bit (x : Int32) : x &&& 1 = 0 ∨ x &&& 1 = 1 := by
  have h : (x &&& 1).toBitVec = 0#32 ∨ (x &&& 1).toBitVec = 1#32 := by
    rw [Int32.toBitVec_and]
    show x.toBitVec &&& 1#32 = 0#32 ∨ x.toBitVec &&& 1#32 = 1#32
    cases hb : x.toBitVec.getLsbD 0
    · left
      apply BitVec.eq_of_getLsbD_eq
      intro i hi
      by_cases h0 : i = 0
      · subst h0; simp; simpa using hb
      · simp [h0]
    · right
      apply BitVec.eq_of_getLsbD_eq
      intro i hi
      by_cases h0 : i = 0
      · subst h0; simp [hb]
      · simp [h0]
  rcases h with h | h
  · left; exact Int32.toBitVec_inj.mp h
  · right; exact Int32.toBitVec_inj.mp h
/-- the sets in their order, as numbers -/
def mRh (a : Int32) : Nat → Int32 → Nat
  | 0, _ => 0
  | k + 1, i => if i < 8 then ((a >>> (i &&& 31)) &&& 1).toNatClampNeg * 2 ^ k + mRh a k (i + 1) else 0
theorem mRh_s {a i : Int32} {k : Nat} : mRh a (k + 1) i = if i < 8 then ((a >>> (i &&& 31)) &&& 1).toNatClampNeg * 2 ^ k + mRh a k (i + 1) else 0 := rfl
theorem mRh_b {a : Int32} : ∀ (k : Nat) (i : Int32), mRh a k i < 2 ^ k := by
  intro k
  induction k with
  | zero => intro i; exact Nat.one_pos
  | succ k ih =>
    intro i
    have h1 := ih (i + 1)
    have h2 : 2 ^ (k + 1) = 2 ^ k + 2 ^ k := by rw [Nat.pow_succ]; omega
    rw [mRh_s]
    split
    · rcases z_bit (a >>> (i &&& 31)) with e | e <;> rw [e]
      · rw [show (0 : Int32).toNatClampNeg = 0 from rfl, Nat.zero_mul]; omega
      · rw [show (1 : Int32).toNatClampNeg = 1 from rfl, Nat.one_mul]; omega
    · omega
theorem mAh_r {a b : Int32} : ∀ (k : Nat) (i : Int32), mAh a b k i = true → mRh b k i < mRh a k i := by
  intro k
  induction k with
  | zero => intro i h; cases h
  | succ k ih =>
    intro i h
    rw [mAh_s] at h
    rw [mRh_s, mRh_s]
    split at h
    · rename_i h8
      rw [if_pos h8, if_pos h8]
      have hb := mRh_b (a := b) k (i + 1)
      split at h
      · rename_i e
        have := ih (i + 1) h
        rw [e]; omega
      · rename_i e
        split at h
        · rename_i e1
          rcases z_bit (b >>> (i &&& 31)) with e2 | e2
          · rw [e1, e2, show (0 : Int32).toNatClampNeg = 0 from rfl, show (1 : Int32).toNatClampNeg = 1 from rfl, Nat.zero_mul, Nat.one_mul]; omega
          · exact absurd (e1.trans e2.symm) e
        · cases h
    · cases h
theorem mNx_k {all n behind : Int32} : ∀ (k : Nat) (i best : Int32), (best < 0 ∨ mMay all n behind best = true) → (mNx all n behind k i best < 0 ∨ mMay all n behind (mNx all n behind k i best) = true) := by
  intro k
  induction k with
  | zero => intro i best h; exact h
  | succ k ih =>
    intro i best h
    rw [mNx_s]
    split
    · apply ih
      split
      · rename_i hm
        split
        · exact Or.inr hm
        · split
          · exact Or.inr hm
          · exact h
      · exact h
    · exact h
/-- the set that follows is ordered behind -/
theorem mNx_r {all n set : Int32} (h0 : ¬ set < 0) (h1 : ¬ mNx all n set 257 0 (-1) < 0) : mRh (mNx all n set 257 0 (-1)) 9 0 < mRh set 9 0 := by
  rcases mNx_k (all := all) (n := n) (behind := set) 257 0 (-1) (Or.inl (by decide)) with h | h
  · exact absurd h h1
  · generalize mNx all n set 257 0 (-1) = v at h h1 ⊢
    apply mAh_r
    unfold mMay at h
    split at h
    · split at h
      · split at h
        · assumption
        · cases h
      · cases h
    · cases h
abbrev z_S3 : Type := z_A × z_A × z_A
def mTw (A : z_A) (all n : Int32) : Nat → Int32 → z_S3 → Option Int32 × z_S3
  | 0, _, s => (none, s)
  | k + 1, set, s => if set < 0 then (none, s) else if (mSw A s.1 s.2.1 s.2.2 set).1 = 0 then mTw A all n k (mNx all n set 257 0 (-1)) (mSw A s.1 s.2.1 s.2.2 set).2 else (some (if (mSw A s.1 s.2.1 s.2.2 set).1 = 1 then n else -2), (mSw A s.1 s.2.1 s.2.2 set).2)
theorem mTw_s {A : z_A} {all n set : Int32} {k : Nat} {s : z_S3} : mTw A all n (k + 1) set s = if set < 0 then (none, s) else if (mSw A s.1 s.2.1 s.2.2 set).1 = 0 then mTw A all n k (mNx all n set 257 0 (-1)) (mSw A s.1 s.2.1 s.2.2 set).2 else (some (if (mSw A s.1 s.2.1 s.2.2 set).1 = 1 then n else -2), (mSw A s.1 s.2.1 s.2.2 set).2) := rfl
def mTn (f : z_S3 → Int32 × z_S3) (r : Option Int32 × z_S3) : Int32 × z_S3 := match r with
  | (none, s') => f s'
  | (some a, s') => (a, s')
def mTo (A : z_A) (all : Int32) : Nat → Int32 → z_S3 → Int32 × z_S3
  | 0, _, s => (-1, s)
  | k + 1, n, s => if n < 4 then mTn (mTo A all k (n + 1)) (mTw A all n 513 (mNx all n (-1) 257 0 (-1)) s) else (-1, s)
theorem mTo_s {A : z_A} {all n : Int32} {k : Nat} {s : z_S3} : mTo A all (k + 1) n s = if n < 4 then mTn (mTo A all k (n + 1)) (mTw A all n 513 (mNx all n (-1) 257 0 (-1)) s) else (-1, s) := rfl
def mStir (A B C V : z_A) : Int32 × z_S3 := mTo A (mPd B 9 0 0) 5 0 (B, z_wr C 45 20 0, V)
def z_O3 (B0 : z_A) (s : z_S3) : Prop := z_MB s.1 ∧ z_TR s.2.1 ∧ (∀ q, q ≠ 58 → q ≠ 59 → q ≠ 60 → s.1 q = B0 q)
theorem mSw_o {A B0 : z_A} {s : z_S3} {set : Int32} (h : z_O3 B0 s) : z_O3 B0 (mSw A s.1 s.2.1 s.2.2 set).2 := by
  obtain ⟨h1, h2, h3⟩ := h
  obtain ⟨g1, g2, g3⟩ := mSw_k (A := A) (V := s.2.2) (set := set) h1 h2
  exact ⟨g1, g2, fun q a b c => (g3 q a b c).trans (h3 q a b c)⟩
theorem mTw_o {A B0 : z_A} {all n : Int32} : ∀ (k : Nat) (set : Int32) (s : z_S3), z_O3 B0 s → z_O3 B0 (mTw A all n k set s).2 := by
  intro k
  induction k with
  | zero => intro set s h; exact h
  | succ k ih =>
    intro set s h
    have h2 := mSw_o (A := A) (set := set) h
    rw [mTw_s]
    split
    · exact h
    · split
      · exact ih _ _ h2
      · exact h2
theorem mTo_o {A B0 : z_A} {all : Int32} : ∀ (k : Nat) (n : Int32) (s : z_S3), z_O3 B0 s → z_O3 B0 (mTo A all k n s).2 := by
  intro k
  induction k with
  | zero => intro n s h; exact h
  | succ k ih =>
    intro n s h
    have h2 := mTw_o (A := A) (all := all) (n := n) 513 (mNx all n (-1) 257 0 (-1)) s h
    rw [mTo_s]
    split
    · generalize mTw A all n 513 (mNx all n (-1) 257 0 (-1)) s = r at h2 ⊢
      obtain ⟨o, s'⟩ := r
      cases o with
      | none => exact ih _ _ h2
      | some a => exact h2
    · exact h
set_option maxHeartbeats 8000000 in
set_option maxRecDepth 100000 in
theorem k140b (hA : z_MA A) {all n : Int32} {B0 : z_A} {X : Prop} {R : Option Int32 × z_S3} (K1 : ∀ (L : ai_L) (s : z_S3), z_O3 B0 s → R = (none, s) → ai_look L 0 = some (.ref 45) → ai_look L 1 = some (.int all) → ai_look L 2 = some (.int n) → RR S (d + 4) 140 65 L [] (z_hp x (A, s.1, s.2.1, F, U, s.2.2), z) Q = X) (K2 : ∀ (a : Int32) (s : z_S3), R = (some a, s) → Q (some (.int a)) (z_hp x (A, s.1, s.2.1, F, U, s.2.2), z) = X) : ∀ (k : Nat) (set : Int32) (L : ai_L) (s : z_S3), ai_look L 0 = some (.ref 45) → ai_look L 1 = some (.int all) → ai_look L 2 = some (.int n) → ai_look L 3 = some (.int set) → (¬ set < 0 → mRh set 9 0 < k) → z_O3 B0 s → mTw A all n (k + 1) set s = R → RR S (d + 4) 140 25 L [] (z_hp x (A, s.1, s.2.1, F, U, s.2.2), z) Q = X := by
  intro k
  induction k with
  | zero =>
    intro set L s l0 l1 l2 l3 h2 hs hj
    rw [q140_25]
    rw [mTw_s] at hj
    rcases z_ltc set 0 with ⟨a1, b1⟩ | ⟨a1, b1⟩
    · rw [if_pos (of_eq_true a1)] at hj
      simp only [q140_0, r140_1, q140_2, q140_5, q140_6, r140_9, r140_10, r140_11, r140_13, r140_14, q140_17, q140_18, q140_19, r140_20, q140_21, r140_24, r140_26, q140_29, q140_30, q140_31, r140_34, q140_36, r140_38, q140_41, r140_43, r140_44, q140_47, r140_48, r140_51, r140_53, q140_54, q140_55, q140_56, q140_57, q140_58, r140_61, r140_62, r140_68, r140_71, r140_72, iI_s, gI_s, iJ_s, gJ_s, iA_r, iA_n, iA_f, gA_s, kc_s, ai_look_hit, ai_look_miss, ai_put_nil, ai_put_lt, ai_put_l1, ai_put_eq, ai_put_gt, ai_flt_nil, ai_flt_gt, cat_int, cat_ref, cat_null, cat_float, cat_long, ai_fld, ai_obj, ai_arr, ai_arq, ai_alen, ai_cno, Option.toList_some, Option.toList_none, Option.getD_some, Option.isSome_some, List.cons_append, List.nil_append, ai_sum_n, ai_sum_c, va_rf_s, va_rf_n, true_and, and_true, ne_eq, not_false_eq_true, not_true_eq_false, ↓reduceIte, not_or, reduceCtorEq, Nat.reduceAdd, Nat.reduceLT, Nat.reduceLeDiff, Nat.reduceEqDiff, Int32.reduceLT, Int32.reduceLE, Int32.reduceToNatClampNeg, Int32.reduceAdd, Int32.reduceSub, Int32.reduceMul, or_self, List.getElem?_cons_zero, List.getElem?_cons_succ, List.set_cons_zero, List.set_cons_succ, List.length_cons, List.length_nil, ai_put_si, ai_put_sr, ai_put_sn, ai_put_sf, eq_self, c10, c01, cm10, c0m, if_true, if_false, ite_true, ite_false, not_and, false_and, and_false, and_self, Classical.not_not, z_b_0, z_b_t, z_b_f, z_b_r, z_e45, z_e46, z_e47, z_e48, z_e49, z_e50, z_e51, z_e52, z_e53, z_e54, z_e55, z_e56, z_e57, z_e58, z_e59, z_e60, z_e61, z_e62, z_e63, z_e64, z_e65, z_e66, z_e67, z_e68, z_e69, z_e70, z_e71, z_e72, z_e73, z_e74, z_e75, z_e76, z_e77, z_w45_0, z_w45_3, z_w45_8, z_w45_9, z_w45_10, z_w45_20, z_w45_22, z_w45_27, z_w45_34, z_w45_35, z_w46, z_w47, z_w48, z_w49, z_w50, z_w51, z_w52, z_w53, z_w54, z_w55, z_w56, z_w57, z_w58, z_w59, z_w60, z_w61, z_w62, z_w63, z_w64, z_w65, z_w66, z_w67, z_w68, z_w69, z_w70, z_w71, z_w72, z_w73, z_w74, z_w75, z_w76, z_w77, z_lkE, z_lkA, z_lkB, z_c1_i, z_c1_r, z_c1_n, z_c1_f, m139, m133 hA hs.1 hs.2.1, a1, b1, l0, l1, l2, l3]
      exact K1 _ s hs hj.symm (by simp only [z_lkE, z_lkA, z_lkB, z_c1_i, z_c1_r, z_c1_n, z_c1_f, l0, l1, l2, l3, iI_s, iJ_s, Nat.reduceAdd, Nat.reduceEqDiff, not_false_eq_true, reduceCtorEq, va_rf_s, va_rf_n]) (by simp only [z_lkE, z_lkA, z_lkB, z_c1_i, z_c1_r, z_c1_n, z_c1_f, l0, l1, l2, l3, iI_s, iJ_s, Nat.reduceAdd, Nat.reduceEqDiff, not_false_eq_true, reduceCtorEq, va_rf_s, va_rf_n]) (by simp only [z_lkE, z_lkA, z_lkB, z_c1_i, z_c1_r, z_c1_n, z_c1_f, l0, l1, l2, l3, iI_s, iJ_s, Nat.reduceAdd, Nat.reduceEqDiff, not_false_eq_true, reduceCtorEq, va_rf_s, va_rf_n])
    · exact absurd (h2 (fun z => a1 ▸ z)) (Nat.not_lt_zero _)
  | succ k ih =>
    intro set L s l0 l1 l2 l3 h2 hs hj
    rw [q140_25]
    rw [mTw_s] at hj
    rcases z_ltc set 0 with ⟨a1, b1⟩ | ⟨a1, b1⟩
    · rw [if_pos (of_eq_true a1)] at hj
      simp only [q140_0, r140_1, q140_2, q140_5, q140_6, r140_9, r140_10, r140_11, r140_13, r140_14, q140_17, q140_18, q140_19, r140_20, q140_21, r140_24, r140_26, q140_29, q140_30, q140_31, r140_34, q140_36, r140_38, q140_41, r140_43, r140_44, q140_47, r140_48, r140_51, r140_53, q140_54, q140_55, q140_56, q140_57, q140_58, r140_61, r140_62, r140_68, r140_71, r140_72, iI_s, gI_s, iJ_s, gJ_s, iA_r, iA_n, iA_f, gA_s, kc_s, ai_look_hit, ai_look_miss, ai_put_nil, ai_put_lt, ai_put_l1, ai_put_eq, ai_put_gt, ai_flt_nil, ai_flt_gt, cat_int, cat_ref, cat_null, cat_float, cat_long, ai_fld, ai_obj, ai_arr, ai_arq, ai_alen, ai_cno, Option.toList_some, Option.toList_none, Option.getD_some, Option.isSome_some, List.cons_append, List.nil_append, ai_sum_n, ai_sum_c, va_rf_s, va_rf_n, true_and, and_true, ne_eq, not_false_eq_true, not_true_eq_false, ↓reduceIte, not_or, reduceCtorEq, Nat.reduceAdd, Nat.reduceLT, Nat.reduceLeDiff, Nat.reduceEqDiff, Int32.reduceLT, Int32.reduceLE, Int32.reduceToNatClampNeg, Int32.reduceAdd, Int32.reduceSub, Int32.reduceMul, or_self, List.getElem?_cons_zero, List.getElem?_cons_succ, List.set_cons_zero, List.set_cons_succ, List.length_cons, List.length_nil, ai_put_si, ai_put_sr, ai_put_sn, ai_put_sf, eq_self, c10, c01, cm10, c0m, if_true, if_false, ite_true, ite_false, not_and, false_and, and_false, and_self, Classical.not_not, z_b_0, z_b_t, z_b_f, z_b_r, z_e45, z_e46, z_e47, z_e48, z_e49, z_e50, z_e51, z_e52, z_e53, z_e54, z_e55, z_e56, z_e57, z_e58, z_e59, z_e60, z_e61, z_e62, z_e63, z_e64, z_e65, z_e66, z_e67, z_e68, z_e69, z_e70, z_e71, z_e72, z_e73, z_e74, z_e75, z_e76, z_e77, z_w45_0, z_w45_3, z_w45_8, z_w45_9, z_w45_10, z_w45_20, z_w45_22, z_w45_27, z_w45_34, z_w45_35, z_w46, z_w47, z_w48, z_w49, z_w50, z_w51, z_w52, z_w53, z_w54, z_w55, z_w56, z_w57, z_w58, z_w59, z_w60, z_w61, z_w62, z_w63, z_w64, z_w65, z_w66, z_w67, z_w68, z_w69, z_w70, z_w71, z_w72, z_w73, z_w74, z_w75, z_w76, z_w77, z_lkE, z_lkA, z_lkB, z_c1_i, z_c1_r, z_c1_n, z_c1_f, m139, m133 hA hs.1 hs.2.1, a1, b1, l0, l1, l2, l3]
      exact K1 _ s hs hj.symm (by simp only [z_lkE, z_lkA, z_lkB, z_c1_i, z_c1_r, z_c1_n, z_c1_f, l0, l1, l2, l3, iI_s, iJ_s, Nat.reduceAdd, Nat.reduceEqDiff, not_false_eq_true, reduceCtorEq, va_rf_s, va_rf_n]) (by simp only [z_lkE, z_lkA, z_lkB, z_c1_i, z_c1_r, z_c1_n, z_c1_f, l0, l1, l2, l3, iI_s, iJ_s, Nat.reduceAdd, Nat.reduceEqDiff, not_false_eq_true, reduceCtorEq, va_rf_s, va_rf_n]) (by simp only [z_lkE, z_lkA, z_lkB, z_c1_i, z_c1_r, z_c1_n, z_c1_f, l0, l1, l2, l3, iI_s, iJ_s, Nat.reduceAdd, Nat.reduceEqDiff, not_false_eq_true, reduceCtorEq, va_rf_s, va_rf_n])
    · have n1 : ¬ set < 0 := fun z => a1 ▸ z
      rw [if_neg n1] at hj
      rcases z_eqc (mSw A s.1 s.2.1 s.2.2 set).1 0 with a4 | a4
      · rw [if_pos (of_eq_true a4)] at hj
        simp only [q140_0, r140_1, q140_2, q140_5, q140_6, r140_9, r140_10, r140_11, r140_13, r140_14, q140_17, q140_18, q140_19, r140_20, q140_21, r140_24, r140_26, q140_29, q140_30, q140_31, r140_34, q140_36, r140_38, q140_41, r140_43, r140_44, q140_47, r140_48, r140_51, r140_53, q140_54, q140_55, q140_56, q140_57, q140_58, r140_61, r140_62, r140_68, r140_71, r140_72, iI_s, gI_s, iJ_s, gJ_s, iA_r, iA_n, iA_f, gA_s, kc_s, ai_look_hit, ai_look_miss, ai_put_nil, ai_put_lt, ai_put_l1, ai_put_eq, ai_put_gt, ai_flt_nil, ai_flt_gt, cat_int, cat_ref, cat_null, cat_float, cat_long, ai_fld, ai_obj, ai_arr, ai_arq, ai_alen, ai_cno, Option.toList_some, Option.toList_none, Option.getD_some, Option.isSome_some, List.cons_append, List.nil_append, ai_sum_n, ai_sum_c, va_rf_s, va_rf_n, true_and, and_true, ne_eq, not_false_eq_true, not_true_eq_false, ↓reduceIte, not_or, reduceCtorEq, Nat.reduceAdd, Nat.reduceLT, Nat.reduceLeDiff, Nat.reduceEqDiff, Int32.reduceLT, Int32.reduceLE, Int32.reduceToNatClampNeg, Int32.reduceAdd, Int32.reduceSub, Int32.reduceMul, or_self, List.getElem?_cons_zero, List.getElem?_cons_succ, List.set_cons_zero, List.set_cons_succ, List.length_cons, List.length_nil, ai_put_si, ai_put_sr, ai_put_sn, ai_put_sf, eq_self, c10, c01, cm10, c0m, if_true, if_false, ite_true, ite_false, not_and, false_and, and_false, and_self, Classical.not_not, z_b_0, z_b_t, z_b_f, z_b_r, z_e45, z_e46, z_e47, z_e48, z_e49, z_e50, z_e51, z_e52, z_e53, z_e54, z_e55, z_e56, z_e57, z_e58, z_e59, z_e60, z_e61, z_e62, z_e63, z_e64, z_e65, z_e66, z_e67, z_e68, z_e69, z_e70, z_e71, z_e72, z_e73, z_e74, z_e75, z_e76, z_e77, z_w45_0, z_w45_3, z_w45_8, z_w45_9, z_w45_10, z_w45_20, z_w45_22, z_w45_27, z_w45_34, z_w45_35, z_w46, z_w47, z_w48, z_w49, z_w50, z_w51, z_w52, z_w53, z_w54, z_w55, z_w56, z_w57, z_w58, z_w59, z_w60, z_w61, z_w62, z_w63, z_w64, z_w65, z_w66, z_w67, z_w68, z_w69, z_w70, z_w71, z_w72, z_w73, z_w74, z_w75, z_w76, z_w77, z_lkE, z_lkA, z_lkB, z_c1_i, z_c1_r, z_c1_n, z_c1_f, m139, m133 hA hs.1 hs.2.1, a1, b1, a4, l0, l1, l2, l3]
        exact ih _ _ (mSw A s.1 s.2.1 s.2.2 set).2 (by simp only [z_lkE, z_lkA, z_lkB, z_c1_i, z_c1_r, z_c1_n, z_c1_f, l0, l1, l2, l3, iI_s, iJ_s, Nat.reduceAdd, Nat.reduceEqDiff, not_false_eq_true, reduceCtorEq, va_rf_s, va_rf_n]) (by simp only [z_lkE, z_lkA, z_lkB, z_c1_i, z_c1_r, z_c1_n, z_c1_f, l0, l1, l2, l3, iI_s, iJ_s, Nat.reduceAdd, Nat.reduceEqDiff, not_false_eq_true, reduceCtorEq, va_rf_s, va_rf_n]) (by simp only [z_lkE, z_lkA, z_lkB, z_c1_i, z_c1_r, z_c1_n, z_c1_f, l0, l1, l2, l3, iI_s, iJ_s, Nat.reduceAdd, Nat.reduceEqDiff, not_false_eq_true, reduceCtorEq, va_rf_s, va_rf_n]) (by simp only [z_lkE, z_lkA, z_lkB, z_c1_i, z_c1_r, z_c1_n, z_c1_f, l0, l1, l2, l3, iI_s, iJ_s, Nat.reduceAdd, Nat.reduceEqDiff, not_false_eq_true, reduceCtorEq, va_rf_s, va_rf_n]) (fun h => by have := mNx_r n1 h; have := h2 n1; omega) (mSw_o hs) hj
      · rw [if_neg (fun z => a4 ▸ z)] at hj
        rcases z_eqc (mSw A s.1 s.2.1 s.2.2 set).1 1 with a5 | a5
        · rw [if_pos (of_eq_true a5)] at hj
          simp only [q140_0, r140_1, q140_2, q140_5, q140_6, r140_9, r140_10, r140_11, r140_13, r140_14, q140_17, q140_18, q140_19, r140_20, q140_21, r140_24, r140_26, q140_29, q140_30, q140_31, r140_34, q140_36, r140_38, q140_41, r140_43, r140_44, q140_47, r140_48, r140_51, r140_53, q140_54, q140_55, q140_56, q140_57, q140_58, r140_61, r140_62, r140_68, r140_71, r140_72, iI_s, gI_s, iJ_s, gJ_s, iA_r, iA_n, iA_f, gA_s, kc_s, ai_look_hit, ai_look_miss, ai_put_nil, ai_put_lt, ai_put_l1, ai_put_eq, ai_put_gt, ai_flt_nil, ai_flt_gt, cat_int, cat_ref, cat_null, cat_float, cat_long, ai_fld, ai_obj, ai_arr, ai_arq, ai_alen, ai_cno, Option.toList_some, Option.toList_none, Option.getD_some, Option.isSome_some, List.cons_append, List.nil_append, ai_sum_n, ai_sum_c, va_rf_s, va_rf_n, true_and, and_true, ne_eq, not_false_eq_true, not_true_eq_false, ↓reduceIte, not_or, reduceCtorEq, Nat.reduceAdd, Nat.reduceLT, Nat.reduceLeDiff, Nat.reduceEqDiff, Int32.reduceLT, Int32.reduceLE, Int32.reduceToNatClampNeg, Int32.reduceAdd, Int32.reduceSub, Int32.reduceMul, or_self, List.getElem?_cons_zero, List.getElem?_cons_succ, List.set_cons_zero, List.set_cons_succ, List.length_cons, List.length_nil, ai_put_si, ai_put_sr, ai_put_sn, ai_put_sf, eq_self, c10, c01, cm10, c0m, if_true, if_false, ite_true, ite_false, not_and, false_and, and_false, and_self, Classical.not_not, z_b_0, z_b_t, z_b_f, z_b_r, z_e45, z_e46, z_e47, z_e48, z_e49, z_e50, z_e51, z_e52, z_e53, z_e54, z_e55, z_e56, z_e57, z_e58, z_e59, z_e60, z_e61, z_e62, z_e63, z_e64, z_e65, z_e66, z_e67, z_e68, z_e69, z_e70, z_e71, z_e72, z_e73, z_e74, z_e75, z_e76, z_e77, z_w45_0, z_w45_3, z_w45_8, z_w45_9, z_w45_10, z_w45_20, z_w45_22, z_w45_27, z_w45_34, z_w45_35, z_w46, z_w47, z_w48, z_w49, z_w50, z_w51, z_w52, z_w53, z_w54, z_w55, z_w56, z_w57, z_w58, z_w59, z_w60, z_w61, z_w62, z_w63, z_w64, z_w65, z_w66, z_w67, z_w68, z_w69, z_w70, z_w71, z_w72, z_w73, z_w74, z_w75, z_w76, z_w77, z_lkE, z_lkA, z_lkB, z_c1_i, z_c1_r, z_c1_n, z_c1_f, m139, m133 hA hs.1 hs.2.1, a1, b1, a4, a5, l0, l1, l2, l3]
          exact K2 _ _ hj.symm
        · rw [if_neg (fun z => a5 ▸ z)] at hj
          simp only [q140_0, r140_1, q140_2, q140_5, q140_6, r140_9, r140_10, r140_11, r140_13, r140_14, q140_17, q140_18, q140_19, r140_20, q140_21, r140_24, r140_26, q140_29, q140_30, q140_31, r140_34, q140_36, r140_38, q140_41, r140_43, r140_44, q140_47, r140_48, r140_51, r140_53, q140_54, q140_55, q140_56, q140_57, q140_58, r140_61, r140_62, r140_68, r140_71, r140_72, iI_s, gI_s, iJ_s, gJ_s, iA_r, iA_n, iA_f, gA_s, kc_s, ai_look_hit, ai_look_miss, ai_put_nil, ai_put_lt, ai_put_l1, ai_put_eq, ai_put_gt, ai_flt_nil, ai_flt_gt, cat_int, cat_ref, cat_null, cat_float, cat_long, ai_fld, ai_obj, ai_arr, ai_arq, ai_alen, ai_cno, Option.toList_some, Option.toList_none, Option.getD_some, Option.isSome_some, List.cons_append, List.nil_append, ai_sum_n, ai_sum_c, va_rf_s, va_rf_n, true_and, and_true, ne_eq, not_false_eq_true, not_true_eq_false, ↓reduceIte, not_or, reduceCtorEq, Nat.reduceAdd, Nat.reduceLT, Nat.reduceLeDiff, Nat.reduceEqDiff, Int32.reduceLT, Int32.reduceLE, Int32.reduceToNatClampNeg, Int32.reduceAdd, Int32.reduceSub, Int32.reduceMul, or_self, List.getElem?_cons_zero, List.getElem?_cons_succ, List.set_cons_zero, List.set_cons_succ, List.length_cons, List.length_nil, ai_put_si, ai_put_sr, ai_put_sn, ai_put_sf, eq_self, c10, c01, cm10, c0m, if_true, if_false, ite_true, ite_false, not_and, false_and, and_false, and_self, Classical.not_not, z_b_0, z_b_t, z_b_f, z_b_r, z_e45, z_e46, z_e47, z_e48, z_e49, z_e50, z_e51, z_e52, z_e53, z_e54, z_e55, z_e56, z_e57, z_e58, z_e59, z_e60, z_e61, z_e62, z_e63, z_e64, z_e65, z_e66, z_e67, z_e68, z_e69, z_e70, z_e71, z_e72, z_e73, z_e74, z_e75, z_e76, z_e77, z_w45_0, z_w45_3, z_w45_8, z_w45_9, z_w45_10, z_w45_20, z_w45_22, z_w45_27, z_w45_34, z_w45_35, z_w46, z_w47, z_w48, z_w49, z_w50, z_w51, z_w52, z_w53, z_w54, z_w55, z_w56, z_w57, z_w58, z_w59, z_w60, z_w61, z_w62, z_w63, z_w64, z_w65, z_w66, z_w67, z_w68, z_w69, z_w70, z_w71, z_w72, z_w73, z_w74, z_w75, z_w76, z_w77, z_lkE, z_lkA, z_lkB, z_c1_i, z_c1_r, z_c1_n, z_c1_f, m139, m133 hA hs.1 hs.2.1, a1, b1, a4, a5, l0, l1, l2, l3]
          exact K2 _ _ hj.symm
set_option maxHeartbeats 8000000 in
set_option maxRecDepth 100000 in
theorem k140a (hA : z_MA A) {all : Int32} {B0 : z_A} : ∀ (k : Nat) (n : Int32) (L : ai_L) (s : z_S3), ai_look L 0 = some (.ref 45) → ai_look L 1 = some (.int all) → ai_look L 2 = some (.int n) → 0 ≤ n.toInt → n.toInt ≤ 4 → (4 : Int) < n.toInt + (k : Int) → z_O3 B0 s → RR S (d + 4) 140 12 L [] (z_hp x (A, s.1, s.2.1, F, U, s.2.2), z) Q = Q (some (.int (mTo A all k n s).1)) (z_hp x (A, (mTo A all k n s).2.1, (mTo A all k n s).2.2.1, F, U, (mTo A all k n s).2.2.2), z) := by
  intro k
  induction k with
  | zero => intro n L s l0 l1 l2 h0 h1 h2 hs; exfalso; omega
  | succ k ih =>
    intro n L s l0 l1 l2 h0 h1 h2 hs
    rw [q140_12]
    rcases z_ltc n 4 with ⟨a1, b1⟩ | ⟨a1, b1⟩
    · have a2 := z_4 a1
      have hin := z_inc1 h0 (show n.toInt < 1000000 by omega) (by omega)
      simp only [q140_0, r140_1, q140_2, q140_5, q140_6, r140_9, r140_10, r140_11, r140_13, r140_14, q140_17, q140_18, q140_19, r140_20, q140_21, r140_24, r140_26, q140_29, q140_30, q140_31, r140_34, q140_36, r140_38, q140_41, r140_43, r140_44, q140_47, r140_48, r140_51, r140_53, q140_54, q140_55, q140_56, q140_57, q140_58, r140_61, r140_62, r140_68, r140_71, r140_72, iI_s, gI_s, iJ_s, gJ_s, iA_r, iA_n, iA_f, gA_s, kc_s, ai_look_hit, ai_look_miss, ai_put_nil, ai_put_lt, ai_put_l1, ai_put_eq, ai_put_gt, ai_flt_nil, ai_flt_gt, cat_int, cat_ref, cat_null, cat_float, cat_long, ai_fld, ai_obj, ai_arr, ai_arq, ai_alen, ai_cno, Option.toList_some, Option.toList_none, Option.getD_some, Option.isSome_some, List.cons_append, List.nil_append, ai_sum_n, ai_sum_c, va_rf_s, va_rf_n, true_and, and_true, ne_eq, not_false_eq_true, not_true_eq_false, ↓reduceIte, not_or, reduceCtorEq, Nat.reduceAdd, Nat.reduceLT, Nat.reduceLeDiff, Nat.reduceEqDiff, Int32.reduceLT, Int32.reduceLE, Int32.reduceToNatClampNeg, Int32.reduceAdd, Int32.reduceSub, Int32.reduceMul, or_self, List.getElem?_cons_zero, List.getElem?_cons_succ, List.set_cons_zero, List.set_cons_succ, List.length_cons, List.length_nil, ai_put_si, ai_put_sr, ai_put_sn, ai_put_sf, eq_self, c10, c01, cm10, c0m, if_true, if_false, ite_true, ite_false, not_and, false_and, and_false, and_self, Classical.not_not, z_b_0, z_b_t, z_b_f, z_b_r, z_e45, z_e46, z_e47, z_e48, z_e49, z_e50, z_e51, z_e52, z_e53, z_e54, z_e55, z_e56, z_e57, z_e58, z_e59, z_e60, z_e61, z_e62, z_e63, z_e64, z_e65, z_e66, z_e67, z_e68, z_e69, z_e70, z_e71, z_e72, z_e73, z_e74, z_e75, z_e76, z_e77, z_w45_0, z_w45_3, z_w45_8, z_w45_9, z_w45_10, z_w45_20, z_w45_22, z_w45_27, z_w45_34, z_w45_35, z_w46, z_w47, z_w48, z_w49, z_w50, z_w51, z_w52, z_w53, z_w54, z_w55, z_w56, z_w57, z_w58, z_w59, z_w60, z_w61, z_w62, z_w63, z_w64, z_w65, z_w66, z_w67, z_w68, z_w69, z_w70, z_w71, z_w72, z_w73, z_w74, z_w75, z_w76, z_w77, z_lkE, z_lkA, z_lkB, z_c1_i, z_c1_r, z_c1_n, z_c1_f, m139, a1, b1, l0, l1, l2]
      refine k140b hA (all := all) (n := n) (B0 := B0) ?_ ?_ 512 (mNx all n (-1) 257 0 (-1)) _ s (by simp only [z_lkE, z_lkA, z_lkB, z_c1_i, z_c1_r, z_c1_n, z_c1_f, l0, l1, l2, iI_s, iJ_s, Nat.reduceAdd, Nat.reduceEqDiff, not_false_eq_true, reduceCtorEq, va_rf_s, va_rf_n]) (by simp only [z_lkE, z_lkA, z_lkB, z_c1_i, z_c1_r, z_c1_n, z_c1_f, l0, l1, l2, iI_s, iJ_s, Nat.reduceAdd, Nat.reduceEqDiff, not_false_eq_true, reduceCtorEq, va_rf_s, va_rf_n]) (by simp only [z_lkE, z_lkA, z_lkB, z_c1_i, z_c1_r, z_c1_n, z_c1_f, l0, l1, l2, iI_s, iJ_s, Nat.reduceAdd, Nat.reduceEqDiff, not_false_eq_true, reduceCtorEq, va_rf_s, va_rf_n]) (by simp only [z_lkE, z_lkA, z_lkB, z_c1_i, z_c1_r, z_c1_n, z_c1_f, l0, l1, l2, iI_s, iJ_s, Nat.reduceAdd, Nat.reduceEqDiff, not_false_eq_true, reduceCtorEq, va_rf_s, va_rf_n]) (fun _ => mRh_b 9 0) hs rfl
      · intro L s' hs' hR l0 l1 l2
        rw [q140_65, mTo_s, if_pos (of_eq_true a1), hR]
        show _ = Q (some (.int (mTo A all k (n + 1) s').1)) (z_hp x (A, (mTo A all k (n + 1) s').2.1, (mTo A all k (n + 1) s').2.2.1, F, U, (mTo A all k (n + 1) s').2.2.2), z)
        simp only [q140_0, r140_1, q140_2, q140_5, q140_6, r140_9, r140_10, r140_11, r140_13, r140_14, q140_17, q140_18, q140_19, r140_20, q140_21, r140_24, r140_26, q140_29, q140_30, q140_31, r140_34, q140_36, r140_38, q140_41, r140_43, r140_44, q140_47, r140_48, r140_51, r140_53, q140_54, q140_55, q140_56, q140_57, q140_58, r140_61, r140_62, q140_65, r140_68, r140_71, r140_72, iI_s, gI_s, iJ_s, gJ_s, iA_r, iA_n, iA_f, gA_s, kc_s, ai_look_hit, ai_look_miss, ai_put_nil, ai_put_lt, ai_put_l1, ai_put_eq, ai_put_gt, ai_flt_nil, ai_flt_gt, cat_int, cat_ref, cat_null, cat_float, cat_long, ai_fld, ai_obj, ai_arr, ai_arq, ai_alen, ai_cno, Option.toList_some, Option.toList_none, Option.getD_some, Option.isSome_some, List.cons_append, List.nil_append, ai_sum_n, ai_sum_c, va_rf_s, va_rf_n, true_and, and_true, ne_eq, not_false_eq_true, not_true_eq_false, ↓reduceIte, not_or, reduceCtorEq, Nat.reduceAdd, Nat.reduceLT, Nat.reduceLeDiff, Nat.reduceEqDiff, Int32.reduceLT, Int32.reduceLE, Int32.reduceToNatClampNeg, Int32.reduceAdd, Int32.reduceSub, Int32.reduceMul, or_self, List.getElem?_cons_zero, List.getElem?_cons_succ, List.set_cons_zero, List.set_cons_succ, List.length_cons, List.length_nil, ai_put_si, ai_put_sr, ai_put_sn, ai_put_sf, eq_self, c10, c01, cm10, c0m, if_true, if_false, ite_true, ite_false, not_and, false_and, and_false, and_self, Classical.not_not, z_b_0, z_b_t, z_b_f, z_b_r, z_e45, z_e46, z_e47, z_e48, z_e49, z_e50, z_e51, z_e52, z_e53, z_e54, z_e55, z_e56, z_e57, z_e58, z_e59, z_e60, z_e61, z_e62, z_e63, z_e64, z_e65, z_e66, z_e67, z_e68, z_e69, z_e70, z_e71, z_e72, z_e73, z_e74, z_e75, z_e76, z_e77, z_w45_0, z_w45_3, z_w45_8, z_w45_9, z_w45_10, z_w45_20, z_w45_22, z_w45_27, z_w45_34, z_w45_35, z_w46, z_w47, z_w48, z_w49, z_w50, z_w51, z_w52, z_w53, z_w54, z_w55, z_w56, z_w57, z_w58, z_w59, z_w60, z_w61, z_w62, z_w63, z_w64, z_w65, z_w66, z_w67, z_w68, z_w69, z_w70, z_w71, z_w72, z_w73, z_w74, z_w75, z_w76, z_w77, z_lkE, z_lkA, z_lkB, z_c1_i, z_c1_r, z_c1_n, z_c1_f, l0, l1, l2]
        exact ih (n + 1) _ _ (by simp only [z_lkE, z_lkA, z_lkB, z_c1_i, z_c1_r, z_c1_n, z_c1_f, l0, l1, l2, iI_s, iJ_s, Nat.reduceAdd, Nat.reduceEqDiff, not_false_eq_true, reduceCtorEq, va_rf_s, va_rf_n]) (by simp only [z_lkE, z_lkA, z_lkB, z_c1_i, z_c1_r, z_c1_n, z_c1_f, l0, l1, l2, iI_s, iJ_s, Nat.reduceAdd, Nat.reduceEqDiff, not_false_eq_true, reduceCtorEq, va_rf_s, va_rf_n]) (by simp only [z_lkE, z_lkA, z_lkB, z_c1_i, z_c1_r, z_c1_n, z_c1_f, l0, l1, l2, iI_s, iJ_s, Nat.reduceAdd, Nat.reduceEqDiff, not_false_eq_true, reduceCtorEq, va_rf_s, va_rf_n]) (by omega) (by omega) (by omega) hs'
      · intro a s' hR
        rw [mTo_s, if_pos (of_eq_true a1), hR]
        rfl
    · simp only [q140_0, r140_1, q140_2, q140_5, q140_6, r140_9, r140_10, r140_11, r140_13, r140_14, q140_17, q140_18, q140_19, r140_20, q140_21, r140_24, r140_26, q140_29, q140_30, q140_31, r140_34, q140_36, r140_38, q140_41, r140_43, r140_44, q140_47, r140_48, r140_51, r140_53, q140_54, q140_55, q140_56, q140_57, q140_58, r140_61, r140_62, r140_68, r140_71, r140_72, iI_s, gI_s, iJ_s, gJ_s, iA_r, iA_n, iA_f, gA_s, kc_s, ai_look_hit, ai_look_miss, ai_put_nil, ai_put_lt, ai_put_l1, ai_put_eq, ai_put_gt, ai_flt_nil, ai_flt_gt, cat_int, cat_ref, cat_null, cat_float, cat_long, ai_fld, ai_obj, ai_arr, ai_arq, ai_alen, ai_cno, Option.toList_some, Option.toList_none, Option.getD_some, Option.isSome_some, List.cons_append, List.nil_append, ai_sum_n, ai_sum_c, va_rf_s, va_rf_n, true_and, and_true, ne_eq, not_false_eq_true, not_true_eq_false, ↓reduceIte, not_or, reduceCtorEq, Nat.reduceAdd, Nat.reduceLT, Nat.reduceLeDiff, Nat.reduceEqDiff, Int32.reduceLT, Int32.reduceLE, Int32.reduceToNatClampNeg, Int32.reduceAdd, Int32.reduceSub, Int32.reduceMul, or_self, List.getElem?_cons_zero, List.getElem?_cons_succ, List.set_cons_zero, List.set_cons_succ, List.length_cons, List.length_nil, ai_put_si, ai_put_sr, ai_put_sn, ai_put_sf, eq_self, c10, c01, cm10, c0m, if_true, if_false, ite_true, ite_false, not_and, false_and, and_false, and_self, Classical.not_not, z_b_0, z_b_t, z_b_f, z_b_r, z_e45, z_e46, z_e47, z_e48, z_e49, z_e50, z_e51, z_e52, z_e53, z_e54, z_e55, z_e56, z_e57, z_e58, z_e59, z_e60, z_e61, z_e62, z_e63, z_e64, z_e65, z_e66, z_e67, z_e68, z_e69, z_e70, z_e71, z_e72, z_e73, z_e74, z_e75, z_e76, z_e77, z_w45_0, z_w45_3, z_w45_8, z_w45_9, z_w45_10, z_w45_20, z_w45_22, z_w45_27, z_w45_34, z_w45_35, z_w46, z_w47, z_w48, z_w49, z_w50, z_w51, z_w52, z_w53, z_w54, z_w55, z_w56, z_w57, z_w58, z_w59, z_w60, z_w61, z_w62, z_w63, z_w64, z_w65, z_w66, z_w67, z_w68, z_w69, z_w70, z_w71, z_w72, z_w73, z_w74, z_w75, z_w76, z_w77, z_lkE, z_lkA, z_lkB, z_c1_i, z_c1_r, z_c1_n, z_c1_f, m139, a1, b1, mTo_s, l0, l1, l2]
set_option maxHeartbeats 8000000 in
set_option maxRecDepth 100000 in
theorem m140 (hA : z_MA A) (hB : z_MB B) : RR S (d + 4) 140 0 [(0, .ref 45)] [] (z_hp x (A, B, C, F, U, V), z) Q = Q (some (.int (mStir A B C V).1)) (z_hp x (A, (mStir A B C V).2.1, (mStir A B C V).2.2.1, F, U, (mStir A B C V).2.2.2), z) := by
  have hT : z_TR (z_wr C 45 20 0) := by
    unfold z_TR
    rw [z_wr2]; decide
  simp only [q140_0, r140_1, q140_2, q140_5, q140_6, r140_9, r140_10, r140_11, r140_13, r140_14, q140_17, q140_18, q140_19, r140_20, q140_21, r140_24, r140_26, q140_29, q140_30, q140_31, r140_34, q140_36, r140_38, q140_41, r140_43, r140_44, q140_47, r140_48, r140_51, r140_53, q140_54, q140_55, q140_56, q140_57, q140_58, r140_61, r140_62, q140_65, r140_68, r140_71, r140_72, iI_s, gI_s, iJ_s, gJ_s, iA_r, iA_n, iA_f, gA_s, kc_s, ai_look_hit, ai_look_miss, ai_put_nil, ai_put_lt, ai_put_l1, ai_put_eq, ai_put_gt, ai_flt_nil, ai_flt_gt, cat_int, cat_ref, cat_null, cat_float, cat_long, ai_fld, ai_obj, ai_arr, ai_arq, ai_alen, ai_cno, Option.toList_some, Option.toList_none, Option.getD_some, Option.isSome_some, List.cons_append, List.nil_append, ai_sum_n, ai_sum_c, va_rf_s, va_rf_n, true_and, and_true, ne_eq, not_false_eq_true, not_true_eq_false, ↓reduceIte, not_or, reduceCtorEq, Nat.reduceAdd, Nat.reduceLT, Nat.reduceLeDiff, Nat.reduceEqDiff, Int32.reduceLT, Int32.reduceLE, Int32.reduceToNatClampNeg, Int32.reduceAdd, Int32.reduceSub, Int32.reduceMul, or_self, List.getElem?_cons_zero, List.getElem?_cons_succ, List.set_cons_zero, List.set_cons_succ, List.length_cons, List.length_nil, ai_put_si, ai_put_sr, ai_put_sn, ai_put_sf, eq_self, c10, c01, cm10, c0m, if_true, if_false, ite_true, ite_false, not_and, false_and, and_false, and_self, Classical.not_not, z_b_0, z_b_t, z_b_f, z_b_r, z_e45, z_e46, z_e47, z_e48, z_e49, z_e50, z_e51, z_e52, z_e53, z_e54, z_e55, z_e56, z_e57, z_e58, z_e59, z_e60, z_e61, z_e62, z_e63, z_e64, z_e65, z_e66, z_e67, z_e68, z_e69, z_e70, z_e71, z_e72, z_e73, z_e74, z_e75, z_e76, z_e77, z_w45_0, z_w45_3, z_w45_8, z_w45_9, z_w45_10, z_w45_20, z_w45_22, z_w45_27, z_w45_34, z_w45_35, z_w46, z_w47, z_w48, z_w49, z_w50, z_w51, z_w52, z_w53, z_w54, z_w55, z_w56, z_w57, z_w58, z_w59, z_w60, z_w61, z_w62, z_w63, z_w64, z_w65, z_w66, z_w67, z_w68, z_w69, z_w70, z_w71, z_w72, z_w73, z_w74, z_w75, z_w76, z_w77, m136 hB]
  exact k140a hA (B0 := B) 5 0 _ (B, z_wr C 45 20 0, V) rfl rfl rfl (by decide) (by decide) (by decide) ⟨hB, hT, fun _ _ _ _ => rfl⟩
end Zg
