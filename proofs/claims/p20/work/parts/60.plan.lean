section Zg
variable {S : ai_S} {d z : Nat} {Q : Option Value → ai_H → Prop} {N G P E : z_A} {W : Nat → Int32} {T Pt : Int32} {J : Nat → Int64 × Int64} {St Sq Lt Hd : z_R} {D : Nat → Nat} {n : Nat} {A B C F U V : z_A} {x : z_X} {m : z_M}
set_option maxHeartbeats 8000000 in
set_option maxRecDepth 100000 in
theorem k133a {set : Int32} {X : Prop} {C1 : z_A} (K : ∀ L : ai_L, ai_look L 0 = some (.ref 45) → ai_look L 1 = some (.int set) → ai_look L 2 = some (.int 0) → RR S d 133 29 L [] (z_hp x (A, B, C1, F, U, V), z) Q = X) : ∀ (k : Nat) (i : Int32) (L : ai_L) (C : z_A), ai_look L 0 = some (.ref 45) → ai_look L 1 = some (.int set) → ai_look L 2 = some (.int i) → 0 ≤ i.toInt → i.toInt ≤ 1440 → (1440 : Int) < i.toInt + (k : Int) → z_wr (mCl k i C) 45 34 0 = C1 → RR S d 133 2 L [] (z_hp x (A, B, C, F, U, V), z) Q = X := by
  intro k
  induction k with
  | zero => intro i L C l0 l1 l2 h0 h1 h2 hj; exfalso; omega
  | succ k ih =>
    intro i L C l0 l1 l2 h0 h1 h2 hj
    rw [q133_2]
    rw [mCl_s] at hj
    rcases z_ltc i 1440 with ⟨a1, b1⟩ | ⟨a1, b1⟩
    · have a2 := z_ltb a1
      have t2 : Int32.toInt 1440 = 1440 := rfl
      obtain ⟨u1, u2⟩ := z_in (m := 1440) h0 (by omega)
      rw [if_pos (of_eq_true a1)] at hj
      have hin := z_inc1 h0 (show i.toInt < 1000000 by omega) (by omega)
      simp only [r133_0, r133_1, r133_3, r133_6, q133_9, q133_10, q133_13, r133_14, q133_15, q133_16, r133_19, q133_22, r133_23, q133_24, r133_27, r133_28, q133_30, q133_31, r133_34, q133_37, q133_38, q133_41, q133_42, r133_43, q133_46, q133_47, r133_48, r133_49, r133_50, r133_51, r133_52, q133_55, q133_56, q133_59, q133_60, q133_63, q133_64, q133_65, q133_66, q133_66i, q133_67, r133_70, r133_71, q133_72, r133_75, q133_78, q133_79, q133_80, q133_81, q133_84, q133_85, q133_86, q133_87, q133_90, q133_91, q133_92, r133_93, r133_94, q133_95, q133_98, r133_101, q133_104, q133_105, r133_108, r133_109, r133_110, q133_112, q133_113, r133_116, q133_119, r133_120, r133_121, q133_124, q133_125, q133_128, q133_129, r133_130, q133_132, q133_133, q133_136, r133_138, q133_139, q133_140, q133_141, q133_144, q133_146, q133_147, q133_150, q133_151, q133_152, q133_153, q133_156, q133_158, q133_159, q133_160, q133_161, q133_162, q133_165, q133_167, q133_168, q133_171, q133_172, q133_173, q133_174, q133_177, q133_179, q133_180, q133_181, q133_182, r133_185, q133_188, q133_189, q133_192, r133_193, iI_s, gI_s, iJ_s, gJ_s, iA_r, iA_n, iA_f, gA_s, kc_s, ai_look_hit, ai_look_miss, ai_put_nil, ai_put_lt, ai_put_l1, ai_put_eq, ai_put_gt, ai_flt_nil, ai_flt_gt, cat_int, cat_ref, cat_null, cat_float, cat_long, ai_fld, ai_obj, ai_arr, ai_arq, ai_alen, ai_cno, Option.toList_some, Option.toList_none, Option.getD_some, Option.isSome_some, List.cons_append, List.nil_append, ai_sum_n, ai_sum_c, va_rf_s, va_rf_n, true_and, and_true, ne_eq, not_false_eq_true, not_true_eq_false, ↓reduceIte, not_or, reduceCtorEq, Nat.reduceAdd, Nat.reduceLT, Nat.reduceLeDiff, Nat.reduceEqDiff, Int32.reduceLT, Int32.reduceLE, Int32.reduceToNatClampNeg, Int32.reduceAdd, Int32.reduceSub, Int32.reduceMul, or_self, List.getElem?_cons_zero, List.getElem?_cons_succ, List.set_cons_zero, List.set_cons_succ, List.length_cons, List.length_nil, ai_put_si, ai_put_sr, ai_put_sn, ai_put_sf, eq_self, c10, c01, cm10, c0m, if_true, if_false, ite_true, ite_false, not_and, false_and, and_false, and_self, Classical.not_not, z_b_0, z_b_t, z_b_f, z_b_r, z_e45, z_e46, z_e47, z_e48, z_e49, z_e50, z_e51, z_e52, z_e53, z_e54, z_e55, z_e56, z_e57, z_e58, z_e59, z_e60, z_e61, z_e62, z_e63, z_e64, z_e65, z_e66, z_e67, z_e68, z_e69, z_e70, z_e71, z_e72, z_e73, z_e74, z_e75, z_e76, z_e77, z_w45_0, z_w45_3, z_w45_8, z_w45_9, z_w45_10, z_w45_20, z_w45_22, z_w45_27, z_w45_34, z_w45_35, z_w46, z_w47, z_w48, z_w49, z_w50, z_w51, z_w52, z_w53, z_w54, z_w55, z_w56, z_w57, z_w58, z_w59, z_w60, z_w61, z_w62, z_w63, z_w64, z_w65, z_w66, z_w67, z_w68, z_w69, z_w70, z_w71, z_w72, z_w73, z_w74, z_w75, z_w76, z_w77, z_lkE, z_lkA, z_lkB, z_c1_i, z_c1_r, z_c1_n, z_c1_f, l0, l1, l2, a1, b1, u1, u2]
      exact ih (i + 1) _ _ (by simp only [z_lkE, z_lkA, z_lkB, z_c1_i, z_c1_r, z_c1_n, z_c1_f, l0, l1, l2, iI_s, iJ_s, Nat.reduceAdd, Nat.reduceEqDiff, not_false_eq_true, reduceCtorEq, va_rf_s, va_rf_n]) (by simp only [z_lkE, z_lkA, z_lkB, z_c1_i, z_c1_r, z_c1_n, z_c1_f, l0, l1, l2, iI_s, iJ_s, Nat.reduceAdd, Nat.reduceEqDiff, not_false_eq_true, reduceCtorEq, va_rf_s, va_rf_n]) (by simp only [z_lkE, z_lkA, z_lkB, z_c1_i, z_c1_r, z_c1_n, z_c1_f, l0, l1, l2, iI_s, iJ_s, Nat.reduceAdd, Nat.reduceEqDiff, not_false_eq_true, reduceCtorEq, va_rf_s, va_rf_n]) (by omega) (by omega) (by omega) hj
    · rw [if_neg (fun z => a1 ▸ z)] at hj
      subst hj
      simp only [r133_0, r133_1, r133_3, r133_6, q133_9, q133_10, q133_13, r133_14, q133_15, q133_16, r133_19, q133_22, r133_23, q133_24, r133_27, r133_28, q133_30, q133_31, r133_34, q133_37, q133_38, q133_41, q133_42, r133_43, q133_46, q133_47, r133_48, r133_49, r133_50, r133_51, r133_52, q133_55, q133_56, q133_59, q133_60, q133_63, q133_64, q133_65, q133_66, q133_66i, q133_67, r133_70, r133_71, q133_72, r133_75, q133_78, q133_79, q133_80, q133_81, q133_84, q133_85, q133_86, q133_87, q133_90, q133_91, q133_92, r133_93, r133_94, q133_95, q133_98, r133_101, q133_104, q133_105, r133_108, r133_109, r133_110, q133_112, q133_113, r133_116, q133_119, r133_120, r133_121, q133_124, q133_125, q133_128, q133_129, r133_130, q133_132, q133_133, q133_136, r133_138, q133_139, q133_140, q133_141, q133_144, q133_146, q133_147, q133_150, q133_151, q133_152, q133_153, q133_156, q133_158, q133_159, q133_160, q133_161, q133_162, q133_165, q133_167, q133_168, q133_171, q133_172, q133_173, q133_174, q133_177, q133_179, q133_180, q133_181, q133_182, r133_185, q133_188, q133_189, q133_192, r133_193, iI_s, gI_s, iJ_s, gJ_s, iA_r, iA_n, iA_f, gA_s, kc_s, ai_look_hit, ai_look_miss, ai_put_nil, ai_put_lt, ai_put_l1, ai_put_eq, ai_put_gt, ai_flt_nil, ai_flt_gt, cat_int, cat_ref, cat_null, cat_float, cat_long, ai_fld, ai_obj, ai_arr, ai_arq, ai_alen, ai_cno, Option.toList_some, Option.toList_none, Option.getD_some, Option.isSome_some, List.cons_append, List.nil_append, ai_sum_n, ai_sum_c, va_rf_s, va_rf_n, true_and, and_true, ne_eq, not_false_eq_true, not_true_eq_false, ↓reduceIte, not_or, reduceCtorEq, Nat.reduceAdd, Nat.reduceLT, Nat.reduceLeDiff, Nat.reduceEqDiff, Int32.reduceLT, Int32.reduceLE, Int32.reduceToNatClampNeg, Int32.reduceAdd, Int32.reduceSub, Int32.reduceMul, or_self, List.getElem?_cons_zero, List.getElem?_cons_succ, List.set_cons_zero, List.set_cons_succ, List.length_cons, List.length_nil, ai_put_si, ai_put_sr, ai_put_sn, ai_put_sf, eq_self, c10, c01, cm10, c0m, if_true, if_false, ite_true, ite_false, not_and, false_and, and_false, and_self, Classical.not_not, z_b_0, z_b_t, z_b_f, z_b_r, z_e45, z_e46, z_e47, z_e48, z_e49, z_e50, z_e51, z_e52, z_e53, z_e54, z_e55, z_e56, z_e57, z_e58, z_e59, z_e60, z_e61, z_e62, z_e63, z_e64, z_e65, z_e66, z_e67, z_e68, z_e69, z_e70, z_e71, z_e72, z_e73, z_e74, z_e75, z_e76, z_e77, z_w45_0, z_w45_3, z_w45_8, z_w45_9, z_w45_10, z_w45_20, z_w45_22, z_w45_27, z_w45_34, z_w45_35, z_w46, z_w47, z_w48, z_w49, z_w50, z_w51, z_w52, z_w53, z_w54, z_w55, z_w56, z_w57, z_w58, z_w59, z_w60, z_w61, z_w62, z_w63, z_w64, z_w65, z_w66, z_w67, z_w68, z_w69, z_w70, z_w71, z_w72, z_w73, z_w74, z_w75, z_w76, z_w77, z_lkE, z_lkA, z_lkB, z_c1_i, z_c1_r, z_c1_n, z_c1_f, l0, l1, l2, a1, b1]
      exact K _ (by simp only [z_lkE, z_lkA, z_lkB, z_c1_i, z_c1_r, z_c1_n, z_c1_f, l0, l1, l2, iI_s, iJ_s, Nat.reduceAdd, Nat.reduceEqDiff, not_false_eq_true, reduceCtorEq, va_rf_s, va_rf_n]) (by simp only [z_lkE, z_lkA, z_lkB, z_c1_i, z_c1_r, z_c1_n, z_c1_f, l0, l1, l2, iI_s, iJ_s, Nat.reduceAdd, Nat.reduceEqDiff, not_false_eq_true, reduceCtorEq, va_rf_s, va_rf_n]) (by simp only [z_lkE, z_lkA, z_lkB, z_c1_i, z_c1_r, z_c1_n, z_c1_f, l0, l1, l2, iI_s, iJ_s, Nat.reduceAdd, Nat.reduceEqDiff, not_false_eq_true, reduceCtorEq, va_rf_s, va_rf_n])
theorem mCl_q {q : Nat} (hq : q ≠ 61) : ∀ (k : Nat) (i : Int32) (C : z_A), mCl k i C q = C q := by
  intro k
  induction k with
  | zero => intro i C; rfl
  | succ k ih =>
    intro i C
    rw [mCl_s]
    split
    · rw [ih, z_wr_ne hq]
    · rfl
theorem mLa_q {A B : z_A} {q : Nat} (hq : q ≠ 61) : ∀ (k : Nat) (i : Int32) (C : z_A), mLa A B k i C q = C q := by
  intro k
  induction k with
  | zero => intro i C; rfl
  | succ k ih =>
    intro i C
    rw [mLa_s]
    split
    · rw [ih]
      split
      · rfl
      · rw [mPt_q hq]
    · rfl
theorem mLay_q {A B C : z_A} {q : Nat} (hq : q ≠ 61) : mLay A B C q = C q := by
  unfold mLay; rw [mLa_q hq, mCl_q hq]
def mSc (A B C : z_A) (set : Int32) : z_A := z_wr (mWl A B set 9 0 (z_wr (mCl 1441 0 C) 45 34 0)) 71 0 0
def mSw (A B C V : z_A) (set : Int32) : Int32 × z_A × z_A × z_A := ((mSk A B 80020 0 (mSc A B C set)).1, mKp (mSk A B 80020 0 (mSc A B C set)).2 (mSk A B 80020 0 (mSc A B C set)).1 9 0 B, mLay A (mKp (mSk A B 80020 0 (mSc A B C set)).2 (mSk A B 80020 0 (mSc A B C set)).1 9 0 B) (mSk A B 80020 0 (mSc A B C set)).2, z_wr V 45 35 1)
def z_TR (C : z_A) : Prop := 0 ≤ (C 45 20).toInt ∧ (C 45 20).toInt ≤ 40000
theorem z_MG0 {B C : z_A} (hT : z_TR C) : z_MG B (z_wr (mCl 1441 0 C) 45 34 0) 0 := by
  have e1 : z_wr (mCl 1441 0 C) 45 34 0 45 34 = 0 := z_wr2
  have e2 : z_wr (mCl 1441 0 C) 45 34 0 45 20 = C 45 20 := by rw [z_wrj (by decide), mCl_q (by decide)]
  refine ⟨⟨by rw [e1]; decide, fun j hj => ?_, by rw [e2]; exact hT⟩, by rw [e1]; decide⟩
  rw [e1] at hj
  have : (j : Int) < 0 := hj
  omega
/-- the sought, as the search begins -/
theorem z_MC0 {A B C : z_A} (hB : z_MB B) (hT : z_TR C) {set : Int32} : z_MC B (mWl A B set 9 0 (z_wr (mCl 1441 0 C) 45 34 0)) := mWl_k hB 9 0 _ (by decide) (by decide) (z_MG0 hT)
theorem mSk_0 {A B C : z_A} (hB : z_MB B) (hC : z_MC B C) : ((mSk A B 80020 0 (z_wr C 71 0 0)).2 70 = C 70 ∧ (mSk A B 80020 0 (z_wr C 71 0 0)).2 45 34 = C 45 34) ∧ (0 ≤ ((mSk A B 80020 0 (z_wr C 71 0 0)).2 45 20).toInt ∧ ((mSk A B 80020 0 (z_wr C 71 0 0)).2 45 20).toInt ≤ 40000) ∧ ((mSk A B 80020 0 (z_wr C 71 0 0)).1 = 1 → ∀ j : Nat, (j : Int) < (C 45 34).toInt → 0 ≤ ((mSk A B 80020 0 (z_wr C 71 0 0)).2 71 j).toInt ∧ ((mSk A B 80020 0 (z_wr C 71 0 0)).2 71 j).toInt < (B 54 (C 70 j).toNatClampNeg).toInt * (B 53 (C 70 j).toNatClampNeg).toInt) := by
  have h := mSk_k (A := A) hB 80020 0 (z_wr C 71 0 0) (by decide) ?_ ?_ ?_ ?_
  · rw [z_wr1 (by decide), z_wr_ne (by decide)] at h
    exact h
  · rw [z_wr1 (by decide)]; exact hC.1.1
  · exact hC
  · refine ⟨fun j hj => ?_, ?_⟩
    · have : (j : Int) < 0 := hj
      omega
    · show 0 ≤ (z_wr C 71 0 0 71 0).toInt ∧ (z_wr C 71 0 0 71 0).toInt ≤ 360
      rw [z_wr2]; decide
  · rw [z_wr1 (by decide)]; have := hC.2.2; have e : Int32.toInt 0 = 0 := rfl; omega
theorem mKp_k {C : z_A} {ans : Int32} : ∀ (k : Nat) (i : Int32) (B : z_A), 0 ≤ i.toInt → z_MB B → z_MC B C → (ans = 1 → ∀ j : Nat, (j : Int) < (C 45 34).toInt → 0 ≤ (C 71 j).toInt ∧ (C 71 j).toInt < (B 54 (C 70 j).toNatClampNeg).toInt * (B 53 (C 70 j).toNatClampNeg).toInt) → z_MB (mKp C ans k i B) := by
  intro k
  induction k with
  | zero => intro i B h0 hB hC hq; exact hB
  | succ k ih =>
    intro i B h0 hB hC hq
    have h8 := hC.1.2
    rw [mKp_s]
    split
    · rename_i a1
      rw [z_ltI] at a1
      split
      · rename_i a3
        have pp := z_pp h0
        have e2 := z_up1 h0 (by omega)
        obtain ⟨⟨s0, s1, s7⟩, hc, hp⟩ := z_MC_b hB hC (j := i.toNatClampNeg) (by omega)
        have hz := hq a3 i.toNatClampNeg (by omega)
        obtain ⟨⟨c0, c1, -⟩, t0, t1⟩ := z_ct hz.1 hz.2 hc.2 hp.1 hp.2
        exact ih (i + 1) _ (by omega) (z_MB_pl hB s0 s1 c0 c1 t0 (by omega)) hC hq
      · exact hB
    · exact hB
theorem mKp_q {C : z_A} {ans : Int32} {q : Nat} (h1 : q ≠ 58) (h2 : q ≠ 59) (h3 : q ≠ 60) : ∀ (k : Nat) (i : Int32) (B : z_A), mKp C ans k i B q = B q := by
  intro k
  induction k with
  | zero => intro i B; rfl
  | succ k ih =>
    intro i B
    rw [mKp_s]
    split
    · split
      · rw [ih]
        unfold mPlB
        rw [z_wr_ne h3, z_wr_ne h2, z_wr_ne h1]
      · rfl
    · rfl
/-- what a search keeps -/
theorem mSw_k {A B C V : z_A} {set : Int32} (hB : z_MB B) (hT : z_TR C) : z_MB (mSw A B C V set).2.1 ∧ z_TR (mSw A B C V set).2.2.1 ∧ (∀ q, q ≠ 58 → q ≠ 59 → q ≠ 60 → (mSw A B C V set).2.1 q = B q) := by
  have hC := z_MC0 (A := A) (set := set) hB hT
  have h := mSk_0 (A := A) hB hC
  unfold mSw mSc
  generalize mWl A B set 9 0 (z_wr (mCl 1441 0 C) 45 34 0) = C1 at hC h ⊢
  generalize mSk A B 80020 0 (z_wr C1 71 0 0) = r at h ⊢
  obtain ⟨⟨r1, r2⟩, r3, r4⟩ := h
  have hC2 : z_MC B r.2 := ⟨by rw [r2]; exact hC.1, by rw [r1, r2]; exact hC.2.1, r3⟩
  refine ⟨mKp_k 9 0 B (by decide) hB hC2 (by rw [r1, r2]; exact r4), ?_, fun q h1 h2 h3 => mKp_q h1 h2 h3 9 0 B⟩
  unfold z_TR
  dsimp only
  rw [mLay_q (by decide)]
  exact r3
set_option maxHeartbeats 8000000 in
set_option maxRecDepth 100000 in
theorem m133 (hA : z_MA A) (hB : z_MB B) (hT : z_TR C) (set : Int32) : RR S (d + 3) 133 0 [(0, .ref 45), (1, .int set)] [] (z_hp x (A, B, C, F, U, V), z) Q = Q (some (.int (mSw A B C V set).1)) (z_hp x (A, (mSw A B C V set).2.1, (mSw A B C V set).2.2.1, F, U, (mSw A B C V set).2.2.2), z) := by
  have hC := z_MC0 (A := A) (set := set) hB hT
  have h := mSk_0 (A := A) hB hC
  have e := fun Q => m132 (S := S) (d := d) (x := x) (z := z) (F := F) (U := U) (V := V) (Q := Q) hA hB hC
  unfold mSw mSc
  generalize hw : mWl A B set 9 0 (z_wr (mCl 1441 0 C) 45 34 0) = C1 at hC h e ⊢
  generalize mSk A B 80020 0 (z_wr C1 71 0 0) = r at h e ⊢
  simp only [r133_0, r133_1, r133_3, r133_6, q133_9, q133_10, q133_13, r133_14, q133_15, q133_16, r133_19, q133_22, r133_23, q133_24, r133_27, r133_28, q133_30, q133_31, r133_34, q133_37, q133_38, q133_41, q133_42, r133_43, q133_46, q133_47, r133_48, r133_49, r133_50, r133_51, r133_52, q133_55, q133_56, q133_59, q133_60, q133_63, q133_64, q133_65, q133_66, q133_66i, q133_67, r133_70, r133_71, q133_72, r133_75, q133_78, q133_79, q133_80, q133_81, q133_84, q133_85, q133_86, q133_87, q133_90, q133_91, q133_92, r133_93, r133_94, q133_95, q133_98, r133_101, q133_104, q133_105, r133_108, r133_109, r133_110, q133_112, q133_113, r133_116, q133_119, r133_120, r133_121, q133_124, q133_125, q133_128, q133_129, r133_130, q133_132, q133_133, q133_136, r133_138, q133_139, q133_140, q133_141, q133_144, q133_146, q133_147, q133_150, q133_151, q133_152, q133_153, q133_156, q133_158, q133_159, q133_160, q133_161, q133_162, q133_165, q133_167, q133_168, q133_171, q133_172, q133_173, q133_174, q133_177, q133_179, q133_180, q133_181, q133_182, r133_185, q133_188, q133_189, q133_192, r133_193, iI_s, gI_s, iJ_s, gJ_s, iA_r, iA_n, iA_f, gA_s, kc_s, ai_look_hit, ai_look_miss, ai_put_nil, ai_put_lt, ai_put_l1, ai_put_eq, ai_put_gt, ai_flt_nil, ai_flt_gt, cat_int, cat_ref, cat_null, cat_float, cat_long, ai_fld, ai_obj, ai_arr, ai_arq, ai_alen, ai_cno, Option.toList_some, Option.toList_none, Option.getD_some, Option.isSome_some, List.cons_append, List.nil_append, ai_sum_n, ai_sum_c, va_rf_s, va_rf_n, true_and, and_true, ne_eq, not_false_eq_true, not_true_eq_false, ↓reduceIte, not_or, reduceCtorEq, Nat.reduceAdd, Nat.reduceLT, Nat.reduceLeDiff, Nat.reduceEqDiff, Int32.reduceLT, Int32.reduceLE, Int32.reduceToNatClampNeg, Int32.reduceAdd, Int32.reduceSub, Int32.reduceMul, or_self, List.getElem?_cons_zero, List.getElem?_cons_succ, List.set_cons_zero, List.set_cons_succ, List.length_cons, List.length_nil, ai_put_si, ai_put_sr, ai_put_sn, ai_put_sf, eq_self, c10, c01, cm10, c0m, if_true, if_false, ite_true, ite_false, not_and, false_and, and_false, and_self, Classical.not_not, z_b_0, z_b_t, z_b_f, z_b_r, z_e45, z_e46, z_e47, z_e48, z_e49, z_e50, z_e51, z_e52, z_e53, z_e54, z_e55, z_e56, z_e57, z_e58, z_e59, z_e60, z_e61, z_e62, z_e63, z_e64, z_e65, z_e66, z_e67, z_e68, z_e69, z_e70, z_e71, z_e72, z_e73, z_e74, z_e75, z_e76, z_e77, z_w45_0, z_w45_3, z_w45_8, z_w45_9, z_w45_10, z_w45_20, z_w45_22, z_w45_27, z_w45_34, z_w45_35, z_w46, z_w47, z_w48, z_w49, z_w50, z_w51, z_w52, z_w53, z_w54, z_w55, z_w56, z_w57, z_w58, z_w59, z_w60, z_w61, z_w62, z_w63, z_w64, z_w65, z_w66, z_w67, z_w68, z_w69, z_w70, z_w71, z_w72, z_w73, z_w74, z_w75, z_w76, z_w77]
  refine k133a ?_ 1441 0 _ C rfl rfl rfl (by decide) (by decide) (by decide) rfl
  intro L l0 l1 l2
  refine k133b hA hB ?_ 9 0 L _ l0 l1 l2 (by decide) (by decide) (by decide) (z_MG0 hT) hw
  intro L l0 l1
  obtain ⟨⟨r1, r2⟩, r3, r4⟩ := h
  have hC2 : z_MC B r.2 := ⟨by rw [r2]; exact hC.1, by rw [r1, r2]; exact hC.2.1, r3⟩
  rw [q133_104]
  simp only [r133_0, r133_1, r133_3, r133_6, q133_9, q133_10, q133_13, r133_14, q133_15, q133_16, r133_19, q133_22, r133_23, q133_24, r133_27, r133_28, q133_30, q133_31, r133_34, q133_37, q133_38, q133_41, q133_42, r133_43, q133_46, q133_47, r133_48, r133_49, r133_50, r133_51, r133_52, q133_55, q133_56, q133_59, q133_60, q133_63, q133_64, q133_65, q133_66, q133_66i, q133_67, r133_70, r133_71, q133_72, r133_75, q133_78, q133_79, q133_80, q133_81, q133_84, q133_85, q133_86, q133_87, q133_90, q133_91, q133_92, r133_93, r133_94, q133_95, q133_98, r133_101, q133_104, q133_105, r133_108, r133_109, r133_110, q133_112, q133_113, r133_116, q133_119, r133_120, r133_121, q133_124, q133_125, q133_128, q133_129, r133_130, q133_132, q133_133, q133_136, r133_138, q133_139, q133_140, q133_141, q133_144, q133_146, q133_147, q133_150, q133_151, q133_152, q133_153, q133_156, q133_158, q133_159, q133_160, q133_161, q133_162, q133_165, q133_167, q133_168, q133_171, q133_172, q133_173, q133_174, q133_177, q133_179, q133_180, q133_181, q133_182, r133_185, q133_188, q133_189, q133_192, r133_193, iI_s, gI_s, iJ_s, gJ_s, iA_r, iA_n, iA_f, gA_s, kc_s, ai_look_hit, ai_look_miss, ai_put_nil, ai_put_lt, ai_put_l1, ai_put_eq, ai_put_gt, ai_flt_nil, ai_flt_gt, cat_int, cat_ref, cat_null, cat_float, cat_long, ai_fld, ai_obj, ai_arr, ai_arq, ai_alen, ai_cno, Option.toList_some, Option.toList_none, Option.getD_some, Option.isSome_some, List.cons_append, List.nil_append, ai_sum_n, ai_sum_c, va_rf_s, va_rf_n, true_and, and_true, ne_eq, not_false_eq_true, not_true_eq_false, ↓reduceIte, not_or, reduceCtorEq, Nat.reduceAdd, Nat.reduceLT, Nat.reduceLeDiff, Nat.reduceEqDiff, Int32.reduceLT, Int32.reduceLE, Int32.reduceToNatClampNeg, Int32.reduceAdd, Int32.reduceSub, Int32.reduceMul, or_self, List.getElem?_cons_zero, List.getElem?_cons_succ, List.set_cons_zero, List.set_cons_succ, List.length_cons, List.length_nil, ai_put_si, ai_put_sr, ai_put_sn, ai_put_sf, eq_self, c10, c01, cm10, c0m, if_true, if_false, ite_true, ite_false, not_and, false_and, and_false, and_self, Classical.not_not, z_b_0, z_b_t, z_b_f, z_b_r, z_e45, z_e46, z_e47, z_e48, z_e49, z_e50, z_e51, z_e52, z_e53, z_e54, z_e55, z_e56, z_e57, z_e58, z_e59, z_e60, z_e61, z_e62, z_e63, z_e64, z_e65, z_e66, z_e67, z_e68, z_e69, z_e70, z_e71, z_e72, z_e73, z_e74, z_e75, z_e76, z_e77, z_w45_0, z_w45_3, z_w45_8, z_w45_9, z_w45_10, z_w45_20, z_w45_22, z_w45_27, z_w45_34, z_w45_35, z_w46, z_w47, z_w48, z_w49, z_w50, z_w51, z_w52, z_w53, z_w54, z_w55, z_w56, z_w57, z_w58, z_w59, z_w60, z_w61, z_w62, z_w63, z_w64, z_w65, z_w66, z_w67, z_w68, z_w69, z_w70, z_w71, z_w72, z_w73, z_w74, z_w75, z_w76, z_w77, z_lkE, z_lkA, z_lkB, z_c1_i, z_c1_r, z_c1_n, z_c1_f, l0, l1, e]
  exact k133c hA 9 0 _ B (by simp only [z_lkE, z_lkA, z_lkB, z_c1_i, z_c1_r, z_c1_n, z_c1_f, l0, l1, iI_s, iJ_s, Nat.reduceAdd, Nat.reduceEqDiff, not_false_eq_true, reduceCtorEq]) (by simp only [z_lkE, z_lkA, z_lkB, z_c1_i, z_c1_r, z_c1_n, z_c1_f, l0, l1, iI_s, iJ_s, Nat.reduceAdd, Nat.reduceEqDiff, not_false_eq_true, reduceCtorEq]) (by simp only [z_lkE, z_lkA, z_lkB, z_c1_i, z_c1_r, z_c1_n, z_c1_f, l0, l1, iI_s, iJ_s, Nat.reduceAdd, Nat.reduceEqDiff, not_false_eq_true, reduceCtorEq]) (by decide) (by decide) (by decide) hB hC2 (by rw [r1, r2]; exact r4)
set_option maxHeartbeats 8000000 in
set_option maxRecDepth 100000 in
theorem m134 (hA : z_MA A) (hB : z_MB B) : RR S (d + 4) 134 0 [(0, .ref 45)] [] (z_hp x (A, B, C, F, U, V), z) Q = Q (some (.int (mSw A B (z_wr C 45 20 0) V 255).1)) (z_hp x (A, (mSw A B (z_wr C 45 20 0) V 255).2.1, (mSw A B (z_wr C 45 20 0) V 255).2.2.1, F, U, (mSw A B (z_wr C 45 20 0) V 255).2.2.2), z) := by
  have hT : z_TR (z_wr C 45 20 0) := by
    unfold z_TR
    rw [z_wr2]; decide
  simp only [q134_0, r134_1, q134_2, q134_5, r134_6, q134_9, r134_12, iI_s, gI_s, iJ_s, gJ_s, iA_r, iA_n, iA_f, gA_s, kc_s, ai_look_hit, ai_look_miss, ai_put_nil, ai_put_lt, ai_put_l1, ai_put_eq, ai_put_gt, ai_flt_nil, ai_flt_gt, cat_int, cat_ref, cat_null, cat_float, cat_long, ai_fld, ai_obj, ai_arr, ai_arq, ai_alen, ai_cno, Option.toList_some, Option.toList_none, Option.getD_some, Option.isSome_some, List.cons_append, List.nil_append, ai_sum_n, ai_sum_c, va_rf_s, va_rf_n, true_and, and_true, ne_eq, not_false_eq_true, not_true_eq_false, ↓reduceIte, not_or, reduceCtorEq, Nat.reduceAdd, Nat.reduceLT, Nat.reduceLeDiff, Nat.reduceEqDiff, Int32.reduceLT, Int32.reduceLE, Int32.reduceToNatClampNeg, Int32.reduceAdd, Int32.reduceSub, Int32.reduceMul, or_self, List.getElem?_cons_zero, List.getElem?_cons_succ, List.set_cons_zero, List.set_cons_succ, List.length_cons, List.length_nil, ai_put_si, ai_put_sr, ai_put_sn, ai_put_sf, eq_self, c10, c01, cm10, c0m, if_true, if_false, ite_true, ite_false, not_and, false_and, and_false, and_self, Classical.not_not, z_b_0, z_b_t, z_b_f, z_b_r, z_e45, z_e46, z_e47, z_e48, z_e49, z_e50, z_e51, z_e52, z_e53, z_e54, z_e55, z_e56, z_e57, z_e58, z_e59, z_e60, z_e61, z_e62, z_e63, z_e64, z_e65, z_e66, z_e67, z_e68, z_e69, z_e70, z_e71, z_e72, z_e73, z_e74, z_e75, z_e76, z_e77, z_w45_0, z_w45_3, z_w45_8, z_w45_9, z_w45_10, z_w45_20, z_w45_22, z_w45_27, z_w45_34, z_w45_35, z_w46, z_w47, z_w48, z_w49, z_w50, z_w51, z_w52, z_w53, z_w54, z_w55, z_w56, z_w57, z_w58, z_w59, z_w60, z_w61, z_w62, z_w63, z_w64, z_w65, z_w66, z_w67, z_w68, z_w69, z_w70, z_w71, z_w72, z_w73, z_w74, z_w75, z_w76, z_w77, m133 hA hB hT]
set_option maxHeartbeats 8000000 in
set_option maxRecDepth 100000 in
theorem m135 (hA : z_MA A) (hB : z_MB B) : RR S (d + 4) 135 0 [(0, .ref 45)] [] (z_hp x (A, B, C, F, U, V), z) Q = Q (some (.int (mSw A B (z_wr C 45 20 0) V 0).1)) (z_hp x (A, (mSw A B (z_wr C 45 20 0) V 0).2.1, (mSw A B (z_wr C 45 20 0) V 0).2.2.1, F, U, (mSw A B (z_wr C 45 20 0) V 0).2.2.2), z) := by
  have hT : z_TR (z_wr C 45 20 0) := by
    unfold z_TR
    rw [z_wr2]; decide
  simp only [q135_0, r135_1, q135_2, q135_5, r135_6, q135_7, r135_10, iI_s, gI_s, iJ_s, gJ_s, iA_r, iA_n, iA_f, gA_s, kc_s, ai_look_hit, ai_look_miss, ai_put_nil, ai_put_lt, ai_put_l1, ai_put_eq, ai_put_gt, ai_flt_nil, ai_flt_gt, cat_int, cat_ref, cat_null, cat_float, cat_long, ai_fld, ai_obj, ai_arr, ai_arq, ai_alen, ai_cno, Option.toList_some, Option.toList_none, Option.getD_some, Option.isSome_some, List.cons_append, List.nil_append, ai_sum_n, ai_sum_c, va_rf_s, va_rf_n, true_and, and_true, ne_eq, not_false_eq_true, not_true_eq_false, ↓reduceIte, not_or, reduceCtorEq, Nat.reduceAdd, Nat.reduceLT, Nat.reduceLeDiff, Nat.reduceEqDiff, Int32.reduceLT, Int32.reduceLE, Int32.reduceToNatClampNeg, Int32.reduceAdd, Int32.reduceSub, Int32.reduceMul, or_self, List.getElem?_cons_zero, List.getElem?_cons_succ, List.set_cons_zero, List.set_cons_succ, List.length_cons, List.length_nil, ai_put_si, ai_put_sr, ai_put_sn, ai_put_sf, eq_self, c10, c01, cm10, c0m, if_true, if_false, ite_true, ite_false, not_and, false_and, and_false, and_self, Classical.not_not, z_b_0, z_b_t, z_b_f, z_b_r, z_e45, z_e46, z_e47, z_e48, z_e49, z_e50, z_e51, z_e52, z_e53, z_e54, z_e55, z_e56, z_e57, z_e58, z_e59, z_e60, z_e61, z_e62, z_e63, z_e64, z_e65, z_e66, z_e67, z_e68, z_e69, z_e70, z_e71, z_e72, z_e73, z_e74, z_e75, z_e76, z_e77, z_w45_0, z_w45_3, z_w45_8, z_w45_9, z_w45_10, z_w45_20, z_w45_22, z_w45_27, z_w45_34, z_w45_35, z_w46, z_w47, z_w48, z_w49, z_w50, z_w51, z_w52, z_w53, z_w54, z_w55, z_w56, z_w57, z_w58, z_w59, z_w60, z_w61, z_w62, z_w63, z_w64, z_w65, z_w66, z_w67, z_w68, z_w69, z_w70, z_w71, z_w72, z_w73, z_w74, z_w75, z_w76, z_w77, m133 hA hB hT]
end Zg
