theorem fT0 : ai_fT 0 = some 15 := rfl
theorem fT1 : ai_fT 1 = some 16 := rfl
theorem fT2 : ai_fT 2 = some 17 := rfl
theorem fT3 : ai_fT 3 = some 18 := rfl
theorem fT4 : ai_fT 4 = some 19 := rfl
theorem fT5 : ai_fT 5 = some 20 := rfl
theorem fT6 : ai_fT 6 = some 21 := rfl
theorem fT7 : ai_fT 7 = some 22 := rfl
theorem fT8 : ai_fT 8 = some 23 := rfl
theorem fT9 : ai_fT 9 = some 24 := rfl
theorem fT10 : ai_fT 10 = some 25 := rfl
theorem fT11 : ai_fT 11 = some 26 := rfl
theorem sh0 : (1 : Int32) <<< ((0 : Int32) &&& 31) = 1 := by decide
theorem an1 : (0 : Int32) &&& ((0 : Int32) ^^^ -1) = 0 := by decide
theorem nx1 : (0 : Int32) ^^^ -1 = -1 := by decide
theorem a01 : (0 : Int32) &&& -1 = 0 := by decide
theorem o00 : (0 : Int32) ||| 0 = 0 := by decide
theorem ai_set_same {h : List ai_C} {i : Nat} {c : ai_C} (e : h[i]? = some c) : h.set i c = h := by
  apply List.ext_getElem?
  intro j
  by_cases hj : i = j
  · subst hj
    rw [List.getElem?_set_self (List.getElem?_eq_some_iff.mp e).1, e]
  · rw [List.getElem?_set_ne hj]
set_option maxHeartbeats 8000000 in
set_option maxRecDepth 100000 in
theorem x_clear {S : ai_S} {d : Nat} {Q : Option Value → ai_H → Prop} {h : List ai_C} {z : Nat} (hx : FX h) : RR S (d + 1) 1 0 [(0, .ref 11)] [] (h, z) Q = Q none (h, z) := by
  have x11 : h[11]? = some (.inr (0, [.ref 1, .ref 12, .ref 13, .ref 14])) := hx 11 (by decide)
  have x12 : h[12]? = some (.inl (2, 12, .inr ai_fT)) := hx 12 (by decide)
  have x15 : h[15]? = some (.inr (5, [.ref 1, .long 0, .long 0])) := hx 15 (by decide)
  have x16 : h[16]? = some (.inr (5, [.ref 1, .long 0, .long 0])) := hx 16 (by decide)
  have x17 : h[17]? = some (.inr (5, [.ref 1, .long 0, .long 0])) := hx 17 (by decide)
  have x18 : h[18]? = some (.inr (5, [.ref 1, .long 0, .long 0])) := hx 18 (by decide)
  have x19 : h[19]? = some (.inr (5, [.ref 1, .long 0, .long 0])) := hx 19 (by decide)
  have x20 : h[20]? = some (.inr (5, [.ref 1, .long 0, .long 0])) := hx 20 (by decide)
  have x21 : h[21]? = some (.inr (5, [.ref 1, .long 0, .long 0])) := hx 21 (by decide)
  have x22 : h[22]? = some (.inr (5, [.ref 1, .long 0, .long 0])) := hx 22 (by decide)
  have x23 : h[23]? = some (.inr (5, [.ref 1, .long 0, .long 0])) := hx 23 (by decide)
  have x24 : h[24]? = some (.inr (5, [.ref 1, .long 0, .long 0])) := hx 24 (by decide)
  have x25 : h[25]? = some (.inr (5, [.ref 1, .long 0, .long 0])) := hx 25 (by decide)
  have x26 : h[26]? = some (.inr (5, [.ref 1, .long 0, .long 0])) := hx 26 (by decide)
  have s15 := ai_set_same x15
  have s16 := ai_set_same x16
  have s17 := ai_set_same x17
  have s18 := ai_set_same x18
  have s19 := ai_set_same x19
  have s20 := ai_set_same x20
  have s21 := ai_set_same x21
  have s22 := ai_set_same x22
  have s23 := ai_set_same x23
  have s24 := ai_set_same x24
  have s25 := ai_set_same x25
  have s26 := ai_set_same x26
  simp only [r1_0, r1_1, q1_2, r1_3, r1_5, q1_8, q1_9, q1_12, q1_13, q1_14, q1_17, r1_20, r1_23, q51_0, r51_1, q51_2, q51_5, r51_6, q51_7, r51_10, iI_s, gI_s, iJ_s, gJ_s, iA_r, iA_n, iA_f, gA_s, kc_s, ai_look_hit, ai_look_miss, ai_put_nil, ai_put_lt, ai_put_l1, ai_put_eq, ai_put_gt, ai_flt_nil, ai_flt_gt, cat_int, cat_ref, cat_null, cat_float, cat_long, ai_fld, ai_obj, ai_arr, ai_arq, ai_alen, ai_cno, Option.toList_some, Option.toList_none, Option.getD_some, Option.isSome_some, List.cons_append, List.nil_append, ai_sum_n, ai_sum_c, va_rf_s, va_rf_n, true_and, and_true, ne_eq, not_false_eq_true, not_true_eq_false, ↓reduceIte, not_or, reduceCtorEq, Nat.reduceAdd, Nat.reduceLT, Nat.reduceLeDiff, Nat.reduceEqDiff, Int32.reduceLT, Int32.reduceLE, Int32.reduceToNatClampNeg, Int32.reduceAdd, Int32.reduceSub, Int32.reduceMul, or_self, List.getElem?_cons_zero, List.getElem?_cons_succ, List.set_cons_zero, List.set_cons_succ, List.length_cons, List.length_nil, ai_put_si, ai_put_sr, ai_put_sn, ai_put_sf, eq_self, c10, c01, cm10, c0m, c06, c0c, c08, c060, ext0, ext1, cyc0, cyc1, cyc2, cyc3, cyc4, of5, if_true, if_false, fT0, fT1, fT2, fT3, fT4, fT5, fT6, fT7, fT8, fT9, fT10, fT11, sh0, an1, nx1, a01, o00, x11, x12, x15, x16, x17, x18, x19, x20, x21, x22, x23, x24, x25, x26, s15, s16, s17, s18, s19, s20, s21, s22, s23, s24, s25, s26]
set_option maxHeartbeats 8000000 in
set_option maxRecDepth 100000 in
theorem x_fit {S : ai_S} {d : Nat} {Q : Option Value → ai_H → Prop} {h : List ai_C} {z : Nat} {a : Int32} (hx : FX h) : RR S (d + 3) 32 0 [(0, .ref 27), (1, .int a)] [] (h, z) Q = Q (some (.int 1)) (h, z) := by
  have x0 : h[0]? = some (.inr (9, [.ref 1, .ref 8, .ref 9, .ref 11, .ref 27, .ref 40])) := hx 0 (by decide)
  have x9 : h[9]? = some (.inr (7, [.ref 10, .int 0])) := hx 9 (by decide)
  have x11 : h[11]? = some (.inr (0, [.ref 1, .ref 12, .ref 13, .ref 14])) := hx 11 (by decide)
  have x27 : h[27]? = some (.inr (3, [.ref 9, .ref 11, .ref 28, .ref 29, .ref 30, .ref 31, .int 0, .int 0])) := hx 27 (by decide)
  have x40 : h[40]? = some (.inr (4, [.ref 1, .ref 8, .ref 11, .ref 41, .ref 42, .ref 43, .ref 44, .int 0, .int 0])) := hx 40 (by decide)
  have s27 := ai_set_same x27
  have hc : ∀ (d : Nat) (Q : Option Value → ai_H → Prop), RR S (d + 1) 1 0 [(0, .ref 11)] [] (h, z) Q = Q none (h, z) := fun d Q => x_clear hx
  simp only [q32_0, q32_1, q32_4, q32_7, r32_8, q32_9, r32_12, r32_13, q32_14, q32_15, q32_16, q32_19, r32_22, q32_25, q32_26, r32_27, r32_28, r32_29, r32_30, q32_33, q32_34, q32_35, r32_38, q32_41, q32_42, r32_45, r32_47, q32_50, q32_51, q32_54, q32_55, q32_58, q32_59, q32_62, q32_63, q32_66n, q32_66, q32_67, q32_68, q32_68i, q32_69, r32_72, r32_73, q32_74, q32_77, r32_80, q32_83, r32_84, q32_85, r32_88, q32_89, r32_90, r32_91, q32_94, q32_95, q32_98, q32_99, q32_102, r32_103, q36_0, q36_1, q36_2, r36_5, q36_8, r36_9, r36_11, q36_14, q36_15, q36_18, q36_19, r36_20, r36_20n, r36_23, r36_24, q36_25, q36_26, q36_29, q36_30, r36_31, r36_31n, r36_32, r36_33, q36_34, q36_35, q36_36, r36_39, q36_42, q36_43, q36_46, q36_47, q36_48, q36_49, q36_50, q36_53, q36_54, q36_57, q36_58, q36_59, q36_60, q36_61, q36_62, q36_65, q36_68, q36_69, q36_70, q36_71, q36_72, q36_73, q36_76, r36_79, q36_81, r36_83, q36_86, r36_88, q36_89, r36_92, r36_95, r36_96, r35_0, r35_1, q35_2, q35_3, q35_4, r35_7, q35_10, q35_11, q35_14, q35_15, r35_16, r35_16n, q35_17, r35_18, r35_18n, q35_21, q35_22, q35_23, q35_26, q35_27, q35_28, q35_31, q35_32, q35_33, q35_36, q35_37, q35_38, q35_41, r35_44, r35_47, q33_0, q33_1, q33_4, r33_7, r33_8, q33_9, q33_10, q33_11, q33_14, r33_17, q33_20, q33_21, q33_22, q33_25, r33_28, r33_31, iI_s, gI_s, iJ_s, gJ_s, iA_r, iA_n, iA_f, gA_s, kc_s, ai_look_hit, ai_look_miss, ai_put_nil, ai_put_lt, ai_put_l1, ai_put_eq, ai_put_gt, ai_flt_nil, ai_flt_gt, cat_int, cat_ref, cat_null, cat_float, cat_long, ai_fld, ai_obj, ai_arr, ai_arq, ai_alen, ai_cno, Option.toList_some, Option.toList_none, Option.getD_some, Option.isSome_some, List.cons_append, List.nil_append, ai_sum_n, ai_sum_c, va_rf_s, va_rf_n, true_and, and_true, ne_eq, not_false_eq_true, not_true_eq_false, ↓reduceIte, not_or, reduceCtorEq, Nat.reduceAdd, Nat.reduceLT, Nat.reduceLeDiff, Nat.reduceEqDiff, Int32.reduceLT, Int32.reduceLE, Int32.reduceToNatClampNeg, Int32.reduceAdd, Int32.reduceSub, Int32.reduceMul, or_self, List.getElem?_cons_zero, List.getElem?_cons_succ, List.set_cons_zero, List.set_cons_succ, List.length_cons, List.length_nil, ai_put_si, ai_put_sr, ai_put_sn, ai_put_sf, eq_self, c10, c01, cm10, c0m, c06, c0c, c08, c060, ext0, ext1, cyc0, cyc1, cyc2, cyc3, cyc4, of5, if_true, if_false, fT0, fT1, fT2, fT3, fT4, fT5, fT6, fT7, fT8, fT9, fT10, fT11, sh0, an1, nx1, a01, o00, x0, x9, x11, x27, x40, s27, hc]
