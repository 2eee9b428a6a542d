theorem ns_ne : ∀ j, j < 256 → 0 < j → ¬ (nI j &&& -1) = 0 := by decide +kernel
theorem a0_1 : (0 : Int32) &&& 1 = 0 := by decide

set_option maxHeartbeats 8000000 in
set_option maxRecDepth 100000 in
theorem m_nsl {S : ai_S} {d : Nat} {Q : Option Value → ai_H → Prop} {h : ai_H} : ∀ (n j : Nat) (v : Int32), 256 - j = n → 0 < j → j ≤ 256 → RR S d 139 6 [(0, .ref 45), (1, .int 0), (2, .int 0), (3, .int (-1)), (4, .int 0), (5, .int (nI j)), (6, .int v)] [] h Q = Q (some (.int 0)) h := by
  intro n
  induction n with
  | zero =>
    intro j v hn h1 h2
    have e : j = 256 := by omega
    subst e
    have hc : ((256 : Int32) ≤ nI 256) = True := eq_true (by decide)
    rw [q139_6]
    simp only [r139_0, r139_1, r139_3, r139_4, r139_8, r139_11, q139_14, q139_16, r139_17, r139_18, r139_19, r139_20, q139_23, q139_25, q139_28, r139_29, q139_32, r139_33, q139_36, q139_37, q139_39, r139_42, r139_45, r139_46, r139_49, r139_50, q139_52, r139_54, q139_57, r139_59, q139_62, q139_64, q139_66, r139_69, q139_72, r139_74, q139_76, r139_79, q139_82, r139_84, iI_s, gI_s, iJ_s, gJ_s, iA_r, iA_n, iA_f, gA_s, kc_s, ai_look_hit, ai_look_miss, ai_put_nil, ai_put_lt, ai_put_l1, ai_put_eq, ai_put_gt, ai_flt_nil, ai_flt_gt, cat_int, cat_ref, cat_null, cat_float, cat_long, ai_fld, ai_obj, ai_arr, ai_arq, ai_alen, ai_cno, Option.toList_some, Option.toList_none, Option.getD_some, Option.isSome_some, List.cons_append, List.nil_append, ai_sum_n, ai_sum_c, va_rf_s, va_rf_n, true_and, and_true, ne_eq, not_false_eq_true, not_true_eq_false, ↓reduceIte, not_or, reduceCtorEq, Nat.reduceAdd, Nat.reduceLT, Nat.reduceLeDiff, Nat.reduceEqDiff, Int32.reduceLT, Int32.reduceLE, Int32.reduceToNatClampNeg, Int32.reduceAdd, Int32.reduceSub, Int32.reduceMul, or_self, List.getElem?_cons_zero, List.getElem?_cons_succ, List.set_cons_zero, List.set_cons_succ, List.length_cons, List.length_nil, ai_put_si, ai_put_sr, ai_put_sn, ai_put_sf, eq_self, c10, c01, cm10, c0m, c06, c0c, c08, c060, ext0, ext1, cyc0, cyc1, cyc2, cyc3, cyc4, of5, if_true, if_false, fT0, fT1, fT2, fT3, fT4, fT5, fT6, fT7, fT8, fT9, fT10, fT11, sh0, an1, nx1, a01, o00, hc]
  | succ n ih =>
    intro j v hn h1 h2
    have hc : ((256 : Int32) ≤ nI j) = False := eq_false (fun q => absurd ((nI_leI (a := 256) (b := j) (by omega) (by omega)).mp q) (by omega))
    have hm := eq_false (ns_ne j (by omega) h1)
    rw [q139_6]
    simp only [r139_0, r139_1, r139_3, r139_4, r139_8, r139_11, q139_14, q139_16, r139_17, r139_18, r139_19, r139_20, q139_23, q139_25, q139_28, r139_29, q139_32, r139_33, q139_36, q139_37, q139_39, r139_42, r139_45, r139_46, r139_49, r139_50, q139_52, r139_54, q139_57, r139_59, q139_62, q139_64, q139_66, r139_69, q139_72, r139_74, q139_76, r139_79, q139_82, r139_84, iI_s, gI_s, iJ_s, gJ_s, iA_r, iA_n, iA_f, gA_s, kc_s, ai_look_hit, ai_look_miss, ai_put_nil, ai_put_lt, ai_put_l1, ai_put_eq, ai_put_gt, ai_flt_nil, ai_flt_gt, cat_int, cat_ref, cat_null, cat_float, cat_long, ai_fld, ai_obj, ai_arr, ai_arq, ai_alen, ai_cno, Option.toList_some, Option.toList_none, Option.getD_some, Option.isSome_some, List.cons_append, List.nil_append, ai_sum_n, ai_sum_c, va_rf_s, va_rf_n, true_and, and_true, ne_eq, not_false_eq_true, not_true_eq_false, ↓reduceIte, not_or, reduceCtorEq, Nat.reduceAdd, Nat.reduceLT, Nat.reduceLeDiff, Nat.reduceEqDiff, Int32.reduceLT, Int32.reduceLE, Int32.reduceToNatClampNeg, Int32.reduceAdd, Int32.reduceSub, Int32.reduceMul, or_self, List.getElem?_cons_zero, List.getElem?_cons_succ, List.set_cons_zero, List.set_cons_succ, List.length_cons, List.length_nil, ai_put_si, ai_put_sr, ai_put_sn, ai_put_sf, eq_self, c10, c01, cm10, c0m, c06, c0c, c08, c060, ext0, ext1, cyc0, cyc1, cyc2, cyc3, cyc4, of5, if_true, if_false, fT0, fT1, fT2, fT3, fT4, fT5, fT6, fT7, fT8, fT9, fT10, fT11, sh0, an1, nx1, a01, o00, hc, hm, nI_1]
    exact ih (j + 1) _ (by omega) (by omega) (by omega)

set_option maxHeartbeats 8000000 in
set_option maxRecDepth 100000 in
theorem m_ns {S : ai_S} {d : Nat} {Q : Option Value → ai_H → Prop} {h : ai_H} : RR S (d + 1) 139 0 [(0, .ref 45), (1, .int 0), (2, .int 0), (3, .int (-1))] [] h Q = Q (some (.int 0)) h := by
  have z0 : (0 : Int32) >>> ((0 : Int32) &&& 31) = 0 := by decide
  have z1 : (0 : Int32) >>> ((1 : Int32) &&& 31) = 0 := by decide
  have z2 : (0 : Int32) >>> ((2 : Int32) &&& 31) = 0 := by decide
  have z3 : (0 : Int32) >>> ((3 : Int32) &&& 31) = 0 := by decide
  have z4 : (0 : Int32) >>> ((4 : Int32) &&& 31) = 0 := by decide
  have z5 : (0 : Int32) >>> ((5 : Int32) &&& 31) = 0 := by decide
  have z6 : (0 : Int32) >>> ((6 : Int32) &&& 31) = 0 := by decide
  have z7 : (0 : Int32) >>> ((7 : Int32) &&& 31) = 0 := by decide
  have m1 : ((-1 : Int32) < 0) = True := eq_true (by decide)
  have c256 : ((256 : Int32) ≤ 0) = False := eq_false (by decide)
  simp only [r139_0, r139_1, r139_3, r139_4, iI_s, gI_s, iJ_s, gJ_s, iA_r, iA_n, iA_f, gA_s, kc_s, ai_look_hit, ai_look_miss, ai_put_nil, ai_put_lt, ai_put_l1, ai_put_eq, ai_put_gt, ai_flt_nil, ai_flt_gt, cat_int, cat_ref, cat_null, cat_float, cat_long, ai_fld, ai_obj, ai_arr, ai_arq, ai_alen, ai_cno, Option.toList_some, Option.toList_none, Option.getD_some, Option.isSome_some, List.cons_append, List.nil_append, ai_sum_n, ai_sum_c, va_rf_s, va_rf_n, true_and, and_true, ne_eq, not_false_eq_true, not_true_eq_false, ↓reduceIte, not_or, reduceCtorEq, Nat.reduceAdd, Nat.reduceLT, Nat.reduceLeDiff, Nat.reduceEqDiff, Int32.reduceLT, Int32.reduceLE, Int32.reduceToNatClampNeg, Int32.reduceAdd, Int32.reduceSub, Int32.reduceMul, or_self, List.getElem?_cons_zero, List.getElem?_cons_succ, List.set_cons_zero, List.set_cons_succ, List.length_cons, List.length_nil, ai_put_si, ai_put_sr, ai_put_sn, ai_put_sf, eq_self, c10, c01, cm10, c0m, c06, c0c, c08, c060, ext0, ext1, cyc0, cyc1, cyc2, cyc3, cyc4, of5, if_true, if_false, fT0, fT1, fT2, fT3, fT4, fT5, fT6, fT7, fT8, fT9, fT10, fT11, sh0, an1, nx1, a01, o00]
  rw [q139_6]
  simp only [r139_0, r139_1, r139_3, r139_4, r139_8, r139_11, q139_14, q139_16, r139_17, r139_18, r139_19, r139_20, q139_23, q139_25, q139_28, r139_29, q139_32, r139_33, q139_36, q139_37, q139_39, r139_42, r139_45, r139_46, r139_49, r139_50, q139_52, r139_54, q139_57, r139_59, q139_62, q139_64, q139_66, r139_69, q139_72, r139_74, q139_76, r139_79, q139_82, r139_84, r137_0, r137_1, r137_2, r137_3, q137_4, r137_5, r137_7, q137_10, q137_11, q137_12, r137_13, r137_14, r137_15, r137_16, r137_17, q137_18, r137_21, q137_24, r137_25, iI_s, gI_s, iJ_s, gJ_s, iA_r, iA_n, iA_f, gA_s, kc_s, ai_look_hit, ai_look_miss, ai_put_nil, ai_put_lt, ai_put_l1, ai_put_eq, ai_put_gt, ai_flt_nil, ai_flt_gt, cat_int, cat_ref, cat_null, cat_float, cat_long, ai_fld, ai_obj, ai_arr, ai_arq, ai_alen, ai_cno, Option.toList_some, Option.toList_none, Option.getD_some, Option.isSome_some, List.cons_append, List.nil_append, ai_sum_n, ai_sum_c, va_rf_s, va_rf_n, true_and, and_true, ne_eq, not_false_eq_true, not_true_eq_false, ↓reduceIte, not_or, reduceCtorEq, Nat.reduceAdd, Nat.reduceLT, Nat.reduceLeDiff, Nat.reduceEqDiff, Int32.reduceLT, Int32.reduceLE, Int32.reduceToNatClampNeg, Int32.reduceAdd, Int32.reduceSub, Int32.reduceMul, or_self, List.getElem?_cons_zero, List.getElem?_cons_succ, List.set_cons_zero, List.set_cons_succ, List.length_cons, List.length_nil, ai_put_si, ai_put_sr, ai_put_sn, ai_put_sf, eq_self, c10, c01, cm10, c0m, c06, c0c, c08, c060, ext0, ext1, cyc0, cyc1, cyc2, cyc3, cyc4, of5, if_true, if_false, fT0, fT1, fT2, fT3, fT4, fT5, fT6, fT7, fT8, fT9, fT10, fT11, sh0, an1, nx1, a01, o00, z0, z1, z2, z3, z4, z5, z6, z7, a0_1, m1, c256]
  exact m_nsl 255 1 _ (by omega) (by omega) (by omega)

