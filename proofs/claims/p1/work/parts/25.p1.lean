theorem law_count {xs : Nat → Int32} : RR (6, xs) 20 165 829 [(0, .float 0), (1, .ref 0), (2, .ref 45), (3, .int 0)] [] (ai_hF, 6190) lawQ := by
  by_cases hd : (xs 1).toInt < 0 ∨ 7 < (xs 1).toInt
  · exact law_countd hd
  · rcases (by omega : (xs 1).toInt = 0 ∨ (xs 1).toInt = 1 ∨ (xs 1).toInt = 2 ∨ (xs 1).toInt = 3 ∨ (xs 1).toInt = 4 ∨ (xs 1).toInt = 5 ∨ (xs 1).toInt = 6 ∨ (xs 1).toInt = 7) with h | h | h | h | h | h | h | h
    · exact law_count0 (Int32.toInt_inj.mp (h.trans (by decide)))
    · exact law_count1 (Int32.toInt_inj.mp (h.trans (by decide)))
    · exact law_count2 (Int32.toInt_inj.mp (h.trans (by decide)))
    · exact law_count3 (Int32.toInt_inj.mp (h.trans (by decide)))
    · exact law_count4 (Int32.toInt_inj.mp (h.trans (by decide)))
    · exact law_count5 (Int32.toInt_inj.mp (h.trans (by decide)))
    · exact law_count6 (Int32.toInt_inj.mp (h.trans (by decide)))
    · exact law_count7 (Int32.toInt_inj.mp (h.trans (by decide)))

theorem len_lt : ∀ n, n < 6 → Int32.ofNat n - 6 < (0 : Int32) := by decide

set_option maxHeartbeats 8000000 in
set_option maxRecDepth 100000 in
theorem p1_law {S : ai_S} (hS : S.1 ≤ 6) : RR S 20 165 0 [(0, .float 0)] [] ([], 0) lawQ := by
  rw [law_init]
  obtain ⟨n, xs⟩ := S
  by_cases hn : n = 6
  · subst hn
    simp only [of6, ext0, q165_18, q165_19, q165_20, r165_20x, r165_21, r165_23, r165_24, q165_27, q165_28, q165_29, q165_29x, r165_30, r165_32, iI_s, gI_s, iJ_s, gJ_s, iA_r, iA_n, iA_f, gA_s, kc_s, ai_look_hit, ai_look_miss, ai_put_nil, ai_put_lt, ai_put_l1, ai_put_eq, ai_put_gt, ai_flt_nil, ai_flt_gt, cat_int, cat_ref, cat_null, cat_float, cat_long, ai_fld, ai_obj, ai_arr, ai_arq, ai_alen, ai_cno, Option.toList_some, Option.toList_none, Option.getD_some, Option.isSome_some, List.cons_append, List.nil_append, ai_sum_n, ai_sum_c, va_rf_s, va_rf_n, true_and, and_true, ne_eq, not_false_eq_true, not_true_eq_false, ↓reduceIte, not_or, reduceCtorEq, Nat.reduceAdd, Nat.reduceLT, Nat.reduceLeDiff, Nat.reduceEqDiff, Int32.reduceLT, Int32.reduceLE, Int32.reduceToNatClampNeg, Int32.reduceAdd, Int32.reduceSub, Int32.reduceMul, or_self, List.getElem?_cons_zero, List.getElem?_cons_succ, List.set_cons_zero, List.set_cons_succ, List.length_cons, List.length_nil, ai_put_si, ai_put_sr, ai_put_sn, ai_put_sf, eq_self, c10, c01, cm10, c0m, c06, c0c, c08, c060, ext0, ext1, cyc0, cyc1, cyc2, cyc3, cyc4, of5, if_true, if_false, fT0, fT1, fT2, fT3, fT4, fT5, fT6, fT7, fT8, fT9, fT10, fT11, sh0, an1, nx1, a01, o00, ao5]
    by_cases hd : (xs 0 &&& 31).toInt < 0 ∨ 21 < (xs 0 &&& 31).toInt
    · rw [sw165_d hd]
      simp only [of6, ext0, q165_18, q165_19, q165_20, r165_20x, r165_21, r165_23, r165_24, q165_27, q165_28, q165_29, q165_29x, r165_30, r165_32, q165_852, r165_855, r165_858, r165_859f, r165_859t, iI_s, gI_s, iJ_s, gJ_s, iA_r, iA_n, iA_f, gA_s, kc_s, ai_look_hit, ai_look_miss, ai_put_nil, ai_put_lt, ai_put_l1, ai_put_eq, ai_put_gt, ai_flt_nil, ai_flt_gt, cat_int, cat_ref, cat_null, cat_float, cat_long, ai_fld, ai_obj, ai_arr, ai_arq, ai_alen, ai_cno, Option.toList_some, Option.toList_none, Option.getD_some, Option.isSome_some, List.cons_append, List.nil_append, ai_sum_n, ai_sum_c, va_rf_s, va_rf_n, true_and, and_true, ne_eq, not_false_eq_true, not_true_eq_false, ↓reduceIte, not_or, reduceCtorEq, Nat.reduceAdd, Nat.reduceLT, Nat.reduceLeDiff, Nat.reduceEqDiff, Int32.reduceLT, Int32.reduceLE, Int32.reduceToNatClampNeg, Int32.reduceAdd, Int32.reduceSub, Int32.reduceMul, or_self, List.getElem?_cons_zero, List.getElem?_cons_succ, List.set_cons_zero, List.set_cons_succ, List.length_cons, List.length_nil, ai_put_si, ai_put_sr, ai_put_sn, ai_put_sf, eq_self, c10, c01, cm10, c0m, c06, c0c, c08, c060, ext0, ext1, cyc0, cyc1, cyc2, cyc3, cyc4, of5, if_true, if_false, fT0, fT1, fT2, fT3, fT4, fT5, fT6, fT7, fT8, fT9, fT10, fT11, sh0, an1, nx1, a01, o00, ao5]
      exact law_fin hF_len
    rcases (by omega : (xs 0 &&& 31).toInt = 0 ∨ (xs 0 &&& 31).toInt = 1 ∨ (xs 0 &&& 31).toInt = 2 ∨ (xs 0 &&& 31).toInt = 3 ∨ (xs 0 &&& 31).toInt = 4 ∨ (xs 0 &&& 31).toInt = 5 ∨ (xs 0 &&& 31).toInt = 6 ∨ (xs 0 &&& 31).toInt = 7 ∨ (xs 0 &&& 31).toInt = 8 ∨ (xs 0 &&& 31).toInt = 9 ∨ (xs 0 &&& 31).toInt = 10 ∨ (xs 0 &&& 31).toInt = 11 ∨ (xs 0 &&& 31).toInt = 12 ∨ (xs 0 &&& 31).toInt = 13 ∨ (xs 0 &&& 31).toInt = 14 ∨ (xs 0 &&& 31).toInt = 15 ∨ (xs 0 &&& 31).toInt = 16 ∨ (xs 0 &&& 31).toInt = 17 ∨ (xs 0 &&& 31).toInt = 18 ∨ (xs 0 &&& 31).toInt = 19 ∨ (xs 0 &&& 31).toInt = 20 ∨ (xs 0 &&& 31).toInt = 21) with h | h | h | h | h | h | h | h | h | h | h | h | h | h | h | h | h | h | h | h | h | h
    · exact (by have e : xs 0 &&& 31 = 0 := Int32.toInt_inj.mp (h.trans (by decide)); rw [e, sw165_0]; exact law_box)
    · exact (by have e : xs 0 &&& 31 = 1 := Int32.toInt_inj.mp (h.trans (by decide)); rw [e, sw165_1]; exact law_wire)
    · exact (by have e : xs 0 &&& 31 = 2 := Int32.toInt_inj.mp (h.trans (by decide)); rw [e, sw165_2]; exact law_cycle)
    · exact (by have e : xs 0 &&& 31 = 3 := Int32.toInt_inj.mp (h.trans (by decide)); rw [e, sw165_3]; exact law_drift)
    · exact (by have e : xs 0 &&& 31 = 4 := Int32.toInt_inj.mp (h.trans (by decide)); rw [e, sw165_4]; exact law_way)
    · exact (by have e : xs 0 &&& 31 = 5 := Int32.toInt_inj.mp (h.trans (by decide)); rw [e, sw165_5]; exact law_stream)
    · exact (by have e : xs 0 &&& 31 = 6 := Int32.toInt_inj.mp (h.trans (by decide)); rw [e, sw165_6]; exact law_strike)
    · exact (by have e : xs 0 &&& 31 = 7 := Int32.toInt_inj.mp (h.trans (by decide)); rw [e, sw165_7]; exact law_plan)
    · exact (by have e : xs 0 &&& 31 = 8 := Int32.toInt_inj.mp (h.trans (by decide)); rw [e, sw165_8]; exact law_add)
    · exact (by have e : xs 0 &&& 31 = 9 := Int32.toInt_inj.mp (h.trans (by decide)); rw [e, sw165_9]; exact law_stir)
    · exact (by have e : xs 0 &&& 31 = 10 := Int32.toInt_inj.mp (h.trans (by decide)); rw [e, sw165_10]; exact law_place)
    · exact (by have e : xs 0 &&& 31 = 11 := Int32.toInt_inj.mp (h.trans (by decide)); rw [e, sw165_11]; exact law_tries)
    · exact (by have e : xs 0 &&& 31 = 12 := Int32.toInt_inj.mp (h.trans (by decide)); rw [e, sw165_12]; exact law_door)
    · exact (by have e : xs 0 &&& 31 = 13 := Int32.toInt_inj.mp (h.trans (by decide)); rw [e, sw165_13]; exact law_waits)
    · exact (by have e : xs 0 &&& 31 = 14 := Int32.toInt_inj.mp (h.trans (by decide)); rw [e, sw165_14]; exact law_worst)
    · exact (by have e : xs 0 &&& 31 = 15 := Int32.toInt_inj.mp (h.trans (by decide)); rw [e, sw165_15]; exact law_clock)
    · exact (by have e : xs 0 &&& 31 = 16 := Int32.toInt_inj.mp (h.trans (by decide)); rw [e, sw165_16]; exact law_send)
    · exact (by have e : xs 0 &&& 31 = 17 := Int32.toInt_inj.mp (h.trans (by decide)); rw [e, sw165_17]; exact law_leaves)
    · exact (by have e : xs 0 &&& 31 = 18 := Int32.toInt_inj.mp (h.trans (by decide)); rw [e, sw165_18]; exact law_room)
    · exact (by have e : xs 0 &&& 31 = 19 := Int32.toInt_inj.mp (h.trans (by decide)); rw [e, sw165_19]; exact law_plain)
    · exact (by have e : xs 0 &&& 31 = 20 := Int32.toInt_inj.mp (h.trans (by decide)); rw [e, sw165_20]; exact law_most)
    · exact (by have e : xs 0 &&& 31 = 21 := Int32.toInt_inj.mp (h.trans (by decide)); rw [e, sw165_21]; exact law_count)
  · have hS2 : n ≤ 6 := hS
    have hc := eq_true (len_lt n (by omega))
    simp only [q165_18, q165_19, q165_20, r165_20x, r165_21, r165_23, r165_24, q165_27, q165_28, q165_29, q165_29x, r165_30, r165_32, q165_852, r165_855, r165_858, r165_859f, r165_859t, ext0, iI_s, gI_s, iJ_s, gJ_s, iA_r, iA_n, iA_f, gA_s, kc_s, ai_look_hit, ai_look_miss, ai_put_nil, ai_put_lt, ai_put_l1, ai_put_eq, ai_put_gt, ai_flt_nil, ai_flt_gt, cat_int, cat_ref, cat_null, cat_float, cat_long, ai_fld, ai_obj, ai_arr, ai_arq, ai_alen, ai_cno, Option.toList_some, Option.toList_none, Option.getD_some, Option.isSome_some, List.cons_append, List.nil_append, ai_sum_n, ai_sum_c, va_rf_s, va_rf_n, true_and, and_true, ne_eq, not_false_eq_true, not_true_eq_false, ↓reduceIte, not_or, reduceCtorEq, Nat.reduceAdd, Nat.reduceLT, Nat.reduceLeDiff, Nat.reduceEqDiff, Int32.reduceLT, Int32.reduceLE, Int32.reduceToNatClampNeg, Int32.reduceAdd, Int32.reduceSub, Int32.reduceMul, or_self, List.getElem?_cons_zero, List.getElem?_cons_succ, List.set_cons_zero, List.set_cons_succ, List.length_cons, List.length_nil, ai_put_si, ai_put_sr, ai_put_sn, ai_put_sf, eq_self, c10, c01, cm10, c0m, c06, c0c, c08, c060, ext0, ext1, cyc0, cyc1, cyc2, cyc3, cyc4, of5, if_true, if_false, fT0, fT1, fT2, fT3, fT4, fT5, fT6, fT7, fT8, fT9, fT10, fT11, sh0, an1, nx1, a01, o00, ao5, hc]
    exact law_fin hF_len

