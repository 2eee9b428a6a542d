theorem fT_eq : (va_up (va_up (va_up (va_up (va_up (va_up (va_up (va_up (va_up (va_up (va_up (va_up (fun _ => none) 0 (some 15)) 1 (some 16)) 2 (some 17)) 3 (some 18)) 4 (some 19)) 5 (some 20)) 6 (some 21)) 7 (some 22)) 8 (some 23)) 9 (some 24)) 10 (some 25)) 11 (some 26)) = ai_fT := by
  funext j
  by_cases hj : 12 ≤ j
  · simp [va_up, ai_fT, show ¬ j = 0 by omega, show ¬ j = 1 by omega, show ¬ j = 2 by omega, show ¬ j = 3 by omega, show ¬ j = 4 by omega, show ¬ j = 5 by omega, show ¬ j = 6 by omega, show ¬ j = 7 by omega, show ¬ j = 8 by omega, show ¬ j = 9 by omega, show ¬ j = 10 by omega, show ¬ j = 11 by omega]
    omega
  · rcases (by omega : j = 0 ∨ j = 1 ∨ j = 2 ∨ j = 3 ∨ j = 4 ∨ j = 5 ∨ j = 6 ∨ j = 7 ∨ j = 8 ∨ j = 9 ∨ j = 10 ∨ j = 11) with rfl | rfl | rfl | rfl | rfl | rfl | rfl | rfl | rfl | rfl | rfl | rfl <;> rfl

theorem fM_eq : (va_up (va_up (va_up (va_up (va_up (va_up (va_up (va_up (fun _ => none) 0 (some 32)) 1 (some 33)) 2 (some 34)) 3 (some 35)) 4 (some 36)) 5 (some 37)) 6 (some 38)) 7 (some 39)) = ai_fM := by
  funext j
  by_cases hj : 8 ≤ j
  · simp [va_up, ai_fM, show ¬ j = 0 by omega, show ¬ j = 1 by omega, show ¬ j = 2 by omega, show ¬ j = 3 by omega, show ¬ j = 4 by omega, show ¬ j = 5 by omega, show ¬ j = 6 by omega, show ¬ j = 7 by omega]
    omega
  · rcases (by omega : j = 0 ∨ j = 1 ∨ j = 2 ∨ j = 3 ∨ j = 4 ∨ j = 5 ∨ j = 6 ∨ j = 7) with rfl | rfl | rfl | rfl | rfl | rfl | rfl | rfl <;> rfl

def ai_hF : List ai_C := ai_hX ++ ai_hM
theorem hF_len : ai_hF.length = 78 := rfl
theorem FX_F : FX ai_hF := fun i hi => List.getElem?_append_left (show i < ai_hX.length from hi)
theorem FM_F : FM ai_hF := fun i hi h2 => List.getElem?_append_right (show ai_hX.length ≤ i from hi)
theorem FM_of {h1 : List ai_C} (ha : ∀ i : Nat, 45 ≤ i → h1[i]? = ai_hF[i]?) : FM h1 := fun i hi h2 => (ha i hi).trans (FM_F i hi h2)

set_option maxHeartbeats 8000000 in
set_option maxRecDepth 100000 in
theorem law_init {S : ai_S} {Q : Option Value → ai_H → Prop} : RR S 20 165 0 [(0, .float 0)] [] ([], 0) Q = RR S 20 165 18 [(0, .float 0), (1, .ref 0), (2, .ref 45), (3, .int 0)] [] (ai_hF, 6190) Q := by
  simp only [r165_0, q165_3, q165_3i, q165_4, r165_7, r165_7n, r165_8, q165_11, q165_11i, q165_12, r165_15, r165_15n, r165_16, r165_17, c_doornet, c_model, iI_s, gI_s, iJ_s, gJ_s, iA_r, iA_n, iA_f, gA_s, kc_s, ai_look_hit, ai_look_miss, ai_put_nil, ai_put_lt, ai_put_l1, ai_put_eq, ai_put_gt, ai_flt_nil, ai_flt_gt, cat_int, cat_ref, cat_null, cat_float, cat_long, ai_fld, ai_obj, ai_arr, ai_arq, ai_alen, ai_cno, Option.toList_some, Option.toList_none, Option.getD_some, Option.isSome_some, List.cons_append, List.nil_append, ai_sum_n, ai_sum_c, va_rf_s, va_rf_n, true_and, and_true, ne_eq, not_false_eq_true, not_true_eq_false, ↓reduceIte, not_or, reduceCtorEq, Nat.reduceAdd, Nat.reduceLT, Nat.reduceLeDiff, Nat.reduceEqDiff, Int32.reduceLT, Int32.reduceLE, Int32.reduceToNatClampNeg, Int32.reduceAdd, Int32.reduceSub, Int32.reduceMul, or_self, List.getElem?_cons_zero, List.getElem?_cons_succ, List.set_cons_zero, List.set_cons_succ, List.length_cons, List.length_nil, ai_put_si, ai_put_sr, ai_put_sn, ai_put_sf, eq_self, c10, c01, cm10, c0m, c06, c0c, c08, c060, ext0, ext1, cyc0, cyc1, cyc2, cyc3, cyc4, of5, if_true, if_false, fT0, fT1, fT2, fT3, fT4, fT5, fT6, fT7, fT8, fT9, fT10, fT11, sh0, an1, nx1, a01, o00, ao5]
  rw [fT_eq, fM_eq]
  rfl

theorem eq_box (a : Int32) : (if a < 0 then (-1 : Int32) else if 5 < a then -1 else 0) = (if a < 0 then -1 else if a ≤ 5 then 0 else -1) := by
  by_cases h1 : a < 0
  · rw [if_pos h1, if_pos h1]
  · rw [if_neg h1, if_neg h1]
    by_cases h2 : 5 < a
    · rw [if_pos h2, if_neg (Int32.not_le.mpr h2)]
    · rw [if_neg h2, if_pos (Int32.not_lt.mp h2)]
theorem eq_drift (a : Int32) : (if a < 0 then (0 : Int32) else if 3 < a then 0 else 1) = (if a < 0 then 0 else if a ≤ 3 then 1 else 0) := by
  by_cases h1 : a < 0
  · rw [if_pos h1, if_pos h1]
  · rw [if_neg h1, if_neg h1]
    by_cases h2 : 3 < a
    · rw [if_pos h2, if_neg (Int32.not_le.mpr h2)]
    · rw [if_neg h2, if_pos (Int32.not_lt.mp h2)]
theorem eq_cycle (a : Int32) : (if ¬ 12 = a then if ¬ 24 = a then if ¬ 48 = a then if ¬ 60 = a then if ¬ 120 = a then (0 : Int32) else 1 else 1 else 1 else 1 else 1) = (if a = 12 then 1 else if a = 24 then 1 else if a = 48 then 1 else if a = 60 then 1 else if a = 120 then 1 else 0) := by
  have c : ∀ k : Int32, (k = a) = (a = k) := fun k => propext eq_comm
  simp only [c 12, c 24, c 48, c 60, c 120]
  by_cases h1 : a = 12
  · simp [h1]
  by_cases h2 : a = 24
  · simp [h1, h2]
  by_cases h3 : a = 48
  · simp [h1, h2, h3]
  by_cases h4 : a = 60
  · simp [h1, h2, h3, h4]
  by_cases h5 : a = 120
  · simp [h1, h2, h3, h4, h5]
  · simp [h1, h2, h3, h4, h5]

def lawQ : Option Value → ai_H → Prop := fun r h => r = some (.int 1) ∧ h.1.length ≤ 600000 ∧ h.2 ≤ 7302249
theorem of6 : Int32.ofNat 6 = 6 := rfl
theorem law_fin {h : List ai_C} (hl : h.length = 78) : lawQ (some (.int 1)) (h, 6190) := ⟨rfl, by show h.length ≤ 600000; rw [hl]; decide, by show 6190 ≤ 7302249; decide⟩

