section Zg
variable {S : ai_S} {d z : Nat} {Q : Option Value → ai_H → Prop} {N G P E : z_A} {W : Nat → Int32} {T Pt : Int32} {J : Nat → Int64 × Int64} {St Sq Lt Hd : z_R} {D : Nat → Nat} {n : Nat} {A B C F U V : z_A} {x : z_X} {m : z_M}
theorem z_a1 {c : ai_C} : (z_hp (N, W, T, G, J, P, St, Sq, Pt, E, Lt, Hd, D, n) m ++ [c])[78 + n]? = some c := by
  have e := List.getElem?_append_right (l₁ := z_hp (N, W, T, G, J, P, St, Sq, Pt, E, Lt, Hd, D, n) m) (l₂ := [c]) (i := 78 + n) (by rw [z_len]; omega)
  rw [e, z_len, Nat.sub_self]; rfl
theorem z_a2 {c : ai_C} {t : List ai_C} : (z_hp (N, W, T, G, J, P, St, Sq, Pt, E, Lt, Hd, D, n) m ++ [c] ++ t)[78 + n]? = some c := by
  rw [List.getElem?_append_left (by rw [List.length_append, z_len]; show 78 + n < 78 + n + 1; omega), z_a1]
theorem z_a3 {c c' : ai_C} : (z_hp (N, W, T, G, J, P, St, Sq, Pt, E, Lt, Hd, D, n) m ++ [c]).set (78 + n) c' = z_hp (N, W, T, G, J, P, St, Sq, Pt, E, Lt, Hd, D, n) m ++ [c'] := by
  rw [List.set_append_right _ _ (by rw [z_len]; omega), z_len, Nat.sub_self]; rfl
theorem z_a4 {c c' : ai_C} {t : List ai_C} : (z_hp (N, W, T, G, J, P, St, Sq, Pt, E, Lt, Hd, D, n) m ++ [c] ++ t).set (78 + n) c' = z_hp (N, W, T, G, J, P, St, Sq, Pt, E, Lt, Hd, D, n) m ++ [c'] ++ t := by
  rw [List.set_append_left _ _ (by rw [List.length_append, z_len]; show 78 + n < 78 + n + 1; omega), z_a3]
theorem z_l1 {c : ai_C} : (z_hp (N, W, T, G, J, P, St, Sq, Pt, E, Lt, Hd, D, n) m ++ [c]).length = 78 + n + 1 := by rw [List.length_append, z_len]; rfl
theorem z_l2' {c e : ai_C} : (z_hp (N, W, T, G, J, P, St, Sq, Pt, E, Lt, Hd, D, n) m ++ [c] ++ [e]).length = 78 + n + 2 := by rw [List.length_append, z_l1]; rfl
theorem z_a5 {c : ai_C} {t u : List ai_C} : (z_hp (N, W, T, G, J, P, St, Sq, Pt, E, Lt, Hd, D, n) m ++ [c] ++ t ++ u)[78 + n]? = some c := by
  rw [List.append_assoc (z_hp (N, W, T, G, J, P, St, Sq, Pt, E, Lt, Hd, D, n) m ++ [c]), z_a2]
theorem z_a6 {c c' : ai_C} {t u : List ai_C} : (z_hp (N, W, T, G, J, P, St, Sq, Pt, E, Lt, Hd, D, n) m ++ [c] ++ t ++ u).set (78 + n) c' = z_hp (N, W, T, G, J, P, St, Sq, Pt, E, Lt, Hd, D, n) m ++ [c'] ++ t ++ u := by
  rw [List.append_assoc (z_hp (N, W, T, G, J, P, St, Sq, Pt, E, Lt, Hd, D, n) m ++ [c]), z_a4, ← List.append_assoc]
/-- the first word of a new stream -/
def z_g0 (a b : Int32) : Nat → Int32 := fun k => if k = 0 then a else if k = 1 then b else if k = 4 then -1 else 0
def z_nwG (G : z_A) (n : Nat) (a b : Int32) : z_A := fun p => if p = 78 + n then z_g0 a b else if p = 78 + n + 1 then (fun _ => 0) else G p
def z_nwD (D : Nat → Nat) (n : Nat) : Nat → Nat := fun p => if p = 78 + n then 100 else if p = 78 + n + 1 then 101 else D p
theorem z_dyS {a b : Int32} : z_dy (z_nwG G n a b) E (z_nwD D n) (n + 2) = z_dy G E D n ++ [.inr (6, [.int a, .int b, .ref (78 + n + 1), .int 0, .int (-1), .int 0]), .inl (0, 3, .inl (fun _ => 0))] := by
  unfold z_dy
  rw [List.range_succ, List.range_succ, List.map_append, List.map_append, List.append_assoc]
  congr 1
  · apply List.map_congr_left
    intro i hi
    have h := List.mem_range.mp hi
    have e1 : z_nwG G n a b (78 + i) = G (78 + i) := by unfold z_nwG; rw [if_neg (by omega), if_neg (by omega)]
    have e2 : z_nwD D n (78 + i) = D (78 + i) := by unfold z_nwD; rw [if_neg (by omega), if_neg (by omega)]
    unfold z_dc
    rw [e1, e2]
  · have d1 : z_nwD D n (78 + n) = 100 := by unfold z_nwD; rw [if_pos rfl]
    have d2 : z_nwD D n (78 + (n + 1)) = 101 := by unfold z_nwD; rw [if_neg (by omega), if_pos (by omega)]
    have g1 : z_nwG G n a b (78 + n) = z_g0 a b := by unfold z_nwG; rw [if_pos rfl]
    have g2 : z_nwG G n a b (78 + (n + 1)) = (fun _ => 0) := by unfold z_nwG; rw [if_neg (by omega), if_pos (by omega)]
    show [z_dc (z_nwG G n a b) E (z_nwD D n) (78 + n)] ++ [z_dc (z_nwG G n a b) E (z_nwD D n) (78 + (n + 1))] = _
    rw [z_d100 d1, z_d101 d2, g1, g2]
    rfl
theorem z_newS {a b : Int32} : z_hp (N, W, T, G, J, P, St, Sq, Pt, E, Lt, Hd, D, n) m ++ [.inr (6, [.int a, .int b, .ref (78 + n + 1), .int 0, .int (-1), .int 0])] ++ [.inl (0, 3, .inl (fun _ => 0))] = z_hp (N, W, T, z_nwG G n a b, J, P, St, Sq, Pt, E, Lt, Hd, z_nwD D n, n + 2) m := by
  obtain ⟨A, B, C, F, U, V⟩ := m
  show z_fx N W T J P St Sq Pt E Lt Hd ++ (z_fm A B C F U V ++ z_dy G E D n) ++ _ ++ _ = z_fx N W T J P St Sq Pt E Lt Hd ++ (z_fm A B C F U V ++ z_dy (z_nwG G n a b) E (z_nwD D n) (n + 2))
  rw [z_dyS]
  simp only [List.append_assoc, List.cons_append, List.nil_append]
theorem z_kn {D : Nat → Nat} {n : Nat} : z_kS (z_nwD D n) (n + 2) (78 + n) := by
  unfold z_kS z_nwD
  refine ⟨if_pos rfl, ?_, by omega, by omega⟩
  rw [if_neg (by omega), if_pos rfl]
/-- a new letter -/
def z_le0 (a b c e : Int32) : Nat → Int32 := fun k => if k = 0 then a else if k = 1 then b else if k = 2 then c else if k = 3 then e else if k = 8 then 3000 else 0
def z_nwE (E : z_A) (n : Nat) (a b c e : Int32) : z_A := fun p => if p = 78 + n then z_le0 a b c e else if p = 78 + n + 1 then (fun _ => 0) else if p = 78 + n + 2 then (fun _ => 0) else E p
def z_nwL (D : Nat → Nat) (n : Nat) : Nat → Nat := fun p => if p = 78 + n then 102 else if p = 78 + n + 1 then 103 else if p = 78 + n + 2 then 103 else D p
theorem z_dyL {a b c e : Int32} : z_dy G (z_nwE E n a b c e) (z_nwL D n) (n + 3) = z_dy G E D n ++ [.inr (1, [.int a, .int b, .int c, .int e, .ref (78 + n + 1), .ref (78 + n + 2), .int 0, .int 0, .int 3000]), .inl (0, 4, .inl (fun _ => 0)), .inl (0, 4, .inl (fun _ => 0))] := by
  unfold z_dy
  rw [List.range_succ, List.range_succ, List.range_succ, List.map_append, List.map_append, List.map_append, List.append_assoc, List.append_assoc]
  congr 1
  · apply List.map_congr_left
    intro i hi
    have h := List.mem_range.mp hi
    have e1 : z_nwE E n a b c e (78 + i) = E (78 + i) := by unfold z_nwE; rw [if_neg (by omega), if_neg (by omega), if_neg (by omega)]
    have e2 : z_nwL D n (78 + i) = D (78 + i) := by unfold z_nwL; rw [if_neg (by omega), if_neg (by omega), if_neg (by omega)]
    unfold z_dc
    rw [e1, e2]
  · have d1 : z_nwL D n (78 + n) = 102 := by unfold z_nwL; rw [if_pos rfl]
    have d2 : z_nwL D n (78 + (n + 1)) = 103 := by unfold z_nwL; rw [if_neg (by omega), if_pos (by omega)]
    have d3 : z_nwL D n (78 + (n + 2)) = 103 := by unfold z_nwL; rw [if_neg (by omega), if_neg (by omega), if_pos (by omega)]
    have g1 : z_nwE E n a b c e (78 + n) = z_le0 a b c e := by unfold z_nwE; rw [if_pos rfl]
    have g2 : z_nwE E n a b c e (78 + (n + 1)) = (fun _ => 0) := by unfold z_nwE; rw [if_neg (by omega), if_pos (by omega)]
    have g3 : z_nwE E n a b c e (78 + (n + 2)) = (fun _ => 0) := by unfold z_nwE; rw [if_neg (by omega), if_neg (by omega), if_pos (by omega)]
    show [z_dc G (z_nwE E n a b c e) (z_nwL D n) (78 + n)] ++ ([z_dc G (z_nwE E n a b c e) (z_nwL D n) (78 + (n + 1))] ++ [z_dc G (z_nwE E n a b c e) (z_nwL D n) (78 + (n + 2))]) = _
    rw [z_d102 d1, z_d103 d2, z_d103 d3, g1, g2, g3]
    rfl
theorem z_newL {a b c e : Int32} : z_hp (N, W, T, G, J, P, St, Sq, Pt, E, Lt, Hd, D, n) m ++ [.inr (1, [.int a, .int b, .int c, .int e, .ref (78 + n + 1), .ref (78 + n + 2), .int 0, .int 0, .int 3000])] ++ [.inl (0, 4, .inl (fun _ => 0))] ++ [.inl (0, 4, .inl (fun _ => 0))] = z_hp (N, W, T, G, J, P, St, Sq, Pt, z_nwE E n a b c e, Lt, Hd, z_nwL D n, n + 3) m := by
  obtain ⟨A, B, C, F, U, V⟩ := m
  have hf : z_fx N W T J P St Sq Pt (z_nwE E n a b c e) Lt Hd = z_fx N W T J P St Sq Pt E Lt Hd := by
    have k : ∀ p, p < 78 → z_nwE E n a b c e p = E p := fun p hp => by unfold z_nwE; rw [if_neg (by omega), if_neg (by omega), if_neg (by omega)]
    unfold z_fx; rw [k 40 (by omega), k 43 (by omega), k 44 (by omega)]
  show z_fx N W T J P St Sq Pt E Lt Hd ++ (z_fm A B C F U V ++ z_dy G E D n) ++ _ ++ _ ++ _ = z_fx N W T J P St Sq Pt (z_nwE E n a b c e) Lt Hd ++ (z_fm A B C F U V ++ z_dy G (z_nwE E n a b c e) (z_nwL D n) (n + 3))
  rw [z_dyL, hf]
  simp only [List.append_assoc, List.cons_append, List.nil_append]
theorem z_kl {D : Nat → Nat} {n : Nat} : z_kL (z_nwL D n) (n + 3) (78 + n) := by
  unfold z_kL z_nwL
  refine ⟨if_pos rfl, ?_, ?_, by omega, by omega⟩
  · rw [if_neg (by omega), if_pos rfl]
  · rw [if_neg (by omega), if_neg (by omega), if_pos rfl]
theorem z_i3 : (3 : Int32).toNatClampNeg = 3 := rfl
theorem z_i4 : (4 : Int32).toNatClampNeg = 4 := rfl
set_option maxHeartbeats 8000000 in
set_option maxRecDepth 100000 in
theorem y60 (a b : Int32) : RR S (d + 1) 60 0 [(0, .ref (78 + n)), (1, .int a), (2, .int b)] [] (z_hp (N, W, T, G, J, P, St, Sq, Pt, E, Lt, Hd, D, n) m ++ [.inr (6, [.int 0, .int 0, .null, .int 0, .int 0, .int 0])], z) Q = Q none (z_hp (N, W, T, z_nwG G n a (xMx b 2), J, P, St, Sq, Pt, E, Lt, Hd, z_nwD D n, n + 2) m, z + 3) := by
  simp only [q60_0, q60_1, q60_4, r60_5, q60_6, q60_8, q60_11, r60_12, q60_13, q60_16, r60_17, q60_18, q60_21, r60_22, q60_23, q60_26, q60_27, q60_28, q60_31, q60_32, r60_33, q60_34, q60_37, r60_40, iI_s, gI_s, iJ_s, gJ_s, iA_r, iA_n, iA_f, gA_s, kc_s, ai_look_hit, ai_look_miss, ai_put_nil, ai_put_lt, ai_put_l1, ai_put_eq, ai_put_gt, ai_flt_nil, ai_flt_gt, cat_int, cat_ref, cat_null, cat_float, cat_long, ai_fld, ai_obj, ai_arr, ai_arq, ai_alen, ai_cno, Option.toList_some, Option.toList_none, Option.getD_some, Option.isSome_some, List.cons_append, List.nil_append, ai_sum_n, ai_sum_c, va_rf_s, va_rf_n, true_and, and_true, ne_eq, not_false_eq_true, not_true_eq_false, ↓reduceIte, not_or, reduceCtorEq, Nat.reduceAdd, Nat.reduceLT, Nat.reduceLeDiff, Nat.reduceEqDiff, Int32.reduceLT, Int32.reduceLE, Int32.reduceToNatClampNeg, Int32.reduceAdd, Int32.reduceSub, Int32.reduceMul, or_self, List.getElem?_cons_zero, List.getElem?_cons_succ, List.set_cons_zero, List.set_cons_succ, List.length_cons, List.length_nil, ai_put_si, ai_put_sr, ai_put_sn, ai_put_sf, eq_self, c10, c01, cm10, c0m, if_true, if_false, ite_true, ite_false, not_and, false_and, and_false, and_self, Classical.not_not, z_b_0, z_b_t, z_b_f, z_b_r, z_e0, z_e1, z_e2, z_e3, z_e4, z_e5, z_e6, z_e7, z_e8, z_e9, z_e10, z_e11, z_e12, z_e13, z_e14, z_e15, z_e16, z_e17, z_e18, z_e19, z_e20, z_e21, z_e22, z_e23, z_e24, z_e25, z_e26, z_e27, z_e28, z_e29, z_e30, z_e31, z_e32, z_e33, z_e34, z_e35, z_e36, z_e37, z_e38, z_e39, z_e40, z_e41, z_e42, z_e43, z_e44, z_w1_6, z_w1_7, z_w1_8, z_w1_9, z_w2, z_w3, z_w4, z_w5, z_w6, z_w7, z_w8_1, z_w8_2, z_w8_3, z_w8_4, z_w9_1, z_w10, z_w27_6, z_w27_7, z_w28, z_w30, z_w31, z_w40_7, z_w40_8, z_w41, z_w42, z_w43, z_w44, z_len, z_a1, z_a2, z_a3, z_a4, z_a5, z_a6, z_l1, z_l2', z_i3, z_i4, y163]
  rw [z_newS]
set_option maxHeartbeats 8000000 in
set_option maxRecDepth 100000 in
theorem y5 (a b c e : Int32) : RR S d 5 0 [(0, .ref (78 + n)), (1, .int a), (2, .int b), (3, .int c), (4, .int e)] [] (z_hp (N, W, T, G, J, P, St, Sq, Pt, E, Lt, Hd, D, n) m ++ [.inr (1, [.int 0, .int 0, .int 0, .int 0, .null, .null, .int 0, .int 0, .int 0])], z) Q = Q none (z_hp (N, W, T, G, J, P, St, Sq, Pt, z_nwE E n a b c e, Lt, Hd, z_nwL D n, n + 3) m, z + 4 + 4) := by
  simp only [q5_0, q5_1, q5_4, r5_5, q5_6, q5_8, q5_11, r5_12, q5_13, q5_15, q5_18, r5_19, q5_20, q5_23, r5_24, q5_25, q5_28, r5_29, q5_32, q5_35, q5_36, q5_37, q5_40, q5_41, q5_42, q5_45, q5_46, q5_47, q5_50, q5_51, q5_53, r5_56, iI_s, gI_s, iJ_s, gJ_s, iA_r, iA_n, iA_f, gA_s, kc_s, ai_look_hit, ai_look_miss, ai_put_nil, ai_put_lt, ai_put_l1, ai_put_eq, ai_put_gt, ai_flt_nil, ai_flt_gt, cat_int, cat_ref, cat_null, cat_float, cat_long, ai_fld, ai_obj, ai_arr, ai_arq, ai_alen, ai_cno, Option.toList_some, Option.toList_none, Option.getD_some, Option.isSome_some, List.cons_append, List.nil_append, ai_sum_n, ai_sum_c, va_rf_s, va_rf_n, true_and, and_true, ne_eq, not_false_eq_true, not_true_eq_false, ↓reduceIte, not_or, reduceCtorEq, Nat.reduceAdd, Nat.reduceLT, Nat.reduceLeDiff, Nat.reduceEqDiff, Int32.reduceLT, Int32.reduceLE, Int32.reduceToNatClampNeg, Int32.reduceAdd, Int32.reduceSub, Int32.reduceMul, or_self, List.getElem?_cons_zero, List.getElem?_cons_succ, List.set_cons_zero, List.set_cons_succ, List.length_cons, List.length_nil, ai_put_si, ai_put_sr, ai_put_sn, ai_put_sf, eq_self, c10, c01, cm10, c0m, if_true, if_false, ite_true, ite_false, not_and, false_and, and_false, and_self, Classical.not_not, z_b_0, z_b_t, z_b_f, z_b_r, z_e0, z_e1, z_e2, z_e3, z_e4, z_e5, z_e6, z_e7, z_e8, z_e9, z_e10, z_e11, z_e12, z_e13, z_e14, z_e15, z_e16, z_e17, z_e18, z_e19, z_e20, z_e21, z_e22, z_e23, z_e24, z_e25, z_e26, z_e27, z_e28, z_e29, z_e30, z_e31, z_e32, z_e33, z_e34, z_e35, z_e36, z_e37, z_e38, z_e39, z_e40, z_e41, z_e42, z_e43, z_e44, z_w1_6, z_w1_7, z_w1_8, z_w1_9, z_w2, z_w3, z_w4, z_w5, z_w6, z_w7, z_w8_1, z_w8_2, z_w8_3, z_w8_4, z_w9_1, z_w10, z_w27_6, z_w27_7, z_w28, z_w30, z_w31, z_w40_7, z_w40_8, z_w41, z_w42, z_w43, z_w44, z_len, z_a1, z_a2, z_a3, z_a4, z_a5, z_a6, z_l1, z_l2', z_i3, z_i4]
  rw [z_newL]
end Zg
