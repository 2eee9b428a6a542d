section Zg
variable {S : ai_S} {d z : Nat} {Q : Option Value → ai_H → Prop} {N G P E : z_A} {W : Nat → Int32} {T Pt : Int32} {J : Nat → Int64 × Int64} {St Sq Lt Hd : z_R} {D : Nat → Nat} {n : Nat} {A B C F U V : z_A} {x : z_X} {m : z_M}
def xOff (G : z_A) (q : Nat) (y : Int32) : z_A := if G q 3 < 3 then z_wr (z_wr G (q + 1) (G q 3).toNatClampNeg y) q 3 (G q 3 + 1) else G
theorem z_qq {G : z_A} {q k j : Nat} {v : Int32} : z_wr G (q + 1) k v q j = G q j := by rw [z_wr_ne (by omega)]
theorem z_3 {i : Int32} (h : (i < 3) = True) : i.toInt < 3 := by
  have := of_eq_true h; rw [z_ltI] at this; exact this
theorem z_nP {q p : Nat} {D : Nat → Nat} {n : Nat} (hq : z_kS D n q) (hp : z_kS D n p) : p ≠ q + 1 := by
  intro e
  have h1 := hq.2.1
  have h2 := hp.1
  rw [e] at h2
  rw [h1] at h2
  cases h2
theorem xOff_IS {G : z_A} {D : Nat → Nat} {n q : Nat} {y : Int32} (hq : z_kS D n q) (hi : z_IS G D n) : z_IS (xOff G q y) D n := by
  unfold xOff
  split
  · rename_i h3
    have h3 := z_3 (eq_true h3)
    intro p hp
    have e1 : ∀ j, z_wr G (q + 1) (G q 3).toNatClampNeg y p j = G p j := fun j => by rw [z_wr_ne (z_nP hq hp)]
    rw [z_wrj (show (1 : Nat) ≠ 3 by decide), e1]
    by_cases e : p = q
    · subst e
      rw [z_wr2]
      have := hi p hp
      have := z_inc1 (n := G p 3) (b := 3) this.1 h3 (by decide)
      omega
    · rw [z_wr_ne e, e1]
      exact hi p hp
  · exact hi
theorem xOff_0 {G : z_A} {q : Nat} {y : Int32} : xOff G q y q 0 = G q 0 := by
  unfold xOff
  split
  · rw [z_wrj (by decide), z_qq]
  · rfl
set_option maxHeartbeats 8000000 in
set_option maxRecDepth 100000 in
theorem y61 (hi : z_IS G D n) {q : Nat} (hq : z_kS D n q) (y : Int32) : RR S d 61 0 [(0, .ref q), (1, .int y)] [] (z_hp (N, W, T, G, J, P, St, Sq, Pt, E, Lt, Hd, D, n) m, z) Q = Q none (z_hp (N, W, T, xOff G q y, J, P, St, Sq, Pt, E, Lt, Hd, D, n) m, z) := by
  unfold xOff
  rcases z_ltc (G q 3) (3) with ⟨a0, b0⟩ | ⟨a0, b0⟩
  · skip
    obtain ⟨u1, u2⟩ := z_in (m := 3) (hi q hq).1 (z_3 a0)
    simp only [q61_0, q61_1, r61_4, r61_5, q61_8, q61_9, q61_12, q61_13, q61_16, q61_17, q61_18, q61_19, q61_19i, q61_20, r61_23, r61_24, q61_25, r61_28, iI_s, gI_s, iJ_s, gJ_s, iA_r, iA_n, iA_f, gA_s, kc_s, ai_look_hit, ai_look_miss, ai_put_nil, ai_put_lt, ai_put_l1, ai_put_eq, ai_put_gt, ai_flt_nil, ai_flt_gt, cat_int, cat_ref, cat_null, cat_float, cat_long, ai_fld, ai_obj, ai_arr, ai_arq, ai_alen, ai_cno, Option.toList_some, Option.toList_none, Option.getD_some, Option.isSome_some, List.cons_append, List.nil_append, ai_sum_n, ai_sum_c, va_rf_s, va_rf_n, true_and, and_true, ne_eq, not_false_eq_true, not_true_eq_false, ↓reduceIte, not_or, reduceCtorEq, Nat.reduceAdd, Nat.reduceLT, Nat.reduceLeDiff, Nat.reduceEqDiff, Int32.reduceLT, Int32.reduceLE, Int32.reduceToNatClampNeg, Int32.reduceAdd, Int32.reduceSub, Int32.reduceMul, or_self, List.getElem?_cons_zero, List.getElem?_cons_succ, List.set_cons_zero, List.set_cons_succ, List.length_cons, List.length_nil, ai_put_si, ai_put_sr, ai_put_sn, ai_put_sf, eq_self, c10, c01, cm10, c0m, if_true, if_false, ite_true, ite_false, not_and, false_and, and_false, and_self, Classical.not_not, z_b_0, z_b_t, z_b_f, z_b_r, z_e0, z_e1, z_e2, z_e3, z_e4, z_e5, z_e6, z_e7, z_e8, z_e9, z_e10, z_e11, z_e12, z_e13, z_e14, z_e15, z_e16, z_e17, z_e18, z_e19, z_e20, z_e21, z_e22, z_e23, z_e24, z_e25, z_e26, z_e27, z_e28, z_e29, z_e30, z_e31, z_e32, z_e33, z_e34, z_e35, z_e36, z_e37, z_e38, z_e39, z_e40, z_e41, z_e42, z_e43, z_e44, z_w1_6, z_w1_7, z_w1_8, z_w1_9, z_w2, z_w3, z_w4, z_w5, z_w6, z_w7, z_w8_1, z_w8_2, z_w8_3, z_w8_4, z_w9_1, z_w10, z_w27_6, z_w27_7, z_w28, z_w30, z_w31, z_w40_7, z_w40_8, z_w41, z_w42, z_w43, z_w44, z_len, Bool.false_eq_true, z_eS hq, a0, b0, u1, u2, z_eSw hq, z_wSw hq, z_wS_3 hq, z_qq]
  · skip
    simp only [q61_0, q61_1, r61_4, r61_5, q61_8, q61_9, q61_12, q61_13, q61_16, q61_17, q61_18, q61_19, q61_19i, q61_20, r61_23, r61_24, q61_25, r61_28, iI_s, gI_s, iJ_s, gJ_s, iA_r, iA_n, iA_f, gA_s, kc_s, ai_look_hit, ai_look_miss, ai_put_nil, ai_put_lt, ai_put_l1, ai_put_eq, ai_put_gt, ai_flt_nil, ai_flt_gt, cat_int, cat_ref, cat_null, cat_float, cat_long, ai_fld, ai_obj, ai_arr, ai_arq, ai_alen, ai_cno, Option.toList_some, Option.toList_none, Option.getD_some, Option.isSome_some, List.cons_append, List.nil_append, ai_sum_n, ai_sum_c, va_rf_s, va_rf_n, true_and, and_true, ne_eq, not_false_eq_true, not_true_eq_false, ↓reduceIte, not_or, reduceCtorEq, Nat.reduceAdd, Nat.reduceLT, Nat.reduceLeDiff, Nat.reduceEqDiff, Int32.reduceLT, Int32.reduceLE, Int32.reduceToNatClampNeg, Int32.reduceAdd, Int32.reduceSub, Int32.reduceMul, or_self, List.getElem?_cons_zero, List.getElem?_cons_succ, List.set_cons_zero, List.set_cons_succ, List.length_cons, List.length_nil, ai_put_si, ai_put_sr, ai_put_sn, ai_put_sf, eq_self, c10, c01, cm10, c0m, if_true, if_false, ite_true, ite_false, not_and, false_and, and_false, and_self, Classical.not_not, z_b_0, z_b_t, z_b_f, z_b_r, z_e0, z_e1, z_e2, z_e3, z_e4, z_e5, z_e6, z_e7, z_e8, z_e9, z_e10, z_e11, z_e12, z_e13, z_e14, z_e15, z_e16, z_e17, z_e18, z_e19, z_e20, z_e21, z_e22, z_e23, z_e24, z_e25, z_e26, z_e27, z_e28, z_e29, z_e30, z_e31, z_e32, z_e33, z_e34, z_e35, z_e36, z_e37, z_e38, z_e39, z_e40, z_e41, z_e42, z_e43, z_e44, z_w1_6, z_w1_7, z_w1_8, z_w1_9, z_w2, z_w3, z_w4, z_w5, z_w6, z_w7, z_w8_1, z_w8_2, z_w8_3, z_w8_4, z_w9_1, z_w10, z_w27_6, z_w27_7, z_w28, z_w30, z_w31, z_w40_7, z_w40_8, z_w41, z_w42, z_w43, z_w44, z_len, Bool.false_eq_true, z_eS hq, a0, b0]
set_option maxHeartbeats 8000000 in
set_option maxRecDepth 100000 in
theorem y65 (h0 : 0 ≤ T.toInt) (h1 : (T < 8) = True) {q : Nat} (hq : z_kS D n q) : RR S d 65 0 [(0, .ref 9), (1, .ref q)] [] (z_hp (N, W, T, G, J, P, St, Sq, Pt, E, Lt, Hd, D, n) m, z) Q = Q (some (.int (T + 1 - 1))) (z_hp (N, W, (T + 1), G, J, P, va_up St T.toNatClampNeg (some q), Sq, Pt, E, Lt, Hd, D, n) m, z) := by
  obtain ⟨u1, u2⟩ := z_in (m := 8) h0 (z_8 h1)
  simp only [q65_0, q65_1, r65_4, r65_6, r65_9, r65_10, q65_11, q65_12, q65_15, q65_16, q65_19, q65_20n, q65_20, q65_21, q65_22, q65_22i, q65_23, r65_26, r65_27, q65_28, q65_31, q65_32, r65_35, r65_36, r65_37, iI_s, gI_s, iJ_s, gJ_s, iA_r, iA_n, iA_f, gA_s, kc_s, ai_look_hit, ai_look_miss, ai_put_nil, ai_put_lt, ai_put_l1, ai_put_eq, ai_put_gt, ai_flt_nil, ai_flt_gt, cat_int, cat_ref, cat_null, cat_float, cat_long, ai_fld, ai_obj, ai_arr, ai_arq, ai_alen, ai_cno, Option.toList_some, Option.toList_none, Option.getD_some, Option.isSome_some, List.cons_append, List.nil_append, ai_sum_n, ai_sum_c, va_rf_s, va_rf_n, true_and, and_true, ne_eq, not_false_eq_true, not_true_eq_false, ↓reduceIte, not_or, reduceCtorEq, Nat.reduceAdd, Nat.reduceLT, Nat.reduceLeDiff, Nat.reduceEqDiff, Int32.reduceLT, Int32.reduceLE, Int32.reduceToNatClampNeg, Int32.reduceAdd, Int32.reduceSub, Int32.reduceMul, or_self, List.getElem?_cons_zero, List.getElem?_cons_succ, List.set_cons_zero, List.set_cons_succ, List.length_cons, List.length_nil, ai_put_si, ai_put_sr, ai_put_sn, ai_put_sf, eq_self, c10, c01, cm10, c0m, if_true, if_false, ite_true, ite_false, not_and, false_and, and_false, and_self, Classical.not_not, z_b_0, z_b_t, z_b_f, z_b_r, z_e0, z_e1, z_e2, z_e3, z_e4, z_e5, z_e6, z_e7, z_e8, z_e9, z_e10, z_e11, z_e12, z_e13, z_e14, z_e15, z_e16, z_e17, z_e18, z_e19, z_e20, z_e21, z_e22, z_e23, z_e24, z_e25, z_e26, z_e27, z_e28, z_e29, z_e30, z_e31, z_e32, z_e33, z_e34, z_e35, z_e36, z_e37, z_e38, z_e39, z_e40, z_e41, z_e42, z_e43, z_e44, z_w1_6, z_w1_7, z_w1_8, z_w1_9, z_w2, z_w3, z_w4, z_w5, z_w6, z_w7, z_w8_1, z_w8_2, z_w8_3, z_w8_4, z_w9_1, z_w10, z_w27_6, z_w27_7, z_w28, z_w30, z_w31, z_w40_7, z_w40_8, z_w41, z_w42, z_w43, z_w44, z_len, Bool.false_eq_true, h1, u1, u2, z_eS hq, ai_ao]
def xFch (N : z_A) (q : Nat) (a b lat : Int32) : Nat → Int32 → Int32 → z_A → z_W → z_A × z_W
  | 0, _, _, G, W => (G, W)
  | k + 1, i, y, G, W => if i < 3 then if xLt y lat = true then xFch N q a b lat k (i + 1) (xNb N a b (xOff G q y q 0) y W 4) (xOff G q y) (xNb N a b (xOff G q y q 0) y W) else (G, W) else (G, W)
theorem xFch_s {N : z_A} {q : Nat} {a b lat i y : Int32} {k : Nat} {G : z_A} {W : z_W} : xFch N q a b lat (k + 1) i y G W = if i < 3 then if xLt y lat = true then xFch N q a b lat k (i + 1) (xNb N a b (xOff G q y q 0) y W 4) (xOff G q y) (xNb N a b (xOff G q y q 0) y W) else (G, W) else (G, W) := rfl
theorem xFch_IS {N : z_A} {q : Nat} {a b lat : Int32} {D : Nat → Nat} {n : Nat} (hq : z_kS D n q) : ∀ (k : Nat) (i y : Int32) (G : z_A) (W : z_W), z_IS G D n → z_IS (xFch N q a b lat k i y G W).1 D n := by
  intro k
  induction k with
  | zero => intro i y G W h; exact h
  | succ k ih =>
    intro i y G W h
    rw [xFch_s]
    split
    · split
      · exact ih _ _ _ _ (xOff_IS hq h)
      · exact h
    · exact h
set_option maxHeartbeats 8000000 in
set_option maxRecDepth 100000 in
theorem l105 (hr : z_RN N) {q : Nat} (hq : z_kS D n q) {a b lat : Int32} : ∀ (k : Nat) (i : Int32) (L : ai_L) (y : Int32) (G : z_A) (W : z_W), ai_look L 0 = some (.ref 0) → ai_look L 1 = some (.ref q) → ai_look L 2 = some (.int a) → ai_look L 3 = some (.int b) → ai_look L 4 = some (.int lat) → ai_look L 5 = some (.int y) → ai_look L 6 = some (.int i) → 0 ≤ i.toInt → i.toInt ≤ 3 → (3 : Int) < i.toInt + (k : Int) → z_IS G D n → RR S (d + 9) 105 19 L [] (z_hp (N, W, T, G, J, P, St, Sq, Pt, E, Lt, Hd, D, n) m, z) Q = Q none (z_hp (N, (xFch N q a b lat k i y G W).2, T, (xFch N q a b lat k i y G W).1, J, P, St, Sq, Pt, E, Lt, Hd, D, n) m, z) := by
  intro k
  induction k with
  | zero => intro i L y G W l0 l1 l2 l3 l4 l5 l6 h0 h1 h2 hi; exfalso; omega
  | succ k ih =>
    intro i L y G W l0 l1 l2 l3 l4 l5 l6 h0 h1 h2 hi
    rw [q105_19]
    rcases z_ltc i 3 with ⟨a1, b1⟩ | ⟨a1, b1⟩
    · have a2 := z_3 a1
      have hin := z_inc1 h0 (show i.toInt < 1000000 by omega) (by omega)
      rcases z_bc (xLt y lat) with a3 | a3
      · have hi2 := xOff_IS (y := y) hq hi
        simp only [q105_0, q105_1, q105_4, q105_5, q105_6, q105_7, r105_10, q105_11, r105_14, r105_16, r105_17, r105_21, r105_22, q105_25, q105_27, q105_29, r105_32, q105_35, q105_36, q105_38, q105_41, q105_42, q105_45, q105_46, q105_47, q105_48, q105_51, q105_53, r105_56, q105_58, r105_61, r105_64, iI_s, gI_s, iJ_s, gJ_s, iA_r, iA_n, iA_f, gA_s, kc_s, ai_look_hit, ai_look_miss, ai_put_nil, ai_put_lt, ai_put_l1, ai_put_eq, ai_put_gt, ai_flt_nil, ai_flt_gt, cat_int, cat_ref, cat_null, cat_float, cat_long, ai_fld, ai_obj, ai_arr, ai_arq, ai_alen, ai_cno, Option.toList_some, Option.toList_none, Option.getD_some, Option.isSome_some, List.cons_append, List.nil_append, ai_sum_n, ai_sum_c, va_rf_s, va_rf_n, true_and, and_true, ne_eq, not_false_eq_true, not_true_eq_false, ↓reduceIte, not_or, reduceCtorEq, Nat.reduceAdd, Nat.reduceLT, Nat.reduceLeDiff, Nat.reduceEqDiff, Int32.reduceLT, Int32.reduceLE, Int32.reduceToNatClampNeg, Int32.reduceAdd, Int32.reduceSub, Int32.reduceMul, or_self, List.getElem?_cons_zero, List.getElem?_cons_succ, List.set_cons_zero, List.set_cons_succ, List.length_cons, List.length_nil, ai_put_si, ai_put_sr, ai_put_sn, ai_put_sf, eq_self, c10, c01, cm10, c0m, if_true, if_false, ite_true, ite_false, not_and, false_and, and_false, and_self, Classical.not_not, z_b_0, z_b_t, z_b_f, z_b_r, z_e0, z_e1, z_e2, z_e3, z_e4, z_e5, z_e6, z_e7, z_e8, z_e9, z_e10, z_e11, z_e12, z_e13, z_e14, z_e15, z_e16, z_e17, z_e18, z_e19, z_e20, z_e21, z_e22, z_e23, z_e24, z_e25, z_e26, z_e27, z_e28, z_e29, z_e30, z_e31, z_e32, z_e33, z_e34, z_e35, z_e36, z_e37, z_e38, z_e39, z_e40, z_e41, z_e42, z_e43, z_e44, z_w1_6, z_w1_7, z_w1_8, z_w1_9, z_w2, z_w3, z_w4, z_w5, z_w6, z_w7, z_w8_1, z_w8_2, z_w8_3, z_w8_4, z_w9_1, z_w10, z_w27_6, z_w27_7, z_w28, z_w30, z_w31, z_w40_7, z_w40_8, z_w41, z_w42, z_w43, z_w44, z_len, z_lkE, z_lkA, z_lkB, z_c1_i, z_c1_r, z_c1_n, z_c1_f, xFch_s, y107, z_eS hq, Bool.false_eq_true, l0, l1, l2, l3, l4, l5, l6, a1, b1, a3, y61 hi hq, y79 hr]
        exact ih (i + 1) _ _ _ _ (by simp only [z_lkE, z_lkA, z_lkB, z_c1_i, z_c1_r, z_c1_n, z_c1_f, l0, l1, l2, l3, l4, l5, l6, iI_s, iJ_s, Nat.reduceAdd, Nat.reduceEqDiff, not_false_eq_true, reduceCtorEq]) (by simp only [z_lkE, z_lkA, z_lkB, z_c1_i, z_c1_r, z_c1_n, z_c1_f, l0, l1, l2, l3, l4, l5, l6, iI_s, iJ_s, Nat.reduceAdd, Nat.reduceEqDiff, not_false_eq_true, reduceCtorEq]) (by simp only [z_lkE, z_lkA, z_lkB, z_c1_i, z_c1_r, z_c1_n, z_c1_f, l0, l1, l2, l3, l4, l5, l6, iI_s, iJ_s, Nat.reduceAdd, Nat.reduceEqDiff, not_false_eq_true, reduceCtorEq]) (by simp only [z_lkE, z_lkA, z_lkB, z_c1_i, z_c1_r, z_c1_n, z_c1_f, l0, l1, l2, l3, l4, l5, l6, iI_s, iJ_s, Nat.reduceAdd, Nat.reduceEqDiff, not_false_eq_true, reduceCtorEq]) (by simp only [z_lkE, z_lkA, z_lkB, z_c1_i, z_c1_r, z_c1_n, z_c1_f, l0, l1, l2, l3, l4, l5, l6, iI_s, iJ_s, Nat.reduceAdd, Nat.reduceEqDiff, not_false_eq_true, reduceCtorEq]) (by simp only [z_lkE, z_lkA, z_lkB, z_c1_i, z_c1_r, z_c1_n, z_c1_f, l0, l1, l2, l3, l4, l5, l6, iI_s, iJ_s, Nat.reduceAdd, Nat.reduceEqDiff, not_false_eq_true, reduceCtorEq]) (by simp only [z_lkE, z_lkA, z_lkB, z_c1_i, z_c1_r, z_c1_n, z_c1_f, l0, l1, l2, l3, l4, l5, l6, iI_s, iJ_s, Nat.reduceAdd, Nat.reduceEqDiff, not_false_eq_true, reduceCtorEq]) (by omega) (by omega) (by omega) hi2
      · simp only [q105_0, q105_1, q105_4, q105_5, q105_6, q105_7, r105_10, q105_11, r105_14, r105_16, r105_17, r105_21, r105_22, q105_25, q105_27, q105_29, r105_32, q105_35, q105_36, q105_38, q105_41, q105_42, q105_45, q105_46, q105_47, q105_48, q105_51, q105_53, r105_56, q105_58, r105_61, r105_64, iI_s, gI_s, iJ_s, gJ_s, iA_r, iA_n, iA_f, gA_s, kc_s, ai_look_hit, ai_look_miss, ai_put_nil, ai_put_lt, ai_put_l1, ai_put_eq, ai_put_gt, ai_flt_nil, ai_flt_gt, cat_int, cat_ref, cat_null, cat_float, cat_long, ai_fld, ai_obj, ai_arr, ai_arq, ai_alen, ai_cno, Option.toList_some, Option.toList_none, Option.getD_some, Option.isSome_some, List.cons_append, List.nil_append, ai_sum_n, ai_sum_c, va_rf_s, va_rf_n, true_and, and_true, ne_eq, not_false_eq_true, not_true_eq_false, ↓reduceIte, not_or, reduceCtorEq, Nat.reduceAdd, Nat.reduceLT, Nat.reduceLeDiff, Nat.reduceEqDiff, Int32.reduceLT, Int32.reduceLE, Int32.reduceToNatClampNeg, Int32.reduceAdd, Int32.reduceSub, Int32.reduceMul, or_self, List.getElem?_cons_zero, List.getElem?_cons_succ, List.set_cons_zero, List.set_cons_succ, List.length_cons, List.length_nil, ai_put_si, ai_put_sr, ai_put_sn, ai_put_sf, eq_self, c10, c01, cm10, c0m, if_true, if_false, ite_true, ite_false, not_and, false_and, and_false, and_self, Classical.not_not, z_b_0, z_b_t, z_b_f, z_b_r, z_e0, z_e1, z_e2, z_e3, z_e4, z_e5, z_e6, z_e7, z_e8, z_e9, z_e10, z_e11, z_e12, z_e13, z_e14, z_e15, z_e16, z_e17, z_e18, z_e19, z_e20, z_e21, z_e22, z_e23, z_e24, z_e25, z_e26, z_e27, z_e28, z_e29, z_e30, z_e31, z_e32, z_e33, z_e34, z_e35, z_e36, z_e37, z_e38, z_e39, z_e40, z_e41, z_e42, z_e43, z_e44, z_w1_6, z_w1_7, z_w1_8, z_w1_9, z_w2, z_w3, z_w4, z_w5, z_w6, z_w7, z_w8_1, z_w8_2, z_w8_3, z_w8_4, z_w9_1, z_w10, z_w27_6, z_w27_7, z_w28, z_w30, z_w31, z_w40_7, z_w40_8, z_w41, z_w42, z_w43, z_w44, z_len, z_lkE, z_lkA, z_lkB, z_c1_i, z_c1_r, z_c1_n, z_c1_f, xFch_s, y107, z_eS hq, Bool.false_eq_true, l0, l1, l2, l3, l4, l5, l6, a1, b1, a3]
    · simp only [q105_0, q105_1, q105_4, q105_5, q105_6, q105_7, r105_10, q105_11, r105_14, r105_16, r105_17, r105_21, r105_22, q105_25, q105_27, q105_29, r105_32, q105_35, q105_36, q105_38, q105_41, q105_42, q105_45, q105_46, q105_47, q105_48, q105_51, q105_53, r105_56, q105_58, r105_61, r105_64, iI_s, gI_s, iJ_s, gJ_s, iA_r, iA_n, iA_f, gA_s, kc_s, ai_look_hit, ai_look_miss, ai_put_nil, ai_put_lt, ai_put_l1, ai_put_eq, ai_put_gt, ai_flt_nil, ai_flt_gt, cat_int, cat_ref, cat_null, cat_float, cat_long, ai_fld, ai_obj, ai_arr, ai_arq, ai_alen, ai_cno, Option.toList_some, Option.toList_none, Option.getD_some, Option.isSome_some, List.cons_append, List.nil_append, ai_sum_n, ai_sum_c, va_rf_s, va_rf_n, true_and, and_true, ne_eq, not_false_eq_true, not_true_eq_false, ↓reduceIte, not_or, reduceCtorEq, Nat.reduceAdd, Nat.reduceLT, Nat.reduceLeDiff, Nat.reduceEqDiff, Int32.reduceLT, Int32.reduceLE, Int32.reduceToNatClampNeg, Int32.reduceAdd, Int32.reduceSub, Int32.reduceMul, or_self, List.getElem?_cons_zero, List.getElem?_cons_succ, List.set_cons_zero, List.set_cons_succ, List.length_cons, List.length_nil, ai_put_si, ai_put_sr, ai_put_sn, ai_put_sf, eq_self, c10, c01, cm10, c0m, if_true, if_false, ite_true, ite_false, not_and, false_and, and_false, and_self, Classical.not_not, z_b_0, z_b_t, z_b_f, z_b_r, z_e0, z_e1, z_e2, z_e3, z_e4, z_e5, z_e6, z_e7, z_e8, z_e9, z_e10, z_e11, z_e12, z_e13, z_e14, z_e15, z_e16, z_e17, z_e18, z_e19, z_e20, z_e21, z_e22, z_e23, z_e24, z_e25, z_e26, z_e27, z_e28, z_e29, z_e30, z_e31, z_e32, z_e33, z_e34, z_e35, z_e36, z_e37, z_e38, z_e39, z_e40, z_e41, z_e42, z_e43, z_e44, z_w1_6, z_w1_7, z_w1_8, z_w1_9, z_w2, z_w3, z_w4, z_w5, z_w6, z_w7, z_w8_1, z_w8_2, z_w8_3, z_w8_4, z_w9_1, z_w10, z_w27_6, z_w27_7, z_w28, z_w30, z_w31, z_w40_7, z_w40_8, z_w41, z_w42, z_w43, z_w44, z_len, z_lkE, z_lkA, z_lkB, z_c1_i, z_c1_r, z_c1_n, z_c1_f, xFch_s, y107, z_eS hq, Bool.false_eq_true, l0, l1, l2, l3, l4, l5, l6, a1, b1]
set_option maxHeartbeats 8000000 in
set_option maxRecDepth 100000 in
theorem y105 (hr : z_RN N) (hi : z_IS G D n) {q : Nat} (hq : z_kS D n q) (a b lat : Int32) : RR S (d + 9) 105 0 [(0, .ref 0), (1, .ref q), (2, .int a), (3, .int b), (4, .int lat)] [] (z_hp (N, W, T, G, J, P, St, Sq, Pt, E, Lt, Hd, D, n) m, z) Q = Q none (z_hp (N, (xFch N q a b lat 4 0 (xNb N a b (G q 0) (-1) W 4) G (xNb N a b (G q 0) (-1) W)).2, T, (xFch N q a b lat 4 0 (xNb N a b (G q 0) (-1) W 4) G (xNb N a b (G q 0) (-1) W)).1, J, P, St, Sq, Pt, E, Lt, Hd, D, n) m, z) := by
  simp only [q105_0, q105_1, q105_4, q105_5, q105_6, q105_7, r105_10, q105_11, r105_14, r105_16, r105_17, r105_21, r105_22, q105_25, q105_27, q105_29, r105_32, q105_35, q105_36, q105_38, q105_41, q105_42, q105_45, q105_46, q105_47, q105_48, q105_51, q105_53, r105_56, q105_58, r105_61, r105_64, iI_s, gI_s, iJ_s, gJ_s, iA_r, iA_n, iA_f, gA_s, kc_s, ai_look_hit, ai_look_miss, ai_put_nil, ai_put_lt, ai_put_l1, ai_put_eq, ai_put_gt, ai_flt_nil, ai_flt_gt, cat_int, cat_ref, cat_null, cat_float, cat_long, ai_fld, ai_obj, ai_arr, ai_arq, ai_alen, ai_cno, Option.toList_some, Option.toList_none, Option.getD_some, Option.isSome_some, List.cons_append, List.nil_append, ai_sum_n, ai_sum_c, va_rf_s, va_rf_n, true_and, and_true, ne_eq, not_false_eq_true, not_true_eq_false, ↓reduceIte, not_or, reduceCtorEq, Nat.reduceAdd, Nat.reduceLT, Nat.reduceLeDiff, Nat.reduceEqDiff, Int32.reduceLT, Int32.reduceLE, Int32.reduceToNatClampNeg, Int32.reduceAdd, Int32.reduceSub, Int32.reduceMul, or_self, List.getElem?_cons_zero, List.getElem?_cons_succ, List.set_cons_zero, List.set_cons_succ, List.length_cons, List.length_nil, ai_put_si, ai_put_sr, ai_put_sn, ai_put_sf, eq_self, c10, c01, cm10, c0m, if_true, if_false, ite_true, ite_false, not_and, false_and, and_false, and_self, Classical.not_not, z_b_0, z_b_t, z_b_f, z_b_r, z_e0, z_e1, z_e2, z_e3, z_e4, z_e5, z_e6, z_e7, z_e8, z_e9, z_e10, z_e11, z_e12, z_e13, z_e14, z_e15, z_e16, z_e17, z_e18, z_e19, z_e20, z_e21, z_e22, z_e23, z_e24, z_e25, z_e26, z_e27, z_e28, z_e29, z_e30, z_e31, z_e32, z_e33, z_e34, z_e35, z_e36, z_e37, z_e38, z_e39, z_e40, z_e41, z_e42, z_e43, z_e44, z_w1_6, z_w1_7, z_w1_8, z_w1_9, z_w2, z_w3, z_w4, z_w5, z_w6, z_w7, z_w8_1, z_w8_2, z_w8_3, z_w8_4, z_w9_1, z_w10, z_w27_6, z_w27_7, z_w28, z_w30, z_w31, z_w40_7, z_w40_8, z_w41, z_w42, z_w43, z_w44, z_len, y79 hr, z_eS hq]
  exact l105 hr hq 4 0 _ _ _ _ rfl rfl rfl rfl rfl rfl rfl (by decide) (by decide) (by decide) hi
def xSg (N : z_A) (T a b c p l : Int32) : Bool := if T < 8 then if xPr N a b = true then if xIn c 1 8 = true then if xPe N p = true then if xIn l 1 200 = true then true else false else false else false else false else false
def xSG (N : z_A) (n : Nat) (W : z_W) (G : z_A) (a b c p l : Int32) : z_A × z_W := xFch N (78 + n) a b l 4 0 (xNb N a b (z_nwG G n c (xMx p 2) (78 + n) 0) (-1) (xNb N a b c (-1) W) 4) (z_nwG G n c (xMx p 2)) (xNb N a b (z_nwG G n c (xMx p 2) (78 + n) 0) (-1) (xNb N a b c (-1) W))
theorem xPe_s {N : z_A} (hr : z_RN N) {p : Int32} (h : xPe N p = true) : 2 ≤ p.toInt ∧ p.toInt ≤ 120 := by
  unfold xPe at h
  split at h
  · cases h
  · rename_i h2
    rw [z_ltI] at h2
    have t2 : Int32.toInt 2 = 2 := rfl
    refine ⟨by omega, ?_⟩
    split at h
    · rename_i h3
      apply Int.le_of_not_gt
      intro h4
      have h5 := hr.2.2.2.2.1
      have h6 := hr.2.2.2.2.2
      have e : N 1 8 / p = 0 := by
        apply Int32.toInt_inj.mp
        rw [Int32.toInt_div, Int.tdiv_eq_zero_of_lt (by omega) (by omega)]
        rfl
      rw [e, Int32.zero_mul, Int32.sub_zero] at h3
      rw [h3] at h5
      exact absurd h5 (by decide)
    · cases h
theorem xMx_2 {p : Int32} (h : 2 ≤ p.toInt) : xMx p 2 = p := by
  unfold xMx
  rw [if_neg]
  rw [z_ltI]
  have t2 : Int32.toInt 2 = 2 := rfl
  omega
theorem z_IS_new {G : z_A} {D : Nat → Nat} {n : Nat} {c p : Int32} (hi : z_IS G D n) (hp : 2 ≤ p.toInt ∧ p.toInt ≤ 120) : z_IS (z_nwG G n c (xMx p 2)) (z_nwD D n) (n + 2) := by
  rw [xMx_2 hp.1]
  intro q hq
  by_cases e : q = 78 + n
  · subst e
    have e1 : z_nwG G n c p (78 + n) = z_g0 c p := by unfold z_nwG; rw [if_pos rfl]
    rw [e1]
    exact ⟨show 0 ≤ (0 : Int32).toInt by decide, show (0 : Int32).toInt ≤ 3 by decide, hp⟩
  · have h1 : ¬ q = 78 + n + 1 := by
      intro e1
      have := hq.1
      unfold z_nwD at this
      rw [if_neg e, if_pos e1] at this
      cases this
    have e1 : z_nwG G n c p q = G q := by unfold z_nwG; rw [if_neg e, if_neg h1]
    rw [e1]
    apply hi
    obtain ⟨a1, a2, a3, a4⟩ := hq
    unfold z_nwD at a1 a2
    rw [if_neg e, if_neg h1] at a1
    by_cases e2 : q + 1 = 78 + n
    · rw [if_pos e2] at a2; cases a2
    · rw [if_neg e2] at a2
      by_cases e3 : q + 1 = 78 + n + 1
      · exact absurd (by omega) e
      · rw [if_neg e3] at a2
        exact ⟨a1, a2, a3, by omega⟩
theorem z_kS_mono {D : Nat → Nat} {n q : Nat} (h : z_kS D n q) : z_kS (z_nwD D n) (n + 2) q := by
  obtain ⟨a1, a2, a3, a4⟩ := h
  unfold z_kS z_nwD
  rw [if_neg (by omega), if_neg (by omega), if_neg (by omega), if_neg (by omega)]
  exact ⟨a1, a2, a3, by omega⟩
theorem z_rS_mono {D : Nat → Nat} {n : Nat} {R : z_R} (h : z_rS D n R) : z_rS (z_nwD D n) (n + 2) R := fun i q e => z_kS_mono (h i q e)
set_option maxHeartbeats 8000000 in
set_option maxRecDepth 100000 in
theorem y88a (a b c p l : Int32) (h : xSg N T a b c p l = false) : RR S (d + 11) 88 0 [(0, .ref 0), (1, .int a), (2, .int b), (3, .int c), (4, .int p), (5, .int l)] [] (z_hp (N, W, T, G, J, P, St, Sq, Pt, E, Lt, Hd, D, n) m, z) Q = Q (some (.int (-1))) (z_hp (N, W, T, G, J, P, St, Sq, Pt, E, Lt, Hd, D, n) m, z) := by
  rcases z_ltc (T) (8) with ⟨a0, b0⟩ | ⟨a0, b0⟩
  · skip
    rcases z_bc (xPr N a b) with a1 | a1
    · skip
      rcases z_bc (xIn c 1 8) with a2 | a2
      · skip
        rcases z_bc (xPe N p) with a3 | a3
        · skip
          rcases z_bc (xIn l 1 200) with a4 | a4
          · skip
            simp only [xSg, a0, b0, a1, a2, a3, a4, if_true, if_false, ite_true, ite_false, Bool.false_eq_true, reduceCtorEq] at h
          · skip
            simp only [q88_0, q88_1, q88_4, r88_7, r88_9, q88_12, q88_13, q88_16, q88_17, q88_18, r88_21, q88_24, q88_25, r88_28, r88_31, r88_32, q88_33, q88_34, q88_36, r88_39, q88_42, r88_44, r88_45, q88_48, r88_51, r88_54, r88_55, q88_56, q88_57, q88_60, q88_61, q88_62, r88_63, q88_64, q88_67, q88_69, r88_72, r88_75, r88_77, r88_78, q88_81, q88_81i, q88_82, q88_83, q88_85, r88_88, r88_88n, r88_88f, q88_90, q88_91, q88_93, q88_94, q88_95, q88_97, q88_100, q88_101, q88_104, q88_106, r88_109, iI_s, gI_s, iJ_s, gJ_s, iA_r, iA_n, iA_f, gA_s, kc_s, ai_look_hit, ai_look_miss, ai_put_nil, ai_put_lt, ai_put_l1, ai_put_eq, ai_put_gt, ai_flt_nil, ai_flt_gt, cat_int, cat_ref, cat_null, cat_float, cat_long, ai_fld, ai_obj, ai_arr, ai_arq, ai_alen, ai_cno, Option.toList_some, Option.toList_none, Option.getD_some, Option.isSome_some, List.cons_append, List.nil_append, ai_sum_n, ai_sum_c, va_rf_s, va_rf_n, true_and, and_true, ne_eq, not_false_eq_true, not_true_eq_false, ↓reduceIte, not_or, reduceCtorEq, Nat.reduceAdd, Nat.reduceLT, Nat.reduceLeDiff, Nat.reduceEqDiff, Int32.reduceLT, Int32.reduceLE, Int32.reduceToNatClampNeg, Int32.reduceAdd, Int32.reduceSub, Int32.reduceMul, or_self, List.getElem?_cons_zero, List.getElem?_cons_succ, List.set_cons_zero, List.set_cons_succ, List.length_cons, List.length_nil, ai_put_si, ai_put_sr, ai_put_sn, ai_put_sf, eq_self, c10, c01, cm10, c0m, if_true, if_false, ite_true, ite_false, not_and, false_and, and_false, and_self, Classical.not_not, z_b_0, z_b_t, z_b_f, z_b_r, z_e0, z_e1, z_e2, z_e3, z_e4, z_e5, z_e6, z_e7, z_e8, z_e9, z_e10, z_e11, z_e12, z_e13, z_e14, z_e15, z_e16, z_e17, z_e18, z_e19, z_e20, z_e21, z_e22, z_e23, z_e24, z_e25, z_e26, z_e27, z_e28, z_e29, z_e30, z_e31, z_e32, z_e33, z_e34, z_e35, z_e36, z_e37, z_e38, z_e39, z_e40, z_e41, z_e42, z_e43, z_e44, z_w1_6, z_w1_7, z_w1_8, z_w1_9, z_w2, z_w3, z_w4, z_w5, z_w6, z_w7, z_w8_1, z_w8_2, z_w8_3, z_w8_4, z_w9_1, z_w10, z_w27_6, z_w27_7, z_w28, z_w30, z_w31, z_w40_7, z_w40_8, z_w41, z_w42, z_w43, z_w44, z_len, Bool.false_eq_true, y14, y109, y106, y110, a0, b0, a1, a2, a3, a4]
        · skip
          simp only [q88_0, q88_1, q88_4, r88_7, r88_9, q88_12, q88_13, q88_16, q88_17, q88_18, r88_21, q88_24, q88_25, r88_28, r88_31, r88_32, q88_33, q88_34, q88_36, r88_39, q88_42, r88_44, r88_45, q88_48, r88_51, r88_54, r88_55, q88_56, q88_57, q88_60, q88_61, q88_62, r88_63, q88_64, q88_67, q88_69, r88_72, r88_75, r88_77, r88_78, q88_81, q88_81i, q88_82, q88_83, q88_85, r88_88, r88_88n, r88_88f, q88_90, q88_91, q88_93, q88_94, q88_95, q88_97, q88_100, q88_101, q88_104, q88_106, r88_109, iI_s, gI_s, iJ_s, gJ_s, iA_r, iA_n, iA_f, gA_s, kc_s, ai_look_hit, ai_look_miss, ai_put_nil, ai_put_lt, ai_put_l1, ai_put_eq, ai_put_gt, ai_flt_nil, ai_flt_gt, cat_int, cat_ref, cat_null, cat_float, cat_long, ai_fld, ai_obj, ai_arr, ai_arq, ai_alen, ai_cno, Option.toList_some, Option.toList_none, Option.getD_some, Option.isSome_some, List.cons_append, List.nil_append, ai_sum_n, ai_sum_c, va_rf_s, va_rf_n, true_and, and_true, ne_eq, not_false_eq_true, not_true_eq_false, ↓reduceIte, not_or, reduceCtorEq, Nat.reduceAdd, Nat.reduceLT, Nat.reduceLeDiff, Nat.reduceEqDiff, Int32.reduceLT, Int32.reduceLE, Int32.reduceToNatClampNeg, Int32.reduceAdd, Int32.reduceSub, Int32.reduceMul, or_self, List.getElem?_cons_zero, List.getElem?_cons_succ, List.set_cons_zero, List.set_cons_succ, List.length_cons, List.length_nil, ai_put_si, ai_put_sr, ai_put_sn, ai_put_sf, eq_self, c10, c01, cm10, c0m, if_true, if_false, ite_true, ite_false, not_and, false_and, and_false, and_self, Classical.not_not, z_b_0, z_b_t, z_b_f, z_b_r, z_e0, z_e1, z_e2, z_e3, z_e4, z_e5, z_e6, z_e7, z_e8, z_e9, z_e10, z_e11, z_e12, z_e13, z_e14, z_e15, z_e16, z_e17, z_e18, z_e19, z_e20, z_e21, z_e22, z_e23, z_e24, z_e25, z_e26, z_e27, z_e28, z_e29, z_e30, z_e31, z_e32, z_e33, z_e34, z_e35, z_e36, z_e37, z_e38, z_e39, z_e40, z_e41, z_e42, z_e43, z_e44, z_w1_6, z_w1_7, z_w1_8, z_w1_9, z_w2, z_w3, z_w4, z_w5, z_w6, z_w7, z_w8_1, z_w8_2, z_w8_3, z_w8_4, z_w9_1, z_w10, z_w27_6, z_w27_7, z_w28, z_w30, z_w31, z_w40_7, z_w40_8, z_w41, z_w42, z_w43, z_w44, z_len, Bool.false_eq_true, y14, y109, y106, y110, a0, b0, a1, a2, a3]
      · skip
        simp only [q88_0, q88_1, q88_4, r88_7, r88_9, q88_12, q88_13, q88_16, q88_17, q88_18, r88_21, q88_24, q88_25, r88_28, r88_31, r88_32, q88_33, q88_34, q88_36, r88_39, q88_42, r88_44, r88_45, q88_48, r88_51, r88_54, r88_55, q88_56, q88_57, q88_60, q88_61, q88_62, r88_63, q88_64, q88_67, q88_69, r88_72, r88_75, r88_77, r88_78, q88_81, q88_81i, q88_82, q88_83, q88_85, r88_88, r88_88n, r88_88f, q88_90, q88_91, q88_93, q88_94, q88_95, q88_97, q88_100, q88_101, q88_104, q88_106, r88_109, iI_s, gI_s, iJ_s, gJ_s, iA_r, iA_n, iA_f, gA_s, kc_s, ai_look_hit, ai_look_miss, ai_put_nil, ai_put_lt, ai_put_l1, ai_put_eq, ai_put_gt, ai_flt_nil, ai_flt_gt, cat_int, cat_ref, cat_null, cat_float, cat_long, ai_fld, ai_obj, ai_arr, ai_arq, ai_alen, ai_cno, Option.toList_some, Option.toList_none, Option.getD_some, Option.isSome_some, List.cons_append, List.nil_append, ai_sum_n, ai_sum_c, va_rf_s, va_rf_n, true_and, and_true, ne_eq, not_false_eq_true, not_true_eq_false, ↓reduceIte, not_or, reduceCtorEq, Nat.reduceAdd, Nat.reduceLT, Nat.reduceLeDiff, Nat.reduceEqDiff, Int32.reduceLT, Int32.reduceLE, Int32.reduceToNatClampNeg, Int32.reduceAdd, Int32.reduceSub, Int32.reduceMul, or_self, List.getElem?_cons_zero, List.getElem?_cons_succ, List.set_cons_zero, List.set_cons_succ, List.length_cons, List.length_nil, ai_put_si, ai_put_sr, ai_put_sn, ai_put_sf, eq_self, c10, c01, cm10, c0m, if_true, if_false, ite_true, ite_false, not_and, false_and, and_false, and_self, Classical.not_not, z_b_0, z_b_t, z_b_f, z_b_r, z_e0, z_e1, z_e2, z_e3, z_e4, z_e5, z_e6, z_e7, z_e8, z_e9, z_e10, z_e11, z_e12, z_e13, z_e14, z_e15, z_e16, z_e17, z_e18, z_e19, z_e20, z_e21, z_e22, z_e23, z_e24, z_e25, z_e26, z_e27, z_e28, z_e29, z_e30, z_e31, z_e32, z_e33, z_e34, z_e35, z_e36, z_e37, z_e38, z_e39, z_e40, z_e41, z_e42, z_e43, z_e44, z_w1_6, z_w1_7, z_w1_8, z_w1_9, z_w2, z_w3, z_w4, z_w5, z_w6, z_w7, z_w8_1, z_w8_2, z_w8_3, z_w8_4, z_w9_1, z_w10, z_w27_6, z_w27_7, z_w28, z_w30, z_w31, z_w40_7, z_w40_8, z_w41, z_w42, z_w43, z_w44, z_len, Bool.false_eq_true, y14, y109, y106, y110, a0, b0, a1, a2]
    · skip
      simp only [q88_0, q88_1, q88_4, r88_7, r88_9, q88_12, q88_13, q88_16, q88_17, q88_18, r88_21, q88_24, q88_25, r88_28, r88_31, r88_32, q88_33, q88_34, q88_36, r88_39, q88_42, r88_44, r88_45, q88_48, r88_51, r88_54, r88_55, q88_56, q88_57, q88_60, q88_61, q88_62, r88_63, q88_64, q88_67, q88_69, r88_72, r88_75, r88_77, r88_78, q88_81, q88_81i, q88_82, q88_83, q88_85, r88_88, r88_88n, r88_88f, q88_90, q88_91, q88_93, q88_94, q88_95, q88_97, q88_100, q88_101, q88_104, q88_106, r88_109, iI_s, gI_s, iJ_s, gJ_s, iA_r, iA_n, iA_f, gA_s, kc_s, ai_look_hit, ai_look_miss, ai_put_nil, ai_put_lt, ai_put_l1, ai_put_eq, ai_put_gt, ai_flt_nil, ai_flt_gt, cat_int, cat_ref, cat_null, cat_float, cat_long, ai_fld, ai_obj, ai_arr, ai_arq, ai_alen, ai_cno, Option.toList_some, Option.toList_none, Option.getD_some, Option.isSome_some, List.cons_append, List.nil_append, ai_sum_n, ai_sum_c, va_rf_s, va_rf_n, true_and, and_true, ne_eq, not_false_eq_true, not_true_eq_false, ↓reduceIte, not_or, reduceCtorEq, Nat.reduceAdd, Nat.reduceLT, Nat.reduceLeDiff, Nat.reduceEqDiff, Int32.reduceLT, Int32.reduceLE, Int32.reduceToNatClampNeg, Int32.reduceAdd, Int32.reduceSub, Int32.reduceMul, or_self, List.getElem?_cons_zero, List.getElem?_cons_succ, List.set_cons_zero, List.set_cons_succ, List.length_cons, List.length_nil, ai_put_si, ai_put_sr, ai_put_sn, ai_put_sf, eq_self, c10, c01, cm10, c0m, if_true, if_false, ite_true, ite_false, not_and, false_and, and_false, and_self, Classical.not_not, z_b_0, z_b_t, z_b_f, z_b_r, z_e0, z_e1, z_e2, z_e3, z_e4, z_e5, z_e6, z_e7, z_e8, z_e9, z_e10, z_e11, z_e12, z_e13, z_e14, z_e15, z_e16, z_e17, z_e18, z_e19, z_e20, z_e21, z_e22, z_e23, z_e24, z_e25, z_e26, z_e27, z_e28, z_e29, z_e30, z_e31, z_e32, z_e33, z_e34, z_e35, z_e36, z_e37, z_e38, z_e39, z_e40, z_e41, z_e42, z_e43, z_e44, z_w1_6, z_w1_7, z_w1_8, z_w1_9, z_w2, z_w3, z_w4, z_w5, z_w6, z_w7, z_w8_1, z_w8_2, z_w8_3, z_w8_4, z_w9_1, z_w10, z_w27_6, z_w27_7, z_w28, z_w30, z_w31, z_w40_7, z_w40_8, z_w41, z_w42, z_w43, z_w44, z_len, Bool.false_eq_true, y14, y109, y106, y110, a0, b0, a1]
  · skip
    simp only [q88_0, q88_1, q88_4, r88_7, r88_9, q88_12, q88_13, q88_16, q88_17, q88_18, r88_21, q88_24, q88_25, r88_28, r88_31, r88_32, q88_33, q88_34, q88_36, r88_39, q88_42, r88_44, r88_45, q88_48, r88_51, r88_54, r88_55, q88_56, q88_57, q88_60, q88_61, q88_62, r88_63, q88_64, q88_67, q88_69, r88_72, r88_75, r88_77, r88_78, q88_81, q88_81i, q88_82, q88_83, q88_85, r88_88, r88_88n, r88_88f, q88_90, q88_91, q88_93, q88_94, q88_95, q88_97, q88_100, q88_101, q88_104, q88_106, r88_109, iI_s, gI_s, iJ_s, gJ_s, iA_r, iA_n, iA_f, gA_s, kc_s, ai_look_hit, ai_look_miss, ai_put_nil, ai_put_lt, ai_put_l1, ai_put_eq, ai_put_gt, ai_flt_nil, ai_flt_gt, cat_int, cat_ref, cat_null, cat_float, cat_long, ai_fld, ai_obj, ai_arr, ai_arq, ai_alen, ai_cno, Option.toList_some, Option.toList_none, Option.getD_some, Option.isSome_some, List.cons_append, List.nil_append, ai_sum_n, ai_sum_c, va_rf_s, va_rf_n, true_and, and_true, ne_eq, not_false_eq_true, not_true_eq_false, ↓reduceIte, not_or, reduceCtorEq, Nat.reduceAdd, Nat.reduceLT, Nat.reduceLeDiff, Nat.reduceEqDiff, Int32.reduceLT, Int32.reduceLE, Int32.reduceToNatClampNeg, Int32.reduceAdd, Int32.reduceSub, Int32.reduceMul, or_self, List.getElem?_cons_zero, List.getElem?_cons_succ, List.set_cons_zero, List.set_cons_succ, List.length_cons, List.length_nil, ai_put_si, ai_put_sr, ai_put_sn, ai_put_sf, eq_self, c10, c01, cm10, c0m, if_true, if_false, ite_true, ite_false, not_and, false_and, and_false, and_self, Classical.not_not, z_b_0, z_b_t, z_b_f, z_b_r, z_e0, z_e1, z_e2, z_e3, z_e4, z_e5, z_e6, z_e7, z_e8, z_e9, z_e10, z_e11, z_e12, z_e13, z_e14, z_e15, z_e16, z_e17, z_e18, z_e19, z_e20, z_e21, z_e22, z_e23, z_e24, z_e25, z_e26, z_e27, z_e28, z_e29, z_e30, z_e31, z_e32, z_e33, z_e34, z_e35, z_e36, z_e37, z_e38, z_e39, z_e40, z_e41, z_e42, z_e43, z_e44, z_w1_6, z_w1_7, z_w1_8, z_w1_9, z_w2, z_w3, z_w4, z_w5, z_w6, z_w7, z_w8_1, z_w8_2, z_w8_3, z_w8_4, z_w9_1, z_w10, z_w27_6, z_w27_7, z_w28, z_w30, z_w31, z_w40_7, z_w40_8, z_w41, z_w42, z_w43, z_w44, z_len, Bool.false_eq_true, y14, y109, y106, y110, a0, b0]
set_option maxHeartbeats 8000000 in
set_option maxRecDepth 100000 in
theorem y88b (hr : z_RN N) (a b c p l : Int32) (h : xSg N T a b c p l = true) (h2 : xLt (xNb N a b c (-1) W 4) l = false) : RR S (d + 11) 88 0 [(0, .ref 0), (1, .int a), (2, .int b), (3, .int c), (4, .int p), (5, .int l)] [] (z_hp (N, W, T, G, J, P, St, Sq, Pt, E, Lt, Hd, D, n) m, z) Q = Q (some (.int (-2))) (z_hp (N, xNb N a b c (-1) W, T, G, J, P, St, Sq, Pt, E, Lt, Hd, D, n) m, z) := by
  rcases z_ltc (T) (8) with ⟨a0, b0⟩ | ⟨a0, b0⟩
  · skip
    rcases z_bc (xPr N a b) with a1 | a1
    · skip
      rcases z_bc (xIn c 1 8) with a2 | a2
      · skip
        rcases z_bc (xPe N p) with a3 | a3
        · skip
          rcases z_bc (xIn l 1 200) with a4 | a4
          · skip
            simp only [q88_0, q88_1, q88_4, r88_7, r88_9, q88_12, q88_13, q88_16, q88_17, q88_18, r88_21, q88_24, q88_25, r88_28, r88_31, r88_32, q88_33, q88_34, q88_36, r88_39, q88_42, r88_44, r88_45, q88_48, r88_51, r88_54, r88_55, q88_56, q88_57, q88_60, q88_61, q88_62, r88_63, q88_64, q88_67, q88_69, r88_72, r88_75, r88_77, r88_78, q88_81, q88_81i, q88_82, q88_83, q88_85, r88_88, r88_88n, r88_88f, q88_90, q88_91, q88_93, q88_94, q88_95, q88_97, q88_100, q88_101, q88_104, q88_106, r88_109, iI_s, gI_s, iJ_s, gJ_s, iA_r, iA_n, iA_f, gA_s, kc_s, ai_look_hit, ai_look_miss, ai_put_nil, ai_put_lt, ai_put_l1, ai_put_eq, ai_put_gt, ai_flt_nil, ai_flt_gt, cat_int, cat_ref, cat_null, cat_float, cat_long, ai_fld, ai_obj, ai_arr, ai_arq, ai_alen, ai_cno, Option.toList_some, Option.toList_none, Option.getD_some, Option.isSome_some, List.cons_append, List.nil_append, ai_sum_n, ai_sum_c, va_rf_s, va_rf_n, true_and, and_true, ne_eq, not_false_eq_true, not_true_eq_false, ↓reduceIte, not_or, reduceCtorEq, Nat.reduceAdd, Nat.reduceLT, Nat.reduceLeDiff, Nat.reduceEqDiff, Int32.reduceLT, Int32.reduceLE, Int32.reduceToNatClampNeg, Int32.reduceAdd, Int32.reduceSub, Int32.reduceMul, or_self, List.getElem?_cons_zero, List.getElem?_cons_succ, List.set_cons_zero, List.set_cons_succ, List.length_cons, List.length_nil, ai_put_si, ai_put_sr, ai_put_sn, ai_put_sf, eq_self, c10, c01, cm10, c0m, if_true, if_false, ite_true, ite_false, not_and, false_and, and_false, and_self, Classical.not_not, z_b_0, z_b_t, z_b_f, z_b_r, z_e0, z_e1, z_e2, z_e3, z_e4, z_e5, z_e6, z_e7, z_e8, z_e9, z_e10, z_e11, z_e12, z_e13, z_e14, z_e15, z_e16, z_e17, z_e18, z_e19, z_e20, z_e21, z_e22, z_e23, z_e24, z_e25, z_e26, z_e27, z_e28, z_e29, z_e30, z_e31, z_e32, z_e33, z_e34, z_e35, z_e36, z_e37, z_e38, z_e39, z_e40, z_e41, z_e42, z_e43, z_e44, z_w1_6, z_w1_7, z_w1_8, z_w1_9, z_w2, z_w3, z_w4, z_w5, z_w6, z_w7, z_w8_1, z_w8_2, z_w8_3, z_w8_4, z_w9_1, z_w10, z_w27_6, z_w27_7, z_w28, z_w30, z_w31, z_w40_7, z_w40_8, z_w41, z_w42, z_w43, z_w44, z_len, Bool.false_eq_true, y14, y109, y106, y110, y79 hr, y107, h2, a0, b0, a1, a2, a3, a4]
          · skip
            simp only [xSg, a0, b0, a1, a2, a3, a4, if_true, if_false, ite_true, ite_false, Bool.false_eq_true, reduceCtorEq] at h
        · skip
          simp only [xSg, a0, b0, a1, a2, a3, if_true, if_false, ite_true, ite_false, Bool.false_eq_true, reduceCtorEq] at h
      · skip
        simp only [xSg, a0, b0, a1, a2, if_true, if_false, ite_true, ite_false, Bool.false_eq_true, reduceCtorEq] at h
    · skip
      simp only [xSg, a0, b0, a1, if_true, if_false, ite_true, ite_false, Bool.false_eq_true, reduceCtorEq] at h
  · skip
    simp only [xSg, a0, b0, if_true, if_false, ite_true, ite_false, Bool.false_eq_true, reduceCtorEq] at h
set_option maxHeartbeats 8000000 in
set_option maxRecDepth 100000 in
theorem y88c (hr : z_RN N) (hT : z_RT T) (hi : z_IS G D n) (a b c p l : Int32) (h : xSg N T a b c p l = true) (h2 : xLt (xNb N a b c (-1) W 4) l = true) : RR S (d + 11) 88 0 [(0, .ref 0), (1, .int a), (2, .int b), (3, .int c), (4, .int p), (5, .int l)] [] (z_hp (N, W, T, G, J, P, St, Sq, Pt, E, Lt, Hd, D, n) m, z) Q = Q (some (.int (T + 1 - 1))) (z_hp (N, (xSG N n W G a b c p l).2, (T + 1), (xSG N n W G a b c p l).1, J, P, va_up St T.toNatClampNeg (some (78 + n)), Sq, Pt, E, Lt, Hd, z_nwD D n, n + 2) m, z + 6 + 3) := by
  rcases z_ltc (T) (8) with ⟨a0, b0⟩ | ⟨a0, b0⟩
  · skip
    rcases z_bc (xPr N a b) with a1 | a1
    · skip
      rcases z_bc (xIn c 1 8) with a2 | a2
      · skip
        rcases z_bc (xPe N p) with a3 | a3
        · skip
          rcases z_bc (xIn l 1 200) with a4 | a4
          · skip
            have hp := xPe_s hr a3
            have hi2 := z_IS_new (c := c) hi hp
            have hi3 := xFch_IS (N := N) (a := a) (b := b) (lat := l) z_kn 4 0 (xNb N a b (z_nwG G n c (xMx p 2) (78 + n) 0) (-1) (xNb N a b c (-1) W) 4) _ (xNb N a b (z_nwG G n c (xMx p 2) (78 + n) 0) (-1) (xNb N a b c (-1) W)) hi2
            unfold xSG
            simp only [q88_0, q88_1, q88_4, r88_7, r88_9, q88_12, q88_13, q88_16, q88_17, q88_18, r88_21, q88_24, q88_25, r88_28, r88_31, r88_32, q88_33, q88_34, q88_36, r88_39, q88_42, r88_44, r88_45, q88_48, r88_51, r88_54, r88_55, q88_56, q88_57, q88_60, q88_61, q88_62, r88_63, q88_64, q88_67, q88_69, r88_72, r88_75, r88_77, r88_78, q88_81, q88_81i, q88_82, q88_83, q88_85, r88_88, r88_88n, r88_88f, q88_90, q88_91, q88_93, q88_94, q88_95, q88_97, q88_100, q88_101, q88_104, q88_106, r88_109, iI_s, gI_s, iJ_s, gJ_s, iA_r, iA_n, iA_f, gA_s, kc_s, ai_look_hit, ai_look_miss, ai_put_nil, ai_put_lt, ai_put_l1, ai_put_eq, ai_put_gt, ai_flt_nil, ai_flt_gt, cat_int, cat_ref, cat_null, cat_float, cat_long, ai_fld, ai_obj, ai_arr, ai_arq, ai_alen, ai_cno, Option.toList_some, Option.toList_none, Option.getD_some, Option.isSome_some, List.cons_append, List.nil_append, ai_sum_n, ai_sum_c, va_rf_s, va_rf_n, true_and, and_true, ne_eq, not_false_eq_true, not_true_eq_false, ↓reduceIte, not_or, reduceCtorEq, Nat.reduceAdd, Nat.reduceLT, Nat.reduceLeDiff, Nat.reduceEqDiff, Int32.reduceLT, Int32.reduceLE, Int32.reduceToNatClampNeg, Int32.reduceAdd, Int32.reduceSub, Int32.reduceMul, or_self, List.getElem?_cons_zero, List.getElem?_cons_succ, List.set_cons_zero, List.set_cons_succ, List.length_cons, List.length_nil, ai_put_si, ai_put_sr, ai_put_sn, ai_put_sf, eq_self, c10, c01, cm10, c0m, if_true, if_false, ite_true, ite_false, not_and, false_and, and_false, and_self, Classical.not_not, z_b_0, z_b_t, z_b_f, z_b_r, z_e0, z_e1, z_e2, z_e3, z_e4, z_e5, z_e6, z_e7, z_e8, z_e9, z_e10, z_e11, z_e12, z_e13, z_e14, z_e15, z_e16, z_e17, z_e18, z_e19, z_e20, z_e21, z_e22, z_e23, z_e24, z_e25, z_e26, z_e27, z_e28, z_e29, z_e30, z_e31, z_e32, z_e33, z_e34, z_e35, z_e36, z_e37, z_e38, z_e39, z_e40, z_e41, z_e42, z_e43, z_e44, z_w1_6, z_w1_7, z_w1_8, z_w1_9, z_w2, z_w3, z_w4, z_w5, z_w6, z_w7, z_w8_1, z_w8_2, z_w8_3, z_w8_4, z_w9_1, z_w10, z_w27_6, z_w27_7, z_w28, z_w30, z_w31, z_w40_7, z_w40_8, z_w41, z_w42, z_w43, z_w44, z_len, Bool.false_eq_true, y14, y109, y106, y110, y79 hr, y107, h2, z_len, y60, y105 hr hi2 z_kn, y65 hT.1 a0 z_kn, z_eS z_kn, z_a1, a0, b0, a1, a2, a3, a4]
          · skip
            simp only [xSg, a0, b0, a1, a2, a3, a4, if_true, if_false, ite_true, ite_false, Bool.false_eq_true, reduceCtorEq] at h
        · skip
          simp only [xSg, a0, b0, a1, a2, a3, if_true, if_false, ite_true, ite_false, Bool.false_eq_true, reduceCtorEq] at h
      · skip
        simp only [xSg, a0, b0, a1, a2, if_true, if_false, ite_true, ite_false, Bool.false_eq_true, reduceCtorEq] at h
    · skip
      simp only [xSg, a0, b0, a1, if_true, if_false, ite_true, ite_false, Bool.false_eq_true, reduceCtorEq] at h
  · skip
    simp only [xSg, a0, b0, if_true, if_false, ite_true, ite_false, Bool.false_eq_true, reduceCtorEq] at h
end Zg
