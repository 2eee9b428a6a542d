section Zg
variable {S : ai_S} {d z : Nat} {Q : Option Value → ai_H → Prop} {N G P E : z_A} {W : Nat → Int32} {T Pt : Int32} {J : Nat → Int64 × Int64} {St Sq Lt Hd : z_R} {D : Nat → Nat} {n : Nat} {A B C F U V : z_A} {x : z_X} {m : z_M}
set_option maxRecDepth 20000 in
theorem sv165 {L : ai_L} {st : List Value} {h : ai_H} {x : Int32} : RR S d 165 33 L (.int x :: st) h Q = if x = 0 then RR S d 165 136 L st h Q else if x = 1 then RR S d 165 159 L st h Q else if x = 2 then RR S d 165 212 L st h Q else if x = 3 then RR S d 165 235 L st h Q else if x = 4 then RR S d 165 258 L st h Q else if x = 5 then RR S d 165 321 L st h Q else if x = 6 then RR S d 165 384 L st h Q else if x = 7 then RR S d 165 407 L st h Q else if x = 8 then RR S d 165 420 L st h Q else if x = 9 then RR S d 165 433 L st h Q else if x = 10 then RR S d 165 446 L st h Q else if x = 11 then RR S d 165 479 L st h Q else if x = 12 then RR S d 165 492 L st h Q else if x = 13 then RR S d 165 525 L st h Q else if x = 14 then RR S d 165 568 L st h Q else if x = 15 then RR S d 165 601 L st h Q else if x = 16 then RR S d 165 634 L st h Q else if x = 17 then RR S d 165 687 L st h Q else if x = 18 then RR S d 165 730 L st h Q else if x = 19 then RR S d 165 773 L st h Q else if x = 20 then RR S d 165 806 L st h Q else if x = 21 then RR S d 165 829 L st h Q else RR S d 165 852 L st h Q := by
  rw [RR.ts (df := 819) (lo := 0) (hi' := 21) rfl (fun z => ([136, 159, 212, 235, 258, 321, 384, 407, 420, 433, 446, 479, 492, 525, 568, 601, 634, 687, 730, 773, 806, 829] : List Nat).getD (z - 0).toNat 852) 852 (by decide) (fun z hz => ?_)]
  · by_cases h0 : x = 0
    · subst h0; rw [if_neg (by decide)]; rfl
    by_cases h1 : x = 1
    · subst h1; rw [if_neg (by decide)]; rfl
    by_cases h2 : x = 2
    · subst h2; rw [if_neg (by decide)]; rfl
    by_cases h3 : x = 3
    · subst h3; rw [if_neg (by decide)]; rfl
    by_cases h4 : x = 4
    · subst h4; rw [if_neg (by decide)]; rfl
    by_cases h5 : x = 5
    · subst h5; rw [if_neg (by decide)]; rfl
    by_cases h6 : x = 6
    · subst h6; rw [if_neg (by decide)]; rfl
    by_cases h7 : x = 7
    · subst h7; rw [if_neg (by decide)]; rfl
    by_cases h8 : x = 8
    · subst h8; rw [if_neg (by decide)]; rfl
    by_cases h9 : x = 9
    · subst h9; rw [if_neg (by decide)]; rfl
    by_cases h10 : x = 10
    · subst h10; rw [if_neg (by decide)]; rfl
    by_cases h11 : x = 11
    · subst h11; rw [if_neg (by decide)]; rfl
    by_cases h12 : x = 12
    · subst h12; rw [if_neg (by decide)]; rfl
    by_cases h13 : x = 13
    · subst h13; rw [if_neg (by decide)]; rfl
    by_cases h14 : x = 14
    · subst h14; rw [if_neg (by decide)]; rfl
    by_cases h15 : x = 15
    · subst h15; rw [if_neg (by decide)]; rfl
    by_cases h16 : x = 16
    · subst h16; rw [if_neg (by decide)]; rfl
    by_cases h17 : x = 17
    · subst h17; rw [if_neg (by decide)]; rfl
    by_cases h18 : x = 18
    · subst h18; rw [if_neg (by decide)]; rfl
    by_cases h19 : x = 19
    · subst h19; rw [if_neg (by decide)]; rfl
    by_cases h20 : x = 20
    · subst h20; rw [if_neg (by decide)]; rfl
    by_cases h21 : x = 21
    · subst h21; rw [if_neg (by decide)]; rfl
    have hx : x.toInt < 0 ∨ 21 < x.toInt := by
      have n0 : ¬ x.toInt = 0 := fun e => h0 (Int32.toInt_inj.mp (e.trans (by decide)))
      have n1 : ¬ x.toInt = 1 := fun e => h1 (Int32.toInt_inj.mp (e.trans (by decide)))
      have n2 : ¬ x.toInt = 2 := fun e => h2 (Int32.toInt_inj.mp (e.trans (by decide)))
      have n3 : ¬ x.toInt = 3 := fun e => h3 (Int32.toInt_inj.mp (e.trans (by decide)))
      have n4 : ¬ x.toInt = 4 := fun e => h4 (Int32.toInt_inj.mp (e.trans (by decide)))
      have n5 : ¬ x.toInt = 5 := fun e => h5 (Int32.toInt_inj.mp (e.trans (by decide)))
      have n6 : ¬ x.toInt = 6 := fun e => h6 (Int32.toInt_inj.mp (e.trans (by decide)))
      have n7 : ¬ x.toInt = 7 := fun e => h7 (Int32.toInt_inj.mp (e.trans (by decide)))
      have n8 : ¬ x.toInt = 8 := fun e => h8 (Int32.toInt_inj.mp (e.trans (by decide)))
      have n9 : ¬ x.toInt = 9 := fun e => h9 (Int32.toInt_inj.mp (e.trans (by decide)))
      have n10 : ¬ x.toInt = 10 := fun e => h10 (Int32.toInt_inj.mp (e.trans (by decide)))
      have n11 : ¬ x.toInt = 11 := fun e => h11 (Int32.toInt_inj.mp (e.trans (by decide)))
      have n12 : ¬ x.toInt = 12 := fun e => h12 (Int32.toInt_inj.mp (e.trans (by decide)))
      have n13 : ¬ x.toInt = 13 := fun e => h13 (Int32.toInt_inj.mp (e.trans (by decide)))
      have n14 : ¬ x.toInt = 14 := fun e => h14 (Int32.toInt_inj.mp (e.trans (by decide)))
      have n15 : ¬ x.toInt = 15 := fun e => h15 (Int32.toInt_inj.mp (e.trans (by decide)))
      have n16 : ¬ x.toInt = 16 := fun e => h16 (Int32.toInt_inj.mp (e.trans (by decide)))
      have n17 : ¬ x.toInt = 17 := fun e => h17 (Int32.toInt_inj.mp (e.trans (by decide)))
      have n18 : ¬ x.toInt = 18 := fun e => h18 (Int32.toInt_inj.mp (e.trans (by decide)))
      have n19 : ¬ x.toInt = 19 := fun e => h19 (Int32.toInt_inj.mp (e.trans (by decide)))
      have n20 : ¬ x.toInt = 20 := fun e => h20 (Int32.toInt_inj.mp (e.trans (by decide)))
      have n21 : ¬ x.toInt = 21 := fun e => h21 (Int32.toInt_inj.mp (e.trans (by decide)))
      omega
    rw [if_pos hx, if_neg h0, if_neg h1, if_neg h2, if_neg h3, if_neg h4, if_neg h5, if_neg h6, if_neg h7, if_neg h8, if_neg h9, if_neg h10, if_neg h11, if_neg h12, if_neg h13, if_neg h14, if_neg h15, if_neg h16, if_neg h17, if_neg h18, if_neg h19, if_neg h20, if_neg h21]
  · rcases (by omega : z = 0 ∨ z = 1 ∨ z = 2 ∨ z = 3 ∨ z = 4 ∨ z = 5 ∨ z = 6 ∨ z = 7 ∨ z = 8 ∨ z = 9 ∨ z = 10 ∨ z = 11 ∨ z = 12 ∨ z = 13 ∨ z = 14 ∨ z = 15 ∨ z = 16 ∨ z = 17 ∨ z = 18 ∨ z = 19 ∨ z = 20 ∨ z = 21) with rfl | rfl | rfl | rfl | rfl | rfl | rfl | rfl | rfl | rfl | rfl | rfl | rfl | rfl | rfl | rfl | rfl | rfl | rfl | rfl | rfl | rfl
    · exact ⟨103, rfl, by decide⟩
    · exact ⟨126, rfl, by decide⟩
    · exact ⟨179, rfl, by decide⟩
    · exact ⟨202, rfl, by decide⟩
    · exact ⟨225, rfl, by decide⟩
    · exact ⟨288, rfl, by decide⟩
    · exact ⟨351, rfl, by decide⟩
    · exact ⟨374, rfl, by decide⟩
    · exact ⟨387, rfl, by decide⟩
    · exact ⟨400, rfl, by decide⟩
    · exact ⟨413, rfl, by decide⟩
    · exact ⟨446, rfl, by decide⟩
    · exact ⟨459, rfl, by decide⟩
    · exact ⟨492, rfl, by decide⟩
    · exact ⟨535, rfl, by decide⟩
    · exact ⟨568, rfl, by decide⟩
    · exact ⟨601, rfl, by decide⟩
    · exact ⟨654, rfl, by decide⟩
    · exact ⟨697, rfl, by decide⟩
    · exact ⟨740, rfl, by decide⟩
    · exact ⟨773, rfl, by decide⟩
    · exact ⟨796, rfl, by decide⟩
def z_n0 : z_A := fun p k => if p = 1 then if k = 8 then 12 else 0 else 0
def z_w0 : z_W := fun k => if k = 2 then 1 else if k = 3 then -1 else if k = 4 then -1 else 0
def z_a0' : z_A := fun p k => if p = 45 then if k = 8 then 12 else 0 else 0
def z_v0 : z_A := fun p k => if p = 45 then if k = 35 then 1 else 0 else 0
theorem z_h0 : ai_hF = z_hp (z_n0, z_w0, 0, fun _ _ => 0, fun _ => (0, 0), fun _ _ => 0, fun _ => none, fun _ => none, 0, fun _ _ => 0, fun _ => none, fun _ => none, fun _ => 0, 0) (z_a0', fun _ _ => 0, fun _ _ => 0, fun _ _ => 0, fun _ _ => 0, z_v0) := rfl
theorem z_n0r : z_RN z_n0 := by unfold z_RN; decide
theorem z_n0a : z_RA z_n0 := by
  have h : ∀ p k, p ≠ 1 → (z_n0 p k).toInt = 0 := fun p k hp => by unfold z_n0; rw [if_neg hp]; rfl
  refine ⟨fun k => ?_, fun k => ?_, fun k => ?_, fun k => ?_, fun k => ?_, fun k => ?_, by decide⟩ <;> rw [h _ _ (by decide)] <;> omega
theorem z_a0a : z_MA z_a0' := by
  have h : ∀ p k, p ≠ 45 → (z_a0' p k).toInt = 0 := fun p k hp => by unfold z_a0'; rw [if_neg hp]; rfl
  refine ⟨by decide, by decide, by decide, by decide, fun k => ?_, fun k => ?_, fun k => ?_, fun k => ?_, fun k => ?_, fun k => ?_⟩ <;> rw [h _ _ (by decide)] <;> omega
theorem z_IX0 : z_IX (z_n0, z_w0, 0, fun _ _ => 0, fun _ => (0, 0), fun _ _ => 0, fun _ => none, fun _ => none, 0, fun _ _ => 0, fun _ => none, fun _ => none, fun _ => 0, 0) := by
  refine ⟨z_n0r, z_n0a, by unfold z_RT; decide, fun i q e => (by cases e), fun i q e => (by cases e), fun q hq => ?_, by unfold z_RP; decide, fun i q e => (by cases e), fun i q e => (by cases e), fun q hq => ?_⟩
  · have := hq.1
    cases this
  · have := hq.1
    cases this
theorem z_IM0 : z_IM (z_a0', fun _ _ => 0, fun _ _ => 0, fun _ _ => 0, fun _ _ => 0, z_v0) := by
  have t : (0 : Int32).toInt = 0 := rfl
  refine ⟨z_a0a, ⟨by decide, fun k => by rw [t]; omega, fun k hk => ?_, fun k => by rw [t]; omega, fun k => by rw [t]; omega, fun k => by rw [t]; omega, fun k => by rw [t]; omega, fun k => by rw [t]; omega, fun k => Or.inl rfl, fun k c hk hc => ?_, fun k hk hn => absurd rfl hn⟩, by unfold z_TR; decide, ⟨fun k => by rw [t]; omega, fun k hk => ?_, fun k => by rw [t]; omega, by decide⟩, ⟨by decide, fun k => by rw [t]; omega, fun k => by rw [t]; omega, fun k => by rw [t]; omega⟩, fun k => ?_⟩
  · rw [t] at hk; omega
  · rw [t] at hk; omega
  · rw [t] at hk; omega
  · have e : z_v0 75 k = 0 := by unfold z_v0; rw [if_neg (by decide)]
    rw [e, t]; omega
/-- both as they begin -/
theorem z_RE0 : z_R3 (z_n0, z_w0, 0, fun _ _ => 0, fun _ => (0, 0), fun _ _ => 0, fun _ => none, fun _ => none, 0, fun _ _ => 0, fun _ => none, fun _ => none, fun _ => 0, 0) (z_a0', fun _ _ => 0, fun _ _ => 0, fun _ _ => 0, fun _ _ => 0, z_v0) := by
  have na : z_NA z_n0 z_a0' := ⟨rfl, rfl, rfl, rfl, fun k => rfl, fun k => rfl, fun k => rfl, fun k => rfl, fun k => rfl, fun k => rfl⟩
  have n7 : (z_n0 1 7).toInt = 0 := by decide
  have cc : z_Cc z_n0 6 := ⟨by decide, by decide, by decide, by decide⟩
  have hMB := z_IM0.2.1
  refine ⟨⟨na, fun k hk => ?_, rfl, rfl, fun j => (by show (0 : Int) ≤ Int32.toInt 0 ∧ Int32.toInt 0 ≤ 12; decide)⟩, fun k hk => ?_, rfl, 6, SS_0 (by decide) z_n0a z_n0r z_a0a hMB na cc rfl, ?_⟩
  · rw [n7] at hk; omega
  · rw [n7] at hk; omega
  · have e : Int32.toNatClampNeg 0 = 0 := by decide
    rw [e]
    exact L3_0 (by decide) (by decide) (fun w hw => rfl) (fun x hx => rfl)
/-- the relation of both, and the room -/
def z_LI : z_X → z_M → Nat → Int32 → Prop := fun ⟨N, W, T, G, J, P, St, Sq, Pt, E, Lt, Hd, D, n⟩ ⟨A, B, C, F, U, V⟩ z i => z_IX (N, W, T, G, J, P, St, Sq, Pt, E, Lt, Hd, D, n) ∧ z_IM (A, B, C, F, U, V) ∧ z_R3 (N, W, T, G, J, P, St, Sq, Pt, E, Lt, Hd, D, n) (A, B, C, F, U, V) ∧ 2 * (n : Int) ≤ i.toInt ∧ (z : Int) ≤ 6190 + 3 * i.toInt
theorem z_len6 {k : Nat} (h : k ≤ 3072) : (Int32.ofNat k - 6).toInt = (k : Int) - 6 := by
  have e : (Int32.ofNat k).toInt = (k : Int) := Int32.toInt_ofNat_of_lt (by omega)
  have t6 : Int32.toInt 6 = 6 := rfl
  rw [z_dif (by omega) (by omega) (by omega) (by omega), e, t6]
set_option maxHeartbeats 8000000 in
set_option maxRecDepth 100000 in
theorem law_loop {S : ai_S} (hS : S.1 ≤ 3072) : ∀ (k : Nat) (i : Int32) (X : z_X) (M : z_M) (z : Nat), 0 ≤ i.toInt → i.toInt ≤ 3072 → (3072 : Int) < i.toInt + 6 * (k : Int) → z_LI X M z i → RR S (d + 25) 165 18 [(0, .float 0), (1, .ref 0), (2, .ref 45), (3, .int i)] [] (z_hp X M, z) lawQ := by
  have e6 := z_len6 hS
  intro k
  induction k with
  | zero =>
    intro i X M z h0 h1 h2 hI
    exfalso; omega
  | succ k ih =>
    intro i X M z h0 h1 h2 hI
    have hI2 := hI
    obtain ⟨N, W, T, G, J, P, St, Sq, Pt, E, Lt, Hd, D, n⟩ := X
    obtain ⟨A, B, C, F, U, V⟩ := M
    obtain ⟨hX, hM, he, hn, hz⟩ := hI
    rcases z_ltc (Int32.ofNat S.1 - 6) i with ⟨a1, b1⟩ | ⟨a1, b1⟩
    · simp only [r165_858, r165_859f, r165_859t, q165_18, q165_19, q165_20, r165_20x, r165_21, r165_23, r165_24, q165_27, iI_s, gI_s, iJ_s, gJ_s, iA_r, iA_n, iA_f, gA_s, kc_s, ai_look_hit, ai_look_miss, ai_put_nil, ai_put_lt, ai_put_l1, ai_put_eq, ai_put_gt, ai_flt_nil, ai_flt_gt, cat_int, cat_ref, cat_null, cat_float, cat_long, ai_fld, ai_obj, ai_arr, ai_arq, ai_alen, ai_cno, Option.toList_some, Option.toList_none, Option.getD_some, Option.isSome_some, List.cons_append, List.nil_append, ai_sum_n, ai_sum_c, va_rf_s, va_rf_n, true_and, and_true, ne_eq, not_false_eq_true, not_true_eq_false, ↓reduceIte, not_or, reduceCtorEq, Nat.reduceAdd, Nat.reduceLT, Nat.reduceLeDiff, Nat.reduceEqDiff, Int32.reduceLT, Int32.reduceLE, Int32.reduceToNatClampNeg, Int32.reduceAdd, Int32.reduceSub, Int32.reduceMul, or_self, List.getElem?_cons_zero, List.getElem?_cons_succ, List.set_cons_zero, List.set_cons_succ, List.length_cons, List.length_nil, ai_put_si, ai_put_sr, ai_put_sn, ai_put_sf, eq_self, c10, c01, cm10, c0m, if_true, if_false, ite_true, ite_false, not_and, false_and, and_false, and_self, Classical.not_not, z_b_0, z_b_t, z_b_f, z_b_r, z_e0, z_e45, ext0, a1, b1]
      refine ⟨rfl, ?_, ?_⟩
      · show (z_hp (N, W, T, G, J, P, St, Sq, Pt, E, Lt, Hd, D, n) (A, B, C, F, U, V)).length ≤ 600000
        rw [z_len]; omega
      · show z ≤ 7302249
        omega
    · have a2 := z_geb a1
      have hs := z_SC0 (S := S) h0 (by omega) h1
      have e8 := z_sum (a := i) (b := 6) h0 (by omega) (by decide) (by decide)
      have t6 : Int32.toInt 6 = 6 := rfl
      have back : ∀ (X' : z_X) (M' : z_M) (z' : Nat), z_LI X' M' z' i ∨ z_LI X' M' z' (i + 6) → RR S (d + 25) 165 852 [(0, .float 0), (1, .ref 0), (2, .ref 45), (3, .int i)] [] (z_hp X' M', z') lawQ := by
        intro X' M' z' h
        have h' : z_LI X' M' z' (i + 6) := by
          rcases h with h | h
          · obtain ⟨N, W, T, G, J, P, St, Sq, Pt, E, Lt, Hd, D, n⟩ := X'
            obtain ⟨A, B, C, F, U, V⟩ := M'
            obtain ⟨g1, g2, g3, g4, g5⟩ := h
            exact ⟨g1, g2, g3, by omega, by omega⟩
          · exact h
        simp only [q165_852, r165_855, iI_s, gI_s, iJ_s, gJ_s, iA_r, iA_n, iA_f, gA_s, kc_s, ai_look_hit, ai_look_miss, ai_put_nil, ai_put_lt, ai_put_l1, ai_put_eq, ai_put_gt, ai_flt_nil, ai_flt_gt, cat_int, cat_ref, cat_null, cat_float, cat_long, ai_fld, ai_obj, ai_arr, ai_arq, ai_alen, ai_cno, Option.toList_some, Option.toList_none, Option.getD_some, Option.isSome_some, List.cons_append, List.nil_append, ai_sum_n, ai_sum_c, va_rf_s, va_rf_n, true_and, and_true, ne_eq, not_false_eq_true, not_true_eq_false, ↓reduceIte, not_or, reduceCtorEq, Nat.reduceAdd, Nat.reduceLT, Nat.reduceLeDiff, Nat.reduceEqDiff, Int32.reduceLT, Int32.reduceLE, Int32.reduceToNatClampNeg, Int32.reduceAdd, Int32.reduceSub, Int32.reduceMul, or_self, List.getElem?_cons_zero, List.getElem?_cons_succ, List.set_cons_zero, List.set_cons_succ, List.length_cons, List.length_nil, ai_put_si, ai_put_sr, ai_put_sn, ai_put_sf, eq_self, c10, c01, cm10, c0m, if_true, if_false, ite_true, ite_false, not_and, false_and, and_false, and_self, Classical.not_not, z_b_0, z_b_t, z_b_f, z_b_r]
        exact ih (i + 6) X' M' z' (by omega) (by omega) (by omega) h'
      have fwd : ∀ (X' : z_X) (M' : z_M) (z' : Nat), z_IX X' → z_IM M' → z_PX (N, W, T, G, J, P, St, Sq, Pt, E, Lt, Hd, D, n) z X' z' → z_R3 X' M' → RR S (d + 25) 165 852 [(0, .float 0), (1, .ref 0), (2, .ref 45), (3, .int i)] [] (z_hp X' M', z') lawQ := by
        intro X' M' z' g1 g2 g3 g4
        refine back X' M' z' (Or.inr ?_)
        obtain ⟨N', W', T', G', J', P', St', Sq', Pt', E', Lt', Hd', D', n'⟩ := X'
        obtain ⟨A', B', C', F', U', V'⟩ := M'
        obtain ⟨p1, p2⟩ := g3
        exact ⟨g1, g2, g4, by omega, by omega⟩
      obtain ⟨⟨u0, v0⟩, -⟩ := id hs
      simp only [q165_18, q165_19, q165_20, r165_20x, r165_21, r165_23, r165_24, q165_27, q165_28, q165_29, q165_29x, r165_30, r165_32, iI_s, gI_s, iJ_s, gJ_s, iA_r, iA_n, iA_f, gA_s, kc_s, ai_look_hit, ai_look_miss, ai_put_nil, ai_put_lt, ai_put_l1, ai_put_eq, ai_put_gt, ai_flt_nil, ai_flt_gt, cat_int, cat_ref, cat_null, cat_float, cat_long, ai_fld, ai_obj, ai_arr, ai_arq, ai_alen, ai_cno, Option.toList_some, Option.toList_none, Option.getD_some, Option.isSome_some, List.cons_append, List.nil_append, ai_sum_n, ai_sum_c, va_rf_s, va_rf_n, true_and, and_true, ne_eq, not_false_eq_true, not_true_eq_false, ↓reduceIte, not_or, reduceCtorEq, Nat.reduceAdd, Nat.reduceLT, Nat.reduceLeDiff, Nat.reduceEqDiff, Int32.reduceLT, Int32.reduceLE, Int32.reduceToNatClampNeg, Int32.reduceAdd, Int32.reduceSub, Int32.reduceMul, or_self, List.getElem?_cons_zero, List.getElem?_cons_succ, List.set_cons_zero, List.set_cons_succ, List.length_cons, List.length_nil, ai_put_si, ai_put_sr, ai_put_sn, ai_put_sf, eq_self, c10, c01, cm10, c0m, if_true, if_false, ite_true, ite_false, not_and, false_and, and_false, and_self, Classical.not_not, z_b_0, z_b_t, z_b_f, z_b_r, z_e0, z_e45, ext0, a1, b1, u0, v0]
      rcases z_eqc (S.2 i.toNatClampNeg &&& 31) 0 with c0 | c0
      · simp only [sv165, c0, if_true, if_false, ite_true, ite_false]
        exact lw0 hs hX hM (fun v v' X' M' z' g1 g2 g3 hx hm => fwd X' M' z' g1 g2 g3 (j3_0 hX hM g1 g2 he _ hx hm).1)
      rcases z_eqc (S.2 i.toNatClampNeg &&& 31) 1 with c1 | c1
      · simp only [sv165, c0, c1, if_true, if_false, ite_true, ite_false]
        exact lw1 hs hX hM (fun v v' X' M' z' g1 g2 g3 hx hm => fwd X' M' z' g1 g2 g3 (j3_1 hX hM g1 g2 he _ _ _ _ hx hm).1)
      rcases z_eqc (S.2 i.toNatClampNeg &&& 31) 2 with c2 | c2
      · simp only [sv165, c0, c1, c2, if_true, if_false, ite_true, ite_false]
        exact lw2 hs hX hM (fun v v' X' M' z' g1 g2 g3 hx hm => fwd X' M' z' g1 g2 g3 (j3_2 hX hM g1 g2 he _ hx hm).1)
      rcases z_eqc (S.2 i.toNatClampNeg &&& 31) 3 with c3 | c3
      · simp only [sv165, c0, c1, c2, c3, if_true, if_false, ite_true, ite_false]
        exact lw3 hs hX hM (fun v v' X' M' z' g1 g2 g3 hx hm => fwd X' M' z' g1 g2 g3 (j3_3 hX hM g1 g2 he _ hx hm).1)
      rcases z_eqc (S.2 i.toNatClampNeg &&& 31) 4 with c4 | c4
      · simp only [sv165, c0, c1, c2, c3, c4, if_true, if_false, ite_true, ite_false]
        exact lw4 hs hX hM (fun v v' X' M' z' g1 g2 g3 hx hm => fwd X' M' z' g1 g2 g3 (j3_4 hX hM g1 g2 he _ _ _ _ _ hx hm).1)
      rcases z_eqc (S.2 i.toNatClampNeg &&& 31) 5 with c5 | c5
      · simp only [sv165, c0, c1, c2, c3, c4, c5, if_true, if_false, ite_true, ite_false]
        exact lw5 hs hX hM (fun v v' X' M' z' g1 g2 g3 hx hm => fwd X' M' z' g1 g2 g3 (j3_5 hX hM g1 g2 he _ _ _ _ _ hx hm).1)
      rcases z_eqc (S.2 i.toNatClampNeg &&& 31) 6 with c6 | c6
      · simp only [sv165, c0, c1, c2, c3, c4, c5, c6, if_true, if_false, ite_true, ite_false]
        exact lw6 hs hX hM (fun v v' X' M' z' g1 g2 g3 hx hm => fwd X' M' z' g1 g2 g3 (j3_6 hX hM g1 g2 he _ hx hm).1)
      rcases z_eqc (S.2 i.toNatClampNeg &&& 31) 7 with c7 | c7
      · simp only [sv165, c0, c1, c2, c3, c4, c5, c6, c7, if_true, if_false, ite_true, ite_false]
        exact lw7 hs hX hM (fun v v' X' M' z' g1 g2 g3 hx hm => fwd X' M' z' g1 g2 g3 (j3_7 hX hM g1 g2 he  hx hm).1)
      rcases z_eqc (S.2 i.toNatClampNeg &&& 31) 8 with c8 | c8
      · simp only [sv165, c0, c1, c2, c3, c4, c5, c6, c7, c8, if_true, if_false, ite_true, ite_false]
        exact lw8 hs hX hM (fun v v' X' M' z' g1 g2 g3 hx hm => fwd X' M' z' g1 g2 g3 (j3_8 hX hM g1 g2 he  hx hm).1)
      rcases z_eqc (S.2 i.toNatClampNeg &&& 31) 9 with c9 | c9
      · simp only [sv165, c0, c1, c2, c3, c4, c5, c6, c7, c8, c9, if_true, if_false, ite_true, ite_false]
        exact lw9 hs hX hM (fun v v' X' M' z' g1 g2 g3 hx hm => fwd X' M' z' g1 g2 g3 (j3_9 hX hM g1 g2 he  hx hm).1)
      rcases z_eqc (S.2 i.toNatClampNeg &&& 31) 10 with c10 | c10
      · simp only [sv165, c0, c1, c2, c3, c4, c5, c6, c7, c8, c9, c10, if_true, if_false, ite_true, ite_false]
        exact lw10 hs hX hM (fun v v' X' M' z' g1 g2 g3 hx hm => fwd X' M' z' g1 g2 g3 (j3_10 hX hM g1 g2 he _ _ hx hm).1)
      rcases z_eqc (S.2 i.toNatClampNeg &&& 31) 11 with c11 | c11
      · simp only [sv165, c0, c1, c2, c3, c4, c5, c6, c7, c8, c9, c10, c11, if_true, if_false, ite_true, ite_false]
        exact lw11 hs hX hM (fun v v' X' M' z' g1 g2 g3 hx hm => fwd X' M' z' g1 g2 g3 (j3_11 hX hM g1 g2 he  hx hm).1)
      rcases z_eqc (S.2 i.toNatClampNeg &&& 31) 12 with c12 | c12
      · simp only [sv165, c0, c1, c2, c3, c4, c5, c6, c7, c8, c9, c10, c11, c12, if_true, if_false, ite_true, ite_false]
        exact lw12 hs hX hM (fun v v' X' M' z' g1 g2 g3 hx hm => fwd X' M' z' g1 g2 g3 (j3_12 hX hM g1 g2 he _ _ hx hm).1)
      rcases z_eqc (S.2 i.toNatClampNeg &&& 31) 13 with c13 | c13
      · simp only [sv165, c0, c1, c2, c3, c4, c5, c6, c7, c8, c9, c10, c11, c12, c13, if_true, if_false, ite_true, ite_false]
        exact lw13 hs hX hM (fun v v' X' M' z' g1 g2 g3 hx hm => fwd X' M' z' g1 g2 g3 (j3_13 hX hM g1 g2 he _ _ _ hx hm).1)
      rcases z_eqc (S.2 i.toNatClampNeg &&& 31) 14 with c14 | c14
      · simp only [sv165, c0, c1, c2, c3, c4, c5, c6, c7, c8, c9, c10, c11, c12, c13, c14, if_true, if_false, ite_true, ite_false]
        exact lw14 hs hX hM (fun v v' X' M' z' g1 g2 g3 hx hm => fwd X' M' z' g1 g2 g3 (j3_14 hX hM g1 g2 he _ _ hx hm).1)
      rcases z_eqc (S.2 i.toNatClampNeg &&& 31) 15 with c15 | c15
      · simp only [sv165, c0, c1, c2, c3, c4, c5, c6, c7, c8, c9, c10, c11, c12, c13, c14, c15, if_true, if_false, ite_true, ite_false]
        exact lw15 hs hX hM (fun v v' X' M' z' g1 g2 g3 hx hm => fwd X' M' z' g1 g2 g3 (j3_15 hX hM g1 g2 he _ _ hx hm).1)
      rcases z_eqc (S.2 i.toNatClampNeg &&& 31) 16 with c16 | c16
      · simp only [sv165, c0, c1, c2, c3, c4, c5, c6, c7, c8, c9, c10, c11, c12, c13, c14, c15, c16, if_true, if_false, ite_true, ite_false]
        exact lw16 hs hX hM (fun v v' X' M' z' g1 g2 g3 hx hm => fwd X' M' z' g1 g2 g3 (j3_16 hX hM g1 g2 he _ _ _ _ hx hm).1)
      rcases z_eqc (S.2 i.toNatClampNeg &&& 31) 17 with c17 | c17
      · simp only [sv165, c0, c1, c2, c3, c4, c5, c6, c7, c8, c9, c10, c11, c12, c13, c14, c15, c16, c17, if_true, if_false, ite_true, ite_false]
        exact lw17 hs hX hM (fun v v' X' M' z' g1 g2 g3 hx hm => fwd X' M' z' g1 g2 g3 (j3_17 hX hM g1 g2 he _ _ _ hx hm).1)
      rcases z_eqc (S.2 i.toNatClampNeg &&& 31) 18 with c18 | c18
      · simp only [sv165, c0, c1, c2, c3, c4, c5, c6, c7, c8, c9, c10, c11, c12, c13, c14, c15, c16, c17, c18, if_true, if_false, ite_true, ite_false]
        exact lw18 hs hX hM (fun v v' X' M' g1 g2 hx hm => (j3_18 hX hM g1 g2 he _ _ _ hx hm).2) (fun v v' X' M' z' g1 g2 g3 hx hm => fwd X' M' z' g1 g2 g3 (j3_18 hX hM g1 g2 he _ _ _ hx hm).1)
      rcases z_eqc (S.2 i.toNatClampNeg &&& 31) 19 with c19 | c19
      · simp only [sv165, c0, c1, c2, c3, c4, c5, c6, c7, c8, c9, c10, c11, c12, c13, c14, c15, c16, c17, c18, c19, if_true, if_false, ite_true, ite_false]
        exact lw19 hs hX hM (fun v v' X' M' z' g1 g2 g3 hx hm => fwd X' M' z' g1 g2 g3 (j3_19 he hx hm))
      rcases z_eqc (S.2 i.toNatClampNeg &&& 31) 20 with c20 | c20
      · simp only [sv165, c0, c1, c2, c3, c4, c5, c6, c7, c8, c9, c10, c11, c12, c13, c14, c15, c16, c17, c18, c19, c20, if_true, if_false, ite_true, ite_false]
        exact lw20 hs hX hM (fun v v' X' M' z' g1 g2 g3 hx hm => fwd X' M' z' g1 g2 g3 (j3_20 he hx hm))
      rcases z_eqc (S.2 i.toNatClampNeg &&& 31) 21 with c21 | c21
      · simp only [sv165, c0, c1, c2, c3, c4, c5, c6, c7, c8, c9, c10, c11, c12, c13, c14, c15, c16, c17, c18, c19, c20, c21, if_true, if_false, ite_true, ite_false]
        exact lw21 hs hX hM (fun v v' X' M' z' g1 g2 g3 hx hm => fwd X' M' z' g1 g2 g3 (j3_21 he hx hm))
      simp only [sv165, c0, c1, c2, c3, c4, c5, c6, c7, c8, c9, c10, c11, c12, c13, c14, c15, c16, c17, c18, c19, c20, c21, if_false, ite_false]
      exact back _ _ _ (Or.inl hI2)
set_option maxHeartbeats 8000000 in
set_option maxRecDepth 100000 in
theorem p20_law {S : ai_S} (hS : S.1 ≤ 3072) : RR S 30 165 0 [(0, .float 0)] [] ([], 0) lawQ := by
  rw [law_init, z_h0]
  exact law_loop (d := 5) hS 600 0 _ _ 6190 (by decide) (by decide) (by decide) ⟨z_IX0, z_IM0, z_RE0, by decide, by decide⟩
end Zg
