theorem ai_gr0 {h : ai_H} {a : Nat} {b : ai_L} {c : List Value} {x : ai_Y} (e : x = (a, b, c, h)) : h.1.length ≤ x.2.2.2.1.length ∧ h.2 ≤ x.2.2.2.2 := by subst e; exact ⟨Nat.le_refl _, Nat.le_refl _⟩
theorem ai_gr1 {h : ai_H} {h' : List ai_C} {a : Nat} {b : ai_L} {c : List Value} {x : ai_Y} (e : x = (a, b, c, (h', h.2))) (e2 : h'.length = h.1.length) : h.1.length ≤ x.2.2.2.1.length ∧ h.2 ≤ x.2.2.2.2 := by subst e; exact ⟨Nat.le_of_eq e2.symm, Nat.le_refl _⟩
set_option maxHeartbeats 4000000 in
theorem ai_do_grow {S : ai_S} {mn pc : Nat} {L : ai_L} {st : List Value} {h : ai_H} {i : Instr} {x : ai_Y} (hs : ai_do S mn pc L st h i = some x) : h.1.length ≤ x.2.2.2.1.length ∧ h.2 ≤ x.2.2.2.2 := by
  cases i with
  | iconst n =>
    have hs := ai_nx_s hs
    exact ai_gr0 hs
  | bipush n =>
    have hs := ai_nx_s hs
    exact ai_gr0 hs
  | sipush n =>
    have hs := ai_nx_s hs
    exact ai_gr0 hs
  | lconst n =>
    have hs := ai_nx_s hs
    exact ai_gr0 hs
  | aconst_null =>
    have hs := ai_nx_s hs
    exact ai_gr0 hs
  | ldc i =>
    obtain ⟨v, hv, hs⟩ := ai_o_s hs
    have hs := ai_nx_s hs
    exact ai_gr0 hs
  | ldc_w i =>
    obtain ⟨v, hv, hs⟩ := ai_o_s hs
    have hs := ai_nx_s hs
    exact ai_gr0 hs
  | ldc2_w i =>
    obtain ⟨v, hv, hs⟩ := ai_o_s hs
    have hs := ai_nx_s hs
    exact ai_gr0 hs
  | iload_n k =>
    obtain ⟨v, hv, hs⟩ := ai_o_s hs
    obtain ⟨y, rfl, hs⟩ := ai_ldi_s hs
    have hs := ai_nx_s hs
    exact ai_gr0 hs
  | iload k =>
    obtain ⟨v, hv, hs⟩ := ai_o_s hs
    obtain ⟨y, rfl, hs⟩ := ai_ldi_s hs
    have hs := ai_nx_s hs
    exact ai_gr0 hs
  | lload_n k =>
    obtain ⟨v, hv, hs⟩ := ai_o_s hs
    obtain ⟨y, rfl, hs⟩ := ai_ldl_s hs
    have hs := ai_nx_s hs
    exact ai_gr0 hs
  | lload k =>
    obtain ⟨v, hv, hs⟩ := ai_o_s hs
    obtain ⟨y, rfl, hs⟩ := ai_ldl_s hs
    have hs := ai_nx_s hs
    exact ai_gr0 hs
  | aload_n k =>
    obtain ⟨v, hv, hs⟩ := ai_o_s hs
    obtain ⟨hv2, hs⟩ := ai_g_s hs
    have hs := ai_nx_s hs
    cases v with
    | ref a => exact ai_gr0 hs
    | null => exact ai_gr0 hs
    | float u => exact ai_gr0 hs
    | _ => cases hv2
  | aload k =>
    obtain ⟨v, hv, hs⟩ := ai_o_s hs
    obtain ⟨hv2, hs⟩ := ai_g_s hs
    have hs := ai_nx_s hs
    cases v with
    | ref a => exact ai_gr0 hs
    | null => exact ai_gr0 hs
    | float u => exact ai_gr0 hs
    | _ => cases hv2
  | istore_n k =>
    obtain ⟨y, r, rfl, hs⟩ := ai_m1_s hs
    obtain ⟨hv, hs⟩ := ai_g_s hs
    have hs := ai_nx_s hs
    exact ai_gr0 hs
  | istore k =>
    obtain ⟨y, r, rfl, hs⟩ := ai_m1_s hs
    obtain ⟨hv, hs⟩ := ai_g_s hs
    have hs := ai_nx_s hs
    exact ai_gr0 hs
  | lstore k =>
    obtain ⟨v, r, rfl, hs⟩ := ai_c1_s hs
    obtain ⟨y, rfl, hs⟩ := ai_ldl_s hs
    obtain ⟨hv, hs⟩ := ai_g_s hs
    have hs := ai_nx_s hs
    exact ai_gr0 hs
  | astore_n k =>
    obtain ⟨v, r, rfl, hs⟩ := ai_c1_s hs
    obtain ⟨hv, hs⟩ := ai_g_s hs
    have hs := ai_nx_s hs
    simp only [Bool.and_eq_true, decide_eq_true_eq] at hv
    obtain ⟨hv1, hv2⟩ := hv
    cases v with
    | ref a => exact ai_gr0 hs
    | null => exact ai_gr0 hs
    | float u => exact ai_gr0 hs
    | _ => cases hv2
  | astore k =>
    obtain ⟨v, r, rfl, hs⟩ := ai_c1_s hs
    obtain ⟨hv, hs⟩ := ai_g_s hs
    have hs := ai_nx_s hs
    simp only [Bool.and_eq_true, decide_eq_true_eq] at hv
    obtain ⟨hv1, hv2⟩ := hv
    cases v with
    | ref a => exact ai_gr0 hs
    | null => exact ai_gr0 hs
    | float u => exact ai_gr0 hs
    | _ => cases hv2
  | iinc k n =>
    obtain ⟨v, hv, hs⟩ := ai_o_s hs
    obtain ⟨y, rfl, hs⟩ := ai_ldi_s hs
    obtain ⟨hv2, hs⟩ := ai_g_s hs
    have hs := ai_nx_s hs
    exact ai_gr0 hs
  | iadd =>
    obtain ⟨y, z, r, rfl, hs⟩ := ai_m2_s hs
    have hs := ai_nx_s hs
    exact ai_gr0 hs
  | isub =>
    obtain ⟨y, z, r, rfl, hs⟩ := ai_m2_s hs
    have hs := ai_nx_s hs
    exact ai_gr0 hs
  | imul =>
    obtain ⟨y, z, r, rfl, hs⟩ := ai_m2_s hs
    have hs := ai_nx_s hs
    exact ai_gr0 hs
  | iand =>
    obtain ⟨y, z, r, rfl, hs⟩ := ai_m2_s hs
    have hs := ai_nx_s hs
    exact ai_gr0 hs
  | ior =>
    obtain ⟨y, z, r, rfl, hs⟩ := ai_m2_s hs
    have hs := ai_nx_s hs
    exact ai_gr0 hs
  | ixor =>
    obtain ⟨y, z, r, rfl, hs⟩ := ai_m2_s hs
    have hs := ai_nx_s hs
    exact ai_gr0 hs
  | ishl =>
    obtain ⟨y, z, r, rfl, hs⟩ := ai_m2_s hs
    have hs := ai_nx_s hs
    exact ai_gr0 hs
  | ishr =>
    obtain ⟨y, z, r, rfl, hs⟩ := ai_m2_s hs
    have hs := ai_nx_s hs
    exact ai_gr0 hs
  | idiv =>
    obtain ⟨y, z, r, rfl, hs⟩ := ai_m2_s hs
    obtain ⟨hv, hs⟩ := ai_g_s hs
    have hs := ai_nx_s hs
    exact ai_gr0 hs
  | irem =>
    obtain ⟨y, z, r, rfl, hs⟩ := ai_m2_s hs
    obtain ⟨hv, hs⟩ := ai_g_s hs
    have hs := ai_nx_s hs
    exact ai_gr0 hs
  | iushr =>
    obtain ⟨y, z, r, rfl, hs⟩ := ai_m2_s hs
    have hs := ai_nx_s hs
    exact ai_gr0 hs
  | ineg =>
    obtain ⟨y, r, rfl, hs⟩ := ai_m1_s hs
    have hs := ai_nx_s hs
    exact ai_gr0 hs
  | lsub =>
    obtain ⟨y, z, r, rfl, hs⟩ := ai_l2_s hs
    have hs := ai_nx_s hs
    exact ai_gr0 hs
  | land =>
    obtain ⟨y, z, r, rfl, hs⟩ := ai_l2_s hs
    have hs := ai_nx_s hs
    exact ai_gr0 hs
  | lor =>
    obtain ⟨y, z, r, rfl, hs⟩ := ai_l2_s hs
    have hs := ai_nx_s hs
    exact ai_gr0 hs
  | lxor =>
    obtain ⟨y, z, r, rfl, hs⟩ := ai_l2_s hs
    have hs := ai_nx_s hs
    exact ai_gr0 hs
  | lcmp =>
    obtain ⟨y, z, r, rfl, hs⟩ := ai_l2_s hs
    have hs := ai_nx_s hs
    exact ai_gr0 hs
  | lshl =>
    obtain ⟨y, z, r, rfl, hs⟩ := ai_lh_s hs
    have hs := ai_nx_s hs
    exact ai_gr0 hs
  | lshr =>
    obtain ⟨y, z, r, rfl, hs⟩ := ai_lh_s hs
    have hs := ai_nx_s hs
    exact ai_gr0 hs
  | lushr =>
    obtain ⟨y, z, r, rfl, hs⟩ := ai_lh_s hs
    have hs := ai_nx_s hs
    exact ai_gr0 hs
  | dup =>
    obtain ⟨v, r, rfl, hs⟩ := ai_c1_s hs
    obtain ⟨hv, hs⟩ := ai_g_s hs
    have hs := ai_nx_s hs
    exact ai_gr0 hs
  | pop =>
    obtain ⟨v, r, rfl, hs⟩ := ai_c1_s hs
    obtain ⟨hv, hs⟩ := ai_g_s hs
    have hs := ai_nx_s hs
    exact ai_gr0 hs
  | dup2 =>
    obtain ⟨v, r, rfl, hs⟩ := ai_c1_s hs
    obtain ⟨w, r, rfl, hs⟩ := ai_c1_s hs
    obtain ⟨hv, hs⟩ := ai_g_s hs
    have hs := ai_nx_s hs
    simp only [Bool.and_eq_true, decide_eq_true_eq] at hv
    exact ai_gr0 hs
  | goto off =>
    exact ai_gr0 (ai_br_s hs).2
  | ifCond cd off =>
    obtain ⟨y, r, rfl, hs⟩ := ai_m1_s hs
    exact ai_gr0 (ai_br_s hs).2
  | if_icmp cd off =>
    obtain ⟨y, z, r, rfl, hs⟩ := ai_m2_s hs
    exact ai_gr0 (ai_br_s hs).2
  | ifnull off =>
    obtain ⟨v, r, rfl, hs⟩ := ai_c1_s hs
    cases v with
    | ref a =>
      exact ai_gr0 (ai_br_s hs).2
    | null =>
      exact ai_gr0 (ai_br_s hs).2
    | _ => cases hs
  | ifnonnull off =>
    obtain ⟨v, r, rfl, hs⟩ := ai_c1_s hs
    cases v with
    | ref a =>
      exact ai_gr0 (ai_br_s hs).2
    | null =>
      exact ai_gr0 (ai_br_s hs).2
    | _ => cases hs
  | tableswitch df lo hi offs =>
    obtain ⟨y, r, rfl, hs2⟩ := ai_m1_s hs
    by_cases hz : y.toInt < lo ∨ hi < y.toInt
    · rw [if_pos hz] at hs2
      exact ai_gr0 (ai_br_s hs2).2
    · rw [if_neg hz] at hs2
      obtain ⟨off, ho, hs2⟩ := ai_o_s hs2
      exact ai_gr0 (ai_br_s hs2).2
  | getfield i =>
    obtain ⟨v, r, rfl, hs⟩ := ai_c1_s hs
    obtain ⟨a, rfl, hs⟩ := ai_ref_s hs
    obtain ⟨q, hq, hs⟩ := ai_o_s hs
    obtain ⟨fs, hfs, hs⟩ := ai_o_s hs
    obtain ⟨w, hw, hs⟩ := ai_o_s hs
    have hs := ai_nx_s hs
    exact ai_gr0 hs
  | putfield i =>
    obtain ⟨v, r, rfl, hs⟩ := ai_c1_s hs
    obtain ⟨u, r, rfl, hs⟩ := ai_c1_s hs
    obtain ⟨a, rfl, hs⟩ := ai_ref_s hs
    obtain ⟨q, hq, hs⟩ := ai_o_s hs
    obtain ⟨fs, hfs, hs⟩ := ai_o_s hs
    obtain ⟨hv, hs⟩ := ai_g_s hs
    have hs := ai_nx_s hs
    simp only [Bool.and_eq_true, decide_eq_true_eq] at hv
    exact ai_gr1 hs (List.length_set ..)
  | getstatic i =>
    obtain ⟨hv, hs⟩ := ai_g_s hs
    have hs := ai_nx_s hs
    exact ai_gr0 hs
  | iaload =>
    obtain ⟨y, r, rfl, hs⟩ := ai_m1_s hs
    obtain ⟨v, r, rfl, hs⟩ := ai_c1_s hs
    cases v with
    | ref a =>
      obtain ⟨q, hq, hs⟩ := ai_o_s hs
      obtain ⟨hv, hs⟩ := ai_g_s hs
      have hs := ai_nx_s hs
      exact ai_gr0 hs
    | float u =>
      obtain ⟨hv, hs⟩ := ai_g_s hs
      have hs := ai_nx_s hs
      exact ai_gr0 hs
    | _ => cases hs
  | baload =>
    obtain ⟨y, r, rfl, hs⟩ := ai_m1_s hs
    obtain ⟨v, r, rfl, hs⟩ := ai_c1_s hs
    obtain ⟨a, rfl, hs⟩ := ai_ref_s hs
    obtain ⟨q, hq, hs⟩ := ai_o_s hs
    obtain ⟨hv, hs⟩ := ai_g_s hs
    have hs := ai_nx_s hs
    exact ai_gr0 hs
  | aaload =>
    obtain ⟨y, r, rfl, hs⟩ := ai_m1_s hs
    obtain ⟨v, r, rfl, hs⟩ := ai_c1_s hs
    obtain ⟨a, rfl, hs⟩ := ai_ref_s hs
    obtain ⟨q, hq, hs⟩ := ai_o_s hs
    obtain ⟨hv, hs⟩ := ai_g_s hs
    have hs := ai_nx_s hs
    simp only [Bool.and_eq_true, decide_eq_true_eq] at hv
    exact ai_gr0 hs
  | iastore =>
    obtain ⟨y, z, r, rfl, hs⟩ := ai_m2_s hs
    obtain ⟨v, r, rfl, hs⟩ := ai_c1_s hs
    obtain ⟨a, rfl, hs⟩ := ai_ref_s hs
    obtain ⟨q, hq, hs⟩ := ai_o_s hs
    obtain ⟨hv, hs⟩ := ai_g_s hs
    have hs := ai_nx_s hs
    exact ai_gr1 hs (List.length_set ..)
  | bastore =>
    obtain ⟨y, z, r, rfl, hs⟩ := ai_m2_s hs
    obtain ⟨v, r, rfl, hs⟩ := ai_c1_s hs
    obtain ⟨a, rfl, hs⟩ := ai_ref_s hs
    obtain ⟨q, hq, hs⟩ := ai_o_s hs
    obtain ⟨hv, hs⟩ := ai_g_s hs
    have hs := ai_nx_s hs
    simp only [Bool.and_eq_true, decide_eq_true_eq] at hv
    exact ai_gr1 hs (List.length_set ..)
  | aastore =>
    obtain ⟨w, r, rfl, hs⟩ := ai_c1_s hs
    obtain ⟨y, r, rfl, hs⟩ := ai_m1_s hs
    obtain ⟨v, r, rfl, hs⟩ := ai_c1_s hs
    obtain ⟨a, rfl, hs⟩ := ai_ref_s hs
    obtain ⟨q, hq, hs⟩ := ai_o_s hs
    obtain ⟨hv, hs⟩ := ai_g_s hs
    simp only [Bool.and_eq_true, decide_eq_true_eq] at hv
    cases w with
    | null =>
      have hs := ai_nx_s hs
      exact ai_gr1 hs (List.length_set ..)
    | ref w =>
      dsimp only at hs
      split at hs
      next k fs hw =>
        obtain ⟨hv2, hs⟩ := ai_g_s hs
        have hs := ai_nx_s hs
        exact ai_gr1 hs (List.length_set ..)
      next => cases hs
    | _ => cases hs
  | arraylength =>
    obtain ⟨v, r, rfl, hs⟩ := ai_c1_s hs
    cases v with
    | ref a =>
      obtain ⟨n, hn, hs⟩ := ai_o_s hs
      have hs := ai_nx_s hs
      exact ai_gr0 hs
    | float u =>
      have hs := ai_nx_s hs
      exact ai_gr0 hs
    | _ => cases hs
  | new i =>
    obtain ⟨k, hk1, hs⟩ := ai_o_s hs
    obtain ⟨hv, hs⟩ := ai_g_s hs
    have hs := ai_nx_s hs
    subst hs
    exact ⟨by simp, by simp⟩
  | newarray t =>
    obtain ⟨n, r, rfl, hs⟩ := ai_m1_s hs
    obtain ⟨hv, hs⟩ := ai_g_s hs
    simp only [Bool.and_eq_true, decide_eq_true_eq] at hv
    cases t with
    | int =>
      have hs := ai_nx_s hs
      subst hs
      exact ⟨by simp, by simp⟩
    | boolean =>
      have hs := ai_nx_s hs
      subst hs
      exact ⟨by simp, by simp⟩
    | _ => cases hs
  | anewarray i =>
    obtain ⟨n, r, rfl, hs⟩ := ai_m1_s hs
    obtain ⟨hv, hs⟩ := ai_g_s hs
    simp only [Bool.and_eq_true, decide_eq_true_eq] at hv
    obtain ⟨k, hk1, hs⟩ := ai_o_s hs
    obtain ⟨t, ht, hs⟩ := ai_o_s hs
    have hs := ai_nx_s hs
    subst hs
    exact ⟨by simp, by simp⟩
  | invokespecial i =>
    obtain ⟨v, r, rfl, hs⟩ := ai_c1_s hs
    obtain ⟨a, rfl, hs⟩ := ai_ref_s hs
    obtain ⟨hv, hs⟩ := ai_g_s hs
    have hs := ai_nx_s hs
    exact ai_gr0 hs
  | _ => cases hs
