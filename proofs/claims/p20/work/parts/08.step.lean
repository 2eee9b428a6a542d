section AI2
variable {p : Program} {l : Launch} {e : Env} {R : Room} {s : State} {m : MethodId} {args : Array Value} {below : List Frame} {meth : Method} {c : Code} {H : Heap} {locs : List Loc} {cells slots : Nat} {Q : State → Prop}
variable {S : ai_S} {D : ai_D} {E : ai_E} {mn pc : Nat} {L : ai_L} {st : List Value} {h : ai_H} {ls : Array Slot}
set_option maxHeartbeats 4000000 in
theorem ai_sim1 {i : Instr} {x : ai_Y} (hX : ai_X p s m args meth c mn) (hW : ai_W D E S s) (hd : ai_sw i = false → decode (ai_bc mn) pc = .ok (i, ai_len i)) (hd2 : ∃ len, decode (ai_bc mn) pc = .ok (i, len)) (hk : ai_kd mn i = 0) (hs : ai_do S mn pc L st h i = some x) (hL : lv_has ls (ai_ml mn) (L.map (ai_w E))) (hP : ai_P D E h.1 H) (hS : va_S (fun q => E.1 ≤ q) s.heap H locs) (hfr : 1 ≤ R.frames) (hlo : 20 ≤ R.locals) (hc : cells + x.2.2.2.1.length ≤ R.cells + h.1.length) (hsl : slots + x.2.2.2.2 ≤ R.slots + h.2)
    (kk : ∀ (ls' : Array Slot) (H' : Heap) (locs' : List Loc), lv_has ls' (ai_ml mn) (x.2.1.map (ai_w E)) → ai_P D E x.2.2.2.1 H' → va_S (fun q => E.1 ≤ q) s.heap H' locs' → W p l e R s m args below meth c H' locs' (cells + (x.2.2.2.1.length - h.1.length)) (slots + (x.2.2.2.2 - h.2)) Q (F0 m x.1 ls' (x.2.2.1.map (ai_v E)))) :
    W p l e R s m args below meth c H locs cells slots Q (F0 m pc ls (st.map (ai_v E))) := by
  have hX' := hX
  obtain ⟨hx, hb, hml, hown, hts, hnm, hcl⟩ := hX
  have k0 : ∀ (pc' : Nat) (L' : ai_L) (st' : List Value), x = (pc', L', st', h) → ∀ ls' : Array Slot, lv_has ls' (ai_ml mn) (L'.map (ai_w E)) → W p l e R s m args below meth c H locs cells slots Q (F0 m pc' ls' (st'.map (ai_v E))) := by
    intro pc' L' st' e1 ls' hl
    subst e1
    have h9 := kk ls' H locs hl hP hS
    simp only [Nat.sub_self, Nat.add_zero] at h9
    exact h9
  have kh : ∀ (pc' : Nat) (st' : List Value) (h' : List ai_C), x = (pc', L, st', (h', h.2)) → h'.length = h.1.length → ∀ (H' : Heap) (locs' : List Loc), ai_P D E h' H' → va_S (fun q => E.1 ≤ q) s.heap H' locs' → W p l e R s m args below meth c H' locs' cells slots Q (F0 m pc' ls (st'.map (ai_v E))) := by
    intro pc' st' h' e1 e2 H' locs' g1 g2
    subst e1
    have h9 := kk ls H' locs' hL g1 g2
    simp only [e2, Nat.sub_self, Nat.add_zero] at h9
    exact h9
  have kb : ∀ (off : Int) (b : Bool) (r : List Value), ai_br pc off b L r h = some x → (pc : Int) + off = ((((pc : Int) + off).toNat : Nat) : Int) ∧ W p l e R s m args below meth c H locs cells slots Q (F0 m (if b = true then ((pc : Int) + off).toNat else pc + 3) ls (r.map (ai_v E))) := by
    intro off b r hq
    obtain ⟨h1, h2⟩ := ai_br_s hq
    exact ⟨h1, k0 _ _ _ h2 ls hL⟩
  cases i with
  | iconst n =>
    have hs := ai_nx_s hs
    exact lv_iconst hx hb (hd rfl) rfl (k0 _ _ _ hs ls hL)
  | bipush n =>
    have hs := ai_nx_s hs
    exact lv_bipush hx hb (hd rfl) rfl (k0 _ _ _ hs ls hL)
  | sipush n =>
    have hs := ai_nx_s hs
    exact lv_sipush hx hb (hd rfl) rfl (k0 _ _ _ hs ls hL)
  | lconst n =>
    have hs := ai_nx_s hs
    exact lv_lconst hx hb (hd rfl) rfl (k0 _ _ _ hs ls hL)
  | aconst_null =>
    have hs := ai_nx_s hs
    exact lv_null hx hb (hd rfl) (k0 _ _ _ hs ls hL)
  | ldc i =>
    obtain ⟨v, hv, hs⟩ := ai_o_s hs
    have hs := ai_nx_s hs
    exact lv_ldc hx hb hown (hts _ (ai_K_s hv)) (hd rfl) (k0 _ _ _ hs ls hL)
  | ldc_w i =>
    obtain ⟨v, hv, hs⟩ := ai_o_s hs
    have hs := ai_nx_s hs
    exact lv_ldcw hx hb hown (hts _ (ai_K_s hv)) (hd rfl) (k0 _ _ _ hs ls hL)
  | ldc2_w i =>
    obtain ⟨v, hv, hs⟩ := ai_o_s hs
    have hs := ai_nx_s hs
    exact lv_ldc2 hx hb hown (hts _ (ai_J_s hv)) (hd rfl) (k0 _ _ _ hs ls hL)
  | iload_n k =>
    obtain ⟨v, hv, hs⟩ := ai_o_s hs
    obtain ⟨y, rfl, hs⟩ := ai_ldi_s hs
    have hs := ai_nx_s hs
    exact lv_iload_n hx hb (hd rfl) rfl (ai_look_s hv hL) (k0 _ _ _ hs ls hL)
  | iload k =>
    obtain ⟨v, hv, hs⟩ := ai_o_s hs
    obtain ⟨y, rfl, hs⟩ := ai_ldi_s hs
    have hs := ai_nx_s hs
    exact lv_iload hx hb (hd rfl) (ai_look_s hv hL) (k0 _ _ _ hs ls hL)
  | lload_n k =>
    obtain ⟨v, hv, hs⟩ := ai_o_s hs
    obtain ⟨y, rfl, hs⟩ := ai_ldl_s hs
    have hs := ai_nx_s hs
    exact lv_lload_n hx hb (hd rfl) rfl (ai_look_s hv hL) (k0 _ _ _ hs ls hL)
  | lload k =>
    obtain ⟨v, hv, hs⟩ := ai_o_s hs
    obtain ⟨y, rfl, hs⟩ := ai_ldl_s hs
    have hs := ai_nx_s hs
    exact lv_lload hx hb (hd rfl) (ai_look_s hv hL) (k0 _ _ _ hs ls hL)
  | aload_n k =>
    obtain ⟨v, hv, hs⟩ := ai_o_s hs
    obtain ⟨hv2, hs⟩ := ai_g_s hs
    have hs := ai_nx_s hs
    have hl := ai_look_s hv hL
    cases v with
    | ref a => exact lv_aload_n hx hb (hd rfl) rfl hl (k0 _ _ _ hs ls hL)
    | null => exact lv_aload_nN hx hb (hd rfl) rfl hl (k0 _ _ _ hs ls hL)
    | float u => exact lv_aload_n hx hb (hd rfl) rfl hl (k0 _ _ _ hs ls hL)
    | _ => cases hv2
  | aload k =>
    obtain ⟨v, hv, hs⟩ := ai_o_s hs
    obtain ⟨hv2, hs⟩ := ai_g_s hs
    have hs := ai_nx_s hs
    have hl := ai_look_s hv hL
    cases v with
    | ref a => exact lv_aload hx hb (hd rfl) hl (k0 _ _ _ hs ls hL)
    | null => exact lv_aloadN hx hb (hd rfl) hl (k0 _ _ _ hs ls hL)
    | float u => exact lv_aload hx hb (hd rfl) hl (k0 _ _ _ hs ls hL)
    | _ => cases hv2
  | istore_n k =>
    obtain ⟨y, r, rfl, hs⟩ := ai_m1_s hs
    obtain ⟨hv, hs⟩ := ai_g_s hs
    have hs := ai_nx_s hs
    exact lv_istore_n hx hb (hd rfl) rfl hL (of_decide_eq_true hv) rfl (fun ls' hl => k0 _ _ _ hs ls' (lv_weak hl fun q hq => ai_put_w hq))
  | istore k =>
    obtain ⟨y, r, rfl, hs⟩ := ai_m1_s hs
    obtain ⟨hv, hs⟩ := ai_g_s hs
    have hs := ai_nx_s hs
    exact lv_istore hx hb (hd rfl) hL (of_decide_eq_true hv) rfl (fun ls' hl => k0 _ _ _ hs ls' (lv_weak hl fun q hq => ai_put_w hq))
  | lstore k =>
    obtain ⟨v, r, rfl, hs⟩ := ai_c1_s hs
    obtain ⟨y, rfl, hs⟩ := ai_ldl_s hs
    obtain ⟨hv, hs⟩ := ai_g_s hs
    have hs := ai_nx_s hs
    exact lv_lstore hx hb (hd rfl) hL (of_decide_eq_true hv) rfl (fun ls' hl => k0 _ _ _ hs ls' (lv_weak hl fun q hq => ai_put2_w hq))
  | astore_n k =>
    obtain ⟨v, r, rfl, hs⟩ := ai_c1_s hs
    obtain ⟨hv, hs⟩ := ai_g_s hs
    have hs := ai_nx_s hs
    simp only [Bool.and_eq_true, decide_eq_true_eq] at hv
    obtain ⟨hv1, hv2⟩ := hv
    cases v with
    | ref a => exact lv_astore_n hx hb (hd rfl) rfl hL hv1 rfl (fun ls' hl => k0 _ _ _ hs ls' (lv_weak hl fun q hq => ai_put_w hq))
    | null => exact lv_astore_nN hx hb (hd rfl) rfl hL hv1 rfl (fun ls' hl => k0 _ _ _ hs ls' (lv_weak hl fun q hq => ai_put_w hq))
    | float u => exact lv_astore_n hx hb (hd rfl) rfl hL hv1 rfl (fun ls' hl => k0 _ _ _ hs ls' (lv_weak hl fun q hq => ai_put_w hq))
    | _ => cases hv2
  | astore k =>
    obtain ⟨v, r, rfl, hs⟩ := ai_c1_s hs
    obtain ⟨hv, hs⟩ := ai_g_s hs
    have hs := ai_nx_s hs
    simp only [Bool.and_eq_true, decide_eq_true_eq] at hv
    obtain ⟨hv1, hv2⟩ := hv
    cases v with
    | ref a => exact lv_astore hx hb (hd rfl) hL hv1 rfl (fun ls' hl => k0 _ _ _ hs ls' (lv_weak hl fun q hq => ai_put_w hq))
    | null => exact lv_astoreN hx hb (hd rfl) hL hv1 rfl (fun ls' hl => k0 _ _ _ hs ls' (lv_weak hl fun q hq => ai_put_w hq))
    | float u => exact lv_astore hx hb (hd rfl) hL hv1 rfl (fun ls' hl => k0 _ _ _ hs ls' (lv_weak hl fun q hq => ai_put_w hq))
    | _ => cases hv2
  | iinc k n =>
    obtain ⟨v, hv, hs⟩ := ai_o_s hs
    obtain ⟨y, rfl, hs⟩ := ai_ldi_s hs
    obtain ⟨hv2, hs⟩ := ai_g_s hs
    have hs := ai_nx_s hs
    obtain ⟨j, hj⟩ := List.getElem?_of_mem (List.mem_map.mpr ⟨_, ai_look_mem hv, rfl⟩ : (k, ai_v E (.int y)) ∈ L.map (ai_w E))
    exact lv_iinc hx hb (hd rfl) hL hj rfl (of_decide_eq_true hv2) rfl (fun ls' hl => k0 _ _ _ hs ls' (lv_weak hl fun q hq => ai_put_w hq))
  | iadd =>
    obtain ⟨y, z, r, rfl, hs⟩ := ai_m2_s hs
    have hs := ai_nx_s hs
    exact lv_iadd hx hb (hd rfl) (k0 _ _ _ hs ls hL)
  | isub =>
    obtain ⟨y, z, r, rfl, hs⟩ := ai_m2_s hs
    have hs := ai_nx_s hs
    exact lv_isub hx hb (hd rfl) (k0 _ _ _ hs ls hL)
  | imul =>
    obtain ⟨y, z, r, rfl, hs⟩ := ai_m2_s hs
    have hs := ai_nx_s hs
    exact lv_imul hx hb (hd rfl) (k0 _ _ _ hs ls hL)
  | iand =>
    obtain ⟨y, z, r, rfl, hs⟩ := ai_m2_s hs
    have hs := ai_nx_s hs
    exact lv_iand hx hb (hd rfl) (k0 _ _ _ hs ls hL)
  | ior =>
    obtain ⟨y, z, r, rfl, hs⟩ := ai_m2_s hs
    have hs := ai_nx_s hs
    exact lv_ior hx hb (hd rfl) (k0 _ _ _ hs ls hL)
  | ixor =>
    obtain ⟨y, z, r, rfl, hs⟩ := ai_m2_s hs
    have hs := ai_nx_s hs
    exact lv_ixor hx hb (hd rfl) (k0 _ _ _ hs ls hL)
  | ishl =>
    obtain ⟨y, z, r, rfl, hs⟩ := ai_m2_s hs
    have hs := ai_nx_s hs
    exact lv_ishl hx hb (hd rfl) (k0 _ _ _ hs ls hL)
  | ishr =>
    obtain ⟨y, z, r, rfl, hs⟩ := ai_m2_s hs
    have hs := ai_nx_s hs
    exact lv_ishr hx hb (hd rfl) (k0 _ _ _ hs ls hL)
  | idiv =>
    obtain ⟨y, z, r, rfl, hs⟩ := ai_m2_s hs
    obtain ⟨hv, hs⟩ := ai_g_s hs
    have hs := ai_nx_s hs
    exact lv_idiv hx hb (hd rfl) (of_decide_eq_true hv) (k0 _ _ _ hs ls hL)
  | irem =>
    obtain ⟨y, z, r, rfl, hs⟩ := ai_m2_s hs
    obtain ⟨hv, hs⟩ := ai_g_s hs
    have hs := ai_nx_s hs
    exact lv_irem hx hb (hd rfl) (of_decide_eq_true hv) (k0 _ _ _ hs ls hL)
  | iushr =>
    obtain ⟨y, z, r, rfl, hs⟩ := ai_m2_s hs
    have hs := ai_nx_s hs
    exact lv_iushr hx hb (hd rfl) rfl (k0 _ _ _ hs ls hL)
  | ineg =>
    obtain ⟨y, r, rfl, hs⟩ := ai_m1_s hs
    have hs := ai_nx_s hs
    exact lv_ineg hx hb (hd rfl) (k0 _ _ _ hs ls hL)
  | lsub =>
    obtain ⟨y, z, r, rfl, hs⟩ := ai_l2_s hs
    have hs := ai_nx_s hs
    exact lv_lsub hx hb (hd rfl) (k0 _ _ _ hs ls hL)
  | land =>
    obtain ⟨y, z, r, rfl, hs⟩ := ai_l2_s hs
    have hs := ai_nx_s hs
    exact lv_land hx hb (hd rfl) (k0 _ _ _ hs ls hL)
  | lor =>
    obtain ⟨y, z, r, rfl, hs⟩ := ai_l2_s hs
    have hs := ai_nx_s hs
    exact lv_lor hx hb (hd rfl) (k0 _ _ _ hs ls hL)
  | lxor =>
    obtain ⟨y, z, r, rfl, hs⟩ := ai_l2_s hs
    have hs := ai_nx_s hs
    exact lv_lxor hx hb (hd rfl) (k0 _ _ _ hs ls hL)
  | lcmp =>
    obtain ⟨y, z, r, rfl, hs⟩ := ai_l2_s hs
    have hs := ai_nx_s hs
    exact W.lcmp hx hb (hd rfl) (k0 _ _ _ hs ls hL)
  | lshl =>
    obtain ⟨y, z, r, rfl, hs⟩ := ai_lh_s hs
    have hs := ai_nx_s hs
    exact lv_lshl hx hb (hd rfl) rfl (k0 _ _ _ hs ls hL)
  | lshr =>
    obtain ⟨y, z, r, rfl, hs⟩ := ai_lh_s hs
    have hs := ai_nx_s hs
    exact lv_lshr hx hb (hd rfl) rfl (k0 _ _ _ hs ls hL)
  | lushr =>
    obtain ⟨y, z, r, rfl, hs⟩ := ai_lh_s hs
    have hs := ai_nx_s hs
    exact lv_lushr hx hb (hd rfl) rfl (k0 _ _ _ hs ls hL)
  | dup =>
    obtain ⟨v, r, rfl, hs⟩ := ai_c1_s hs
    obtain ⟨hv, hs⟩ := ai_g_s hs
    have hs := ai_nx_s hs
    exact lv_dup hx hb (hd rfl) ((ai_v_cat E v).trans (of_decide_eq_true hv)) (k0 _ _ _ hs ls hL)
  | pop =>
    obtain ⟨v, r, rfl, hs⟩ := ai_c1_s hs
    obtain ⟨hv, hs⟩ := ai_g_s hs
    have hs := ai_nx_s hs
    exact lv_pop hx hb (hd rfl) ((ai_v_cat E v).trans (of_decide_eq_true hv)) (k0 _ _ _ hs ls hL)
  | dup2 =>
    obtain ⟨v, r, rfl, hs⟩ := ai_c1_s hs
    obtain ⟨w, r, rfl, hs⟩ := ai_c1_s hs
    obtain ⟨hv, hs⟩ := ai_g_s hs
    have hs := ai_nx_s hs
    simp only [Bool.and_eq_true, decide_eq_true_eq] at hv
    exact lv_dup2_11 hx hb (hd rfl) ((ai_v_cat E v).trans hv.1) ((ai_v_cat E w).trans hv.2) (k0 _ _ _ hs ls hL)
  | goto off =>
    obtain ⟨ht, k1⟩ := kb _ _ _ hs
    rw [if_pos rfl] at k1
    exact lv_goto hx hb (hd rfl) ht k1
  | ifCond cd off =>
    obtain ⟨y, r, rfl, hs⟩ := ai_m1_s hs
    obtain ⟨ht, k1⟩ := kb _ _ _ hs
    cases cd with
    | eq => exact lv_if_eq hx hb (hd rfl) ht (fun z => by rw [if_pos (show ai_cnd .eq _ _ = true from decide_eq_true z)] at k1; exact k1) (fun z => by rw [if_neg (show ¬ ai_cnd .eq _ _ = true from fun y9 => z (of_decide_eq_true y9))] at k1; exact k1)
    | ne => exact lv_if_ne hx hb (hd rfl) ht (fun z => by rw [if_pos (show ai_cnd .ne _ _ = true from decide_eq_true z)] at k1; exact k1) (fun z => by rw [if_neg (show ¬ ai_cnd .ne _ _ = true from fun y9 => of_decide_eq_true y9 z)] at k1; exact k1)
    | lt => exact lv_if_lt hx hb (hd rfl) ht (fun z => by rw [if_pos (show ai_cnd .lt _ _ = true from decide_eq_true z)] at k1; exact k1) (fun z => by rw [if_neg (show ¬ ai_cnd .lt _ _ = true from fun y9 => z (of_decide_eq_true y9))] at k1; exact k1)
    | ge => exact lv_if_ge hx hb (hd rfl) ht (fun z => by rw [if_pos (show ai_cnd .ge _ _ = true from decide_eq_true z)] at k1; exact k1) (fun z => by rw [if_neg (show ¬ ai_cnd .ge _ _ = true from fun y9 => z (of_decide_eq_true y9))] at k1; exact k1)
    | gt => exact lv_if_gt hx hb (hd rfl) ht (fun z => by rw [if_pos (show ai_cnd .gt _ _ = true from decide_eq_true z)] at k1; exact k1) (fun z => by rw [if_neg (show ¬ ai_cnd .gt _ _ = true from fun y9 => z (of_decide_eq_true y9))] at k1; exact k1)
    | le => exact lv_if_le hx hb (hd rfl) ht (fun z => by rw [if_pos (show ai_cnd .le _ _ = true from decide_eq_true z)] at k1; exact k1) (fun z => by rw [if_neg (show ¬ ai_cnd .le _ _ = true from fun y9 => z (of_decide_eq_true y9))] at k1; exact k1)
  | if_icmp cd off =>
    obtain ⟨y, z, r, rfl, hs⟩ := ai_m2_s hs
    obtain ⟨ht, k1⟩ := kb _ _ _ hs
    cases cd with
    | eq => exact lv_icmp_eq hx hb (hd rfl) ht (fun z => by rw [if_pos (show ai_cnd .eq _ _ = true from decide_eq_true z)] at k1; exact k1) (fun z => by rw [if_neg (show ¬ ai_cnd .eq _ _ = true from fun y9 => z (of_decide_eq_true y9))] at k1; exact k1)
    | ne => exact lv_icmp_ne hx hb (hd rfl) ht (fun z => by rw [if_pos (show ai_cnd .ne _ _ = true from decide_eq_true z)] at k1; exact k1) (fun z => by rw [if_neg (show ¬ ai_cnd .ne _ _ = true from fun y9 => of_decide_eq_true y9 z)] at k1; exact k1)
    | lt => exact lv_icmp_lt hx hb (hd rfl) ht (fun z => by rw [if_pos (show ai_cnd .lt _ _ = true from decide_eq_true z)] at k1; exact k1) (fun z => by rw [if_neg (show ¬ ai_cnd .lt _ _ = true from fun y9 => z (of_decide_eq_true y9))] at k1; exact k1)
    | ge => exact lv_icmp_ge hx hb (hd rfl) ht (fun z => by rw [if_pos (show ai_cnd .ge _ _ = true from decide_eq_true z)] at k1; exact k1) (fun z => by rw [if_neg (show ¬ ai_cnd .ge _ _ = true from fun y9 => z (of_decide_eq_true y9))] at k1; exact k1)
    | gt => exact lv_icmp_gt hx hb (hd rfl) ht (fun z => by rw [if_pos (show ai_cnd .gt _ _ = true from decide_eq_true z)] at k1; exact k1) (fun z => by rw [if_neg (show ¬ ai_cnd .gt _ _ = true from fun y9 => z (of_decide_eq_true y9))] at k1; exact k1)
    | le => exact lv_icmp_le hx hb (hd rfl) ht (fun z => by rw [if_pos (show ai_cnd .le _ _ = true from decide_eq_true z)] at k1; exact k1) (fun z => by rw [if_neg (show ¬ ai_cnd .le _ _ = true from fun y9 => z (of_decide_eq_true y9))] at k1; exact k1)
  | ifnull off =>
    obtain ⟨v, r, rfl, hs⟩ := ai_c1_s hs
    cases v with
    | ref a =>
      obtain ⟨ht, k1⟩ := kb _ _ _ hs
      exact lv_ifnull hx hb (hd rfl) k1
    | null =>
      obtain ⟨ht, k1⟩ := kb _ _ _ hs
      exact lv_ifnullN hx hb (hd rfl) ht k1
    | _ => cases hs
  | ifnonnull off =>
    obtain ⟨v, r, rfl, hs⟩ := ai_c1_s hs
    cases v with
    | ref a =>
      obtain ⟨ht, k1⟩ := kb _ _ _ hs
      exact lv_ifnonnull hx hb (hd rfl) ht k1
    | null =>
      obtain ⟨ht, k1⟩ := kb _ _ _ hs
      exact lv_ifnonnullN hx hb (hd rfl) k1
    | _ => cases hs
  | tableswitch df lo hi offs =>
    obtain ⟨y, r, rfl, hs2⟩ := ai_m1_s hs
    obtain ⟨len, hd2⟩ := hd2
    by_cases hz : y.toInt < lo ∨ hi < y.toInt
    · rw [if_pos hz] at hs2
      obtain ⟨ht, k1⟩ := kb _ _ _ hs2
      exact lv_tableOut hx hb hd2 hz ht k1
    · rw [if_neg hz] at hs2
      obtain ⟨off, ho, hs2⟩ := ai_o_s hs2
      obtain ⟨ht, k1⟩ := kb _ _ _ hs2
      exact lv_tableIn hx hb hd2 (fun z => hz (Or.inl z)) (fun z => hz (Or.inr z)) ho ht k1
  | getfield i =>
    obtain ⟨v, r, rfl, hs⟩ := ai_c1_s hs
    obtain ⟨a, rfl, hs⟩ := ai_ref_s hs
    obtain ⟨q, hq, hs⟩ := ai_o_s hs
    obtain ⟨fs, hfs, hs⟩ := ai_o_s hs
    obtain ⟨w, hw, hs⟩ := ai_o_s hs
    have hs := ai_nx_s hs
    exact ai_getf hX' hW hP (hd rfl) hq hfs hw (k0 _ _ _ hs ls hL)
  | putfield i =>
    obtain ⟨v, r, rfl, hs⟩ := ai_c1_s hs
    obtain ⟨u, r, rfl, hs⟩ := ai_c1_s hs
    obtain ⟨a, rfl, hs⟩ := ai_ref_s hs
    obtain ⟨q, hq, hs⟩ := ai_o_s hs
    obtain ⟨fs, hfs, hs⟩ := ai_o_s hs
    obtain ⟨hv, hs⟩ := ai_g_s hs
    have hs := ai_nx_s hs
    simp only [Bool.and_eq_true, decide_eq_true_eq] at hv
    exact ai_putf hX' hW hP hS (hd rfl) hq hfs hv.1 hv.2 (fun H1 locs1 g1 g2 => kh _ _ _ hs (List.length_set ..) H1 locs1 g1 g2)
  | getstatic i =>
    obtain ⟨hv, hs⟩ := ai_g_s hs
    have hs := ai_nx_s hs
    exact va_gets hx hb hW.2.2.2.1 hS hown (hts _ (ai_Z_s hv)) (fun _ z => z) (hd rfl) (k0 _ _ _ hs ls hL)
  | iaload =>
    obtain ⟨y, r, rfl, hs⟩ := ai_m1_s hs
    obtain ⟨v, r, rfl, hs⟩ := ai_c1_s hs
    cases v with
    | ref a =>
      obtain ⟨q, hq, hs⟩ := ai_o_s hs
      obtain ⟨hv, hs⟩ := ai_g_s hs
      have hs := ai_nx_s hs
      exact ai_ild hX' hW hP (hd rfl) hq hv (k0 _ _ _ hs ls hL)
    | float u =>
      obtain ⟨hv, hs⟩ := ai_g_s hs
      have hs := ai_nx_s hs
      have hin := ai_in_s hv
      have hk1 := k0 _ _ _ hs ls hL
      by_cases hu : u = 0
      · subst hu
        exact va_sld hx hb hW.2.1.1 (Nat.lt_of_lt_of_le hW.2.1.2 hW.2.2.2.2.1) (Nat.not_le.mpr hW.2.1.2) hS hin (hd rfl) hk1
      · refine W.eq (g2 := F0 m pc ls (.int y :: .ref E.2.2 :: r.map (ai_v E))) ?_ ?_
        · show F0 m pc ls (.int y :: .ref (if u = 0 then E.2.1 else E.2.2) :: r.map (ai_v E)) = _
          rw [if_neg hu]
        · have he : ai_ext S u = (5, ai_cyc) := if_neg hu
          rw [he] at hin hk1
          exact ai_tld hX' hW hS (hd rfl) hin hk1
    | _ => cases hs
  | baload =>
    obtain ⟨y, r, rfl, hs⟩ := ai_m1_s hs
    obtain ⟨v, r, rfl, hs⟩ := ai_c1_s hs
    obtain ⟨a, rfl, hs⟩ := ai_ref_s hs
    obtain ⟨q, hq, hs⟩ := ai_o_s hs
    obtain ⟨hv, hs⟩ := ai_g_s hs
    have hs := ai_nx_s hs
    exact ai_zld hX' hW hP (hd rfl) hq hv (k0 _ _ _ hs ls hL)
  | aaload =>
    obtain ⟨y, r, rfl, hs⟩ := ai_m1_s hs
    obtain ⟨v, r, rfl, hs⟩ := ai_c1_s hs
    obtain ⟨a, rfl, hs⟩ := ai_ref_s hs
    obtain ⟨q, hq, hs⟩ := ai_o_s hs
    obtain ⟨hv, hs⟩ := ai_g_s hs
    have hs := ai_nx_s hs
    simp only [Bool.and_eq_true, decide_eq_true_eq] at hv
    exact ai_qld hX' hW hP (hd rfl) hq hv.1 hv.2.1 hv.2.2 (k0 _ _ _ hs ls hL)
  | iastore =>
    obtain ⟨y, z, r, rfl, hs⟩ := ai_m2_s hs
    obtain ⟨v, r, rfl, hs⟩ := ai_c1_s hs
    obtain ⟨a, rfl, hs⟩ := ai_ref_s hs
    obtain ⟨q, hq, hs⟩ := ai_o_s hs
    obtain ⟨hv, hs⟩ := ai_g_s hs
    have hs := ai_nx_s hs
    exact ai_ist hX' hW hP hS (hd rfl) hq hv (fun H1 locs1 g1 g2 => kh _ _ _ hs (List.length_set ..) H1 locs1 g1 g2)
  | bastore =>
    obtain ⟨y, z, r, rfl, hs⟩ := ai_m2_s hs
    obtain ⟨v, r, rfl, hs⟩ := ai_c1_s hs
    obtain ⟨a, rfl, hs⟩ := ai_ref_s hs
    obtain ⟨q, hq, hs⟩ := ai_o_s hs
    obtain ⟨hv, hs⟩ := ai_g_s hs
    have hs := ai_nx_s hs
    simp only [Bool.and_eq_true, decide_eq_true_eq] at hv
    exact ai_zst hX' hW hP hS (hd rfl) hq hv.1 hv.2 (fun H1 locs1 g1 g2 => kh _ _ _ hs (List.length_set ..) H1 locs1 g1 g2)
  | aastore =>
    obtain ⟨w, r, rfl, hs⟩ := ai_c1_s hs
    obtain ⟨y, r, rfl, hs⟩ := ai_m1_s hs
    obtain ⟨v, r, rfl, hs⟩ := ai_c1_s hs
    obtain ⟨a, rfl, hs⟩ := ai_ref_s hs
    obtain ⟨q, hq, hs⟩ := ai_o_s hs
    obtain ⟨hv, hs⟩ := ai_g_s hs
    simp only [Bool.and_eq_true, decide_eq_true_eq] at hv
    cases w with
    | null =>
      have hs := ai_nx_s hs
      exact ai_qst0 hX' hW hP hS (hd rfl) hq hv.1 hv.2.1 hv.2.2 (fun H1 locs1 g1 g2 => kh _ _ _ hs (List.length_set ..) H1 locs1 g1 g2)
    | ref w =>
      dsimp only at hs
      split at hs
      next k fs hw =>
        obtain ⟨hv2, hs⟩ := ai_g_s hs
        have hs := ai_nx_s hs
        exact ai_qst hX' hW hP hS (hd rfl) hq hv.1 hw (of_decide_eq_true hv2) (fun H1 locs1 g1 g2 => kh _ _ _ hs (List.length_set ..) H1 locs1 g1 g2)
      next => cases hs
    | _ => cases hs
  | arraylength =>
    obtain ⟨v, r, rfl, hs⟩ := ai_c1_s hs
    cases v with
    | ref a =>
      obtain ⟨n, hn, hs⟩ := ai_o_s hs
      have hs := ai_nx_s hs
      exact ai_al hX' hW hP (hd rfl) hn (k0 _ _ _ hs ls hL)
    | float u =>
      have hs := ai_nx_s hs
      have hk1 := k0 _ _ _ hs ls hL
      by_cases hu : u = 0
      · subst hu
        exact va_slen hx hb hW.2.1.1 (Nat.lt_of_lt_of_le hW.2.1.2 hW.2.2.2.2.1) (Nat.not_le.mpr hW.2.1.2) hS (hd rfl) hk1
      · refine W.eq (g2 := F0 m pc ls (.ref E.2.2 :: r.map (ai_v E))) ?_ ?_
        · show F0 m pc ls (.ref (if u = 0 then E.2.1 else E.2.2) :: r.map (ai_v E)) = _
          rw [if_neg hu]
        · have he : ai_ext S u = (5, ai_cyc) := if_neg hu
          rw [he] at hk1
          exact ai_tln hX' hW hS (hd rfl) hk1
    | _ => cases hs
  | new i =>
    obtain ⟨k, hk1, hs⟩ := ai_o_s hs
    obtain ⟨hv, hs⟩ := ai_g_s hs
    have hs := ai_nx_s hs
    subst hs
    simp only [List.length_append, List.length_cons, List.length_nil] at hc hsl kk
    refine ai_new hX' hW hP hS (hd rfl) hk1 (of_decide_eq_true hv) (by omega) (by omega) (fun H1 g1 g2 => ?_)
    have h9 := kk ls H1 locs hL g1 g2
    rw [show h.1.length + (0 + 1) - h.1.length = 1 by omega, show h.2 + ai_nf k - h.2 = ai_nf k by omega] at h9
    exact h9
  | newarray t =>
    obtain ⟨n, r, rfl, hs⟩ := ai_m1_s hs
    obtain ⟨hv, hs⟩ := ai_g_s hs
    simp only [Bool.and_eq_true, decide_eq_true_eq] at hv
    cases t with
    | int =>
      have hs := ai_nx_s hs
      subst hs
      simp only [List.length_append, List.length_cons, List.length_nil] at hc hsl kk
      refine ai_newar hX' hW hP hS (t := 0) (hd rfl) (by omega) rfl ai_wI hv.1 hv.2 (by omega) (by omega) (fun H1 g1 g2 => ?_)
      have h9 := kk ls H1 locs hL g1 g2
      rw [show h.1.length + (0 + 1) - h.1.length = 1 by omega, show h.2 + n.toNatClampNeg - h.2 = n.toNatClampNeg by omega] at h9
      exact h9
    | boolean =>
      have hs := ai_nx_s hs
      subst hs
      simp only [List.length_append, List.length_cons, List.length_nil] at hc hsl kk
      refine ai_newar hX' hW hP hS (t := 1) (hd rfl) (by omega) rfl ai_wB hv.1 hv.2 (by omega) (by omega) (fun H1 g1 g2 => ?_)
      have h9 := kk ls H1 locs hL g1 g2
      rw [show h.1.length + (0 + 1) - h.1.length = 1 by omega, show h.2 + n.toNatClampNeg - h.2 = n.toNatClampNeg by omega] at h9
      exact h9
    | _ => cases hs
  | anewarray i =>
    obtain ⟨n, r, rfl, hs⟩ := ai_m1_s hs
    obtain ⟨hv, hs⟩ := ai_g_s hs
    simp only [Bool.and_eq_true, decide_eq_true_eq] at hv
    obtain ⟨k, hk1, hs⟩ := ai_o_s hs
    obtain ⟨t, ht, hs⟩ := ai_o_s hs
    have hs := ai_nx_s hs
    subst hs
    simp only [List.length_append, List.length_cons, List.length_nil] at hc hsl kk
    refine ai_newq hX' hW hP hS (hd rfl) hk1 ht hv.1 hv.2 (by omega) (by omega) (fun H1 g1 g2 => ?_)
    have h9 := kk ls H1 locs hL g1 g2
    rw [show h.1.length + (0 + 1) - h.1.length = 1 by omega, show h.2 + n.toNatClampNeg - h.2 = n.toNatClampNeg by omega] at h9
    exact h9
  | invokespecial i =>
    obtain ⟨v, r, rfl, hs⟩ := ai_c1_s hs
    obtain ⟨a, rfl, hs⟩ := ai_ref_s hs
    obtain ⟨hv, hs⟩ := ai_g_s hs
    have hs := ai_nx_s hs
    have ho : ai_O.contains (ai_ow mn, i) = true := by
      cases hq : ai_O.contains (ai_ow mn, i) with
      | true => rfl
      | false => exact absurd hk (by show ¬ (if ai_O.contains (ai_ow mn, i) = true then 0 else 1) = 0; rw [hq]; decide)
    refine W.objInit hx hb hown (hts _ (ai_O_s ho)) (hts _ ai_wO1) (hts _ ai_wO2) rfl (by rw [hml]; exact hL.1) rfl (hd rfl) hfr ?_ (k0 _ _ _ hs ls hL)
    have h8 := of_decide_eq_true hv
    rw [ai_sum_w]
    show 2 * 0 + _ + 12 ≤ _
    omega
  | _ => cases hs
end AI2
