theorem ai_inone : (ai_M.all fun r => decide (r.1.name ≠ "<init>") || decide (r.2.2.2.1 = none)) = true := by decide +kernel
theorem ai_inone_s {mn : Nat} {r : MethodName × ByteArray × Nat × Option FieldType × Nat} (h : ai_M[mn]? = some r) (hn : r.1.name = "<init>") : r.2.2.2.1 = none := by
  have h1 := List.all_eq_true.mp ai_inone r (List.mem_of_getElem? h)
  simp only [Bool.or_eq_true, decide_eq_true_eq] at h1
  exact h1.resolve_left fun q => q hn
set_option maxHeartbeats 4000000 in
theorem ai_simN {l : Launch} {S : ai_S} {D : ai_D} {E : ai_E} : ∀ (n d mn pc : Nat) (L : ai_L) (st : List Value) (h : ai_H) (x : Option Value × ai_H), ai_run S n d mn pc L st h = some x → ai_Sim l S D E d mn pc L st h x := by
  intro n
  induction n with
  | zero => intro d mn pc L st h x e; simp [ai_run] at e
  | succ n ih =>
    intro d mn pc L st h x e
    have hgr := ai_grow _ _ _ _ _ _ _ _ e
    rw [ai_run] at e
    cases hs : ai_step S mn pc L st h with
    | none => rw [hs] at e; cases e
    | some q =>
      rw [hs] at e
      intro p e' R s m args below meth c H locs cells slots Q ls hX hW hL hP hS hfr hlo hc hsl kr
      obtain ⟨i, hi, hcase⟩ := ai_step_s hs
      obtain ⟨q0, hq0, len, hdec, hlen⟩ := ai_dec hi
      obtain ⟨b1, b2, b3, b4, b5⟩ := ai_bc_of hq0
      have hd : ai_sw i = false → decode (ai_bc mn) pc = .ok (i, ai_len i) := fun z => by
        rw [b1, hdec]
        rcases hlen with y | y
        · rw [z] at y; cases y
        · rw [y]
      rcases hcase with ⟨hk, q', hq, rfl⟩ | ⟨q', hq, rfl⟩ | ⟨q', hq, rfl⟩
      · have g1 := ai_do_grow hq
        have g2 := ai_grow _ _ _ _ _ _ _ _ e
        refine ai_sim1 hX hW hd ⟨len, by rw [b1]; exact hdec⟩ hk hq hL hP hS (by omega) (by omega) (by omega) (by omega) ?_
        intro ls' H' locs' gL gP gS
        refine ih _ _ _ _ _ _ _ e p e' R s m args below meth c H' locs' _ _ Q ls' hX hW gL gP gS hfr hlo (by omega) (by omega) ?_
        intro pc' ls'' i' st' H'' locs'' k1 k2 k3 k4
        exact W.cs (by omega) (by omega) (kr pc' ls'' i' st' H'' locs'' k1 k2 k3 k4)
      · cases d with
        | zero => cases e
        | succ d =>
          dsimp only at e
          cases hr : ai_run S n d q'.1 0 (lv_args 0 q'.2.1) [] h with
          | none => rw [hr] at e; cases e
          | some y =>
            rw [hr] at e
            have g1 := ai_grow _ _ _ _ _ _ _ _ hr
            have g2 := ai_grow _ _ _ _ _ _ _ _ e
            have fin : ∀ (A : Array Value), va_Run p l e' R s m args below meth c H locs cells slots (y.2.1.length - h.1.length) (y.2.2 - h.2) (F0 m pc ls (st.map (ai_v E))) (q'.2.2.map (ai_v E)) (ai_Qc D E y A) (fun q => E.1 ≤ q) → W p l e' R s m args below meth c H locs cells slots Q (F0 m pc ls (st.map (ai_v E))) := by
              intro A hrun
              refine ai_call hrun ?_
              intro v st₀ t Lc h0 hal hLc hQ
              obtain ⟨hv, hP', hF⟩ := hQ
              cases hv
              have hS' : va_S (fun q => E.1 ≤ q) s.heap t.heap (locs ++ Lc) := ⟨Nat.le_trans hS.1 (by rw [← h0]; exact hF.1), fun q a b => by rw [hF.2 q (by rw [h0]; exact Nat.lt_of_lt_of_le a hS.1) b, h0]; exact hS.2.1 q a b, fun q hq => (List.mem_append.mp hq).elim (hS.2.2 q) (hLc q)⟩
              have hst : (y.1.map (ai_v E)).toList ++ q'.2.2.map (ai_v E) = (y.1.toList ++ q'.2.2).map (ai_v E) := by cases y.1 <;> simp
              rw [hst]
              refine ih _ _ _ _ _ _ _ e p e' R s m args below meth c t.heap _ _ _ Q ls hX hW hL hP' hS' hfr hlo (by omega) (by omega) ?_
              intro pc' ls'' i' st' H'' locs'' k1 k2 k3 k4
              exact W.cs (by omega) (by omega) (kr pc' ls'' i' st' H'' locs'' k1 k2 k3 k4)
            obtain ⟨hx, hb, hml, hown, hts, hnm, hcl⟩ := hX
            have pre : ∀ U : State, U.heap = H → s.WarmedH U.vm → ai_Pc D E S q'.2.1 h.1 (q'.2.1.map (ai_v E)).toArray U := fun U hU hw => ⟨rfl, by rw [hU]; exact hP, hW.moved hw hU hS⟩
            cases i with
            | invokevirtual idx =>
              obtain ⟨g, hg, hq⟩ := ai_o_s hq
              obtain ⟨a, As, rest, rfl, hAl, hst, hsum, hsl', hini, hstat, hvir⟩ := ai_cll_s hq
              obtain ⟨r, hr', hlink, hmk⟩ := ai_G_s (show ai_get ai_G (ai_ow mn) idx = some (g.1, g.2) from hg)
              have hmet := ai_met hr' hmk hsl' g1 (ih _ _ _ _ _ _ _ hr)
              obtain ⟨w1, w2, w3, w4, w5, w6, w7, w8⟩ := hmk
              obtain ⟨v1, v2, v3, v4, v5⟩ := ai_bc_of hr'
              have hsel : Jvm.Cond.selects r.1.cls r.1 r.1 ∈ ai_tb := (w8 hstat).2.resolve_left fun z => by
                rw [v5] at hini
                exact absurd (hini.mp z) (by decide)
              obtain ⟨fs, hfs⟩ := hvir rfl
              obtain ⟨r0, hr0, cell, q1, q2, q3, q4⟩ := hP.2 a _ (ai_obj_s hfs)
              refine fin _ (va_runV (As := As.map (ai_v E)) (b := E.1 + a) (C := r.1.cls) (n := g.2) ⟨hx, hb, hml, hown, hts⟩ hmet ⟨callB_of g.2 hts (ai_tbG w1) rfl rfl rfl (hts _ w2) (hts _ hlink) w4 ⟨hfr, by show 8 + (r.2.2.1 + 11) + 40 * (d + 1) ≤ R.locals; omega⟩, hts _ (w8 hstat).1, hts _ hsel⟩ ⟨ai_blind, ⟨cell, q1, by rw [q3]; rfl, ?_⟩, pre⟩ rfl (by rw [List.length_map]; exact hAl) hL.1 ?_ (lv_room (by rw [ai_sum_w]; exact hsum)) (hd rfl) ⟨by omega, by omega⟩)
              · have h5 := (hW.1.1 _ r0 hr0).2.1
                rw [(ai_C2_s hr0).1, v4, ← w3] at h5
                rw [q2, v4]
                exact h5
              · show st.map (ai_v E) = _
                rw [hst, List.map_append, List.map_reverse]
                rfl
            | invokespecial idx =>
              dsimp only [ai_inv] at hq
              split at hq
              next k hk2 =>
                obtain ⟨a, As, rest, rfl, hAl, hst, hsum, hsl', hini, hstat, -⟩ := ai_cll_s hq
                obtain ⟨r, hr', hmem, hmk⟩ := ai_Q_s hk2
                have hmet := ai_met hr' hmk hsl' g1 (ih _ _ _ _ _ _ _ hr)
                obtain ⟨w1, w2, w3, w4, w5, w6, w7, w8⟩ := hmk
                obtain ⟨v1, v2, v3, v4, v5⟩ := ai_bc_of hr'
                have hname : r.1.name = "<init>" := by rw [v5] at hini; exact hini.mpr rfl
                have hnone := ai_inone_s hr' hname
                have hnw := hW.2.2.2.2.2.1 _ hmem
                dsimp only at hnw
                rw [v5] at hnw
                have hgd := ai_tbG w1
                rw [hnone] at hmet hgd
                refine fin _ (va_runIN (As := As.map (ai_v E)) (b := E.1 + a) (n := 0) ⟨hx, hb, hml, hown, hts⟩ hmet ⟨va_cnB 0 hts hgd rfl rfl rfl hnw (hts _ w2) w4 ⟨hfr, by show 8 + (r.2.2.1 + 11) + 40 * (d + 1) ≤ R.locals; omega⟩, hname, hts _ (w8 hstat).1⟩ ⟨ai_blind, pre⟩ rfl (by rw [List.length_map]; exact hAl) hL.1 ?_ (lv_room (by rw [ai_sum_w]; exact hsum)) (hd rfl) ⟨by omega, by omega⟩)
                show st.map (ai_v E) = _
                rw [hst, List.map_append, List.map_reverse]
                rfl
              next =>
                obtain ⟨g, hg, hq⟩ := ai_o_s hq
                obtain ⟨a, As, rest, rfl, hAl, hst, hsum, hsl', hini, hstat, -⟩ := ai_cll_s hq
                obtain ⟨r, hr', hlink, hmk⟩ := ai_G_s (show ai_get ai_G (ai_ow mn) idx = some (g.1, g.2) from hg)
                have hmet := ai_met hr' hmk hsl' g1 (ih _ _ _ _ _ _ _ hr)
                obtain ⟨w1, w2, w3, w4, w5, w6, w7, w8⟩ := hmk
                obtain ⟨v1, v2, v3, v4, v5⟩ := ai_bc_of hr'
                have hname : r.1.name = "<init>" := by rw [v5] at hini; exact hini.mpr rfl
                have hnone := ai_inone_s hr' hname
                have hgd := ai_tbG w1
                rw [hnone] at hmet hgd
                refine fin _ (va_runI (As := As.map (ai_v E)) (b := E.1 + a) (n := g.2) ⟨hx, hb, hml, hown, hts⟩ hmet ⟨callB_of g.2 hts hgd rfl rfl rfl (hts _ w2) (hts _ hlink) w4 ⟨hfr, by show 8 + (r.2.2.1 + 11) + 40 * (d + 1) ≤ R.locals; omega⟩, hname, hts _ (w8 hstat).1⟩ ⟨ai_blind, pre⟩ rfl (by rw [List.length_map]; exact hAl) hL.1 ?_ (lv_room (by rw [ai_sum_w]; exact hsum)) (hd rfl) ⟨by omega, by omega⟩)
                show st.map (ai_v E) = _
                rw [hst, List.map_append, List.map_reverse]
                rfl
            | invokestatic idx =>
              obtain ⟨g, hg, hq⟩ := ai_o_s hq
              obtain ⟨hv, hq⟩ := ai_g_s hq
              cases hq
              simp only [Bool.and_eq_true, decide_eq_true_eq] at hv
              obtain ⟨hn, hsum, hsl', hstat⟩ := hv
              obtain ⟨r, hr', hlink, hmk⟩ := ai_G_s (show ai_get ai_G (ai_ow mn) idx = some (g.1, g.2) from hg)
              have hmet := ai_met hr' hmk hsl' g1 (ih _ _ _ _ _ _ _ hr)
              obtain ⟨w1, w2, w3, w4, w5, w6, w7, w8⟩ := hmk
              refine fin _ (va_runS (As := ((st.take g.2).reverse).map (ai_v E)) (n := g.2) ⟨hx, hb, hml, hown, hts⟩ hmet ⟨callB_of g.2 hts (ai_tbG w1) rfl rfl rfl (hts _ w2) (hts _ hlink) w4 ⟨hfr, by show 8 + (r.2.2.1 + 11) + 40 * (d + 1) ≤ R.locals; omega⟩, hts _ (w7 hstat)⟩ ⟨ai_blind, pre⟩ rfl (by rw [List.length_map, List.length_reverse, List.length_take]; omega) hL.1 ?_ (lv_room (by rw [ai_sum_w]; exact hsum)) (hd rfl) ⟨by omega, by omega⟩)
              show st.map (ai_v E) = _
              rw [← List.map_reverse, List.reverse_reverse, ← List.map_append, List.take_append_drop]
            | _ => cases hq
      · cases e
        have hrp := ai_ret_s hq
        have hl1 : decode (ai_bc mn) pc = .ok (i, 1) := by
          rcases hrp with ⟨rfl, -⟩ | ⟨v, rfl, -⟩ | ⟨v, C, rfl, -⟩ <;> exact hd rfl
        have h9 := kr pc ls i st H locs hl1 hrp hP hS
        simp only [Nat.sub_self, Nat.add_zero] at h9
        exact h9
