theorem ai_tb_lw {w : Jvm.Cond} (h : w ∈ ai_tb) : w ∈ lw_tbl := (List.mem_filter.mp h).1
theorem ai_W0 {s : State} {b L : Nat} {xs : Nat → Int32} (hts : ∀ w ∈ lw_tbl, w.before #[Value.ref b] s = true) (hX : va_X b L xs s s.heap) (hbl : b < s.heap.size) (hgv : (Jvm.Cond.and given_1 narrow_1).before #[Value.ref b] s = true) : ∃ (D : ai_D) (a1 : Nat), ai_W D (s.heap.size, b, a1) (L, xs) s := by
  have h1 : ∀ c : Nat, ∃ q : ClassId × (Nat → Nat), ∀ r : vw_C, ai_cl[c]? = some r → u_Kn s r.1 r.2.1 r.2.2 q.1 q.2 := by
    intro c
    cases hc : ai_cl[c]? with
    | none => exact ⟨(0, fun _ => 0), fun r h => by cases h⟩
    | some r =>
      obtain ⟨a, b2, c2⟩ := ai_C_s (List.mem_of_getElem? hc)
      obtain ⟨cC, iS, h⟩ := u_known (ws := lw_tbl) (T := r.2.1) (N := r.2.2) hts (fun w hw => ai_tb_lw (c2 w hw)) (hts _ (ai_tb_lw a))
      exact ⟨(cC, iS), fun r' h' => by cases h'; exact h⟩
  have h2 : ∀ t : Nat, ∃ cA : ClassId, t < 5 → ArrOfT s cA (ai_at t) ∧ va_RA s cA (ai_at t) := by
    intro t
    by_cases ht : t < 5
    · have hp : ∀ c : Nat, ai_ao c = some t → ∃ cA : ClassId, t < 5 → ArrOfT s cA (ai_at t) ∧ va_RA s cA (ai_at t) := by
        intro c hc
        obtain ⟨-, -, -, hat⟩ := ai_ao_s hc
        obtain ⟨comp, cA, kA, f1, -, f2, f3, f5⟩ := Cond.arrayOver_spec (hts _ (ai_wA hc))
        refine ⟨cA, fun _ => ?_⟩
        rw [hat]
        exact ⟨fun N z => ⟨fun k h => (by cases h), kA, f2, comp, f3⟩, kA, comp, f2, f3, f1, f5⟩
      rcases (by omega : t = 0 ∨ t = 1 ∨ t = 2 ∨ t = 3 ∨ t = 4) with rfl | rfl | rfl | rfl | rfl
      · obtain ⟨cA, kA, comp, f1, f2, f3⟩ := Cond.arrayClass_spec (hts _ (ai_tb_lw ai_wI))
        exact ⟨cA, fun _ => ⟨fun N z => ⟨fun k h => (by cases h), kA, f2, comp, f3⟩, f1⟩⟩
      · obtain ⟨cA, kA, comp, f1, f2, f3⟩ := Cond.arrayClass_spec (hts _ (ai_tb_lw ai_wB))
        exact ⟨cA, fun _ => ⟨fun N z => ⟨fun k h => (by cases h), kA, f2, comp, f3⟩, f1⟩⟩
      · exact hp 5 rfl
      · exact hp 6 rfl
      · exact hp 1 rfl
    · exact ⟨0, fun h => absurd h ht⟩
  have hs := flat_of_before _ hgv
  have harr : (Jvm.Cond.arrayOf (.static RX9 "CYCLES" "[I") .int).before #[Value.ref b] s = true := hs _ (by decide +kernel)
  have hlen : (Jvm.Cond.eq (.length (.static RX9 "CYCLES" "[I")) (.int 5)).before #[Value.ref b] s = true := hs _ (by decide +kernel)
  have e0 : (Jvm.Cond.eq (.elem (.static RX9 "CYCLES" "[I") (.int 0)) (.int 12)).before #[Value.ref b] s = true := hs _ (by decide +kernel)
  have e1 : (Jvm.Cond.eq (.elem (.static RX9 "CYCLES" "[I") (.int 1)) (.int 24)).before #[Value.ref b] s = true := hs _ (by decide +kernel)
  have e2 : (Jvm.Cond.eq (.elem (.static RX9 "CYCLES" "[I") (.int 2)) (.int 48)).before #[Value.ref b] s = true := hs _ (by decide +kernel)
  have e3 : (Jvm.Cond.eq (.elem (.static RX9 "CYCLES" "[I") (.int 3)) (.int 60)).before #[Value.ref b] s = true := hs _ (by decide +kernel)
  have e4 : (Jvm.Cond.eq (.elem (.static RX9 "CYCLES" "[I") (.int 4)) (.int 120)).before #[Value.ref b] s = true := hs _ (by decide +kernel)
  have hA : ∀ a : Nat, a < s.heap.size → ¬ s.heap.size ≤ a := fun a h => Nat.not_le.mpr h
  obtain ⟨t, ht, hT⟩ := va_Tof (N := 5) (A := fun q => s.heap.size ≤ q) (f := fun j => .int (ai_cyc j)) (by decide) harr (va_eqt hlen) (fun j hj => by
    rcases (by omega : j = 0 ∨ j = 1 ∨ j = 2 ∨ j = 3 ∨ j = 4) with rfl | rfl | rfl | rfl | rfl
    · exact va_eqt e0
    · exact va_eqt e1
    · exact va_eqt e2
    · exact va_eqt e3
    · exact va_eqt e4) hA
  have htl : t < s.heap.size := by
    obtain ⟨cell, g1, -⟩ := hT
    exact (Array.getElem?_eq_some_iff.mp g1).1
  refine ⟨((fun c => (Classical.choose (h1 c)).1, fun c => (Classical.choose (h1 c)).2), fun t => Classical.choose (h2 t)), t, ⟨fun c q hq => Classical.choose_spec (h1 c) q hq, fun k q hq => ?_⟩, ⟨hX, hbl⟩, ⟨hT, htl⟩, va_Zref (hts _ ai_wS) (hts _ (ai_tb_lw (ai_C_s (r := (RX9, TX9, 6)) (List.mem_of_getElem? (i := 9) rfl)).2.1)) ht hA, Nat.le_refl _, fun q hq => ?_, fun c t hc => va_AO.of (hts _ (ai_wA hc))⟩
  · have hk : k < 5 := (List.getElem?_eq_some_iff.mp hq).1
    rw [ai_tys_at _ hk] at hq
    cases hq
    exact Classical.choose_spec (h2 k) hk
  · obtain ⟨j, hj⟩ := ai_z2 (by decide +kernel) ai_ckQ hq
    unfold ai_pQ at hj
    simp only [Bool.and_eq_true, decide_eq_true_eq] at hj
    obtain ⟨g1, g2, g3⟩ := hj
    split at g3
    next r hr =>
      have g4 := of_decide_eq_true g3
      have g5 : ai_nm q.2 = r.1 := (ai_bc_of hr).2.2.2.2
      rw [g5]
      exact va_Nw.of rfl (hts _ (List.mem_of_getElem? g4))
    next => cases g3
