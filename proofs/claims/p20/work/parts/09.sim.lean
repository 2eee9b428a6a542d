def ai_rp (mn : Nat) (i : Instr) (st : List Value) (r : Option Value) : Prop := (i = .return_ ∧ st = [] ∧ r = none ∧ ai_rt mn = none) ∨ (∃ v : Int32, i = .ireturn ∧ st = [.int v] ∧ r = some (.int v) ∧ (ai_rt mn = some .int ∨ (ai_rt mn = some .boolean ∧ v &&& 1 = v))) ∨ (∃ (v : Value) (C : String), i = .areturn ∧ st = [v] ∧ r = some v ∧ ai_rt mn = some (.object C) ∧ (v = .null ∨ ∃ a, v = .ref a))
theorem ai_ret_s {mn : Nat} {st : List Value} {i : Instr} {r : Option Value} (h : ai_ret mn st i = some r) : ai_rp mn i st r := by
  cases i with
  | return_ =>
    dsimp only [ai_ret] at h
    split at h
    · obtain ⟨h1, h2⟩ := ai_g_s h
      cases h2
      exact Or.inl ⟨rfl, rfl, rfl, of_decide_eq_true h1⟩
    · cases h
  | ireturn =>
    obtain ⟨x, q, rfl, h⟩ := ai_m1_s h
    obtain ⟨h1, h2⟩ := ai_g_s h
    cases h2
    simp only [Bool.and_eq_true, Bool.or_eq_true, decide_eq_true_eq, List.isEmpty_iff] at h1
    obtain ⟨rfl, h1⟩ := h1
    exact Or.inr (Or.inl ⟨x, rfl, rfl, rfl, h1⟩)
  | areturn =>
    obtain ⟨v, q, rfl, h⟩ := ai_c1_s h
    obtain ⟨h1, h2⟩ := ai_g_s h
    cases h2
    simp only [Bool.and_eq_true, List.isEmpty_iff] at h1
    obtain ⟨rfl, h3, h4, h5⟩ := h1
    have hC : ∃ C, ai_rt mn = some (.object C) := by
      unfold ai_obr at h3
      split at h3
      next C e => exact ⟨C, e⟩
      next => cases h3
    obtain ⟨C, hC⟩ := hC
    refine Or.inr (Or.inr ⟨v, C, rfl, rfl, rfl, hC, ?_⟩)
    cases v with
    | ref a => exact Or.inr ⟨a, rfl⟩
    | null => exact Or.inl rfl
    | float u => cases h5
    | _ => cases h4
  | _ => cases h
theorem ai_step_s {S : ai_S} {mn pc : Nat} {L : ai_L} {st : List Value} {h : ai_H} {z : ai_R} (e : ai_step S mn pc L st h = some z) : ∃ i, ai_I mn pc = some i ∧ ((ai_kd mn i = 0 ∧ ∃ q, ai_do S mn pc L st h i = some q ∧ z = .inl q) ∨ (∃ q, ai_inv mn st h i = some q ∧ z = .inr (.inl q)) ∨ (∃ q, ai_ret mn st i = some q ∧ z = .inr (.inr q))) := by
  unfold ai_step at e
  split at e
  next i hi =>
    refine ⟨i, hi, ?_⟩
    unfold ai_stp at e
    split at e
    next hk =>
      obtain ⟨q, hq, rfl⟩ := Option.map_eq_some_iff.mp e
      exact Or.inl ⟨hk, q, hq, rfl⟩
    next hk =>
      obtain ⟨q, hq, rfl⟩ := Option.map_eq_some_iff.mp e
      exact Or.inr (Or.inl ⟨q, hq, rfl⟩)
    next =>
      obtain ⟨q, hq, rfl⟩ := Option.map_eq_some_iff.mp e
      exact Or.inr (Or.inr ⟨q, hq, rfl⟩)
  next => cases e
theorem ai_grow {S : ai_S} : ∀ (n d mn pc : Nat) (L : ai_L) (st : List Value) (h : ai_H) (x : Option Value × ai_H), ai_run S n d mn pc L st h = some x → h.1.length ≤ x.2.1.length ∧ h.2 ≤ x.2.2 := by
  intro n
  induction n with
  | zero => intro d mn pc L st h x e; simp [ai_run] at e
  | succ n ih =>
    intro d mn pc L st h x e
    rw [ai_run] at e
    cases hs : ai_step S mn pc L st h with
    | none => rw [hs] at e; cases e
    | some q =>
      rw [hs] at e
      obtain ⟨i, hi, ⟨hk, q', hq, rfl⟩ | ⟨q', hq, rfl⟩ | ⟨q', hq, rfl⟩⟩ := ai_step_s hs
      · have h1 := ai_do_grow hq
        have h2 := ih _ _ _ _ _ _ _ e
        exact ⟨Nat.le_trans h1.1 h2.1, Nat.le_trans h1.2 h2.2⟩
      · cases d with
        | zero => cases e
        | succ d =>
          dsimp only at e
          cases hr : ai_run S n d q'.1 0 (lv_args 0 q'.2.1) [] h with
          | none => rw [hr] at e; cases e
          | some y =>
            rw [hr] at e
            have h1 := ih _ _ _ _ _ _ _ hr
            have h2 := ih _ _ _ _ _ _ _ e
            exact ⟨Nat.le_trans h1.1 h2.1, Nat.le_trans h1.2 h2.2⟩
      · cases e
        exact ⟨Nat.le_refl _, Nat.le_refl _⟩
theorem ai_cll_s {h : ai_H} {mn n : Nat} {vir ini : Bool} {st : List Value} {z : Nat × List Value × List Value} (e : ai_cll h mn n vir ini st = some z) : ∃ (a : Nat) (As rest : List Value), z = (mn, .ref a :: As, rest) ∧ As.length = n ∧ st = As.reverse ++ .ref a :: rest ∧ ai_sum rest ≤ 8 ∧ (lg_sl (.ref a :: As)).length ≤ ai_ml mn ∧ ((ai_nm mn).name = "<init>" ↔ ini = true) ∧ ai_Sm.contains mn = false ∧ (vir = true → ∃ fs, ai_obj h a (ai_ow mn) = some fs) := by
  unfold ai_cll at e
  obtain ⟨v, rest, hd, e⟩ := ai_c1_s e
  obtain ⟨a, rfl, e⟩ := ai_ref_s e
  obtain ⟨h1, h2⟩ := ai_g_s e
  cases h2
  simp only [Bool.and_eq_true, decide_eq_true_eq, Bool.not_eq_true'] at h1
  obtain ⟨g1, g2, g3, g4, g5⟩ := h1
  have hl : n < st.length := by
    apply Nat.lt_of_not_le
    intro hle
    rw [List.drop_eq_nil_of_le hle] at hd
    cases hd
  refine ⟨a, (st.take n).reverse, rest, rfl, by rw [List.length_reverse, List.length_take]; omega, ?_, g1, g2, g3, g4, fun hv => ?_⟩
  · rw [List.reverse_reverse, ← hd, List.take_append_drop]
  · subst hv
    exact Option.isSome_iff_exists.mp g5
/-- the end of a call -/
def ai_Qc (D : ai_D) (E : ai_E) (x : Option Value × ai_H) : Array Value → State → Outcome → State → Prop := fun _ st oc t => oc = .returned (x.1.map (ai_v E)) ∧ ai_P D E x.2.1 t.heap ∧ va_F (fun q => E.1 ≤ q) st t
def ai_Pc (D : ai_D) (E : ai_E) (S : ai_S) (as : List Value) (h : List ai_C) : Array Value → State → Prop := fun v U => v = (as.map (ai_v E)).toArray ∧ ai_P D E h U.heap ∧ ai_W D E S U
theorem ai_W.same {D : ai_D} {E : ai_E} {S : ai_S} {s U : State} (h : ai_W D E S s) (hv : U.vm = s.vm) (hh : U.heap = s.heap) : ai_W D E S U := by
  obtain ⟨h1, ⟨h2, h2'⟩, ⟨h3, h3'⟩, h4, h5, h6, h7⟩ := h
  have al : s.vm.Alike U.vm := by rw [hv]; exact Vm.Alike.refl _
  refine ⟨va_K.moved al h1, ⟨by rw [hh]; exact h2.moved al, h2'⟩, ⟨by rw [hh]; exact h3.moved al, h3'⟩, by rw [hh]; exact h4.moved al, by rw [hh]; exact h5, fun q hq => va_Nw.same rfl hv.symm (h6 q hq), fun c t hc => va_AO.moved al (h7 c t hc)⟩
theorem ai_blind {D : ai_D} {E : ai_E} {S : ai_S} {as : List Value} {h : List ai_C} : FrameBlind (ai_Pc D E S as h) := fun a U g mk q => ⟨q.1, q.2.1, q.2.2.same rfl rfl⟩
theorem Met.ofWF {l : Launch} {y : MethodName} {ws ws' : List Jvm.Cond} {rm : Room} {Pc : Array Value → State → Prop} {Qc : Array Value → State → Outcome → State → Prop} {mc ms : Nat} {free : Addr → Prop} {cc : ByteArray} {maxL : Nat} {ret : Option FieldType}
    (hy : plainFor y = true) (hw : ws = Jvm.Cond.code y cc maxL ret :: ws')
    (body : ∀ p e s m args below meth c s₁, BodyLoose p l y (headSpec ws rm) cc maxL ret e s m args below meth c s₁ → c.maxLocals = maxL → Pc args s →
      W p l e (headSpec ws rm).room s m args below meth c s.heap [] 0 0 (MQ below Qc args s mc ms free) (entryFrame m args maxL)) : Met l y ws rm Pc Qc mc ms free := by
  refine MetFree.of_bodySF (code := cc) (maxLocals := maxL) (ret := ret) hy ?_ ?_
  · intro args s m h hn
    obtain ⟨meth, c, h1, h2, h3, h4, h5, h6, -, -⟩ := Cond.code_spec hn (atoms_spec (ws := ws) h _ (by rw [hw]; exact List.mem_cons_self))
    exact ⟨meth, c, h1, h2, h3, h4, h5, h6⟩
  · intro p e s m args below meth c s₁ B hml hP _
    have hh0 : s₁.heap = s.heap := by rw [B.state]; rfl
    obtain ⟨t, a1, o, b1, b2, b3⟩ := body p e s m args below meth c s₁ B hml hP s₁ hh0 (Stand.of_body B)
    exact ⟨t, o, a1, b1, b2, ⟨b3.1, b3.2⟩⟩
/-- what a run of the interpreter gives of the machine -/
def ai_Sim (l : Launch) (S : ai_S) (D : ai_D) (E : ai_E) (d mn pc : Nat) (L : ai_L) (st : List Value) (h : ai_H) (x : Option Value × ai_H) : Prop :=
  ∀ (p : Program) (e : Env) (R : Room) (s : State) (m : MethodId) (args : Array Value) (below : List Frame) (meth : Method) (c : Code) (H : Heap) (locs : List Loc) (cells slots : Nat) (Q : State → Prop) (ls : Array Slot),
    ai_X p s m args meth c mn → ai_W D E S s → lv_has ls (ai_ml mn) (L.map (ai_w E)) → ai_P D E h.1 H → va_S (fun q => E.1 ≤ q) s.heap H locs → d + 1 ≤ R.frames → 40 * (d + 1) ≤ R.locals → cells + x.2.1.length ≤ R.cells + h.1.length → slots + x.2.2 ≤ R.slots + h.2 →
    (∀ (pc' : Nat) (ls' : Array Slot) (i : Instr) (st' : List Value) (H' : Heap) (locs' : List Loc), decode (ai_bc mn) pc' = .ok (i, 1) → ai_rp mn i st' x.1 → ai_P D E x.2.1 H' → va_S (fun q => E.1 ≤ q) s.heap H' locs' → W p l e R s m args below meth c H' locs' (cells + (x.2.1.length - h.1.length)) (slots + (x.2.2 - h.2)) Q (F0 m pc' ls' (st'.map (ai_v E)))) →
    W p l e R s m args below meth c H locs cells slots Q (F0 m pc ls (st.map (ai_v E)))
theorem ai_bc_of {mn : Nat} {r : MethodName × ByteArray × Nat × Option FieldType × Nat} (h : ai_M[mn]? = some r) : ai_bc mn = r.2.1 ∧ ai_ml mn = r.2.2.1 ∧ ai_rt mn = r.2.2.2.1 ∧ ai_ow mn = r.2.2.2.2 ∧ ai_nm mn = r.1 := by
  refine ⟨?_, ?_, ?_, ?_, ?_⟩
  · unfold ai_bc; rw [h]
  · unfold ai_ml; rw [h]
  · unfold ai_rt; rw [h]
  · unfold ai_ow; rw [h]
  · unfold ai_nm; rw [h]
/-- a callee's contract out of its run -/
theorem ai_met {l : Launch} {S : ai_S} {D : ai_D} {E : ai_E} {d mn n : Nat} {as : List Value} {h : ai_H} {x : Option Value × ai_H} {r : MethodName × ByteArray × Nat × Option FieldType × Nat} (hr : ai_M[mn]? = some r) (hk : ai_mk r mn n) (hsl : (lg_sl as).length ≤ ai_ml mn) (hg : h.1.length ≤ x.2.1.length ∧ h.2 ≤ x.2.2)
    (sim : ai_Sim l S D E d mn 0 (lv_args 0 as) [] h x) : Met l r.1 (Jvm.Cond.code r.1 r.2.1 r.2.2.1 r.2.2.2.1 :: ai_tb) { frames := d + 1, cells := x.2.1.length - h.1.length, slots := x.2.2 - h.2, locals := 40 * (d + 1) } (ai_Pc D E S as h.1) (ai_Qc D E x) (x.2.1.length - h.1.length) (x.2.2 - h.2) (fun q => E.1 ≤ q) := by
  obtain ⟨e1, e2, e3, e4, e5⟩ := ai_bc_of hr
  obtain ⟨-, -, hcls, -, hpl, -⟩ := hk
  refine Met.ofWF (cc := r.2.1) (maxL := r.2.2.1) (ret := r.2.2.2.1) hpl rfl ?_
  intro p e s m args below meth c s₁ B hml hv
  obtain ⟨rfl, hP, hW⟩ := hv
  have hts := atoms_spec (ws := Jvm.Cond.code r.1 r.2.1 r.2.2.1 r.2.2.2.1 :: ai_tb) B.pre
  have hown : s.vm.findClass r.1.cls = some m.cls := findClass_of_methodNamed B.named
  have hlocks := B.notSynchronized
  have hX : ai_X p s m (as.map (ai_v E)).toArray meth c mn := ⟨B.exec, by rw [e1]; exact B.bytes, by rw [e2]; exact hml, by rw [e4, ← hcls]; exact hown, fun w hw => hts w (List.mem_cons_of_mem _ hw), fun z => (name_of_methodNamed B.named B.method).1.trans (by rw [e5] at z; exact z), by rw [e5, e4]; exact hcls⟩
  have hl := lv_entry (as.map (ai_v E)) (n := r.2.2.1) (by rw [ai_sl_w, ← e2]; exact hsl)
  rw [lg_entry_eq]
  generalize (lg_sl (as.map (ai_v E)) ++ List.replicate (r.2.2.1 - (lg_sl (as.map (ai_v E))).length) Slot.unset).toArray = ls at hl ⊢
  rw [ai_args_w, ← e2] at hl
  have hS : va_S (fun q => E.1 ≤ q) s.heap s.heap [] := va_S.rf
  refine sim p e _ s m _ below meth c s.heap [] 0 0 _ ls hX hW hl hP hS (Nat.le_refl _) (Nat.le_refl _) ?_ ?_ ?_
  · show 0 + x.2.1.length ≤ x.2.1.length - h.1.length + h.1.length
    omega
  · show 0 + x.2.2 ≤ x.2.2 - h.2 + h.2
    omega
  · intro pc' ls' i st' H' locs' hd hrp hP' hS'
    rw [Nat.zero_add, Nat.zero_add]
    have hb : c.code = ai_bc mn := hX.2.1
    have hret : meth.sig.returnType = ai_rt mn := by rw [e3]; exact B.returns
    have fin : ∀ v : Option Value, x.1 = v → ∀ t : State, t.heap = H' → ai_Qc D E x (as.map (ai_v E)).toArray s (.returned (v.map (ai_v E))) t := by
      intro v hv t ht
      refine ⟨by rw [hv], by rw [ht]; exact hP', hS'.F ht⟩
    rcases hrp with ⟨rfl, rfl, hr1, hr2⟩ | ⟨v, rfl, rfl, hr1, hr2⟩ | ⟨v, C, rfl, rfl, hr1, hr2, hr3⟩
    · exact W.vret B.exec hb (hret.trans hr2) (fun t ht _ => fin none hr1 t ht) hS'.2.2 hd
    · rcases hr2 with hr2 | ⟨hr2, hr3⟩
      · exact W.iret (v := v) B.exec hb (hret.trans hr2) (fun t ht _ => fin (some (.int v)) hr1 t ht) hS'.2.2 hd
      · exact W.zret (v := v) B.exec hb (hret.trans hr2) (by show Value.int (v &&& 1) = _; rw [hr3]) (fun t ht _ => fin (some (.int v)) hr1 t ht) hS'.2.2 hd
    · refine W.aret (v := ai_v E v) B.exec hb (hret.trans hr2) (Or.inl ⟨C, rfl⟩) ?_ (fun t ht _ => fin (some v) hr1 t ht) hS'.2.2 hd
      rcases hr3 with rfl | ⟨a, rfl⟩
      · exact Or.inl rfl
      · exact Or.inr ⟨_, rfl⟩
section AI3
variable {p : Program} {l : Launch} {e : Env} {R : Room} {s : State} {m : MethodId} {args : Array Value} {below : List Frame} {meth : Method} {c : Code} {H : Heap} {locs : List Loc} {cells slots : Nat} {Q : State → Prop}
theorem ai_call {pc : Nat} {ls : Array Slot} {st0 rest : List Value} {mc ms : Nat} {Qa : State → Outcome → State → Prop} {free : Addr → Prop} (hr : va_Run p l e R s m args below meth c H locs cells slots mc ms (F0 m pc ls st0) rest Qa free)
    (kk : ∀ (v : Option Value) (st₀ t : State) (L : List Loc), st₀.heap = H → s.vm.Alike t.vm → (∀ q ∈ L, free q.base) → Qa st₀ (.returned v) t → W p l e R s m args below meth c t.heap (locs ++ L) (cells + mc) (slots + ms) Q (F0 m (pc + 3) ls (v.toList ++ rest))) : W p l e R s m args below meth c H locs cells slots Q (F0 m pc ls st0) := by
  intro T hT X
  obtain ⟨v, st₀, t, T', L, h0, X', hL, e1, e2, hq, st⟩ := hr T hT X
  obtain ⟨t2, a1, b1⟩ := kk v st₀ t L h0 (by rw [← e2]; exact X'.warmed.alike) hL hq T' e1 X'
  exact ⟨t2, st t2 a1, b1⟩
end AI3
theorem ai_tbG {r : MethodName × ByteArray × Nat × Option FieldType × Nat} (hc : Jvm.Cond.code r.1 r.2.1 r.2.2.1 r.2.2.2.1 ∈ ai_tb) : GoodIn ai_tb (Jvm.Cond.code r.1 r.2.1 r.2.2.1 r.2.2.2.1 :: ai_tb) := by
  intro w hw
  have h1 : w ∈ ai_tb := by
    rcases List.mem_cons.mp hw with rfl | h
    · exact hc
    · exact h
  exact ⟨h1, good_of_word (List.all_eq_true.mp ai_tb_good w h1)⟩
