abbrev ai_E : Type := Nat × Nat × Nat
def ai_v (E : ai_E) : Value → Value
  | .ref i => .ref (E.1 + i)
  | .float u => .ref (if u = 0 then E.2.1 else E.2.2)
  | v => v
theorem ai_v_cat (E : ai_E) (v : Value) : (ai_v E v).category = v.category := by cases v <;> rfl
def ai_w (E : ai_E) (q : Nat × Value) : Nat × Value := (q.1, ai_v E q.2)
abbrev ai_D : Type := va_G × (Nat → ClassId)
def ai_tys (aC : Nat → ClassId) : List (ClassId × FieldType) := [(aC 0, ai_at 0), (aC 1, ai_at 1), (aC 2, ai_at 2), (aC 3, ai_at 3), (aC 4, ai_at 4)]
theorem ai_tys_at (aC : Nat → ClassId) {t : Nat} (h : t < 5) : (ai_tys aC)[t]? = some (aC t, ai_at t) := by
  rcases (by omega : t = 0 ∨ t = 1 ∨ t = 2 ∨ t = 3 ∨ t = 4) with rfl | rfl | rfl | rfl | rfl <;> rfl
def ai_hc (D : ai_D) (E : ai_E) (i : Nat) (c : ai_C) (H : Heap) : Prop := match c with
  | .inl (t, n, .inl f) => H[E.1 + i]? = some (arrV (D.2 t) n (fun j => .int (f j)))
  | .inl (t, n, .inr g) => H[E.1 + i]? = some (arrV (D.2 t) n (fun j => ai_v E (va_rf (g j))))
  | .inr (k, fs) => ∃ r : vw_C, ai_cl[k]? = some r ∧ t_OB (E.1 + i) (D.1.1 k) r.2.2 (D.1.2 k) H (vp_V (fs.map (ai_v E)))
theorem ai_hc.kept {D : ai_D} {E : ai_E} {i : Nat} {c : ai_C} {H H1 : Heap} (h : ai_hc D E i c H) (e : H1[E.1 + i]? = H[E.1 + i]?) : ai_hc D E i c H1 := by
  rcases c with ⟨t, n, f | f⟩ | ⟨k, fs⟩
  · show H1[E.1 + i]? = _
    rw [e]; exact h
  · show H1[E.1 + i]? = _
    rw [e]; exact h
  · obtain ⟨r, h1, h2⟩ := h
    exact ⟨r, h1, h2.kept e⟩
def ai_P (D : ai_D) (E : ai_E) (h : List ai_C) (H : Heap) : Prop := H.size = E.1 + h.length ∧ ∀ (i : Nat) (c : ai_C), h[i]? = some c → ai_hc D E i c H
theorem ai_P.set {D : ai_D} {E : ai_E} {h : List ai_C} {H H1 : Heap} {a : Nat} {c : ai_C} (hP : ai_P D E h H) (hz : H1.size = H.size) (ho : ∀ q : Nat, q ≠ E.1 + a → H1[q]? = H[q]?) (hc : ai_hc D E a c H1) : ai_P D E (h.set a c) H1 := by
  refine ⟨by rw [hz, hP.1, List.length_set], fun i c' hi => ?_⟩
  by_cases e : a = i
  · subst e
    have hl : a < h.length := by
      have := (List.getElem?_eq_some_iff.mp hi).1
      rwa [List.length_set] at this
    rw [List.getElem?_set_self hl] at hi
    cases hi
    exact hc
  · rw [List.getElem?_set_ne e] at hi
    exact (hP.2 i c' hi).kept (ho _ (by omega))
theorem ai_P.app {D : ai_D} {E : ai_E} {h : List ai_C} {H H1 : Heap} {c : ai_C} (hP : ai_P D E h H) (hz : H1.size = H.size + 1) (ho : ∀ q : Nat, q < H.size → H1[q]? = H[q]?) (hc : ai_hc D E h.length c H1) : ai_P D E (h ++ [c]) H1 := by
  refine ⟨by rw [hz, hP.1, List.length_append]; rfl, fun i c' hi => ?_⟩
  by_cases e : i < h.length
  · rw [List.getElem?_append_left e] at hi
    exact (hP.2 i c' hi).kept (ho _ (by rw [hP.1]; omega))
  · rw [List.getElem?_append_right (by omega)] at hi
    have hl : i - h.length < 1 := (List.getElem?_eq_some_iff.mp hi).1
    have e2 : i = h.length := by omega
    subst e2
    rw [Nat.sub_self] at hi
    cases hi
    exact hc
/-- what stays the same of the world all along -/
def ai_W (D : ai_D) (E : ai_E) (S : ai_S) (s : State) : Prop := va_K D.1 ai_cl (ai_tys D.2) s ∧ (va_X E.2.1 S.1 S.2 s s.heap ∧ E.2.1 < E.1) ∧ (va_T .int E.2.2 5 (fun j => .int (ai_cyc j)) (fun q => E.1 ≤ q) s s.heap ∧ E.2.2 < E.1) ∧ va_Z RX9 "CYCLES" "[I" (.ref E.2.2) (fun q => E.1 ≤ q) s s.heap ∧ E.1 ≤ s.heap.size ∧ (∀ q ∈ ai_Q, va_Nw (.methodLinkNest (ai_Rn q.1.1) q.1.2 (ai_nm q.2) RX9) s) ∧ (∀ c t, ai_ao c = some t → va_AO (ai_Rn c) s)
theorem ai_W.moved {D : ai_D} {E : ai_E} {S : ai_S} {s U : State} {H : Heap} {locs : List Loc} (h : ai_W D E S s) (hw : s.WarmedH U.vm) (hH : U.heap = H) (hS : va_S (fun q => E.1 ≤ q) s.heap H locs) : ai_W D E S U := by
  obtain ⟨h1, ⟨h2, h2'⟩, ⟨h3, h3'⟩, h4, h5, h6, h7⟩ := h
  subst hH
  have al := hw.alike
  refine ⟨va_K.moved al h1, ⟨(h2.moved al).kept (hS.2.1 _ (by omega) (by omega)), h2'⟩, ⟨(h3.moved al).kept (fun a h1 h2 => hS.2.1 a h1 h2), h3'⟩, (h4.moved al).kept (fun a h1 h2 => hS.2.1 a h1 h2), Nat.le_trans h5 hS.1, fun q hq => (h6 q hq).warmM hw, fun c t hc => va_AO.moved al (h7 c t hc)⟩
theorem lv_weak {ls : Array Slot} {n : Nat} {l l' : List (Nat × Value)} (h : lv_has ls n l) (hs : ∀ q ∈ l', q ∈ l) : lv_has ls n l' := ⟨h.1, h.2.1, fun q hq => h.2.2 q (hs q hq)⟩
theorem ai_look_mem {L : ai_L} {k : Nat} {v : Value} (h : ai_look L k = some v) : (k, v) ∈ L := by
  unfold ai_look at h
  obtain ⟨q, hq, rfl⟩ := Option.map_eq_some_iff.mp h
  have h1 := List.find?_some hq
  have h2 := List.mem_of_find?_eq_some hq
  obtain ⟨a, b⟩ := q
  simp only [beq_iff_eq] at h1
  subst h1
  exact h2
theorem ai_look_s {E : ai_E} {L : ai_L} {k n : Nat} {v : Value} {ls : Array Slot} (h : ai_look L k = some v) (hl : lv_has ls n (L.map (ai_w E))) : ls[k]? = some (.val (ai_v E v)) :=
  hl.2.2 (k, ai_v E v) (List.mem_map.mpr ⟨(k, v), ai_look_mem h, rfl⟩)
theorem ai_put_w {E : ai_E} {i : Nat} {v : Value} {L : ai_L} {q : Nat × Value} (h : q ∈ (ai_put i v L).map (ai_w E)) : q ∈ (i, ai_v E v) :: (L.map (ai_w E)).filter (fun q => !(q.1 == i) && !(q.1 + 1 == i && q.2.category == 2)) := by
  obtain ⟨q', hq, rfl⟩ := List.mem_map.mp h
  rcases List.mem_cons.mp (ai_sort_mem hq) with rfl | h1
  · exact List.mem_cons_self
  · obtain ⟨h2, h3⟩ := List.mem_filter.mp h1
    refine List.mem_cons_of_mem _ (List.mem_filter.mpr ⟨List.mem_map.mpr ⟨q', h2, rfl⟩, ?_⟩)
    show (!(q'.1 == i) && !(q'.1 + 1 == i && (ai_v E q'.2).category == 2)) = true
    rw [ai_v_cat]
    exact h3
theorem ai_put2_w {E : ai_E} {i : Nat} {v : Value} {L : ai_L} {q : Nat × Value} (h : q ∈ (ai_put2 i v L).map (ai_w E)) : q ∈ (i, ai_v E v) :: (L.map (ai_w E)).filter (fun q => !(q.1 == i) && (!(q.1 == i + 1) && !(q.1 + 1 == i && q.2.category == 2))) := by
  obtain ⟨q', hq, rfl⟩ := List.mem_map.mp h
  rcases List.mem_cons.mp (ai_sort_mem hq) with rfl | h1
  · exact List.mem_cons_self
  · obtain ⟨h2, h3⟩ := List.mem_filter.mp h1
    refine List.mem_cons_of_mem _ (List.mem_filter.mpr ⟨List.mem_map.mpr ⟨q', h2, rfl⟩, ?_⟩)
    show (!(q'.1 == i) && (!(q'.1 == i + 1) && !(q'.1 + 1 == i && (ai_v E q'.2).category == 2))) = true
    rw [ai_v_cat]
    exact h3
theorem ai_args_w (E : ai_E) (vs : List Value) : ∀ i, lv_args i (vs.map (ai_v E)) = (lv_args i vs).map (ai_w E) := by
  induction vs with
  | nil => intro i; rfl
  | cons v t ih =>
    intro i
    show (i, ai_v E v) :: lv_args (if (ai_v E v).category = 2 then i + 2 else i + 1) (t.map (ai_v E)) = _
    rw [ai_v_cat, ih]
    rfl
theorem ai_sl_w (E : ai_E) (vs : List Value) : (lg_sl (vs.map (ai_v E))).length = (lg_sl vs).length := by
  induction vs with
  | nil => rfl
  | cons v t ih =>
    simp only [lg_sl, List.map_cons, List.flatMap_cons, List.length_append, ai_v_cat] at ih ⊢
    rw [ih]
    split <;> rfl
theorem ai_sum_w (E : ai_E) (vs : List Value) : ((vs.map (ai_v E)).map fun v => v.category).sum = ai_sum vs := by
  unfold ai_sum
  rw [List.map_map]
  congr 1
  apply List.map_congr_left
  intro v _
  exact ai_v_cat E v
def ai_X (p : Program) (s : State) (m : MethodId) (args : Array Value) (meth : Method) (c : Code) (mn : Nat) : Prop := p.tables.exec = Jvm.exec ∧ c.code = ai_bc mn ∧ c.maxLocals = ai_ml mn ∧ s.vm.findClass (ai_Rn (ai_ow mn)) = some m.cls ∧ (∀ w ∈ ai_tb, w.before args s = true) ∧ ((ai_nm mn).name = "<init>" → meth.name = "<init>") ∧ (ai_nm mn).cls = ai_Rn (ai_ow mn)
theorem ai_br_s {pc : Nat} {off : Int} {b : Bool} {L : ai_L} {st : List Value} {h : ai_H} {x : ai_Y} (hs : ai_br pc off b L st h = some x) : (pc : Int) + off = ((((pc : Int) + off).toNat : Nat) : Int) ∧ x = (if b = true then ((pc : Int) + off).toNat else pc + 3, L, st, h) := by
  obtain ⟨h1, h2⟩ := ai_g_s hs
  have h3 := of_decide_eq_true h1
  cases h2
  exact ⟨(Int.toNat_of_nonneg h3).symm, rfl⟩
theorem ai_nx_s {a : Nat} {b : ai_L} {c : List Value} {d : ai_H} {x : ai_Y} (h : ai_nx a b c d = some x) : x = (a, b, c, d) := by
  unfold ai_nx at h
  exact (Option.some.inj h).symm
