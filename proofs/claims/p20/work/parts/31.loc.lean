theorem bm32 (x : Int) : x.bmod (2 ^ 32) = if x % 4294967296 < 2147483648 then x % 4294967296 else x % 4294967296 - 4294967296 := by
  rw [Int.bmod_def]; rfl
theorem tI0 : Int32.toInt 0 = 0 := rfl
theorem clN (x : Int32) : x.toNatClampNeg = x.toInt.toNat := rfl
theorem bdI (x : Int32) : -2147483648 ≤ x.toInt ∧ x.toInt < 2147483648 := ⟨Int32.le_toInt x, Int32.toInt_lt x⟩
theorem z_det {S : ai_S} {d mn pc : Nat} {L : ai_L} {st : List Value} {H : ai_H} {P : Option Value → ai_H → Prop} (h : RR S d mn pc L st H P) : ∃ r h', P r h' ∧ ∀ Q : Option Value → ai_H → Prop, RR S d mn pc L st H Q = Q r h' := by
  obtain ⟨n, x, e, hp⟩ := h
  refine ⟨x.1, x.2, hp, fun Q => propext ⟨fun ⟨k, y, e2, hq⟩ => ?_, fun hq => ⟨n, x, e, hq⟩⟩⟩
  have e3 := ai_run_le (Nat.le_max_left n k) e
  have e4 := ai_run_le (Nat.le_max_right n k) e2
  rw [e3] at e4
  cases e4
  exact hq
/-- no long stands there -/
def z_c1 (o : Option Value) : Prop := match o with
  | some v => v.category = 1
  | none => True
theorem z_c1_i (x : Int32) : z_c1 (some (.int x)) = True := eq_true rfl
theorem z_c1_r (x : Nat) : z_c1 (some (.ref x)) = True := eq_true rfl
theorem z_c1_n : z_c1 (some .null) = True := eq_true rfl
theorem z_c1_f (x : UInt32) : z_c1 (some (.float x)) = True := eq_true rfl
theorem z_c1_iI {o : Option Value} (h : iI o) : z_c1 o := by
  unfold iI at h; split at h
  · exact rfl
  · exact h.elim
theorem z_find_sort (i : Nat) (v : Value) (j : Nat) : ∀ L : ai_L, (∀ q ∈ L, (q.1 == i) = false) → ai_look (ai_sort i v L) j = if i = j then some v else ai_look L j := by
  intro L
  induction L with
  | nil => intro _; unfold ai_sort ai_look; by_cases e : i = j <;> simp [e]
  | cons a t ih =>
    intro hL
    obtain ⟨k, w⟩ := a
    have hk : ¬ k = i := by simpa using hL (k, w) List.mem_cons_self
    have ih := ih (fun q hq => hL q (List.mem_cons_of_mem _ hq))
    unfold ai_sort
    split
    · unfold ai_look
      by_cases e : i = j
      · simp [e]
      · simp [e]
    · unfold ai_look at ih ⊢
      by_cases e : k = j
      · subst e; simp; intro q; exact absurd q.symm hk
      · have e2 : (k == j) = false := beq_false_of_ne e
        simp only [List.find?_cons, e2]
        exact ih
theorem z_lkE (i : Nat) (v : Value) (L : ai_L) : ai_look (ai_put i v L) i = some v := by
  unfold ai_put
  rw [z_find_sort, if_pos rfl]
  intro q hq
  have := (List.mem_filter.mp hq).2
  simp only [Bool.and_eq_true, Bool.not_eq_true'] at this
  exact this.1
theorem z_find_flt (p : Nat × Value → Bool) (j : Nat) : ∀ L : ai_L, (∀ q, L.find? (fun q => q.1 == j) = some q → p q = true) → (∀ q ∈ L, (q.1 == j) = true → p q = true ∨ True) → (L.filter p).find? (fun q => q.1 == j) = L.find? (fun q => q.1 == j) ∨ L.find? (fun q => q.1 == j) = none := by
  intro L
  induction L with
  | nil => intro _ _; exact Or.inl rfl
  | cons a t ih =>
    intro h1 h2
    by_cases e : (a.1 == j) = true
    · have := h1 a (by simp [e])
      left
      simp [this, e]
    · have e' : (a.1 == j) = false := by simpa using e
      have h3 : ∀ q, t.find? (fun q => q.1 == j) = some q → p q = true := fun q hq => h1 q (by simp [e', hq])
      rcases ih h3 (fun _ _ _ => Or.inr trivial) with h | h
      · left
        by_cases ep : p a = true
        · simp [ep, e', h]
        · simp [ep, e', h]
      · right
        simp only [List.find?_cons, e', h]
theorem z_flt_none (p : Nat × Value → Bool) (j : Nat) (L : ai_L) (h : L.find? (fun q => q.1 == j) = none) : (L.filter p).find? (fun q => q.1 == j) = none := by
  rw [List.find?_eq_none] at h ⊢
  intro q hq
  exact h q (List.mem_filter.mp hq).1
theorem z_lkN {i j : Nat} {L : ai_L} (hn : ¬ i = j) (hc : z_c1 (ai_look L j) ∨ ¬ j + 1 = i) (v : Value) : ai_look (ai_put i v L) j = ai_look L j := by
  unfold ai_put
  rw [z_find_sort, if_neg hn]
  · unfold ai_look
    have key : ∀ q, L.find? (fun q => q.1 == j) = some q → ((!(q.1 == i) && !(q.1 + 1 == i && q.2.category == 2)) = true) := by
      intro q hq
      have hj : (q.1 == j) = true := by have := List.find?_some hq; simpa using this
      have hj' : q.1 = j := by simpa using hj
      rcases hc with hc | hc
      · unfold ai_look at hc
        rw [hq] at hc
        have hc' : q.2.category = 1 := hc
        simp [hj', hc']; exact fun e => hn e.symm
      · simp [hj', hc]; exact fun e => hn e.symm
    rcases z_find_flt _ j L key (fun _ _ _ => Or.inr trivial) with h | h
    · rw [h]
    · rw [h, z_flt_none _ j L h]
  · intro q hq
    have := (List.mem_filter.mp hq).2
    simp only [Bool.and_eq_true, Bool.not_eq_true'] at this
    exact this.1
theorem z_lkA {i j : Nat} {L : ai_L} (hn : (i = j) = False) (hc : (j + 1 = i) = False) (v : Value) : ai_look (ai_put i v L) j = ai_look L j := z_lkN (fun q => hn ▸ q) (Or.inr (fun q => hc ▸ q)) v
theorem z_lkB0 {j : Nat} {L : ai_L} (hc : z_c1 (ai_look L j)) (v : Value) : ai_look (ai_put (j + 1) v L) j = ai_look L j := z_lkN (by omega) (Or.inl hc) v
theorem z_lkB {i j : Nat} {L : ai_L} (hi : j + 1 = i) (hc : z_c1 (ai_look L j)) (v : Value) : ai_look (ai_put i v L) j = ai_look L j := z_lkN (by omega) (Or.inl hc) v
theorem z_inc1 {n : Int32} {b : Int} (h0 : 0 ≤ n.toInt) (h1 : n.toInt < b) (hb : b ≤ 1000000) : (n + 1).toInt = n.toInt + 1 := by
  rw [Int32.toInt_add, bm32]
  have : Int32.toInt 1 = 1 := rfl
  rw [this]
  split <;> omega
/-- a boolean given back -/
def z_b (b : Bool) : Int32 := if b = true then 1 else 0
theorem z_b_t : z_b true = 1 := rfl
theorem z_b_f : z_b false = 0 := rfl
theorem z_b_0 (b : Bool) : (z_b b = 0) = (b = false) := by cases b <;> decide
theorem z_b_r (b : Bool) : z_b b &&& 1 = z_b b := by cases b <;> decide
theorem z_ltc (a b : Int32) : ((a < b) = True ∧ (b ≤ a) = False) ∨ ((a < b) = False ∧ (b ≤ a) = True) := by
  by_cases h : a < b
  · exact Or.inl ⟨eq_true h, eq_false (Int32.not_le.mpr h)⟩
  · exact Or.inr ⟨eq_false h, eq_true (Int32.not_lt.mp h)⟩
theorem z_eqc (a b : Int32) : (a = b) = True ∨ (a = b) = False := by
  by_cases h : a = b
  · exact Or.inl (eq_true h)
  · exact Or.inr (eq_false h)
theorem z_bc (a : Bool) : a = true ∨ a = false := by cases a <;> simp
theorem z_in {i : Int32} {m : Nat} (h0 : 0 ≤ i.toInt) (h1 : i.toInt < m) : (i < 0) = False ∧ (m ≤ i.toNatClampNeg) = False := by
  refine ⟨eq_false ?_, eq_false ?_⟩
  · rw [Int32.lt_iff_toInt_lt, tI0]; omega
  · rw [clN]; omega
theorem z_zrt {mn pc : Nat} {S : ai_S} {d : Nat} {L : ai_L} {h : ai_H} {Q : Option Value → ai_H → Prop} (b : Bool) (hi : ai_I mn pc = some .ireturn) (hr : ai_rt mn = some .boolean) : RR S d mn pc L [.int (z_b b)] h Q = Q (some (.int (z_b b))) h := RR.zrt hi hr (z_b_r b)
theorem z_ltI {a b : Int32} : (a < b) = (a.toInt < b.toInt) := propext Int32.lt_iff_toInt_lt
theorem z_leI {a b : Int32} : (a ≤ b) = (a.toInt ≤ b.toInt) := propext Int32.le_iff_toInt_le
