/-- the words that stay good -/
def ai_tb : List Jvm.Cond := lw_tbl.filter goodWord
theorem ai_tb_in {w : Jvm.Cond} {i : Nat} (h : lw_tbl[i]? = some w) (hg : goodWord w = true) : w ∈ ai_tb := List.mem_filter.mpr ⟨List.mem_of_getElem? h, hg⟩
theorem ai_tb_good : ai_tb.all goodWord = true := List.all_eq_true.mpr fun _ h => (List.mem_filter.mp h).2
def ai_wd (i : Nat) (w : Jvm.Cond) : Bool := decide (lw_tbl[i]? = some w) && goodWord w
theorem ai_wd_s {i : Nat} {w : Jvm.Cond} (h : ai_wd i w = true) : w ∈ ai_tb := by
  unfold ai_wd at h
  simp only [Bool.and_eq_true, decide_eq_true_eq] at h
  exact ai_tb_in h.1 h.2
theorem ai_z2 {α β : Type} {P : α → β → Bool} {l : List α} {k : List β} (hl : l.length = k.length) (h : (List.zipWith P l k).all id = true) {a : α} (ha : a ∈ l) : ∃ b, P a b = true := by
  obtain ⟨i, hi⟩ := List.getElem?_of_mem ha
  have h1 : i < k.length := by rw [← hl]; exact (List.getElem?_eq_some_iff.mp hi).1
  refine ⟨k[i], ?_⟩
  have hz : (List.zipWith P l k)[i]? = some (P a k[i]) := by rw [List.getElem?_zipWith, hi, List.getElem?_eq_getElem h1]
  exact List.all_eq_true.mp h _ (List.mem_of_getElem? hz)
def ai_pF (q : (Nat × Nat) × Nat × Nat) (j : Nat) : Bool := match ai_cl[q.2.1]? with
  | some r => decide (q.2.2 < r.2.2) && ai_wd j (Jvm.Cond.fieldLink (ai_Rn q.1.1) q.1.2 (r.2.1 q.2.2).1 (r.2.1 q.2.2).2.1 (r.2.1 q.2.2).2.2.1)
  | none => false
set_option maxRecDepth 100000 in
theorem ai_ckF : (List.zipWith ai_pF ai_F ai_Fx).all id = true := by decide +kernel
theorem ai_F_s {o i c k : Nat} (h : ai_get ai_F o i = some (c, k)) : ∃ r, ai_cl[c]? = some r ∧ k < r.2.2 ∧ Jvm.Cond.fieldLink (ai_Rn o) i (r.2.1 k).1 (r.2.1 k).2.1 (r.2.1 k).2.2.1 ∈ ai_tb := by
  obtain ⟨j, hj⟩ := ai_z2 (by decide +kernel) ai_ckF (ai_get_mem h)
  unfold ai_pF at hj
  dsimp only at hj
  split at hj
  next r hr =>
    simp only [Bool.and_eq_true, decide_eq_true_eq] at hj
    exact ⟨r, hr, hj.1, ai_wd_s hj.2⟩
  next => cases hj
