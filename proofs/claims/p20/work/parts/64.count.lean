/-! How many ways there can be, and how long the search for them goes on. -/
def cN (P : Nat → Bool) : Nat → Nat → Nat
  | 0, _ => 0
  | f + 1, w => (if P w = true then 1 else 0) + cN P f (w + 1)
def cT (P : Nat → Bool) (N w : Nat) : Nat := cN P (N - w) w
theorem cT_s {P : Nat → Bool} {N w : Nat} (h : w < N) : cT P N w = (if P w = true then 1 else 0) + cT P N (w + 1) := by
  unfold cT
  rw [show N - w = (N - (w + 1)) + 1 by omega]
  rfl
theorem cT_le {P : Nat → Bool} {N w : Nat} : cT P N (w + 1) ≤ cT P N w := by
  by_cases h : w < N
  · rw [cT_s h]; omega
  · unfold cT
    rw [show N - (w + 1) = 0 by omega]
    exact Nat.zero_le _
/-- of which kind a wire is, seen from the box a where a way begins and the box b where it ends -/
def wD (fr to : Nat → Int32) (a b : Int32) : Nat → Bool := fun j => decide (fr j = a) && decide (to j = b)
def wP (fr to : Nat → Int32) (a b : Int32) : Nat → Bool := fun j => decide (fr j = a) && !decide (to j = b)
def wQ (fr to : Nat → Int32) (a b : Int32) : Nat → Bool := fun j => !decide (fr j = a) && decide (to j = b)
def wR (fr to : Nat → Int32) (a b : Int32) : Nat → Bool := fun j => !decide (fr j = a) && !decide (to j = b)
theorem w_sum {fr to : Nat → Int32} {a b : Int32} {N : Nat} : ∀ k w : Nat, N - w = k → cT (wD fr to a b) N w + cT (wP fr to a b) N w + cT (wQ fr to a b) N w + cT (wR fr to a b) N w = k := by
  intro k
  induction k with
  | zero => intro w h; unfold cT; rw [h]; rfl
  | succ k ih =>
    intro w h
    have h1 : w < N := by omega
    rw [cT_s h1, cT_s h1, cT_s h1, cT_s h1]
    have := ih (w + 1) (by omega)
    unfold wD wP wQ wR at *
    by_cases e1 : fr w = a <;> by_cases e2 : to w = b <;> simp [e1, e2] <;> omega
/-- how many ways can yet be found at a level from a wire on -/
def rW (fr to : Nat → Int32) (a b : Int32) (N : Nat) : Nat → Nat → Nat := fun n w => match n with
  | 0 => cT (wD fr to a b) N w + cT (wP fr to a b) N w * (cT (wQ fr to a b) N 0 + cT (wR fr to a b) N 0 * (cT (wQ fr to a b) N 0 + cT (wR fr to a b) N 0 * cT (wQ fr to a b) N 0))
  | 1 => cT (wQ fr to a b) N w + cT (wR fr to a b) N w * (cT (wQ fr to a b) N 0 + cT (wR fr to a b) N 0 * cT (wQ fr to a b) N 0)
  | 2 => cT (wQ fr to a b) N w + cT (wR fr to a b) N w * cT (wQ fr to a b) N 0
  | _ => cT (wQ fr to a b) N w
theorem rW0 {fr to : Nat → Int32} {a b : Int32} {N w : Nat} : rW fr to a b N 0 w = cT (wD fr to a b) N w + cT (wP fr to a b) N w * (cT (wQ fr to a b) N 0 + cT (wR fr to a b) N 0 * (cT (wQ fr to a b) N 0 + cT (wR fr to a b) N 0 * cT (wQ fr to a b) N 0)) := rfl
theorem rW1 {fr to : Nat → Int32} {a b : Int32} {N w : Nat} : rW fr to a b N 1 w = cT (wQ fr to a b) N w + cT (wR fr to a b) N w * (cT (wQ fr to a b) N 0 + cT (wR fr to a b) N 0 * cT (wQ fr to a b) N 0) := rfl
theorem rW2 {fr to : Nat → Int32} {a b : Int32} {N w : Nat} : rW fr to a b N 2 w = cT (wQ fr to a b) N w + cT (wR fr to a b) N w * cT (wQ fr to a b) N 0 := rfl
theorem rW3 {fr to : Nat → Int32} {a b : Int32} {N w : Nat} : rW fr to a b N 3 w = cT (wQ fr to a b) N w := rfl
theorem w_fin : ∀ p q r : Fin 13, p.val + q.val + r.val ≤ 12 → p.val * (q.val + r.val * (q.val + r.val * q.val)) ≤ 490 := by decide +kernel
theorem rW_0 {fr to : Nat → Int32} {a b : Int32} {N : Nat} (hN : N ≤ 12) : rW fr to a b N 0 0 ≤ 502 := by
  have h := w_sum (fr := fr) (to := to) (a := a) (b := b) (N := N) N 0 (by omega)
  rw [rW0]
  generalize cT (wD fr to a b) N 0 = d at *
  generalize cT (wP fr to a b) N 0 = p at *
  generalize cT (wQ fr to a b) N 0 = q at *
  generalize cT (wR fr to a b) N 0 = r at *
  have := w_fin ⟨p, by omega⟩ ⟨q, by omega⟩ ⟨r, by omega⟩ (by dsimp only; omega)
  dsimp only at this
  omega
theorem rW_le {fr to : Nat → Int32} {a b : Int32} {N n w : Nat} : rW fr to a b N n (w + 1) ≤ rW fr to a b N n w := by
  have h1 := cT_le (P := wD fr to a b) (N := N) (w := w)
  have h2 := cT_le (P := wP fr to a b) (N := N) (w := w)
  have h3 := cT_le (P := wQ fr to a b) (N := N) (w := w)
  have h4 := cT_le (P := wR fr to a b) (N := N) (w := w)
  unfold rW
  split
  · exact Nat.add_le_add h1 (Nat.mul_le_mul_right _ h2)
  · exact Nat.add_le_add h3 (Nat.mul_le_mul_right _ h4)
  · exact Nat.add_le_add h3 (Nat.mul_le_mul_right _ h4)
  · exact h3
/-- a way is found -/
theorem rW_k {fr to : Nat → Int32} {a b : Int32} {N n w : Nat} (hw : w < N) (h0 : n = 0 → fr w = a) (h1 : ¬ n = 0 → ¬ fr w = a) (hb : to w = b) : rW fr to a b N n (w + 1) + 1 ≤ rW fr to a b N n w := by
  have h2 := cT_le (P := wP fr to a b) (N := N) (w := w)
  have h4 := cT_le (P := wR fr to a b) (N := N) (w := w)
  by_cases hn : n = 0
  · subst hn
    have e : cT (wD fr to a b) N w = 1 + cT (wD fr to a b) N (w + 1) := by rw [cT_s hw]; unfold wD; simp [h0 rfl, hb]
    rw [rW0, rW0]
    have := Nat.mul_le_mul_right (cT (wQ fr to a b) N 0 + cT (wR fr to a b) N 0 * (cT (wQ fr to a b) N 0 + cT (wR fr to a b) N 0 * cT (wQ fr to a b) N 0)) h2
    omega
  · have e : cT (wQ fr to a b) N w = 1 + cT (wQ fr to a b) N (w + 1) := by rw [cT_s hw]; unfold wQ; simp [h1 hn, hb]
    unfold rW
    split
    · exact absurd rfl hn
    · have := Nat.mul_le_mul_right (cT (wQ fr to a b) N 0 + cT (wR fr to a b) N 0 * cT (wQ fr to a b) N 0) h4
      omega
    · have := Nat.mul_le_mul_right (cT (wQ fr to a b) N 0) h4
      omega
    · omega
/-- a level more -/
theorem rW_p {fr to : Nat → Int32} {a b : Int32} {N n w : Nat} (hw : w < N) (h0 : n = 0 → fr w = a) (h1 : ¬ n = 0 → ¬ fr w = a) (hb : ¬ to w = b) (hn : n < 3) : rW fr to a b N n (w + 1) + rW fr to a b N (n + 1) 0 ≤ rW fr to a b N n w := by
  have h2 := cT_le (P := wD fr to a b) (N := N) (w := w)
  have h4 := cT_le (P := wQ fr to a b) (N := N) (w := w)
  rcases (by omega : n = 0 ∨ n = 1 ∨ n = 2) with rfl | rfl | rfl
  · have e : cT (wP fr to a b) N w = 1 + cT (wP fr to a b) N (w + 1) := by rw [cT_s hw]; unfold wP; simp [h0 rfl, hb]
    rw [rW0, rW0, show (0 + 1 : Nat) = 1 from rfl, rW1, e, Nat.add_mul, Nat.one_mul]
    omega
  · have e : cT (wR fr to a b) N w = 1 + cT (wR fr to a b) N (w + 1) := by rw [cT_s hw]; unfold wR; simp [h1 (by omega), hb]
    rw [rW1, rW1, show (1 + 1 : Nat) = 2 from rfl, rW2, e, Nat.add_mul, Nat.one_mul]
    omega
  · have e : cT (wR fr to a b) N w = 1 + cT (wR fr to a b) N (w + 1) := by rw [cT_s hw]; unfold wR; simp [h1 (by omega), hb]
    rw [rW2, rW2, show (2 + 1 : Nat) = 3 from rfl, rW3, e, Nat.add_mul, Nat.one_mul]
    omega
/-- how many steps at a level -/
def cC : Nat → Nat → Nat := fun n w => match n with
  | 0 => (12 - w) * 3927 + 1
  | 1 => (12 - w) * 327 + 1
  | 2 => (12 - w) * 27 + 1
  | _ => (12 - w) * 2 + 1
theorem cC_i {n w : Nat} (hw : w < 12) : cC n (w + 1) < cC n w := by
  unfold cC
  split <;> omega
theorem cC_p {n w : Nat} (hw : w < 12) (hn : n < 3) : cC n (w + 1) + cC (n + 1) 0 < cC n w := by
  rcases (by omega : n = 0 ∨ n = 1 ∨ n = 2) with rfl | rfl | rfl
  · show (12 - (w + 1)) * 3927 + 1 + ((12 - 0) * 327 + 1) < (12 - w) * 3927 + 1
    omega
  · show (12 - (w + 1)) * 327 + 1 + ((12 - 0) * 27 + 1) < (12 - w) * 327 + 1
    omega
  · show (12 - (w + 1)) * 27 + 1 + ((12 - 0) * 2 + 1) < (12 - w) * 27 + 1
    omega
theorem cC_1 {n w : Nat} : 0 < cC n w := by
  unfold cC
  split <;> omega
/-- what is left at the levels ahead -/
def sM (f : Nat → Nat → Nat) (G : Nat → Nat) : Nat → Nat
  | 0 => 0
  | j + 1 => sM f G j + f j (G j + 1)
theorem sM_s {f : Nat → Nat → Nat} {G : Nat → Nat} {j : Nat} : sM f G (j + 1) = sM f G j + f j (G j + 1) := rfl
theorem sM_c {f : Nat → Nat → Nat} {G G' : Nat → Nat} : ∀ n : Nat, (∀ j, j < n → G' j = G j) → sM f G' n = sM f G n := by
  intro n
  induction n with
  | zero => intro _; rfl
  | succ n ih =>
    intro h
    rw [sM_s, sM_s, ih (fun j hj => h j (by omega)), h n (by omega)]
