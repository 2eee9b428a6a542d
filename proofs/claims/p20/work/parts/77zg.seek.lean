/-! The reference's search, step by step. -/
/-- a number of a choice and a tick -/
theorem z_dm {k per c t : Int32} (p0 : 0 < per.toInt) (c0 : 0 ≤ c.toInt) (t0 : 0 ≤ t.toInt) (t1 : t.toInt < per.toInt) (e : k.toInt = c.toInt * per.toInt + t.toInt) : k / per = c ∧ k - k / per * per = t := by
  have m0 : 0 ≤ c.toInt * per.toInt := Int.mul_nonneg c0 (by omega)
  have kb := (bdI k).2
  have r := z_rem (y := k) (c := per) (by omega) p0
  have e1 : k.toInt % per.toInt = t.toInt := z_ue t0 t1 (by rw [Int.mul_comm]; exact e)
  have e2 : k.toInt / per.toInt = c.toInt := by
    rw [e, Int.add_comm, Int.add_mul_ediv_right _ _ (by omega), Int.ediv_eq_zero_of_lt t0 t1, Int.zero_add]
  refine ⟨Int32.toInt_inj.mp ?_, Int32.toInt_inj.mp (r.trans e1)⟩
  have cb := bdI c
  rw [Int32.toInt_div, Int.tdiv_eq_ediv_of_nonneg (by omega), e2, bm32]
  split <;> omega
/-- nothing more to try for the stream at p -/
def mEx (A B : z_A) (f : Nat) (p : Int32) (C : z_A) : Int32 × z_A := if p + -1 < 0 then (0, C) else mSk A B f (p + -1) (z_wr (mPut A B (C 70 (p + -1).toNatClampNeg) (C 71 (p + -1).toNatClampNeg) 0 C) 71 (p + -1).toNatClampNeg (mPut A B (C 70 (p + -1).toNatClampNeg) (C 71 (p + -1).toNatClampNeg) 0 C 71 (p + -1).toNatClampNeg + 1))
theorem sk_E {A B C : z_A} {p : Int32} {f : Nat} (h : ¬ p < C 45 34) : mSk A B (f + 1) p C = (1, C) := by
  rw [mSk_s]
  unfold mSb
  rw [if_neg h]
theorem sk_D {A B C : z_A} {p : Int32} {f : Nat} (h : p < C 45 34) (hk : ¬ C 71 p.toNatClampNeg < B 54 (C 70 p.toNatClampNeg).toNatClampNeg * B 53 (C 70 p.toNatClampNeg).toNatClampNeg) : mSk A B (f + 1) p C = mEx A B f p C := by
  have e : mSi A B p (C 70 p.toNatClampNeg) 361 C = (0, C) := by rw [mSi_s, if_neg hk]
  rw [mSk_s, e]
  unfold mSb mEx
  rw [if_pos h, if_neg (show ¬ (0 : Int32) = -2 by decide), if_neg (show ¬ (0 : Int32) = 1 by decide)]
theorem sk_C {A B C : z_A} {p : Int32} {f : Nat} (h : p < C 45 34) (hk : C 71 p.toNatClampNeg < B 54 (C 70 p.toNatClampNeg).toNatClampNeg * B 53 (C 70 p.toNatClampNeg).toNatClampNeg) (ht : C 45 20 = 40000) : mSk A B (f + 1) p C = (-2, C) := by
  have e : mSi A B p (C 70 p.toNatClampNeg) 361 C = (-2, C) := by rw [mSi_s, if_pos hk, if_pos ht]
  rw [mSk_s, e]
  unfold mSb
  rw [if_pos h, if_pos rfl]
theorem sk_B {A B C : z_A} {p : Int32} {f : Nat} (h : p < C 45 34) (hk : C 71 p.toNatClampNeg < B 54 (C 70 p.toNatClampNeg).toNatClampNeg * B 53 (C 70 p.toNatClampNeg).toNatClampNeg) (ht : ¬ C 45 20 = 40000) (hm : ¬ mMt A B (z_wr C 45 20 (C 45 20 + 1)) (C 70 p.toNatClampNeg) (C 71 p.toNatClampNeg / B 53 (C 70 p.toNatClampNeg).toNatClampNeg) (C 71 p.toNatClampNeg - C 71 p.toNatClampNeg / B 53 (C 70 p.toNatClampNeg).toNatClampNeg * B 53 (C 70 p.toNatClampNeg).toNatClampNeg) = true) : mSk A B (f + 1) p C = mSk A B f (p + 1) (z_wr (mPut A B (C 70 p.toNatClampNeg) (C 71 p.toNatClampNeg) (C 70 p.toNatClampNeg + 1) (z_wr C 45 20 (C 45 20 + 1))) 71 (p + 1).toNatClampNeg 0) := by
  have e : mSi A B p (C 70 p.toNatClampNeg) 361 C = (1, z_wr C 45 20 (C 45 20 + 1)) := by rw [mSi_s, if_pos hk, if_neg ht, if_neg hm]
  have e2 : z_wr C 45 20 (C 45 20 + 1) 71 p.toNatClampNeg = C 71 p.toNatClampNeg := z_wr1 (by decide)
  rw [mSk_s, e]
  unfold mSb
  rw [if_pos h, if_neg (show ¬ (1 : Int32) = -2 by decide), if_pos rfl]
  show mSk A B f (p + 1) (z_wr (mPut A B (C 70 p.toNatClampNeg) (z_wr C 45 20 (C 45 20 + 1) 71 p.toNatClampNeg) _ _) 71 _ 0) = _
  rw [e2]
theorem mSi_f {A B : z_A} {p s : Int32} : ∀ (g g' : Nat) (C : z_A), 0 ≤ (C 71 p.toNatClampNeg).toInt → (C 71 p.toNatClampNeg).toInt ≤ 360 → (B 54 s.toNatClampNeg * B 53 s.toNatClampNeg).toInt < (C 71 p.toNatClampNeg).toInt + (g : Int) → (B 54 s.toNatClampNeg * B 53 s.toNatClampNeg).toInt < (C 71 p.toNatClampNeg).toInt + (g' : Int) → (B 54 s.toNatClampNeg * B 53 s.toNatClampNeg).toInt ≤ 360 → 0 < g → 0 < g' → mSi A B p s g C = mSi A B p s g' C := by
  intro g
  induction g with
  | zero => intro g' C _ _ _ _ _ h; omega
  | succ g ih =>
    intro g' C c0 c1 h1 h2 h3 _ g0
    obtain ⟨g'', rfl⟩ : ∃ k, g' = k + 1 := ⟨g' - 1, by omega⟩
    rw [mSi_s, mSi_s]
    by_cases a : C 71 p.toNatClampNeg < B 54 s.toNatClampNeg * B 53 s.toNatClampNeg
    · rw [if_pos a, if_pos a]
      by_cases b : C 45 20 = 40000
      · rw [if_pos b, if_pos b]
      · rw [if_neg b, if_neg b]
        by_cases c : mMt A B (z_wr C 45 20 (C 45 20 + 1)) s (C 71 p.toNatClampNeg / B 53 s.toNatClampNeg) (C 71 p.toNatClampNeg - C 71 p.toNatClampNeg / B 53 s.toNatClampNeg * B 53 s.toNatClampNeg) = true
        · rw [if_pos c, if_pos c]
          rw [z_ltI] at a
          have e := z_up1 c0 (by omega)
          have e2 : z_wr (z_wr C 45 20 (C 45 20 + 1)) 71 p.toNatClampNeg (C 71 p.toNatClampNeg + 1) 71 p.toNatClampNeg = C 71 p.toNatClampNeg + 1 := z_wr2
          exact ih g'' _ (by rw [e2]; omega) (by rw [e2]; omega) (by rw [e2]; omega) (by rw [e2]; omega) h3 (by omega) (by omega)
        · rw [if_neg c, if_neg c]
    · rw [if_neg a, if_neg a]
theorem sk_A {A B C : z_A} {p : Int32} {f : Nat} (h : p < C 45 34) (hk : C 71 p.toNatClampNeg < B 54 (C 70 p.toNatClampNeg).toNatClampNeg * B 53 (C 70 p.toNatClampNeg).toNatClampNeg) (ht : ¬ C 45 20 = 40000) (k0 : 0 ≤ (C 71 p.toNatClampNeg).toInt) (b3 : (B 54 (C 70 p.toNatClampNeg).toNatClampNeg * B 53 (C 70 p.toNatClampNeg).toNatClampNeg).toInt ≤ 360) (hm : mMt A B (z_wr C 45 20 (C 45 20 + 1)) (C 70 p.toNatClampNeg) (C 71 p.toNatClampNeg / B 53 (C 70 p.toNatClampNeg).toNatClampNeg) (C 71 p.toNatClampNeg - C 71 p.toNatClampNeg / B 53 (C 70 p.toNatClampNeg).toNatClampNeg * B 53 (C 70 p.toNatClampNeg).toNatClampNeg) = true) : mSk A B (f + 1) p C = mSk A B (f + 1) p (z_wr (z_wr C 45 20 (C 45 20 + 1)) 71 p.toNatClampNeg (C 71 p.toNatClampNeg + 1)) := by
  have hk' := hk
  rw [z_ltI] at hk'
  have e0 := z_up1 k0 (by omega)
  have e2 : z_wr (z_wr C 45 20 (C 45 20 + 1)) 71 p.toNatClampNeg (C 71 p.toNatClampNeg + 1) 71 p.toNatClampNeg = C 71 p.toNatClampNeg + 1 := z_wr2
  have e70 : z_wr (z_wr C 45 20 (C 45 20 + 1)) 71 p.toNatClampNeg (C 71 p.toNatClampNeg + 1) 70 = C 70 := (z_wr_ne (by decide)).trans (z_wr_ne (by decide))
  have e34 : z_wr (z_wr C 45 20 (C 45 20 + 1)) 71 p.toNatClampNeg (C 71 p.toNatClampNeg + 1) 45 34 = C 45 34 := by rw [z_wr1 (by decide), z_wrj (by decide)]
  have e : mSi A B p (C 70 p.toNatClampNeg) 361 C = mSi A B p (C 70 p.toNatClampNeg) 361 (z_wr (z_wr C 45 20 (C 45 20 + 1)) 71 p.toNatClampNeg (C 71 p.toNatClampNeg + 1)) := by
    rw [mSi_s, if_pos hk, if_neg ht, if_pos hm]
    exact mSi_f 360 361 _ (by rw [e2]; omega) (by rw [e2]; omega) (by rw [e2]; omega) (by rw [e2]; omega) b3 (by decide) (by decide)
  rw [mSk_s, mSk_s, e70, e]
  generalize mSi A B p (C 70 p.toNatClampNeg) 361 (z_wr (z_wr C 45 20 (C 45 20 + 1)) 71 p.toNatClampNeg (C 71 p.toNatClampNeg + 1)) = r
  unfold mSb
  rw [e34, if_pos h, if_pos h, e70]
/-- meets looks at what is taken alone -/
theorem hC_q {C : z_A} {m : Int} {q i : Nat} {v : Int32} (hq : 61 ≠ q) {w : Nat} {u : Int} : hC (z_wr C q i v) m w u ↔ hC C m w u := by
  unfold hC
  rw [z_wr1 hq]
