/-! The search comes upon all ways, and keeps them in order. -/
/-- the nets are alike -/
def z_NA (N A : z_A) : Prop := N 1 6 = A 45 0 ∧ N 1 7 = A 45 3 ∧ N 1 8 = A 45 8 ∧ N 1 9 = A 45 9 ∧ (∀ k, N 2 k = A 46 k) ∧ (∀ k, N 3 k = A 47 k) ∧ (∀ k, N 4 k = A 48 k) ∧ (∀ k, N 5 k = A 49 k) ∧ (∀ k, N 6 k = A 50 k) ∧ (∀ k, N 7 k = A 51 k)
/-- a wire's end is a box -/
def z_WE (N : z_A) : Prop := ∀ k : Nat, (k : Int) < (N 1 7).toInt → (N 5 k).toInt < (N 1 6).toInt
def z_WI (N : z_A) (a b c n : Int32) (F : z_A) : Prop := (∃ l, eW N a b c = l ++ eM N b c a (F 69) n.toNatClampNeg ∧ ∀ v : Nat, z_in_ F v ↔ ∃ y, y ∈ l ∧ y.toInt = (v : Int)) ∧ z_up F ∧ (∀ j : Nat, (j : Int) < (F 45 27).toInt → 0 ≤ (F 68 j).toInt) ∧ (∀ j, 0 ≤ (F 69 j).toInt ∧ (F 69 j).toInt ≤ 12)
theorem z_in_c {F G : z_A} (e : ∀ q j, q ≠ 69 → G q j = F q j) : (∀ v, z_in_ G v ↔ z_in_ F v) ∧ (z_up F → z_up G) := by
  have e27 : G 45 27 = F 45 27 := e 45 27 (by decide)
  have c : ∀ Y, cR G Y = cR F Y := fun Y => rE_c ⟨e 66 Y (by decide), e 68 Y (by decide), fun i _ => e 67 _ (by decide)⟩
  unfold z_in_ z_up
  rw [e27]
  refine ⟨fun v => ?_, fun h i j hij hj => ?_⟩
  · constructor
    · rintro ⟨j, hj, h⟩; exact ⟨j, hj, by rw [← c]; exact h⟩
    · rintro ⟨j, hj, h⟩; exact ⟨j, hj, by rw [c]; exact h⟩
  · rw [c, c]; exact h i j hij hj
/-- a step that only moves on -/
theorem z_WIm {N : z_A} {a b c n m : Int32} {F G : z_A} (e : ∀ q j, q ≠ 69 → G q j = F q j) (h9 : ∀ j, 0 ≤ (G 69 j).toInt ∧ (G 69 j).toInt ≤ 12) (hM : eM N b c a (F 69) n.toNatClampNeg = eM N b c a (G 69) m.toNatClampNeg) (h : z_WI N a b c n F) : z_WI N a b c m G := by
  obtain ⟨⟨l, h1, h2⟩, h3, h4, h5⟩ := h
  have k := z_in_c e
  refine ⟨⟨l, by rw [← hM]; exact h1, fun v => (k.1 v).trans (h2 v)⟩, k.2 h3, fun j hj => ?_, h9⟩
  rw [e 68 j (by decide)]
  exact h4 j (by rw [e 45 27 (by decide)] at hj; exact hj)
