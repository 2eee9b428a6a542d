/-- the class's next way is the reference's next row -/
theorem z_nxt {N F : z_A} {a b c o r : Int32} (hK : z_WK N a b c F) (hw_r : ∀ y, y ∈ eW N a b c → 0 ≤ y.toInt) (hn : z_nx (eW N a b c) o r) {m : Nat} (h1 : ∀ j, j < m → (cR F j : Int) ≤ o.toInt) (h2 : m < (F 45 27).toNatClampNeg → o.toInt < (cR F m : Int)) : (m < (F 45 27).toNatClampNeg → r.toInt = (cR F m : Int)) ∧ (¬ m < (F 45 27).toNatClampNeg → r = -1) := by
  obtain ⟨g1, g2, -, -⟩ := hK
  constructor
  · intro hm
    obtain ⟨y, y1, y2⟩ := (g1 (cR F m)).mp ⟨m, hm, rfl⟩
    have oy : o < y := by rw [z_ltI]; have := h2 hm; omega
    rcases hn with ⟨-, q⟩ | ⟨q1, q2, q3⟩
    · exact absurd oy (q y y1)
    · have ry := Int32.le_iff_toInt_le.mp (q3 y y1 oy)
      have q2 := Int32.lt_iff_toInt_lt.mp q2
      have o0 : 0 ≤ r.toInt ∨ r.toInt < 0 := by omega
      by_cases rn : 0 ≤ r.toInt
      · obtain ⟨j, j1, j2⟩ := (g1 r.toInt.toNat).mpr ⟨r, q1, by omega⟩
        have jm : ¬ j < m := fun q => by have := h1 j q; omega
        by_cases e : j = m
        · rw [← e, j2]; omega
        · have := g2 m j (by omega) j1; omega
      · exfalso
        exact rn (by have := hw_r r q1; omega)
  · intro hm
    rcases hn with ⟨q, -⟩ | ⟨q1, q2, -⟩
    · exact q
    · exfalso
      have q2 := Int32.lt_iff_toInt_lt.mp q2
      obtain ⟨j, j1, j2⟩ := (g1 r.toInt.toNat).mpr ⟨r, q1, by have := hw_r r q1; omega⟩
      have := h1 j (by omega)
      have := hw_r r q1
      omega
