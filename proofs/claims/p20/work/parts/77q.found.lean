/-- the rows that find leaves are the class's ways, in order -/
def z_WK (N : z_A) (a b c : Int32) (F : z_A) : Prop := (∀ v : Nat, z_in_ F v ↔ ∃ y, y ∈ eW N a b c ∧ y.toInt = (v : Int)) ∧ z_up F ∧ (∀ j : Nat, (j : Int) < (F 45 27).toInt → 0 ≤ (F 68 j).toInt) ∧ (∀ j, 0 ≤ (F 69 j).toInt ∧ (F 69 j).toInt ≤ 12)
theorem z_s6 {N A : z_A} {a b c n : Int32} {F : z_A} (hN : z_NA N A) (lt : ¬ (F 69 n.toNatClampNeg).toInt < (A 45 3).toInt) (e : n.toInt = 0) (h : z_WI N a b c n F) : z_WK N a b c F := by
  have en : n = 0 := Int32.toInt_inj.mp e
  subst en
  obtain ⟨⟨l, g1, g2⟩, h2⟩ := h
  have z : eM N b c a (F 69) (0 : Int32).toNatClampNeg = [] := eM_z (by rw [hN.2.1, z_ltI]; exact lt)
  rw [z, List.append_nil] at g1
  rw [← g1] at g2
  exact ⟨g2, h2⟩
theorem mFind_e {N A F : z_A} {a b c : Int32} (hA : z_MA A) (hF : z_MF F) (hN : z_NA N A) (hr : z_RN N) (ha : z_RA N) (hE : z_WE N) (a0 : 0 ≤ a.toInt) (a1 : a.toInt ≤ 5) (c0 : 0 ≤ c.toInt) (c1 : c.toInt ≤ 8) (h69 : ∀ j, 0 ≤ (F 69 j).toInt ∧ (F 69 j).toInt ≤ 12) : z_WK N a b c (mFind A F a b c) := by
  unfold mFind
  have e1 : z_wr (z_wr F 45 27 0) 69 0 0 69 0 = 0 := z_wr2
  have e2 : z_wr (z_wr F 45 27 0) 69 0 0 45 27 = 0 := by rw [z_wr1 (by decide), z_wr2]
  have w : z_WI N a b c 0 (z_wr (z_wr F 45 27 0) 69 0 0) := by
    refine ⟨⟨[], (eM_0 e1).symm, fun v => ?_⟩, fun i j _ hj => ?_, fun j hj => ?_, fun j => ?_⟩
    · constructor
      · rintro ⟨j, hj, -⟩; rw [e2] at hj; exact absurd hj (Nat.not_lt_zero _)
      · rintro ⟨y, hy, -⟩; exact absurd hy List.not_mem_nil
    · rw [e2] at hj; exact absurd hj (Nat.not_lt_zero _)
    · rw [e2] at hj; have : (j : Int) < 0 := hj; omega
    · by_cases q : j = 0
      · rw [q, e1]; decide
      · rw [z_wrj q, z_wr1 (by decide)]; exact h69 j
  refine mFw_I hA (I := z_WI N a b c) (K := z_WK N a b c) (fun n F hI lt h1 h => z_s1 hA hN hI lt h1 h) (fun n F hI lt h1 h2 h => z_s2 hA hN ha a0 a1 hI lt h1 h2 h) (fun n F hI lt h1 h2 h3 f1 h => z_s3 hA hN hr ha hE a0 a1 c0 c1 hI lt h1 h2 h3 f1 h) (fun n F hI lt h1 h2 h3 n3 h => z_s4 hA hN ha a0 a1 hI lt h1 h2 h3 n3 h) (fun n F hI lt _ _ h3 n3 h => z_s5 hA hN ha a0 a1 hI lt h3 n3 h) (fun n F _ lt e h => z_s6 hN lt e h) (fun n m F hI lt e m0 h => z_s7 hA hN hI lt e m0 h) 50000 0 _ (fun _ => ⟨z_FI0 hA hF, w⟩) (fun h => absurd h (by decide)) (Or.inr ?_)
  unfold zMe
  rw [show (0 : Int32).toNatClampNeg = 0 from rfl, show sM cC (zG (z_wr (z_wr F 45 27 0) 69 0 0)) 0 = 0 from rfl, zG_n]
  decide
