/-- what keep does to the rows -/
theorem mKe_i {A F : z_A} {n c : Int32} (n0 : 1 ≤ n.toInt) (n1 : n.toInt ≤ 4) (l0 : 0 ≤ (mLt A F n c 5 0 0).toInt) (w0 : 0 ≤ (F 45 27).toInt) (w1 : (F 45 27).toInt ≤ 511) (h68 : ∀ j : Nat, (j : Int) < (F 45 27).toInt → 0 ≤ (F 68 j).toInt) (h66 : ∀ j, 0 ≤ (F 66 j).toInt ∧ (F 66 j).toInt ≤ 4) (h67 : ∀ j, 0 ≤ (F 67 j).toInt ∧ (F 67 j).toInt ≤ 11) (h69 : ∀ j, 0 ≤ (F 69 j).toInt ∧ (F 69 j).toInt ≤ 12) :
    ∃ p : Nat, p ≤ (F 45 27).toNatClampNeg ∧ (∀ j, j < p → rE (mKe A F n c) j F j) ∧ (∀ j, p < j → j ≤ (F 45 27).toNatClampNeg → rE (mKe A F n c) j F (j - 1)) ∧ (mKe A F n c 66 p = n ∧ mKe A F n c 68 p = mLt A F n c 5 0 0 ∧ (∀ i : Nat, (i : Int) < n.toInt → mKe A F n c 67 (4 * p + i) = F 69 i) ∧ cR (mKe A F n c) p = cG F (mLt A F n c 5 0 0) n) ∧ (∀ j, p ≤ j → j < (F 45 27).toNatClampNeg → cG F (mLt A F n c 5 0 0) n < cR F j) ∧ (p = 0 ∨ ¬ cG F (mLt A F n c 5 0 0) n < cR F (p - 1)) := by
  have g := mKw_i (l := mLt A F n c 5 0 0) (n := n) l0 (by omega) n1 513 (F 45 27) F w0 w1 (by omega) h68 h66 h67 h69
  have q69 := mKw_q (l := mLt A F n c 5 0 0) (n := n) (q := 69) (by decide) (by decide) (by decide) 513 (F 45 27) F
  unfold mKe mKf
  generalize mLt A F n c 5 0 0 = l at *
  generalize mKw l n 513 (F 45 27) F = r at *
  obtain ⟨⟨g1, g2⟩, g3, g4, g5, g6, g7⟩ := g
  have pr := z_pp g1
  have pw := z_pp w0
  obtain ⟨k1, k2⟩ := mCg_4 (F := F) (n := n) (k := r.1) g1 (by omega) n1 5 0 (z_wr (z_wr r.2 66 r.1.toNatClampNeg n) 68 r.1.toNatClampNeg l) (by decide) (by decide) (by decide)
  have e0 : (0 : Int32).toNatClampNeg = 0 := rfl
  rw [e0] at k1 k2
  have oth : ∀ j, j ≠ r.1.toNatClampNeg → rE (z_wr (mCg n r.1 5 0 (z_wr (z_wr r.2 66 r.1.toNatClampNeg n) 68 r.1.toNatClampNeg l)) 45 27 (mCg n r.1 5 0 (z_wr (z_wr r.2 66 r.1.toNatClampNeg n) 68 r.1.toNatClampNeg l) 45 27 + 1)) j r.2 j := fun j hj => by
    refine ⟨?_, ?_, fun i hi => ?_⟩
    · rw [z_wr1 (by decide), mCg_q (by decide), z_wr1 (by decide), z_wrj hj]
    · rw [z_wr1 (by decide), mCg_q (by decide), z_wrj hj, z_wr1 (by decide)]
    · rw [z_wr1 (by decide), k2 _ (fun a _ ha => by omega), z_wr1 (by decide), z_wr1 (by decide)]
  have w66 : z_wr (mCg n r.1 5 0 (z_wr (z_wr r.2 66 r.1.toNatClampNeg n) 68 r.1.toNatClampNeg l)) 45 27 (mCg n r.1 5 0 (z_wr (z_wr r.2 66 r.1.toNatClampNeg n) 68 r.1.toNatClampNeg l) 45 27 + 1) 66 r.1.toNatClampNeg = n := by
    rw [z_wr1 (by decide), mCg_q (by decide), z_wr1 (by decide), z_wr2]
  have w68 : z_wr (mCg n r.1 5 0 (z_wr (z_wr r.2 66 r.1.toNatClampNeg n) 68 r.1.toNatClampNeg l)) 45 27 (mCg n r.1 5 0 (z_wr (z_wr r.2 66 r.1.toNatClampNeg n) 68 r.1.toNatClampNeg l) 45 27 + 1) 68 r.1.toNatClampNeg = l := by
    rw [z_wr1 (by decide), mCg_q (by decide), z_wr2]
  have w67 : ∀ i : Nat, (i : Int) < n.toInt → z_wr (mCg n r.1 5 0 (z_wr (z_wr r.2 66 r.1.toNatClampNeg n) 68 r.1.toNatClampNeg l)) 45 27 (mCg n r.1 5 0 (z_wr (z_wr r.2 66 r.1.toNatClampNeg n) 68 r.1.toNatClampNeg l) 45 27 + 1) 67 (4 * r.1.toNatClampNeg + i) = F 69 i := fun i hi => by
    rw [z_wr1 (by decide), k1 i (Nat.zero_le _) hi, z_wr1 (by decide), z_wr1 (by decide), q69]
  refine ⟨r.1.toNatClampNeg, by omega, fun j hj => rE_t (oth j (by omega)) (g3 j hj), fun j h1 h2 => rE_t (oth j (by omega)) (g4 j h1 h2), ⟨w66, w68, w67, ?_⟩, g6, g7⟩
  unfold cR cG
  rw [w66, w68]
  generalize z_wr (mCg n r.1 5 0 (z_wr (z_wr r.2 66 r.1.toNatClampNeg n) 68 r.1.toNatClampNeg l)) 45 27 (mCg n r.1 5 0 (z_wr (z_wr r.2 66 r.1.toNatClampNeg n) 68 r.1.toNatClampNeg l) 45 27 + 1) = F1 at *
  have e : ∀ i, nb n.toInt (rWs F1 r.1.toNatClampNeg) i = nb n.toInt (F 69) i := fun i => by
    unfold nb
    split
    · rename_i hi
      unfold rWs
      rw [w67 i hi]
    · rfl
  rw [show nb n.toInt (rWs F1 r.1.toNatClampNeg) = nb n.toInt (F 69) from funext e]
/-- the numbers of the rows rise -/
def z_up (F : z_A) : Prop := ∀ i j, i < j → j < (F 45 27).toNatClampNeg → cR F i < cR F j
/-- what numbers the rows have -/
def z_in_ (F : z_A) (v : Nat) : Prop := ∃ j, j < (F 45 27).toNatClampNeg ∧ cR F j = v
theorem mKe_u {A F : z_A} {n c : Int32} (hw : (mKe A F n c 45 27).toNatClampNeg = (F 45 27).toNatClampNeg + 1) {p : Nat} {v : Nat} (p1 : p ≤ (F 45 27).toNatClampNeg) (h1 : ∀ j, j < p → rE (mKe A F n c) j F j) (h2 : ∀ j, p < j → j ≤ (F 45 27).toNatClampNeg → rE (mKe A F n c) j F (j - 1)) (h3 : cR (mKe A F n c) p = v) (h4 : ∀ j, p ≤ j → j < (F 45 27).toNatClampNeg → v < cR F j) (h5 : p = 0 ∨ ¬ v < cR F (p - 1)) (hu : z_up F) (hn : ¬ z_in_ F v) : z_up (mKe A F n c) ∧ (∀ u, z_in_ (mKe A F n c) u ↔ (u = v ∨ z_in_ F u)) := by
  have lo : ∀ j, j < p → cR F j < v := fun j hj => by
    have hp : cR F (p - 1) < v := by
      rcases h5 with h5 | h5
      · omega
      · have : ¬ cR F (p - 1) = v := fun e => hn ⟨p - 1, by omega, e⟩
        omega
    by_cases e : j = p - 1
    · rw [e]; exact hp
    · exact Nat.lt_trans (hu j (p - 1) (by omega) (by omega)) hp
  refine ⟨fun i j hij hj => ?_, fun u => ⟨fun ⟨j, hj, e⟩ => ?_, fun h => ?_⟩⟩
  · rw [hw] at hj
    rcases (by omega : j < p ∨ j = p ∨ p < j) with q | q | q
    · rw [rE_c (h1 i (by omega)), rE_c (h1 j q)]; exact hu i j hij (by omega)
    · rw [q, h3, rE_c (h1 i (by omega))]; exact lo i (by omega)
    · rw [rE_c (h2 j q (by omega))]
      rcases (by omega : i < p ∨ i = p ∨ p < i) with r | r | r
      · rw [rE_c (h1 i r)]; exact hu i (j - 1) (by omega) (by omega)
      · rw [r, h3]; exact h4 (j - 1) (by omega) (by omega)
      · rw [rE_c (h2 i r (by omega))]; exact hu (i - 1) (j - 1) (by omega) (by omega)
  · rw [hw] at hj
    rcases (by omega : j < p ∨ j = p ∨ p < j) with q | q | q
    · exact Or.inr ⟨j, by omega, (rE_c (h1 j q)).symm.trans e⟩
    · subst q; exact Or.inl (e.symm.trans h3)
    · exact Or.inr ⟨j - 1, by omega, (rE_c (h2 j q (by omega))).symm.trans e⟩
  · rcases h with h | ⟨j, hj, e⟩
    · exact ⟨p, by omega, h3.trans h.symm⟩
    · by_cases q : j < p
      · exact ⟨j, by omega, (rE_c (h1 j q)).trans e⟩
      · exact ⟨j + 1, by omega, (rE_c (h2 (j + 1) (by omega) (by omega))).trans (by rw [Nat.add_sub_cancel]; exact e)⟩
