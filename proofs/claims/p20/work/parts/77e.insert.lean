/-! A way put into its place among the rows. -/
theorem mKw_i {l n : Int32} (l0 : 0 ≤ l.toInt) (n0 : 0 ≤ n.toInt) (n1 : n.toInt ≤ 4) : ∀ (f : Nat) (k : Int32) (F : z_A), 0 ≤ k.toInt → k.toInt ≤ 511 → k.toInt < (f : Int) → (∀ j : Nat, (j : Int) < k.toInt → 0 ≤ (F 68 j).toInt) → (∀ j, 0 ≤ (F 66 j).toInt ∧ (F 66 j).toInt ≤ 4) → (∀ j, 0 ≤ (F 67 j).toInt ∧ (F 67 j).toInt ≤ 11) → (∀ j, 0 ≤ (F 69 j).toInt ∧ (F 69 j).toInt ≤ 12) →
    (0 ≤ (mKw l n f k F).1.toInt ∧ (mKw l n f k F).1.toInt ≤ k.toInt) ∧ (∀ j, j < (mKw l n f k F).1.toNatClampNeg → rE (mKw l n f k F).2 j F j) ∧ (∀ j, (mKw l n f k F).1.toNatClampNeg < j → j ≤ k.toNatClampNeg → rE (mKw l n f k F).2 j F (j - 1)) ∧ (∀ j, k.toNatClampNeg < j → rE (mKw l n f k F).2 j F j) ∧ (∀ j, (mKw l n f k F).1.toNatClampNeg ≤ j → j < k.toNatClampNeg → cG F l n < cR F j) ∧ ((mKw l n f k F).1.toNatClampNeg = 0 ∨ ¬ cG F l n < cR F ((mKw l n f k F).1.toNatClampNeg - 1)) := by
  intro f
  induction f with
  | zero => intro k F k0 k1 kf; exfalso; omega
  | succ f ih =>
    intro k F k0 k1 kf h68 h66 h67 h69
    have pk := z_pp k0
    have rr : ∀ j, rE F j F j := fun j => ⟨rfl, rfl, fun _ _ => rfl⟩
    rw [mKw_s]
    by_cases c1 : 0 < k
    · rw [if_pos c1]
      rw [z_ltI, tI0] at c1
      have em := z_m1 c1
      have pm := z_pp (p := k - 1) (by omega)
      have en : k.toNatClampNeg = (k - 1).toNatClampNeg + 1 := by omega
      have hb := mBh_n (F := F) (y := k - 1) (l := l) (n := n) (by omega) (by omega) l0 (h68 _ (by omega)) (h66 _).2 (fun j => ⟨(h67 j).1, by have := (h67 j).2; omega⟩) h69 n0 n1
      by_cases c2 : mBh F (k - 1) l n = true
      · rw [if_pos c2]
        have hc := hb.mp c2
        obtain ⟨s1, s2⟩ := mShf_r (F := F) c1 k1
        have e69 : mShf F k 69 = F 69 := mShf_q (by decide) (by decide) (by decide)
        have eG : cG (mShf F k) l n = cG F l n := by unfold cG; rw [e69]
        have eR : ∀ j, j ≠ k.toNatClampNeg → cR (mShf F k) j = cR F j := fun j hj => rE_c (s2 j hj)
        have g := ih (k - 1) (mShf F k) (by omega) (by omega) (by omega) (fun j hj => by rw [(s2 j (by omega)).2.1]; exact h68 j (by omega)) (fun j => by
          by_cases ej : j = k.toNatClampNeg
          · rw [ej, s1.1]; exact h66 _
          · rw [(s2 j ej).1]; exact h66 j) (by unfold mShf; exact mC1_r 5 0 _ h67) (by rw [e69]; exact h69)
        generalize mKw l n f (k - 1) (mShf F k) = r at g ⊢
        obtain ⟨⟨g1, g2⟩, g3, g4, g5, g6, g7⟩ := g
        have pr := z_pp g1
        rw [eG] at g6 g7
        refine ⟨⟨g1, by omega⟩, fun j hj => rE_t (g3 j hj) (s2 j (by omega)), fun j h1 h2 => ?_, fun j hj => rE_t (g5 j (by omega)) (s2 j (by omega)), fun j h1 h2 => ?_, ?_⟩
        · by_cases ej : j = k.toNatClampNeg
          · subst ej
            have h3 := rE_t (g5 k.toNatClampNeg (by omega)) s1
            rw [en, Nat.add_sub_cancel, ← en]
            exact h3
          · exact rE_t (g4 j h1 (by omega)) (s2 (j - 1) (by omega))
        · by_cases ej : j = (k - 1).toNatClampNeg
          · subst ej; exact hc
          · have := g6 j h1 (by omega)
            rw [eR j (by omega)] at this
            exact this
        · rcases g7 with g7 | g7
          · exact Or.inl g7
          · by_cases e0 : r.1.toNatClampNeg = 0
            · exact Or.inl e0
            · rw [eR _ (by omega)] at g7
              exact Or.inr g7
      · rw [if_neg c2]
        dsimp only
        refine ⟨⟨k0, Int.le_refl _⟩, fun j _ => rr j, fun j h1 h2 => absurd h1 (by omega), fun j _ => rr j, fun j h1 h2 => absurd h1 (by omega), Or.inr ?_⟩
        rw [en, Nat.add_sub_cancel]
        exact fun h => c2 (hb.mpr h)
    · rw [if_neg c1]
      dsimp only
      rw [z_ltI, tI0] at c1
      exact ⟨⟨k0, Int.le_refl _⟩, fun j _ => rr j, fun j h1 h2 => absurd h1 (by omega), fun j _ => rr j, fun j h1 h2 => absurd h1 (by omega), Or.inl (by omega)⟩
/-- the new row's wires -/
theorem mCg_4 {F : z_A} {n k : Int32} (k0 : 0 ≤ k.toInt) (k1 : k.toInt ≤ 511) (n1 : n.toInt ≤ 4) : ∀ (f : Nat) (i : Int32) (F : z_A), 0 ≤ i.toInt → i.toInt ≤ 4 → (4 : Int) < i.toInt + (f : Int) → (∀ j : Nat, i.toNatClampNeg ≤ j → (j : Int) < n.toInt → mCg n k f i F 67 (4 * k.toNatClampNeg + j) = F 69 j) ∧ (∀ j, (∀ a : Nat, i.toNatClampNeg ≤ a → (a : Int) < n.toInt → j ≠ 4 * k.toNatClampNeg + a) → mCg n k f i F 67 j = F 67 j) := by
  intro f
  induction f with
  | zero => intro i F i0 i1 hf; exfalso; omega
  | succ f ih =>
    intro i F i0 i1 hf
    have pi := z_pp i0
    rw [mCg_s]
    by_cases c : i < n
    · rw [if_pos c]
      rw [z_ltI] at c
      have e1 := z_up1 i0 (by omega)
      have pi1 := z_pp (p := i + 1) (by omega)
      have en : (i + 1).toNatClampNeg = i.toNatClampNeg + 1 := by omega
      have ex := z_ix (y := k) (i := i) k0 k1 i0 (by omega)
      obtain ⟨h1, h2⟩ := ih (i + 1) (z_wr F 67 (4 * k + i).toNatClampNeg (F 69 i.toNatClampNeg)) (by omega) (by omega) (by omega)
      rw [en] at h1 h2
      rw [ex] at h1 h2 ⊢
      refine ⟨fun j hj hn => ?_, fun j hj => ?_⟩
      · by_cases ej : j = i.toNatClampNeg
        · subst ej
          rw [h2 _ (fun a ha _ => by omega), z_wr2]
        · rw [h1 j (by omega) hn, z_wr1 (by decide)]
      · rw [h2 j (fun a ha hn => hj a (by omega) hn), z_wrj (hj i.toNatClampNeg (Nat.le_refl _) (by omega))]
    · rw [if_neg c]
      rw [z_ltI] at c
      exact ⟨fun j hj hn => absurd hn (by omega), fun j _ => rfl⟩
