/-- what every step of the search keeps -/
theorem mFw_I {A : z_A} {a b c : Int32} (hA : z_MA A) {I : Int32 → z_A → Prop} {K : z_A → Prop}
    (s1 : ∀ n F, z_FI A a b n F → (F 69 n.toNatClampNeg).toInt < (A 45 3).toInt → ¬ A 48 (F 69 n.toNatClampNeg).toNatClampNeg = mAt A F a n → I n F → I n (mIc F n))
    (s2 : ∀ n F, z_FI A a b n F → (F 69 n.toNatClampNeg).toInt < (A 45 3).toInt → A 48 (F 69 n.toNatClampNeg).toNatClampNeg = mAt A F a n → mSeen A F a n (A 49 (F 69 n.toNatClampNeg).toNatClampNeg) = true → I n F → I n (mIc F n))
    (s3 : ∀ n F, z_FI A a b n F → (F 69 n.toNatClampNeg).toInt < (A 45 3).toInt → A 48 (F 69 n.toNatClampNeg).toNatClampNeg = mAt A F a n → mSeen A F a n (A 49 (F 69 n.toNatClampNeg).toNatClampNeg) = false → A 49 (F 69 n.toNatClampNeg).toNatClampNeg = b → (F 45 27).toInt ≤ 510 → I n F → I n (mIc (mKe A F (n + 1) c) n))
    (s4 : ∀ n F, z_FI A a b n F → (F 69 n.toNatClampNeg).toInt < (A 45 3).toInt → A 48 (F 69 n.toNatClampNeg).toNatClampNeg = mAt A F a n → mSeen A F a n (A 49 (F 69 n.toNatClampNeg).toNatClampNeg) = false → ¬ A 49 (F 69 n.toNatClampNeg).toNatClampNeg = b → n.toInt < 3 → I n F → I (n + 1) (z_wr F 69 (n + 1).toNatClampNeg 0))
    (s5 : ∀ n F, z_FI A a b n F → (F 69 n.toNatClampNeg).toInt < (A 45 3).toInt → A 48 (F 69 n.toNatClampNeg).toNatClampNeg = mAt A F a n → mSeen A F a n (A 49 (F 69 n.toNatClampNeg).toNatClampNeg) = false → ¬ A 49 (F 69 n.toNatClampNeg).toNatClampNeg = b → ¬ n.toInt < 3 → I n F → I n (mIc F n))
    (s6 : ∀ n F, z_FI A a b n F → ¬ (F 69 n.toNatClampNeg).toInt < (A 45 3).toInt → n.toInt = 0 → I n F → K F)
    (s7 : ∀ n m F, z_FI A a b n F → ¬ (F 69 n.toNatClampNeg).toInt < (A 45 3).toInt → m.toInt = n.toInt - 1 → 0 ≤ m.toInt → I n F → I m (mIc F m)) :
    ∀ (k : Nat) (n : Int32) (F : z_A), (0 ≤ n.toInt → z_FI A a b n F ∧ I n F) → (n.toInt < 0 → K F) → ((n.toInt < 0 ∧ 0 < k) ∨ zMe F n < k) → K (mFw A a b c k n F) := by
  intro k
  induction k with
  | zero => intro n F hI hN hk; exfalso; omega
  | succ k ih =>
    intro n F hI hN hk
    rw [mFw_s]
    split
    · rename_i q
      rw [z_ltI, tI0] at q
      exact hN q
    · rename_i q
      rw [z_ltI, tI0] at q
      have n0 : 0 ≤ n.toInt := by omega
      obtain ⟨hI, hJ⟩ := hI n0
      have hk : zMe F n < k + 1 := by omega
      have hI2 := hI
      obtain ⟨⟨-, n1⟩, hl, ⟨w0, w1⟩, hF, hw⟩ := hI2
      have h12 := hA.2.1.2
      have hN3 := z_pp hA.2.1.1
      have pn := z_pp n0
      have pw := z_pp w0
      have nn : ∀ {F : z_A}, n.toInt < 0 → K F := fun h => absurd h (by omega)
      have hG : z_GW F n := fun j hj => ⟨(hl j hj).1, by have := (hl j hj).2.1; omega⟩
      split
      · rename_i a1
        rw [z_ltI] at a1
        have hle := rW_le (fr := A 48) (to := A 49) (a := a) (b := b) (N := (A 45 3).toNatClampNeg) (n := n.toNatClampNeg) (w := zG F n.toNatClampNeg)
        have key := z_FIi (F := F) (b := b) hA n0 n1 hl w0 a1 hF (by unfold zR at *; omega)
        split
        · rename_i a2
          split
          · exact ih n _ (fun _ => ⟨key.1, s2 n F hI a1 a2 (by assumption) hJ⟩) nn (Or.inr (Nat.lt_of_lt_of_le key.2 (by omega)))
          · rename_i a3
            have a3 : mSeen A F a n (A 49 (F 69 n.toNatClampNeg).toNatClampNeg) = false := by
              cases h : mSeen A F a n (A 49 (F 69 n.toNatClampNeg).toNatClampNeg)
              · rfl
              · exact absurd h a3
            have ha := mSeen_f a3
            have hr := mAt_r hI a2
            have e1 := z_up1 n0 (by omega)
            split
            · rename_i a4
              have pn1 := z_pp (p := n + 1) (by omega)
              have hG1 : z_GW F (n + 1) := fun j hj => by
                by_cases ej : j = n.toNatClampNeg
                · subst ej; exact ⟨w0, by omega⟩
                · exact hG j (by omega)
              have hrk := rW_k (fr := A 48) (to := A 49) (a := a) (b := b) (N := (A 45 3).toNatClampNeg) (n := n.toNatClampNeg) (w := zG F n.toNatClampNeg) (by unfold zG; omega) hr.1 hr.2 a4
              have f1 : (F 45 27).toInt ≤ 510 := by unfold zR at hw; omega
              obtain ⟨k69, k27, kF⟩ := mKe_f (A := A) (c := c) (n := n + 1) (by omega) (by omega) hG1 hF (by omega)
              have kG : zG (mKe A F (n + 1) c) = zG F := by unfold zG; rw [k69]
              have key2 := z_FIi (F := mKe A F (n + 1) c) (a := a) (b := b) (n := n) hA n0 n1 (by rw [k69]; exact hl) (by rw [k69]; exact w0) (by rw [k69]; exact a1) kF (by rw [k27, kG]; unfold zR at *; omega)
              have kM : zMe (mKe A F (n + 1) c) n = zMe F n := by unfold zMe; rw [kG]
              exact ih n _ (fun _ => ⟨key2.1, s3 n F hI a1 a2 a3 a4 f1 hJ⟩) nn (Or.inr (Nat.lt_of_lt_of_le key2.2 (by rw [kM]; omega)))
            · rename_i a4
              split
              · rename_i a5
                have n3 := z_3 (eq_true a5)
                have key3 := z_FIp (b := b) hA hI n3 a1 hr.1 hr.2 a4 ha
                exact ih (n + 1) _ (fun _ => ⟨key3.1, s4 n F hI a1 a2 a3 a4 n3 hJ⟩) (fun h => absurd h (by omega)) (Or.inr (Nat.lt_of_lt_of_le key3.2 (by omega)))
              · exact ih n _ (fun _ => ⟨key.1, s5 n F hI a1 a2 a3 a4 (fun h => absurd (z_ltI.mpr h) (by assumption)) hJ⟩) nn (Or.inr (Nat.lt_of_lt_of_le key.2 (by omega)))
        · exact ih n _ (fun _ => ⟨key.1, s1 n F hI a1 (by assumption) hJ⟩) nn (Or.inr (Nat.lt_of_lt_of_le key.2 (by omega)))
      · rename_i a1
        rw [z_ltI] at a1
        have e1 := z_dec1 n0 (show n.toInt < 1000000 by omega)
        generalize hpm : n + -1 = pm at *
        split
        · rename_i a2
          have a2 : pm.toInt < 0 := by rw [z_ltI, tI0] at a2; exact a2
          have c1 := cC_1 (n := n.toNatClampNeg) (w := zG F n.toNatClampNeg)
          unfold zMe at hk
          exact ih pm _ (fun h => absurd h (by omega)) (fun _ => s6 n F hI a1 (by omega) hJ) (Or.inl ⟨a2, by omega⟩)
        · rename_i a2
          rw [z_ltI, tI0] at a2
          have key4 := z_FIo (b := b) hA hI (m := pm) (by omega) e1
          exact ih pm _ (fun _ => ⟨key4.1, s7 n pm F hI a1 (by omega) (by omega) hJ⟩) (fun h => absurd h (by omega)) (Or.inr (Nat.lt_of_lt_of_le key4.2 (by omega)))
