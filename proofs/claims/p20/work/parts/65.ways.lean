section Zg
variable {S : ai_S} {d z : Nat} {Q : Option Value → ai_H → Prop} {N G P E : z_A} {W : Nat → Int32} {T Pt : Int32} {J : Nat → Int64 × Int64} {St Sq Lt Hd : z_R} {D : Nat → Nat} {n : Nat} {A B C F U V : z_A} {x : z_X} {m : z_M}
/-- the rows of ways -/
def z_MF (F : z_A) : Prop := (∀ k, 0 ≤ (F 66 k).toInt ∧ (F 66 k).toInt ≤ 4) ∧ (∀ k : Nat, (k : Int) < (F 45 27).toInt → 1 ≤ (F 66 k).toInt) ∧ (∀ k, 0 ≤ (F 67 k).toInt ∧ (F 67 k).toInt ≤ 11) ∧ 0 ≤ (F 45 27).toInt
theorem mC1_r {k : Int32} : ∀ (f : Nat) (i : Int32) (F : z_A), (∀ j, 0 ≤ (F 67 j).toInt ∧ (F 67 j).toInt ≤ 11) → (∀ j, 0 ≤ (mC1 k f i F 67 j).toInt ∧ (mC1 k f i F 67 j).toInt ≤ 11) := by
  intro f
  induction f with
  | zero => intro i F h; exact h
  | succ f ih =>
    intro i F h
    rw [mC1_s]
    split
    · apply ih
      intro j
      exact z_upd (f := F 67) (fun v => 0 ≤ v.toInt ∧ v.toInt ≤ 11) h (h _)
    · exact h
theorem mCg_r {n k : Int32} (n1 : n.toInt ≤ 4) : ∀ (f : Nat) (i : Int32) (F : z_A), 0 ≤ i.toInt → z_GW F n → (∀ j, 0 ≤ (F 67 j).toInt ∧ (F 67 j).toInt ≤ 11) → (∀ j, 0 ≤ (mCg n k f i F 67 j).toInt ∧ (mCg n k f i F 67 j).toInt ≤ 11) := by
  intro f
  induction f with
  | zero => intro i F h0 hG h; exact h
  | succ f ih =>
    intro i F h0 hG h
    rw [mCg_s]
    split
    · rename_i q
      rw [z_ltI] at q
      have e := z_up1 h0 (by omega)
      apply ih (i + 1) _ (by omega)
      · exact z_GW_q hG rfl
      · intro j
        exact z_upd (f := F 67) (fun v => 0 ≤ v.toInt ∧ v.toInt ≤ 11) h (hG _ (by have := z_pp h0; omega))
    · exact h
/-- the rows with a gap at k -/
def z_MH (F : z_A) (W : Int) (k : Int32) : Prop := (∀ j, 0 ≤ (F 66 j).toInt ∧ (F 66 j).toInt ≤ 4) ∧ (∀ j : Nat, (j : Int) ≤ W → ¬ (j : Int) = k.toInt → 1 ≤ (F 66 j).toInt) ∧ (∀ j, 0 ≤ (F 67 j).toInt ∧ (F 67 j).toInt ≤ 11)
theorem mKw_r {l n : Int32} {W : Int} : ∀ (f : Nat) (k : Int32) (F : z_A), 0 ≤ k.toInt → k.toInt ≤ W → z_MH F W k → z_MH (mKw l n f k F).2 W (mKw l n f k F).1 := by
  intro f
  induction f with
  | zero => intro k F h0 h1 h; exact h
  | succ f ih =>
    intro k F h0 h1 h
    rw [mKw_s]
    split
    · rename_i q
      rw [z_ltI, tI0] at q
      have e := z_m1 q
      split
      · apply ih (k - 1) _ (by omega) (by omega)
        obtain ⟨g1, g2, g3⟩ := h
        have f66 : ∀ j, mShf F k 66 j = upd (F 66) k.toNatClampNeg (F 66 (k - 1).toNatClampNeg) j := fun j => by
          unfold mShf
          rw [mC1_q (by decide), z_wr1 (by decide)]
          rfl
        refine ⟨fun j => ?_, fun j hj hk => ?_, ?_⟩
        · rw [f66]; exact z_upd (fun v => 0 ≤ v.toInt ∧ v.toInt ≤ 4) g1 (g1 _)
        · rw [f66]
          have p1 := z_pp h0
          have p2 := z_pp (p := k - 1) (by omega)
          unfold upd
          split
          · exact g2 _ (by omega) (by omega)
          · exact g2 _ hj (by omega)
        · unfold mShf
          exact mC1_r 5 0 _ g3
      · exact h
    · exact h
theorem mKe_f {A F : z_A} {n c : Int32} (n0 : 1 ≤ n.toInt) (n1 : n.toInt ≤ 4) (hG : z_GW F n) (hF : z_MF F) (f1 : (F 45 27).toInt ≤ 511) : mKe A F n c 69 = F 69 ∧ (mKe A F n c 45 27).toInt = (F 45 27).toInt + 1 ∧ z_MF (mKe A F n c) := by
  have hb := mKw_b (l := mLt A F n c 5 0 0) (n := n) 513 (F 45 27) F hF.2.2.2
  have hm := mKw_r (l := mLt A F n c 5 0 0) (n := n) (W := (F 45 27).toInt) 513 (F 45 27) F hF.2.2.2 (Int.le_refl _) ⟨hF.1, fun j h1 h2 => hF.2.1 j (by omega), hF.2.2.1⟩
  have q69 := mKw_q (l := mLt A F n c 5 0 0) (n := n) (q := 69) (by decide) (by decide) (by decide) 513 (F 45 27) F
  have q45 := mKw_q (l := mLt A F n c 5 0 0) (n := n) (q := 45) (by decide) (by decide) (by decide) 513 (F 45 27) F
  unfold mKe mKf
  generalize mLt A F n c 5 0 0 = l at *
  generalize mKw l n 513 (F 45 27) F = r at *
  have e27 : mCg n r.1 5 0 (z_wr (z_wr r.2 66 r.1.toNatClampNeg n) 68 r.1.toNatClampNeg l) 45 27 = F 45 27 := by
    rw [mCg_q (by decide), z_wr1 (by decide), z_wr1 (by decide), q45]
  have i27 := z_up1 hF.2.2.2 (by omega)
  have g69 : mCg n r.1 5 0 (z_wr (z_wr r.2 66 r.1.toNatClampNeg n) 68 r.1.toNatClampNeg l) 69 = F 69 := by
    rw [mCg_q (by decide), z_wr_ne (by decide), z_wr_ne (by decide), q69]
  have g66 : ∀ j, mCg n r.1 5 0 (z_wr (z_wr r.2 66 r.1.toNatClampNeg n) 68 r.1.toNatClampNeg l) 66 j = upd (r.2 66) r.1.toNatClampNeg n j := fun j => by
    rw [mCg_q (by decide), z_wr1 (by decide)]; rfl
  have g67 : ∀ j, 0 ≤ (mCg n r.1 5 0 (z_wr (z_wr r.2 66 r.1.toNatClampNeg n) 68 r.1.toNatClampNeg l) 67 j).toInt ∧ (mCg n r.1 5 0 (z_wr (z_wr r.2 66 r.1.toNatClampNeg n) 68 r.1.toNatClampNeg l) 67 j).toInt ≤ 11 := mCg_r n1 5 0 _ (by decide) (z_GW_q hG q69) hm.2.2
  have w27 : z_wr (mCg n r.1 5 0 (z_wr (z_wr r.2 66 r.1.toNatClampNeg n) 68 r.1.toNatClampNeg l)) 45 27 (mCg n r.1 5 0 (z_wr (z_wr r.2 66 r.1.toNatClampNeg n) 68 r.1.toNatClampNeg l) 45 27 + 1) 45 27 = F 45 27 + 1 := by rw [z_wr2, e27]
  refine ⟨by rw [z_wr_ne (by decide)]; exact g69, by rw [w27]; exact i27, ?_, ?_, ?_, ?_⟩
  · intro k
    rw [z_wr1 (by decide), g66]
    exact z_upd (fun v => 0 ≤ v.toInt ∧ v.toInt ≤ 4) hm.1 ⟨by omega, n1⟩
  · intro k hk
    rw [w27, i27] at hk
    rw [z_wr1 (by decide), g66]
    have pp := z_pp hb.1
    unfold upd
    split
    · exact n0
    · exact hm.2.1 k (by omega) (by omega)
  · intro k
    rw [z_wr1 (by decide)]
    exact g67 k
  · rw [w27]; have := hF.2.2.2; omega
def mAt (A F : z_A) (a n : Int32) : Int32 := if n = 0 then a else A 49 (F 69 (n - 1).toNatClampNeg).toNatClampNeg
def mIc (F : z_A) (n : Int32) : z_A := z_wr F 69 n.toNatClampNeg (F 69 n.toNatClampNeg + 1)
def mFw (A : z_A) (a b c : Int32) : Nat → Int32 → z_A → z_A
  | 0, _, F => F
  | k + 1, n, F => if n < 0 then F else if F 69 n.toNatClampNeg < A 45 3 then if A 48 (F 69 n.toNatClampNeg).toNatClampNeg = mAt A F a n then if mSeen A F a n (A 49 (F 69 n.toNatClampNeg).toNatClampNeg) = true then mFw A a b c k n (mIc F n) else if A 49 (F 69 n.toNatClampNeg).toNatClampNeg = b then mFw A a b c k n (mIc (mKe A F (n + 1) c) n) else if n < 3 then mFw A a b c k (n + 1) (z_wr F 69 (n + 1).toNatClampNeg 0) else mFw A a b c k n (mIc F n) else mFw A a b c k n (mIc F n) else if n + -1 < 0 then mFw A a b c k (n + -1) F else mFw A a b c k (n + -1) (mIc F (n + -1))
theorem mFw_s {A F : z_A} {a b c n : Int32} {k : Nat} : mFw A a b c (k + 1) n F = if n < 0 then F else if F 69 n.toNatClampNeg < A 45 3 then if A 48 (F 69 n.toNatClampNeg).toNatClampNeg = mAt A F a n then if mSeen A F a n (A 49 (F 69 n.toNatClampNeg).toNatClampNeg) = true then mFw A a b c k n (mIc F n) else if A 49 (F 69 n.toNatClampNeg).toNatClampNeg = b then mFw A a b c k n (mIc (mKe A F (n + 1) c) n) else if n < 3 then mFw A a b c k (n + 1) (z_wr F 69 (n + 1).toNatClampNeg 0) else mFw A a b c k n (mIc F n) else mFw A a b c k n (mIc F n) else if n + -1 < 0 then mFw A a b c k (n + -1) F else mFw A a b c k (n + -1) (mIc F (n + -1)) := rfl
/-- the wires gone by, as numbers -/
def zG (F : z_A) : Nat → Nat := fun j => (F 69 j).toNatClampNeg
def zR (A : z_A) (a b : Int32) : Nat → Nat → Nat := rW (A 48) (A 49) a b (A 45 3).toNatClampNeg
/-- the search at level n -/
def z_FI (A : z_A) (a b n : Int32) (F : z_A) : Prop := (0 ≤ n.toInt ∧ n.toInt ≤ 3) ∧ (∀ j : Nat, (j : Int) < n.toInt → 0 ≤ (F 69 j).toInt ∧ (F 69 j).toInt < (A 45 3).toInt ∧ ¬ A 49 (F 69 j).toNatClampNeg = a) ∧ (0 ≤ (F 69 n.toNatClampNeg).toInt ∧ (F 69 n.toNatClampNeg).toInt ≤ (A 45 3).toInt) ∧ z_MF F ∧ (F 45 27).toInt + ((sM (zR A a b) (zG F) n.toNatClampNeg + zR A a b n.toNatClampNeg (zG F n.toNatClampNeg) : Nat) : Int) ≤ 511
def zMe (F : z_A) (n : Int32) : Nat := sM cC (zG F) n.toNatClampNeg + cC n.toNatClampNeg (zG F n.toNatClampNeg)
end Zg
