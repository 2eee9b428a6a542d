/-! The reference's rows of ways, moved and filled. -/
/-- the number of row Y -/
def cR (F : z_A) (Y : Nat) : Nat := (F 68 Y).toNatClampNeg * 65536 + tl (nb (F 66 Y).toInt (rWs F Y)) 4 0
/-- the number of the way that is gone by now, n wires, lateness l -/
def cG (F : z_A) (l n : Int32) : Nat := l.toNatClampNeg * 65536 + tl (nb n.toInt (F 69)) 4 0
theorem mBh_n {F : z_A} {y l n : Int32} (y0 : 0 ≤ y.toInt) (y1 : y.toInt ≤ 511) (l0 : 0 ≤ l.toInt) (f0 : 0 ≤ (F 68 y.toNatClampNeg).toInt) (h66 : (F 66 y.toNatClampNeg).toInt ≤ 4) (hF : ∀ k, 0 ≤ (F 67 k).toInt ∧ (F 67 k).toInt ≤ 12) (hG : ∀ j : Nat, 0 ≤ (F 69 j).toInt ∧ (F 69 j).toInt ≤ 12) (n0 : 0 ≤ n.toInt) (n1 : n.toInt ≤ 4) : mBh F y l n = true ↔ cG F l n < cR F y.toNatClampNeg := by
  have hb1 := tl_b (f := nb n.toInt (F 69)) (nb_b hG) 4 0
  have hb2 := tl_b (f := nb (F 66 y.toNatClampNeg).toInt (rWs F y.toNatClampNeg)) (nb_b (fun j => hF _)) 4 0
  have e16 : 16 ^ 4 = 65536 := by decide
  rw [e16] at hb1 hb2
  have pl := z_pp l0
  have pf := z_pp f0
  unfold mBh cG cR
  by_cases c1 : F 68 y.toNatClampNeg = l
  · rw [if_pos c1]
    have h := mBl_n (F := F) (y := y) (n := n) y0 y1 h66 hF hG n1 4 0 (by decide) (by decide) n0
    rw [h, c1]
    show tl (nb n.toInt (F 69)) 4 0 < tl (nb (F 66 y.toNatClampNeg).toInt (rWs F y.toNatClampNeg)) 4 0 ↔ _
    omega
  · rw [if_neg c1]
    have c2 : ¬ (F 68 y.toNatClampNeg).toInt = l.toInt := fun e => c1 (Int32.toInt_inj.mp e)
    by_cases c3 : l < F 68 y.toNatClampNeg
    · rw [if_pos c3]
      rw [z_ltI] at c3
      constructor
      · intro _; omega
      · intro _; rfl
    · rw [if_neg c3]
      rw [z_ltI] at c3
      constructor
      · intro h; cases h
      · intro h; omega
/-- two rows alike -/
def rE (F : z_A) (Y : Nat) (F' : z_A) (Y' : Nat) : Prop := F 66 Y = F' 66 Y' ∧ F 68 Y = F' 68 Y' ∧ ∀ i, i < 4 → F 67 (4 * Y + i) = F' 67 (4 * Y' + i)
theorem rE_t {F G H : z_A} {X Y Z : Nat} (h1 : rE F X G Y) (h2 : rE G Y H Z) : rE F X H Z := ⟨h1.1.trans h2.1, h1.2.1.trans h2.2.1, fun i hi => (h1.2.2 i hi).trans (h2.2.2 i hi)⟩
theorem rE_c {F F' : z_A} {Y Y' : Nat} (h : rE F Y F' Y') : cR F Y = cR F' Y' := by
  unfold cR
  rw [h.1, h.2.1]
  have e : ∀ i, i < 4 → nb (F' 66 Y').toInt (rWs F Y) i = nb (F' 66 Y').toInt (rWs F' Y') i := fun i hi => by
    unfold nb rWs
    rw [h.2.2 i hi]
  show _ + (nb _ (rWs F Y) 0 * 16 ^ 3 + (nb _ (rWs F Y) 1 * 16 ^ 2 + (nb _ (rWs F Y) 2 * 16 ^ 1 + (nb _ (rWs F Y) 3 * 16 ^ 0 + 0)))) = _ + (nb _ (rWs F' Y') 0 * 16 ^ 3 + (nb _ (rWs F' Y') 1 * 16 ^ 2 + (nb _ (rWs F' Y') 2 * 16 ^ 1 + (nb _ (rWs F' Y') 3 * 16 ^ 0 + 0))))
  rw [e 0 (by decide), e 1 (by decide), e 2 (by decide), e 3 (by decide)]
theorem mC1_4 {F : z_A} {k : Int32} (k0 : 0 < k.toInt) (k1 : k.toInt ≤ 511) : (∀ i, i < 4 → mC1 k 5 0 F 67 (4 * k.toNatClampNeg + i) = F 67 (4 * (k - 1).toNatClampNeg + i)) ∧ (∀ j, (j < 4 * k.toNatClampNeg ∨ 4 * k.toNatClampNeg + 4 ≤ j) → mC1 k 5 0 F 67 j = F 67 j) := by
  have em := z_m1 k0
  have pk := z_pp (p := k) (by omega)
  have pm := z_pp (p := k - 1) (by omega)
  have a : ∀ i : Int32, 0 ≤ i.toInt → i.toInt ≤ 4 → (4 * k + i).toNatClampNeg = 4 * k.toNatClampNeg + i.toNatClampNeg := fun i h0 h1 => z_ix (by omega) k1 h0 h1
  have b : ∀ i : Int32, 0 ≤ i.toInt → i.toInt ≤ 4 → (4 * (k - 1) + i).toNatClampNeg = 4 * (k - 1).toNatClampNeg + i.toNatClampNeg := fun i h0 h1 => z_ix (by omega) (by omega) h0 h1
  have e01 : (0 : Int32) + 1 = 1 := by decide
  have e12 : (1 : Int32) + 1 = 2 := by decide
  have e23 : (2 : Int32) + 1 = 3 := by decide
  have e34 : (3 : Int32) + 1 = 4 := by decide
  have key : mC1 k 5 0 F = z_wr (z_wr (z_wr (z_wr F 67 (4 * k.toNatClampNeg) (F 67 (4 * (k - 1).toNatClampNeg))) 67 (4 * k.toNatClampNeg + 1) (F 67 (4 * (k - 1).toNatClampNeg + 1))) 67 (4 * k.toNatClampNeg + 2) (F 67 (4 * (k - 1).toNatClampNeg + 2))) 67 (4 * k.toNatClampNeg + 3) (F 67 (4 * (k - 1).toNatClampNeg + 3)) := by
    rw [mC1_s, if_pos (by decide), e01, mC1_s, if_pos (by decide), e12, mC1_s, if_pos (by decide), e23, mC1_s, if_pos (by decide), e34, mC1_s, if_neg (by decide)]
    rw [a 0 (by decide) (by decide), a 1 (by decide) (by decide), a 2 (by decide) (by decide), a 3 (by decide) (by decide), b 0 (by decide) (by decide), b 1 (by decide) (by decide), b 2 (by decide) (by decide), b 3 (by decide) (by decide)]
    rw [show (0 : Int32).toNatClampNeg = 0 from rfl, show (1 : Int32).toNatClampNeg = 1 from rfl, show (2 : Int32).toNatClampNeg = 2 from rfl, show (3 : Int32).toNatClampNeg = 3 from rfl, Nat.add_zero, Nat.add_zero]
    rw [z_wrj (show 4 * (k - 1).toNatClampNeg + 1 ≠ 4 * k.toNatClampNeg by omega)]
    rw [z_wrj (show 4 * (k - 1).toNatClampNeg + 2 ≠ 4 * k.toNatClampNeg + 1 by omega), z_wrj (show 4 * (k - 1).toNatClampNeg + 2 ≠ 4 * k.toNatClampNeg by omega)]
    rw [z_wrj (show 4 * (k - 1).toNatClampNeg + 3 ≠ 4 * k.toNatClampNeg + 2 by omega), z_wrj (show 4 * (k - 1).toNatClampNeg + 3 ≠ 4 * k.toNatClampNeg + 1 by omega), z_wrj (show 4 * (k - 1).toNatClampNeg + 3 ≠ 4 * k.toNatClampNeg by omega)]
  rw [key]
  refine ⟨fun i hi => ?_, fun j hj => ?_⟩
  · rcases (by omega : i = 0 ∨ i = 1 ∨ i = 2 ∨ i = 3) with rfl | rfl | rfl | rfl
    · rw [z_wrj (by omega), z_wrj (by omega), z_wrj (by omega), Nat.add_zero, Nat.add_zero, z_wr2]
    · rw [z_wrj (by omega), z_wrj (by omega), z_wr2]
    · rw [z_wrj (by omega), z_wr2]
    · rw [z_wr2]
  · rw [z_wrj (by omega), z_wrj (by omega), z_wrj (by omega), z_wrj (by omega)]
theorem mShf_r {F : z_A} {k : Int32} (k0 : 0 < k.toInt) (k1 : k.toInt ≤ 511) : rE (mShf F k) k.toNatClampNeg F (k - 1).toNatClampNeg ∧ (∀ j, j ≠ k.toNatClampNeg → rE (mShf F k) j F j) := by
  have h := mC1_4 (F := z_wr (z_wr F 66 k.toNatClampNeg (F 66 (k - 1).toNatClampNeg)) 68 k.toNatClampNeg (F 68 (k - 1).toNatClampNeg)) k0 k1
  unfold mShf
  refine ⟨⟨?_, ?_, fun i hi => ?_⟩, fun j hj => ⟨?_, ?_, fun i hi => ?_⟩⟩
  · rw [mC1_q (by decide), z_wr1 (by decide), z_wr2]
  · rw [mC1_q (by decide), z_wr2]
  · rw [h.1 i hi, z_wr1 (by decide), z_wr1 (by decide)]
  · rw [mC1_q (by decide), z_wr1 (by decide), z_wrj hj]
  · rw [mC1_q (by decide), z_wrj hj, z_wr1 (by decide)]
  · rw [h.2 _ (by omega), z_wr1 (by decide), z_wr1 (by decide)]
