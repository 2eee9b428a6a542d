section Zg
variable {S : ai_S} {d z : Nat} {Q : Option Value → ai_H → Prop} {N G P E : z_A} {W : Nat → Int32} {T Pt : Int32} {J : Nat → Int64 × Int64} {St Sq Lt Hd : z_R} {D : Nat → Nat} {n : Nat} {A B C F U V : z_A} {x : z_X} {m : z_M}
/-- a choice's wires -/
def mH1 (F : z_A) (c n : Int32) : Nat → Int32 → z_A → z_A
  | 0, _, B => B
  | k + 1, i, B => if i < F 66 n.toNatClampNeg then mH1 F c n k (i + 1) (z_wr B 56 (4 * c + i).toNatClampNeg (F 67 (4 * n + i).toNatClampNeg)) else B
theorem mH1_s {F B : z_A} {c n i : Int32} {k : Nat} : mH1 F c n (k + 1) i B = if i < F 66 n.toNatClampNeg then mH1 F c n k (i + 1) (z_wr B 56 (4 * c + i).toNatClampNeg (F 67 (4 * n + i).toNatClampNeg)) else B := rfl
def mH0 (F B : z_A) (n : Int32) : z_A := mH1 F (3 * B 45 10 + n) n 5 0 (z_wr (z_wr B 55 (3 * B 45 10 + n).toNatClampNeg (F 66 n.toNatClampNeg)) 57 (3 * B 45 10 + n).toNatClampNeg (F 68 n.toNatClampNeg))
def mH2 (F : z_A) (l : Int32) : Nat → Int32 → z_A → Int32 × z_A
  | 0, n, B => (n, B)
  | k + 1, n, B => if n < 3 then if n < F 45 27 then if l < F 68 n.toNatClampNeg then (n, B) else mH2 F l k (n + 1) (mH0 F B n) else (n, B) else (n, B)
theorem mH2_s {F B : z_A} {l n : Int32} {k : Nat} : mH2 F l (k + 1) n B = if n < 3 then if n < F 45 27 then if l < F 68 n.toNatClampNeg then (n, B) else mH2 F l k (n + 1) (mH0 F B n) else (n, B) else (n, B) := rfl
theorem mH1_q {F : z_A} {c n : Int32} {q : Nat} (hq : q ≠ 56) : ∀ (k : Nat) (i : Int32) (B : z_A), mH1 F c n k i B q = B q := by
  intro k
  induction k with
  | zero => intro i B; rfl
  | succ k ih =>
    intro i B
    rw [mH1_s]
    split
    · rw [ih, z_wr_ne hq]
    · rfl
theorem mH1_r {F : z_A} (hF : z_MF F) {c n : Int32} : ∀ (k : Nat) (i : Int32) (B : z_A), (∀ j, 0 ≤ (B 56 j).toInt ∧ (B 56 j).toInt ≤ 11) → (∀ j, 0 ≤ (mH1 F c n k i B 56 j).toInt ∧ (mH1 F c n k i B 56 j).toInt ≤ 11) := by
  intro k
  induction k with
  | zero => intro i B h; exact h
  | succ k ih =>
    intro i B h
    rw [mH1_s]
    split
    · apply ih
      intro j
      exact z_upd (f := B 56) (fun v => 0 ≤ v.toInt ∧ v.toInt ≤ 11) h (hF.2.2.1 _)
    · exact h
theorem mH0_q {F B : z_A} {n : Int32} {q : Nat} (h1 : q ≠ 55) (h2 : q ≠ 56) (h3 : q ≠ 57) : mH0 F B n q = B q := by
  unfold mH0
  rw [mH1_q h2, z_wr_ne h3, z_wr_ne h1]
/-- streams while a new one's choices are found: n of them stand -/
def z_MN (B B0 : z_A) (n : Int32) : Prop := (∀ q, q ≠ 55 → q ≠ 56 → q ≠ 57 → B q = B0 q) ∧ (∀ k, 0 ≤ (B 55 k).toInt ∧ (B 55 k).toInt ≤ 4) ∧ (∀ k, 0 ≤ (B 56 k).toInt ∧ (B 56 k).toInt ≤ 11) ∧ (∀ k c : Nat, (k : Int) < (B0 45 10).toInt → (c : Int) < (B0 54 k).toInt → 1 ≤ (B 55 (3 * k + c)).toInt) ∧ (∀ c : Nat, (c : Int) < n.toInt → 1 ≤ (B 55 (3 * (B0 45 10).toNatClampNeg + c)).toInt)
theorem mH0_n {F B B0 : z_A} {n : Int32} (hF : z_MF F) (hB : z_MB B0) (h : z_MN B B0 n) (n0 : 0 ≤ n.toInt) (n3 : n.toInt < 3) (nw : n.toInt < (F 45 27).toInt) (s7 : (B0 45 10).toInt ≤ 7) : z_MN (mH0 F B n) B0 (n + 1) := by
  obtain ⟨h1, h2, h3, h4, h5⟩ := h
  have e45 : B 45 10 = B0 45 10 := congrFun (h1 45 (by decide) (by decide) (by decide)) 10
  have s0 := hB.1.1
  have e3 := z_m3 (s := B0 45 10) (c := n) s0 s7 n0 (by omega)
  have p3 := z_pp (p := 3 * B0 45 10 + n) (by omega)
  have ps := z_pp s0
  have pn := z_pp n0
  have e1 := z_up1 n0 (by omega)
  have e55 : ∀ j, mH0 F B n 55 j = upd (B 55) (3 * B0 45 10 + n).toNatClampNeg (F 66 n.toNatClampNeg) j := fun j => by
    unfold mH0
    rw [mH1_q (by decide), z_wr1 (by decide), e45]; rfl
  have hn := hF.2.1 n.toNatClampNeg (by omega)
  refine ⟨fun q q1 q2 q3 => (mH0_q q1 q2 q3).trans (h1 q q1 q2 q3), fun k => ?_, fun k => ?_, fun k c hk hc => ?_, fun c hc => ?_⟩
  · rw [e55]; exact z_upd (fun v => 0 ≤ v.toInt ∧ v.toInt ≤ 4) h2 (hF.1 _)
  · unfold mH0
    refine mH1_r hF 5 0 _ ?_ k
    intro j; exact h3 j
  · rw [e55]
    have c3 := (hB.2.2.2.1 k).2
    unfold upd
    rw [if_neg (by omega)]
    exact h4 k c hk hc
  · rw [e55]
    unfold upd
    split
    · exact hn
    · exact h5 c (by omega)
theorem mH2_n {F B0 : z_A} {l : Int32} (hF : z_MF F) (hB : z_MB B0) (s7 : (B0 45 10).toInt ≤ 7) : ∀ (k : Nat) (n : Int32) (B : z_A), 0 ≤ n.toInt → n.toInt ≤ 3 → z_MN B B0 n → z_MN (mH2 F l k n B).2 B0 (mH2 F l k n B).1 ∧ 0 ≤ (mH2 F l k n B).1.toInt ∧ (mH2 F l k n B).1.toInt ≤ 3 := by
  intro k
  induction k with
  | zero => intro n B n0 n1 h; exact ⟨h, n0, n1⟩
  | succ k ih =>
    intro n B n0 n1 h
    rw [mH2_s]
    split
    · rename_i a1
      have a1 := z_3 (eq_true a1)
      split
      · rename_i a2
        rw [z_ltI] at a2
        split
        · exact ⟨h, n0, n1⟩
        · have e1 := z_up1 n0 (by omega)
          exact ih (n + 1) _ (by omega) (by omega) (mH0_n hF hB h n0 a1 a2 s7)
      · exact ⟨h, n0, n1⟩
    · exact ⟨h, n0, n1⟩
def mSB (r : Int32 × z_A) (c p : Int32) : z_A := z_wr (z_wr (z_wr (z_wr (z_wr r.2 52 (r.2 45 10).toNatClampNeg c) 53 (r.2 45 10).toNatClampNeg p) 54 (r.2 45 10).toNatClampNeg r.1) 58 (r.2 45 10).toNatClampNeg 0) 45 10 (r.2 45 10 + 1)
theorem mSB_k {B0 : z_A} {r : Int32 × z_A} {c p : Int32} (hB : z_MB B0) (h : z_MN r.2 B0 r.1) (r0 : 0 ≤ r.1.toInt) (r1 : r.1.toInt ≤ 3) (s7 : (B0 45 10).toInt ≤ 7) (c0 : 0 ≤ c.toInt) (c1 : c.toInt ≤ 8) (p0 : 2 ≤ p.toInt) (p1 : p.toInt ≤ 120) : z_MB (mSB r c p) := by
  obtain ⟨h1, h2, h3, h4, h5⟩ := h
  obtain ⟨b1, b2, b3, b4, b5, b6, b7, b8, b9, b10, b11⟩ := hB
  have e45 : r.2 45 10 = B0 45 10 := congrFun (h1 45 (by decide) (by decide) (by decide)) 10
  have e52 := h1 52 (by decide) (by decide) (by decide)
  have e53 := h1 53 (by decide) (by decide) (by decide)
  have e54 := h1 54 (by decide) (by decide) (by decide)
  have e58 := h1 58 (by decide) (by decide) (by decide)
  have e59 := h1 59 (by decide) (by decide) (by decide)
  have e60 := h1 60 (by decide) (by decide) (by decide)
  have es := z_up1 b1.1 (by omega)
  have ps := z_pp b1.1
  have f10 : mSB r c p 45 10 = B0 45 10 + 1 := by unfold mSB; rw [z_wr2, e45]
  have f52 : ∀ j, mSB r c p 52 j = upd (B0 52) (B0 45 10).toNatClampNeg c j := fun j => by unfold mSB; rw [z_wr1 (by decide), z_wr1 (by decide), z_wr1 (by decide), z_wr1 (by decide), e45, z_wr_eq, e52]
  have f53 : ∀ j, mSB r c p 53 j = upd (B0 53) (B0 45 10).toNatClampNeg p j := fun j => by unfold mSB; rw [z_wr1 (by decide), z_wr1 (by decide), z_wr1 (by decide), e45, z_wr_eq, z_wr_ne (by decide), e53]
  have f54 : ∀ j, mSB r c p 54 j = upd (B0 54) (B0 45 10).toNatClampNeg r.1 j := fun j => by unfold mSB; rw [z_wr1 (by decide), z_wr1 (by decide), e45, z_wr_eq, z_wr_ne (by decide), z_wr_ne (by decide), e54]
  have f58 : ∀ j, mSB r c p 58 j = upd (B0 58) (B0 45 10).toNatClampNeg 0 j := fun j => by unfold mSB; rw [z_wr1 (by decide), e45, z_wr_eq, z_wr_ne (by decide), z_wr_ne (by decide), z_wr_ne (by decide), e58]
  have fo : ∀ q, q ≠ 45 → q ≠ 52 → q ≠ 53 → q ≠ 54 → q ≠ 58 → mSB r c p q = r.2 q := fun q q1 q2 q3 q4 q5 => by unfold mSB; rw [z_wr_ne q1, z_wr_ne q5, z_wr_ne q4, z_wr_ne q3, z_wr_ne q2]
  have f55 := fo 55 (by decide) (by decide) (by decide) (by decide) (by decide)
  have f56 := fo 56 (by decide) (by decide) (by decide) (by decide) (by decide)
  have f59 := (fo 59 (by decide) (by decide) (by decide) (by decide) (by decide)).trans e59
  have f60 := (fo 60 (by decide) (by decide) (by decide) (by decide) (by decide)).trans e60
  refine ⟨by rw [f10]; omega, fun k => ?_, fun k hk => ?_, fun k => ?_, by rw [f55]; exact h2, by rw [f56]; exact h3, by rw [f59]; exact b7, by rw [f60]; exact b8, fun k => ?_, fun k j hk hj => ?_, fun k hk hn => ?_⟩
  · rw [f52]; exact z_upd (fun v => 0 ≤ v.toInt ∧ v.toInt ≤ 8) b2 ⟨c0, c1⟩
  · rw [f10] at hk
    rw [f53]
    unfold upd
    split
    · exact ⟨p0, p1⟩
    · exact b3 k (by omega)
  · rw [f54]; exact z_upd (fun v => 0 ≤ v.toInt ∧ v.toInt ≤ 3) b4 ⟨r0, r1⟩
  · rw [f58]; exact z_upd (fun v => v = 0 ∨ v = 1) b9 (Or.inl rfl)
  · rw [f10] at hk
    rw [f54] at hj
    rw [f55]
    unfold upd at hj
    split at hj
    · rename_i ek; rw [ek]; exact h5 j hj
    · exact h4 k j (by omega) hj
  · rw [f10] at hk
    rw [f58] at hn
    rw [f59, f54]
    unfold upd at hn ⊢
    split at hn
    · exact absurd rfl hn
    · rename_i ek
      rw [if_neg ek]
      exact b11 k (by omega) hn
end Zg
