section Zg
variable {S : ai_S} {d z : Nat} {Q : Option Value → ai_H → Prop} {N G P E : z_A} {W : Nat → Int32} {T Pt : Int32} {J : Nat → Int64 × Int64} {St Sq Lt Hd : z_R} {D : Nat → Nat} {n : Nat} {A B C F U V : z_A} {x : z_X} {m : z_M}
/-- what the outer loop leaves -/
theorem mSk_k {A B : z_A} (hB : z_MB B) : ∀ (k : Nat) (p : Int32) (C : z_A), 0 ≤ p.toInt → p.toInt ≤ (C 45 34).toInt → z_MC B C → z_MP B C p → 2 * (40000 - (C 45 20).toInt) + p.toInt < (k : Int) →
    ((mSk A B k p C).2 70 = C 70 ∧ (mSk A B k p C).2 45 34 = C 45 34) ∧ (0 ≤ ((mSk A B k p C).2 45 20).toInt ∧ ((mSk A B k p C).2 45 20).toInt ≤ 40000) ∧ ((mSk A B k p C).1 = 1 → ∀ j : Nat, (j : Int) < (C 45 34).toInt → 0 ≤ ((mSk A B k p C).2 71 j).toInt ∧ ((mSk A B k p C).2 71 j).toInt < (B 54 (C 70 j).toNatClampNeg).toInt * (B 53 (C 70 j).toNatClampNeg).toInt) := by
  intro k
  induction k with
  | zero => intro p C p0 p1 hC hP hk; exfalso; have := hC.2.2.2; omega
  | succ k ih =>
    intro p C p0 p1 hC hP hk
    have hs8 := hC.1.2
    have pp := z_pp p0
    by_cases a1 : p < C 45 34
    · have a2 : p.toInt < (C 45 34).toInt := z_ltI ▸ a1
      obtain ⟨⟨s0, s1, s7⟩, hc, hp⟩ := z_MC_b hB hC (j := p.toNatClampNeg) (by omega)
      have hkk := mSi_k (A := A) (B := B) (p := p) (s := C 70 p.toNatClampNeg) 361 C hC.2.2.1 hC.2.2.2 hP.2.1 hP.2.2 hc hp
      rw [mSk_s]
      generalize hr0 : mSi A B p (C 70 p.toNatClampNeg) 361 C = r at hkk ⊢
      obtain ⟨⟨r1, r2, r3, r4⟩, r5, r6, r7, r8⟩ := hkk
      have t0 := hC.2.2.1
      unfold mSb
      rw [if_pos a1]
      split
      · refine ⟨⟨r1, r3⟩, ⟨by dsimp only; omega, r5.2⟩, fun e => absurd (show (-2 : Int32) = 1 from e) (by decide)⟩
      · split
        · rename_i hn hr
          have e1 := z_up1 p0 (by omega)
          have hq := (r7 hr).2
          generalize hpm : p + 1 = pm at *
          have pm1 := z_pp (p := pm) (by omega)
          have key := ih pm (z_wr (mPut A B (C 70 p.toNatClampNeg) (r.2 71 p.toNatClampNeg) (C 70 p.toNatClampNeg + 1) r.2) 71 pm.toNatClampNeg 0) (by omega) ?_ ?_ ?_ ?_
          · rw [z_wr1 (by decide), z_wr_ne (by decide), mPut_q (by decide), mPut_q (by decide), r3, r1] at key
            exact key
          · rw [z_wr1 (by decide), mPut_q (by decide), r3]; omega
          · refine ⟨?_, ?_, ?_⟩
            · rw [z_wr1 (by decide), mPut_q (by decide), r3]; exact hC.1
            · rw [z_wr1 (by decide), z_wr_ne (by decide), mPut_q (by decide), mPut_q (by decide), r3, r1]; exact hC.2.1
            · rw [z_wr1 (by decide), mPut_q (by decide)]; omega
          · refine ⟨?_, ?_⟩
            · intro j hj
              rw [z_wrj (by omega), z_wr_ne (by decide), mPut_q (by decide), mPut_q (by decide), r1]
              by_cases ej : j = p.toNatClampNeg
              · subst ej; exact ⟨r6.1, hq⟩
              · rw [r4 j ej]; exact hP.1 j (by omega)
            · rw [z_wr2]; decide
          · rw [z_wr1 (by decide), mPut_q (by decide)]; have := (r7 hr).1; omega
        · rename_i hn hr
          have e1 := z_dec1 p0 (show p.toInt < 1000000 by omega)
          generalize hpm : p + -1 = pm at *
          split
          · refine ⟨⟨r1, r3⟩, ⟨by dsimp only; omega, r5.2⟩, fun e => absurd (show (0 : Int32) = 1 from e) (by decide)⟩
          · rename_i a3
            have a4 : 0 ≤ pm.toInt := by rw [z_ltI, tI0] at a3; omega
            have pm1 := z_pp a4
            have r71 : r.2 71 pm.toNatClampNeg = C 71 pm.toNatClampNeg := r4 _ (by omega)
            have hq := hP.1 pm.toNatClampNeg (by omega)
            obtain ⟨-, hcq, hpq⟩ := z_MC_b hB hC (j := pm.toNatClampNeg) (by omega)
            have key := ih pm (z_wr (mPut A B (r.2 70 pm.toNatClampNeg) (r.2 71 pm.toNatClampNeg) 0 r.2) 71 pm.toNatClampNeg (mPut A B (r.2 70 pm.toNatClampNeg) (r.2 71 pm.toNatClampNeg) 0 r.2 71 pm.toNatClampNeg + 1)) a4 ?_ ?_ ?_ ?_
            · rw [z_wr1 (by decide), z_wr_ne (show (70 : Nat) ≠ 71 by decide), mPut_q (show (70 : Nat) ≠ 61 by decide), mPut_q (show (45 : Nat) ≠ 61 by decide), r3] at key
              rw [r1] at key
              rw [← r1]
              rw [← r1] at key
              exact key
            · rw [z_wr1 (by decide), mPut_q (by decide), r3]; omega
            · refine ⟨?_, ?_, ?_⟩
              · rw [z_wr1 (by decide), mPut_q (by decide), r3]; exact hC.1
              · rw [z_wr1 (by decide), z_wr_ne (show (70 : Nat) ≠ 71 by decide), mPut_q (show (70 : Nat) ≠ 61 by decide), mPut_q (show (45 : Nat) ≠ 61 by decide), r3, r1]; exact hC.2.1
              · rw [z_wr1 (by decide), mPut_q (by decide)]; omega
            · refine ⟨?_, ?_⟩
              · intro j hj
                rw [z_wrj (by omega), z_wr_ne (show (70 : Nat) ≠ 71 by decide), mPut_q (show (70 : Nat) ≠ 61 by decide), mPut_q (show (71 : Nat) ≠ 61 by decide), r1, r4 j (by omega)]
                exact hP.1 j (by omega)
              · rw [z_wr2, mPut_q (show (71 : Nat) ≠ 61 by decide), r71]
                have := z_cp hcq.1 hcq.2 hpq.1 hpq.2
                have := z_up1 hq.1 (by omega)
                omega
            · rw [z_wr1 (by decide), mPut_q (by decide)]; omega
    · rw [mSk_s]
      unfold mSb
      rw [if_neg a1]
      refine ⟨⟨rfl, rfl⟩, hC.2.2, fun _ j hj => hP.1 j ?_⟩
      rw [z_ltI] at a1
      omega
def mAd (C : z_A) (i : Int32) : z_A := z_wr (z_wr C 70 (C 45 34).toNatClampNeg i) 45 34 (C 45 34 + 1)
def mWl (A B : z_A) (set : Int32) : Nat → Int32 → z_A → z_A
  | 0, _, C => C
  | k + 1, i, C => if i < B 45 10 then mWl A B set k (i + 1) (if B 58 i.toNatClampNeg = 0 then mAd C i else if (set >>> (i &&& 31)) &&& 1 = 1 then mAd C i else mPt A B i (B 59 i.toNatClampNeg) (B 60 i.toNatClampNeg) (i + 1) C) else C
theorem mWl_s {A B C : z_A} {set i : Int32} {k : Nat} : mWl A B set (k + 1) i C = if i < B 45 10 then mWl A B set k (i + 1) (if B 58 i.toNatClampNeg = 0 then mAd C i else if (set >>> (i &&& 31)) &&& 1 = 1 then mAd C i else mPt A B i (B 59 i.toNatClampNeg) (B 60 i.toNatClampNeg) (i + 1) C) else C := rfl
def mPlB (B : z_A) (s c t : Int32) : z_A := z_wr (z_wr (z_wr B 58 s.toNatClampNeg 1) 59 s.toNatClampNeg c) 60 s.toNatClampNeg t
def mKp (C : z_A) (ans : Int32) : Nat → Int32 → z_A → z_A
  | 0, _, B => B
  | k + 1, i, B => if i < C 45 34 then if ans = 1 then mKp C ans k (i + 1) (mPlB B (C 70 i.toNatClampNeg) (C 71 i.toNatClampNeg / B 53 (C 70 i.toNatClampNeg).toNatClampNeg) (C 71 i.toNatClampNeg - C 71 i.toNatClampNeg / B 53 (C 70 i.toNatClampNeg).toNatClampNeg * B 53 (C 70 i.toNatClampNeg).toNatClampNeg)) else B else B
theorem mKp_s {C B : z_A} {ans i : Int32} {k : Nat} : mKp C ans (k + 1) i B = if i < C 45 34 then if ans = 1 then mKp C ans k (i + 1) (mPlB B (C 70 i.toNatClampNeg) (C 71 i.toNatClampNeg / B 53 (C 70 i.toNatClampNeg).toNatClampNeg) (C 71 i.toNatClampNeg - C 71 i.toNatClampNeg / B 53 (C 70 i.toNatClampNeg).toNatClampNeg * B 53 (C 70 i.toNatClampNeg).toNatClampNeg)) else B else B := rfl
theorem z_upd {f : Nat → Int32} {k j : Nat} {v : Int32} (P : Int32 → Prop) (h : ∀ j, P (f j)) (hv : P v) : P (upd f k v j) := by
  unfold upd; split
  · exact hv
  · exact h j
theorem z_MB_pl {B : z_A} (hB : z_MB B) {s c t : Int32} (s0 : 0 ≤ s.toInt) (s1 : s.toInt < (B 45 10).toInt) (c0 : 0 ≤ c.toInt) (c1 : c.toInt < (B 54 s.toNatClampNeg).toInt) (t0 : 0 ≤ t.toInt) (t1 : t.toInt ≤ 119) : z_MB (mPlB B s c t) := by
  obtain ⟨h1, h2, h3, h4, h5, h6, h7, h8, h9, h10, h11⟩ := hB
  have hc := (h4 s.toNatClampNeg).2
  refine ⟨h1, h2, h3, h4, h5, h6, fun j => ?_, fun j => ?_, fun j => ?_, h10, fun j hj hn => ?_⟩
  · exact z_upd (f := B 59) (fun v => 0 ≤ v.toInt ∧ v.toInt ≤ 2) h7 ⟨c0, by omega⟩
  · exact z_upd (f := B 60) (fun v => 0 ≤ v.toInt ∧ v.toInt ≤ 119) h8 ⟨t0, t1⟩
  · exact z_upd (f := B 58) (fun v => v = 0 ∨ v = 1) h9 (Or.inr rfl)
  · show (upd (B 59) s.toNatClampNeg c j).toInt < (B 54 j).toInt
    have hn : ¬ upd (B 58) s.toNatClampNeg 1 j = 0 := hn
    unfold upd at hn ⊢
    split
    · rename_i e; subst e; exact c1
    · rename_i e
      rw [if_neg e] at hn
      exact h11 j hj hn
end Zg
