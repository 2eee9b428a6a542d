section Zg
variable {S : ai_S} {d z : Nat} {Q : Option Value → ai_H → Prop} {N G P E : z_A} {W : Nat → Int32} {T Pt : Int32} {J : Nat → Int64 × Int64} {St Sq Lt Hd : z_R} {D : Nat → Nat} {n : Nat} {A B C F U V : z_A} {x : z_X} {m : z_M}
/-- the reference's state in range -/
def z_IM : z_M → Prop := fun ⟨A, B, C, F, U, V⟩ => z_MA A ∧ z_MB B ∧ z_TR C ∧ z_MF F ∧ z_MU U ∧ z_MV V
theorem mBox_k {A V : z_A} {h : Int32} (hA : z_MA A) (hV : z_MV V) : z_MA (mBox A V h).2.1 ∧ z_MV (mBox A V h).2.2 := by
  unfold mBox
  split
  · exact ⟨hA, hV⟩
  · rename_i a0
    have n6 : ¬ (A 45 0).toInt = 6 := fun e => a0 (Int32.toInt_inj.mp (e.trans (by decide)))
    split
    · exact ⟨hA, hV⟩
    · rename_i a1
      rw [z_ltI, tI0] at a1
      split
      · exact ⟨hA, hV⟩
      · rename_i a2
        rw [z_ltI] at a2
        have t5 : Int32.toInt 5 = 5 := rfl
        obtain ⟨g1, g2, g3, g4, g5, g6⟩ := hA
        have e := z_up1 g1.1 (by omega)
        refine ⟨⟨?_, g2, g3, g4, z_uR g5 (by omega) (by omega), g6⟩, z_MV_w hV (by decide)⟩
        show 0 ≤ (A 45 0 + 1).toInt ∧ (A 45 0 + 1).toInt ≤ 6
        omega
theorem mWi_k {A B U : z_A} {a b l s : Int32} (hA : z_MA A) : z_MA (mWi A B U a b l s).2 ∧ (mWi A B U a b l s).2 45 0 = A 45 0 := by
  unfold mWi
  split
  · exact ⟨hA, rfl⟩
  · rename_i a0
    have n12 : ¬ (A 45 3).toInt = 12 := fun e => a0 (Int32.toInt_inj.mp (e.trans (by decide)))
    split
    · rename_i ha
      have ha := mB_s ha
      split
      · rename_i hb
        have hb := mB_s hb
        split
        · exact ⟨hA, rfl⟩
        · split
          · exact ⟨hA, rfl⟩
          · rename_i l0
            rw [z_ltI, tI0] at l0
            split
            · exact ⟨hA, rfl⟩
            · rename_i l9
              rw [z_ltI] at l9
              have t9 : Int32.toInt 9 = 9 := rfl
              split
              · exact ⟨hA, rfl⟩
              · rename_i s1
                rw [z_ltI] at s1
                have t1 : Int32.toInt 1 = 1 := rfl
                split
                · exact ⟨hA, rfl⟩
                · rename_i s3
                  rw [z_ltI] at s3
                  have t3 : Int32.toInt 3 = 3 := rfl
                  split
                  · exact ⟨hA, rfl⟩
                  · split
                    · exact ⟨hA, rfl⟩
                    · obtain ⟨g1, g2, g3, g4, g5, g6, g7, g8, g9, g10⟩ := hA
                      have e := z_up1 g2.1 (by omega)
                      refine ⟨⟨g1, ?_, g3, g4, g5, g6, z_uR g7 (by omega) (by omega), z_uR g8 (by omega) (by omega), z_uR g9 (by omega) (by omega), z_uR g10 (by omega) (by omega)⟩, rfl⟩
                      show 0 ≤ (A 45 3 + 1).toInt ∧ (A 45 3 + 1).toInt ≤ 12
                      omega
      · exact ⟨hA, rfl⟩
    · exact ⟨hA, rfl⟩
theorem mCy_s {h : Int32} (e : mCy h = true) : 12 ≤ h.toInt ∧ h.toInt ≤ 120 := by
  unfold mCy at e
  split at e
  · rename_i q; rw [q]; decide
  · split at e
    · rename_i q; rw [q]; decide
    · split at e
      · rename_i q; rw [q]; decide
      · split at e
        · rename_i q; rw [q]; decide
        · split at e
          · rename_i q; rw [q]; decide
          · cases e
theorem mCyc_k {A B V : z_A} {h : Int32} (hA : z_MA A) (hV : z_MV V) : z_MA (mCyc A B V h).2.1 ∧ z_MV (mCyc A B V h).2.2 ∧ (mCyc A B V h).2.1 45 0 = A 45 0 := by
  unfold mCyc
  split
  · exact ⟨hA, hV, rfl⟩
  · split
    · rename_i q
      have := mCy_s q
      obtain ⟨g1, g2, g3, g4⟩ := hA
      exact ⟨⟨g1, g2, this, g4⟩, z_MV_w hV (by decide), rfl⟩
    · exact ⟨hA, hV, rfl⟩
theorem mDr_k {A B V : z_A} {k : Int32} (hA : z_MA A) (hV : z_MV V) : z_MA (mDr A B V k).2.1 ∧ z_MV (mDr A B V k).2.2 ∧ (mDr A B V k).2.1 45 0 = A 45 0 := by
  unfold mDr
  split
  · exact ⟨hA, hV, rfl⟩
  · split
    · exact ⟨hA, hV, rfl⟩
    · rename_i q
      rw [z_ltI, tI0] at q
      split
      · exact ⟨hA, hV, rfl⟩
      · rename_i q3
        rw [z_ltI] at q3
        have t3 : Int32.toInt 3 = 3 := rfl
        have t0 : Int32.toInt 0 = 0 := rfl
        obtain ⟨g1, g2, g3, g4, g5, g6, g7⟩ := hA
        refine ⟨⟨g1, g2, g3, ?_, g5, z_uR (z_uR (z_uR (z_uR (z_uR (z_uR g6 (by omega) (by omega)) (by omega) (by omega)) (by omega) (by omega)) (by omega) (by omega)) (by omega) (by omega)) (by omega) (by omega), g7⟩, z_MV_w hV (by decide), rfl⟩
        show 0 ≤ k.toInt ∧ k.toInt ≤ 3
        omega
theorem mClk_k {A V : z_A} {b e : Int32} (hA : z_MA A) (hV : z_MV V) : z_MA (mClk A V b e).2.1 ∧ z_MV (mClk A V b e).2.2 ∧ (mClk A V b e).2.1 45 0 = A 45 0 := by
  unfold mClk
  split
  · split
    · exact ⟨hA, hV, rfl⟩
    · rename_i q
      rw [z_ltI] at q
      split
      · exact ⟨hA, hV, rfl⟩
      · rename_i q2
        rw [z_ltI] at q2
        obtain ⟨g1, g2, g3, g4, g5, g6, g7⟩ := hA
        have e1 : (-(A 45 9)).toInt = -(A 45 9).toInt := by
          rw [Int32.toInt_neg, bm32]; split <;> omega
        exact ⟨⟨g1, g2, g3, g4, g5, z_uR g6 (by omega) (by omega), g7⟩, z_MV_w hV (by decide), rfl⟩
  · exact ⟨hA, hV, rfl⟩
theorem mStk_k {A B C V : z_A} {s : Int32} (hB : z_MB B) (hC : z_TR C) (hV : z_MV V) : z_MB (mStk A B C V s).2.1 ∧ z_TR (mStk A B C V s).2.2.1 ∧ z_MV (mStk A B C V s).2.2.2 := by
  unfold mStk
  split
  · refine ⟨z_MB_58 hB _, ?_, z_MV_w hV (by decide)⟩
    unfold z_TR
    dsimp only
    rw [mLay_q (by decide)]
    exact hC
  · exact ⟨hB, hC, hV⟩
theorem mH2_m {F : z_A} {l : Int32} : ∀ (k : Nat) (n : Int32) (B : z_A), 0 ≤ n.toInt → n.toInt ≤ (mH2 F l k n B).1.toInt := by
  intro k
  induction k with
  | zero => intro n B h; exact Int.le_refl _
  | succ k ih =>
    intro n B h
    rw [mH2_s]
    split
    · rename_i q
      have q := z_3 (eq_true q)
      have e := z_up1 h (by omega)
      split
      · split
        · exact Int.le_refl _
        · have := ih (n + 1) (mH0 F B n) (by omega)
          omega
      · exact Int.le_refl _
    · exact Int.le_refl _
theorem mH2_0 {F B : z_A} {l : Int32} (h : (mH2 F l 4 0 B).1 = 0) : (mH2 F l 4 0 B).2 = B := by
  rw [mH2_s] at h ⊢
  split
  · rename_i q
    rw [if_pos q] at h
    split
    · rename_i q2
      rw [if_pos q2] at h
      split
      · rfl
      · rename_i q3
        rw [if_neg q3] at h
        have e : (0 + 1 : Int32) = 1 := by decide
        rw [e] at h
        have := mH2_m (F := F) (l := l) 3 1 (mH0 F B 0) (by decide)
        rw [h] at this
        exact absurd this (by decide)
    · rfl
  · rfl
theorem mSw_v {A B C V : z_A} {set : Int32} (hV : z_MV V) : z_MV (mSw A B C V set).2.2.2 := z_MV_w hV (by decide)
theorem mTw_v {A : z_A} {all n : Int32} : ∀ (k : Nat) (set : Int32) (s : z_S3), z_MV s.2.2 → z_MV (mTw A all n k set s).2.2.2 := by
  intro k
  induction k with
  | zero => intro set s h; exact h
  | succ k ih =>
    intro set s h
    have h2 := mSw_v (A := A) (B := s.1) (C := s.2.1) (set := set) h
    rw [mTw_s]
    split
    · exact h
    · split
      · exact ih _ _ h2
      · exact h2
theorem mTo_v {A : z_A} {all : Int32} : ∀ (k : Nat) (n : Int32) (s : z_S3), z_MV s.2.2 → z_MV (mTo A all k n s).2.2.2 := by
  intro k
  induction k with
  | zero => intro n s h; exact h
  | succ k ih =>
    intro n s h
    have h2 := mTw_v (A := A) (all := all) (n := n) 513 (mNx all n (-1) 257 0 (-1)) s h
    rw [mTo_s]
    split
    · generalize mTw A all n 513 (mNx all n (-1) 257 0 (-1)) s = r at h2 ⊢
      obtain ⟨o, s'⟩ := r
      cases o with
      | none => exact ih _ _ h2
      | some a => exact h2
    · exact h
theorem z_TR0 {C : z_A} : z_TR (z_wr C 45 20 0) := by
  unfold z_TR
  rw [z_wr2]; decide
def fM0 : z_M → Int32 → Int32 × z_M := fun ⟨A, B, C, F, U, V⟩ a1 => ((mBox A V a1).1, ((mBox A V a1).2.1, B, C, F, U, (mBox A V a1).2.2))
set_option maxHeartbeats 8000000 in
set_option maxRecDepth 100000 in
theorem cz0 (hI : z_IM (A, B, C, F, U, V)) (a1 : Int32) : ∃ (v : Int32) (M' : z_M), z_IM M' ∧ ((v, M') = fM0 (A, B, C, F, U, V) a1) ∧ ∀ Q : Option Value → ai_H → Prop, RR S (d + 24) 115 0 [(0, .ref 45), (1, .int a1)] [] (z_hp x (A, B, C, F, U, V), z) Q = Q (some (.int v)) (z_hp x M', z) := by
  obtain ⟨hA, hB, hC, hF, hU, hV⟩ := hI
  have k := mBox_k (h := a1) hA hV
  exact ⟨_, ((mBox A V a1).2.1, B, C, F, U, (mBox A V a1).2.2), ⟨k.1, hB, hC, hF, hU, k.2⟩, rfl, fun Q => m115 (d := d + 24) hA a1⟩
def fM1 : z_M → Int32 → Int32 → Int32 → Int32 → Int32 × z_M := fun ⟨A, B, C, F, U, V⟩ a1 a2 a3 a4 => ((mWi A B U a1 a2 a3 a4).1, ((mWi A B U a1 a2 a3 a4).2, B, C, F, U, V))
set_option maxHeartbeats 8000000 in
set_option maxRecDepth 100000 in
theorem cz1 (hI : z_IM (A, B, C, F, U, V)) (a1 a2 a3 a4 : Int32) : ∃ (v : Int32) (M' : z_M), z_IM M' ∧ ((v, M') = fM1 (A, B, C, F, U, V) a1 a2 a3 a4) ∧ ∀ Q : Option Value → ai_H → Prop, RR S (d + 24) 116 0 [(0, .ref 45), (1, .int a1), (2, .int a2), (3, .int a3), (4, .int a4)] [] (z_hp x (A, B, C, F, U, V), z) Q = Q (some (.int v)) (z_hp x M', z) := by
  obtain ⟨hA, hB, hC, hF, hU, hV⟩ := hI
  have k := mWi_k (B := B) (U := U) (a := a1) (b := a2) (l := a3) (s := a4) hA
  exact ⟨_, ((mWi A B U a1 a2 a3 a4).2, B, C, F, U, V), ⟨k.1, hB, hC, hF, hU, hV⟩, rfl, fun Q => m116 (d := d + 23) hA a1 a2 a3 a4⟩
def fM2 : z_M → Int32 → Int32 × z_M := fun ⟨A, B, C, F, U, V⟩ a1 => (z_b (mCyc A B V a1).1, ((mCyc A B V a1).2.1, B, C, F, U, (mCyc A B V a1).2.2))
set_option maxHeartbeats 8000000 in
set_option maxRecDepth 100000 in
theorem cz2 (hI : z_IM (A, B, C, F, U, V)) (a1 : Int32) : ∃ (v : Int32) (M' : z_M), z_IM M' ∧ ((v, M') = fM2 (A, B, C, F, U, V) a1) ∧ ∀ Q : Option Value → ai_H → Prop, RR S (d + 24) 117 0 [(0, .ref 45), (1, .int a1)] [] (z_hp x (A, B, C, F, U, V), z) Q = Q (some (.int v)) (z_hp x M', z) := by
  obtain ⟨hA, hB, hC, hF, hU, hV⟩ := hI
  have k := mCyc_k (B := B) (h := a1) hA hV
  exact ⟨_, ((mCyc A B V a1).2.1, B, C, F, U, (mCyc A B V a1).2.2), ⟨k.1, hB, hC, hF, hU, k.2.1⟩, rfl, fun Q => m117 (d := d + 24) a1⟩
def fM3 : z_M → Int32 → Int32 × z_M := fun ⟨A, B, C, F, U, V⟩ a1 => (z_b (mDr A B V a1).1, ((mDr A B V a1).2.1, B, C, F, U, (mDr A B V a1).2.2))
set_option maxHeartbeats 8000000 in
set_option maxRecDepth 100000 in
theorem cz3 (hI : z_IM (A, B, C, F, U, V)) (a1 : Int32) : ∃ (v : Int32) (M' : z_M), z_IM M' ∧ ((v, M') = fM3 (A, B, C, F, U, V) a1) ∧ ∀ Q : Option Value → ai_H → Prop, RR S (d + 24) 118 0 [(0, .ref 45), (1, .int a1)] [] (z_hp x (A, B, C, F, U, V), z) Q = Q (some (.int v)) (z_hp x M', z) := by
  obtain ⟨hA, hB, hC, hF, hU, hV⟩ := hI
  have k := mDr_k (B := B) (k := a1) hA hV
  exact ⟨_, ((mDr A B V a1).2.1, B, C, F, U, (mDr A B V a1).2.2), ⟨k.1, hB, hC, hF, hU, k.2.1⟩, rfl, fun Q => m118 (d := d + 24) a1⟩
def fM4 : z_M → Int32 → Int32 → Int32 → Int32 → Int32 → Int32 × z_M := fun ⟨A, B, C, F, U, V⟩ a1 a2 a3 a4 a5 => ((mWy A F a1 a2 a3 a4 a5).1, (A, B, C, (mWy A F a1 a2 a3 a4 a5).2, U, V))
set_option maxHeartbeats 8000000 in
set_option maxRecDepth 100000 in
theorem cz4 (hI : z_IM (A, B, C, F, U, V)) (a1 a2 a3 a4 a5 : Int32) : ∃ (v : Int32) (M' : z_M), z_IM M' ∧ ((v, M') = fM4 (A, B, C, F, U, V) a1 a2 a3 a4 a5) ∧ ∀ Q : Option Value → ai_H → Prop, RR S (d + 24) 125 0 [(0, .ref 45), (1, .int a1), (2, .int a2), (3, .int a3), (4, .int a4), (5, .int a5)] [] (z_hp x (A, B, C, F, U, V), z) Q = Q (some (.int v)) (z_hp x M', z) := by
  obtain ⟨hA, hB, hC, hF, hU, hV⟩ := hI
  have k : z_MF (mWy A F a1 a2 a3 a4 a5).2 := by
    unfold mWy
    split
    · exact (mFind_k hA hF).1
    · exact hF
  exact ⟨_, (A, B, C, (mWy A F a1 a2 a3 a4 a5).2, U, V), ⟨hA, hB, hC, k, hU, hV⟩, rfl, fun Q => m125 (d := d + 21) hA hF a1 a2 a3 a4 a5⟩
def fM5 : z_M → Int32 → Int32 → Int32 → Int32 → Int32 → Int32 × z_M := fun ⟨A, B, C, F, U, V⟩ a1 a2 a3 a4 a5 => if mSg A B a1 a2 a3 a4 a5 = true then if (mH2 (mFind A F a1 a2 a3) a5 4 0 B).1 = 0 then (-2, (A, (mH2 (mFind A F a1 a2 a3) a5 4 0 B).2, C, (mFind A F a1 a2 a3), U, V)) else (mSB (mH2 (mFind A F a1 a2 a3) a5 4 0 B) a3 a4 45 10 - 1, (A, mSB (mH2 (mFind A F a1 a2 a3) a5 4 0 B) a3 a4, C, (mFind A F a1 a2 a3), U, V)) else (-1, (A, B, C, F, U, V))
set_option maxHeartbeats 8000000 in
set_option maxRecDepth 100000 in
theorem cz5 (hI : z_IM (A, B, C, F, U, V)) (a1 a2 a3 a4 a5 : Int32) : ∃ (v : Int32) (M' : z_M), z_IM M' ∧ ((v, M') = fM5 (A, B, C, F, U, V) a1 a2 a3 a4 a5) ∧ ∀ Q : Option Value → ai_H → Prop, RR S (d + 24) 126 0 [(0, .ref 45), (1, .int a1), (2, .int a2), (3, .int a3), (4, .int a4), (5, .int a5)] [] (z_hp x (A, B, C, F, U, V), z) Q = Q (some (.int v)) (z_hp x M', z) := by
  obtain ⟨hA, hB, hC, hF, hU, hV⟩ := hI
  have kF := (mFind_k (a := a1) (b := a2) (c := a3) hA hF).1
  rcases z_bc (mSg A B a1 a2 a3 a4 a5) with h | h
  · rcases z_eqc (mH2 (mFind A F a1 a2 a3) a5 4 0 B).1 0 with h2 | h2
    · have e := mH2_0 (of_eq_true h2)
      refine ⟨_, (A, (mH2 (mFind A F a1 a2 a3) a5 4 0 B).2, C, (mFind A F a1 a2 a3), U, V), ⟨hA, ?_, hC, kF, hU, hV⟩, ?_, fun Q => m126b (d := d + 21) hA hB hF a1 a2 a3 a4 a5 h h2⟩
      · rw [e]; exact hB
      · show _ = ite _ _ _
        rw [if_pos h, if_pos (of_eq_true h2)]
    · have hc : (¬ B 45 10 = 8) ∧ xIn a3 1 8 = true ∧ (¬ a4 < 2) ∧ (¬ A 45 8 < a4) := by
        unfold mSg at h
        split at h
        · cases h
        · rename_i q1
          split at h
          · split at h
            · split at h
              · cases h
              · split at h
                · rename_i q2
                  split at h
                  · cases h
                  · rename_i q3
                    split at h
                    · cases h
                    · rename_i q4; exact ⟨q1, q2, q3, q4⟩
                · cases h
            · cases h
          · cases h
      obtain ⟨c8, c1, c2, c3⟩ := hc
      have n8 : ¬ (B 45 10).toInt = 8 := fun e => c8 (Int32.toInt_inj.mp (e.trans (by decide)))
      have i := xIn_s c1
      have t1 : Int32.toInt 1 = 1 := rfl
      have t8 : Int32.toInt 8 = 8 := rfl
      have t2 : Int32.toInt 2 = 2 := rfl
      rw [z_ltI] at c2 c3
      have hb := hB.1
      have hcy := hA.2.2.1
      have hr := mH2_n (l := a5) kF hB (by omega) 4 0 B (by decide) (by decide) ⟨fun _ _ _ _ => rfl, hB.2.2.2.2.1, hB.2.2.2.2.2.1, hB.2.2.2.2.2.2.2.2.2.1, fun j hj => absurd (show (j : Int) < 0 from hj) (by omega)⟩
      have k := mSB_k (c := a3) (p := a4) hB hr.1 hr.2.1 hr.2.2 (by omega) (by omega) (by omega) (by omega) (by omega)
      refine ⟨_, (A, mSB (mH2 (mFind A F a1 a2 a3) a5 4 0 B) a3 a4, C, (mFind A F a1 a2 a3), U, V), ⟨hA, k, hC, kF, hU, hV⟩, ?_, fun Q => m126c (d := d + 21) hA hB hF a1 a2 a3 a4 a5 h h2⟩
      show _ = ite _ _ _
      rw [if_pos h, if_neg (of_eq_false h2)]
  · refine ⟨_, (A, B, C, F, U, V), ⟨hA, hB, hC, hF, hU, hV⟩, ?_, fun Q => m126a (d := d + 21) a1 a2 a3 a4 a5 h⟩
    show _ = ite _ _ _
    rw [if_neg (z_nf h)]
def fM6 : z_M → Int32 → Int32 × z_M := fun ⟨A, B, C, F, U, V⟩ a1 => (z_b (mStk A B C V a1).1, (A, (mStk A B C V a1).2.1, (mStk A B C V a1).2.2.1, F, U, (mStk A B C V a1).2.2.2))
set_option maxHeartbeats 8000000 in
set_option maxRecDepth 100000 in
theorem cz6 (hI : z_IM (A, B, C, F, U, V)) (a1 : Int32) : ∃ (v : Int32) (M' : z_M), z_IM M' ∧ ((v, M') = fM6 (A, B, C, F, U, V) a1) ∧ ∀ Q : Option Value → ai_H → Prop, RR S (d + 24) 127 0 [(0, .ref 45), (1, .int a1)] [] (z_hp x (A, B, C, F, U, V), z) Q = Q (some (.int v)) (z_hp x M', z) := by
  obtain ⟨hA, hB, hC, hF, hU, hV⟩ := hI
  have k := mStk_k (A := A) (s := a1) hB hC hV
  exact ⟨_, (A, (mStk A B C V a1).2.1, (mStk A B C V a1).2.2.1, F, U, (mStk A B C V a1).2.2.2), ⟨hA, k.1, k.2.1, hF, hU, k.2.2⟩, rfl, fun Q => m127 (d := d + 21) hA hB a1⟩
def fM7 : z_M → Int32 × z_M := fun ⟨A, B, C, F, U, V⟩ => ((mSw A B (z_wr C 45 20 0) V 255).1, (A, (mSw A B (z_wr C 45 20 0) V 255).2.1, (mSw A B (z_wr C 45 20 0) V 255).2.2.1, F, U, (mSw A B (z_wr C 45 20 0) V 255).2.2.2))
set_option maxHeartbeats 8000000 in
set_option maxRecDepth 100000 in
theorem cz7 (hI : z_IM (A, B, C, F, U, V))  : ∃ (v : Int32) (M' : z_M), z_IM M' ∧ ((v, M') = fM7 (A, B, C, F, U, V) ) ∧ ∀ Q : Option Value → ai_H → Prop, RR S (d + 24) 134 0 [(0, .ref 45)] [] (z_hp x (A, B, C, F, U, V), z) Q = Q (some (.int v)) (z_hp x M', z) := by
  obtain ⟨hA, hB, hC, hF, hU, hV⟩ := hI
  have k := mSw_k (A := A) (V := V) (set := 255) hB (z_TR0 (C := C))
  exact ⟨_, (A, (mSw A B (z_wr C 45 20 0) V 255).2.1, (mSw A B (z_wr C 45 20 0) V 255).2.2.1, F, U, (mSw A B (z_wr C 45 20 0) V 255).2.2.2), ⟨hA, k.1, k.2.1, hF, hU, mSw_v hV⟩, rfl, fun Q => m134 (d := d + 20) hA hB⟩
def fM8 : z_M → Int32 × z_M := fun ⟨A, B, C, F, U, V⟩ => ((mSw A B (z_wr C 45 20 0) V 0).1, (A, (mSw A B (z_wr C 45 20 0) V 0).2.1, (mSw A B (z_wr C 45 20 0) V 0).2.2.1, F, U, (mSw A B (z_wr C 45 20 0) V 0).2.2.2))
set_option maxHeartbeats 8000000 in
set_option maxRecDepth 100000 in
theorem cz8 (hI : z_IM (A, B, C, F, U, V))  : ∃ (v : Int32) (M' : z_M), z_IM M' ∧ ((v, M') = fM8 (A, B, C, F, U, V) ) ∧ ∀ Q : Option Value → ai_H → Prop, RR S (d + 24) 135 0 [(0, .ref 45)] [] (z_hp x (A, B, C, F, U, V), z) Q = Q (some (.int v)) (z_hp x M', z) := by
  obtain ⟨hA, hB, hC, hF, hU, hV⟩ := hI
  have k := mSw_k (A := A) (V := V) (set := 0) hB (z_TR0 (C := C))
  exact ⟨_, (A, (mSw A B (z_wr C 45 20 0) V 0).2.1, (mSw A B (z_wr C 45 20 0) V 0).2.2.1, F, U, (mSw A B (z_wr C 45 20 0) V 0).2.2.2), ⟨hA, k.1, k.2.1, hF, hU, mSw_v hV⟩, rfl, fun Q => m135 (d := d + 20) hA hB⟩
def fM9 : z_M → Int32 × z_M := fun ⟨A, B, C, F, U, V⟩ => ((mStir A B C V).1, (A, (mStir A B C V).2.1, (mStir A B C V).2.2.1, F, U, (mStir A B C V).2.2.2))
set_option maxHeartbeats 8000000 in
set_option maxRecDepth 100000 in
theorem cz9 (hI : z_IM (A, B, C, F, U, V))  : ∃ (v : Int32) (M' : z_M), z_IM M' ∧ ((v, M') = fM9 (A, B, C, F, U, V) ) ∧ ∀ Q : Option Value → ai_H → Prop, RR S (d + 24) 140 0 [(0, .ref 45)] [] (z_hp x (A, B, C, F, U, V), z) Q = Q (some (.int v)) (z_hp x M', z) := by
  obtain ⟨hA, hB, hC, hF, hU, hV⟩ := hI
  have k := mTo_o (A := A) (B0 := B) (all := mPd B 9 0 0) 5 0 (B, z_wr C 45 20 0, V) ⟨hB, z_TR0, fun _ _ _ _ => rfl⟩
  exact ⟨_, (A, (mStir A B C V).2.1, (mStir A B C V).2.2.1, F, U, (mStir A B C V).2.2.2), ⟨hA, k.1, k.2.1, hF, hU, mTo_v 5 0 _ hV⟩, rfl, fun Q => m140 (d := d + 20) hA hB⟩
def fM10 : z_M → Int32 → Int32 → Int32 × z_M := fun ⟨A, B, C, F, U, V⟩ a1 a2 => (mPlc A B a1 a2, (A, B, C, F, U, V))
set_option maxHeartbeats 8000000 in
set_option maxRecDepth 100000 in
theorem cz10 (hI : z_IM (A, B, C, F, U, V)) (a1 a2 : Int32) : ∃ (v : Int32) (M' : z_M), z_IM M' ∧ ((v, M') = fM10 (A, B, C, F, U, V) a1 a2) ∧ ∀ Q : Option Value → ai_H → Prop, RR S (d + 24) 142 0 [(0, .ref 45), (1, .int a1), (2, .int a2)] [] (z_hp x (A, B, C, F, U, V), z) Q = Q (some (.int v)) (z_hp x M', z) := by
  obtain ⟨hA, hB, hC, hF, hU, hV⟩ := hI
  exact ⟨_, (A, B, C, F, U, V), ⟨hA, hB, hC, hF, hU, hV⟩, rfl, fun Q => m142 (d := d + 23) hA hB a1 a2⟩
def fM11 : z_M → Int32 × z_M := fun ⟨A, B, C, F, U, V⟩ => (C 45 20, (A, B, C, F, U, V))
set_option maxHeartbeats 8000000 in
set_option maxRecDepth 100000 in
theorem cz11 (hI : z_IM (A, B, C, F, U, V))  : ∃ (v : Int32) (M' : z_M), z_IM M' ∧ ((v, M') = fM11 (A, B, C, F, U, V) ) ∧ ∀ Q : Option Value → ai_H → Prop, RR S (d + 24) 143 0 [(0, .ref 45)] [] (z_hp x (A, B, C, F, U, V), z) Q = Q (some (.int v)) (z_hp x M', z) := by
  obtain ⟨hA, hB, hC, hF, hU, hV⟩ := hI
  exact ⟨_, (A, B, C, F, U, V), ⟨hA, hB, hC, hF, hU, hV⟩, rfl, fun Q => m143 (d := d + 24)⟩
def fM12 : z_M → Int32 → Int32 → Int32 × z_M := fun ⟨A, B, C, F, U, V⟩ a1 a2 => (mDoor A C a1 a2, (A, B, C, F, U, V))
set_option maxHeartbeats 8000000 in
set_option maxRecDepth 100000 in
theorem cz12 (hI : z_IM (A, B, C, F, U, V)) (a1 a2 : Int32) : ∃ (v : Int32) (M' : z_M), z_IM M' ∧ ((v, M') = fM12 (A, B, C, F, U, V) a1 a2) ∧ ∀ Q : Option Value → ai_H → Prop, RR S (d + 24) 144 0 [(0, .ref 45), (1, .int a1), (2, .int a2)] [] (z_hp x (A, B, C, F, U, V), z) Q = Q (some (.int v)) (z_hp x M', z) := by
  obtain ⟨hA, hB, hC, hF, hU, hV⟩ := hI
  exact ⟨_, (A, B, C, F, U, V), ⟨hA, hB, hC, hF, hU, hV⟩, rfl, fun Q => m144 (d := d + 23) hA a1 a2⟩
def fM13 : z_M → Int32 → Int32 → Int32 → Int32 × z_M := fun ⟨A, B, C, F, U, V⟩ a1 a2 a3 => (mWt A C a1 a2 a3, (A, B, C, F, U, V))
set_option maxHeartbeats 8000000 in
set_option maxRecDepth 100000 in
theorem cz13 (hI : z_IM (A, B, C, F, U, V)) (a1 a2 a3 : Int32) : ∃ (v : Int32) (M' : z_M), z_IM M' ∧ ((v, M') = fM13 (A, B, C, F, U, V) a1 a2 a3) ∧ ∀ Q : Option Value → ai_H → Prop, RR S (d + 24) 147 0 [(0, .ref 45), (1, .int a1), (2, .int a2), (3, .int a3)] [] (z_hp x (A, B, C, F, U, V), z) Q = Q (some (.int v)) (z_hp x M', z) := by
  obtain ⟨hA, hB, hC, hF, hU, hV⟩ := hI
  exact ⟨_, (A, B, C, F, U, V), ⟨hA, hB, hC, hF, hU, hV⟩, rfl, fun Q => m147 (d := d + 22) hA a1 a2 a3⟩
def fM14 : z_M → Int32 → Int32 → Int32 × z_M := fun ⟨A, B, C, F, U, V⟩ a1 a2 => (mWst A C a1 a2, (A, B, C, F, U, V))
set_option maxHeartbeats 8000000 in
set_option maxRecDepth 100000 in
theorem cz14 (hI : z_IM (A, B, C, F, U, V)) (a1 a2 : Int32) : ∃ (v : Int32) (M' : z_M), z_IM M' ∧ ((v, M') = fM14 (A, B, C, F, U, V) a1 a2) ∧ ∀ Q : Option Value → ai_H → Prop, RR S (d + 24) 148 0 [(0, .ref 45), (1, .int a1), (2, .int a2)] [] (z_hp x (A, B, C, F, U, V), z) Q = Q (some (.int v)) (z_hp x M', z) := by
  obtain ⟨hA, hB, hC, hF, hU, hV⟩ := hI
  exact ⟨_, (A, B, C, F, U, V), ⟨hA, hB, hC, hF, hU, hV⟩, rfl, fun Q => m148 (d := d + 21) hA a1 a2⟩
def fM15 : z_M → Int32 → Int32 → Int32 × z_M := fun ⟨A, B, C, F, U, V⟩ a1 a2 => (z_b (mClk A V a1 a2).1, ((mClk A V a1 a2).2.1, B, C, F, U, (mClk A V a1 a2).2.2))
set_option maxHeartbeats 8000000 in
set_option maxRecDepth 100000 in
theorem cz15 (hI : z_IM (A, B, C, F, U, V)) (a1 a2 : Int32) : ∃ (v : Int32) (M' : z_M), z_IM M' ∧ ((v, M') = fM15 (A, B, C, F, U, V) a1 a2) ∧ ∀ Q : Option Value → ai_H → Prop, RR S (d + 24) 149 0 [(0, .ref 45), (1, .int a1), (2, .int a2)] [] (z_hp x (A, B, C, F, U, V), z) Q = Q (some (.int v)) (z_hp x M', z) := by
  obtain ⟨hA, hB, hC, hF, hU, hV⟩ := hI
  have k := mClk_k (b := a1) (e := a2) hA hV
  exact ⟨_, ((mClk A V a1 a2).2.1, B, C, F, U, (mClk A V a1 a2).2.2), ⟨k.1, hB, hC, hF, hU, k.2.1⟩, rfl, fun Q => m149 (d := d + 23) hA a1 a2⟩
def fM16 : z_M → Int32 → Int32 → Int32 → Int32 → Int32 × z_M := fun ⟨A, B, C, F, U, V⟩ a1 a2 a3 a4 => if mSn A U a1 a2 a3 a4 = true then if (mFind A F a2 a3 a4) 45 27 = 0 then (-2, (A, B, C, (mFind A F a2 a3 a4), U, V)) else (mSU (mFind A F a2 a3 a4) U a1 a4 45 22 - 1, (A, B, C, (mFind A F a2 a3 a4), mSU (mFind A F a2 a3 a4) U a1 a4, z_wr V 45 35 1)) else (-1, (A, B, C, F, U, V))
set_option maxHeartbeats 8000000 in
set_option maxRecDepth 100000 in
theorem cz16 (hI : z_IM (A, B, C, F, U, V)) (a1 a2 a3 a4 : Int32) : ∃ (v : Int32) (M' : z_M), z_IM M' ∧ ((v, M') = fM16 (A, B, C, F, U, V) a1 a2 a3 a4) ∧ ∀ Q : Option Value → ai_H → Prop, RR S (d + 24) 150 0 [(0, .ref 45), (1, .int a1), (2, .int a2), (3, .int a3), (4, .int a4)] [] (z_hp x (A, B, C, F, U, V), z) Q = Q (some (.int v)) (z_hp x M', z) := by
  obtain ⟨hA, hB, hC, hF, hU, hV⟩ := hI
  have kF := (mFind_k (a := a2) (b := a3) (c := a4) hA hF).1
  rcases z_bc (mSn A U a1 a2 a3 a4) with h | h
  · rcases z_eqc ((mFind A F a2 a3 a4) 45 27) 0 with h2 | h2
    · refine ⟨_, (A, B, C, (mFind A F a2 a3 a4), U, V), ⟨hA, hB, hC, kF, hU, hV⟩, ?_, fun Q => m150b (d := d + 21) hA hF a1 a2 a3 a4 h h2⟩
      show _ = ite _ _ _
      rw [if_pos h, if_pos (of_eq_true h2)]
    · have hc : (¬ U 45 22 = 60) ∧ xIn a4 1 8 = true := by
        unfold mSn at h
        split at h
        · cases h
        · rename_i q1
          split at h
          · cases h
          · split at h
            · cases h
            · split at h
              · split at h
                · split at h
                  · cases h
                  · split at h
                    · rename_i q2; exact ⟨q1, q2⟩
                    · cases h
                · cases h
              · cases h
      have n60 : ¬ (U 45 22).toInt = 60 := fun e => hc.1 (Int32.toInt_inj.mp (e.trans (by decide)))
      have i := xIn_s hc.2
      have t1 : Int32.toInt 1 = 1 := rfl
      have t8 : Int32.toInt 8 = 8 := rfl
      have hu := hU.1
      have k := (mSU_k (t := a1) (c := a4) kF hU (by omega) (by omega) (by omega)).1
      refine ⟨_, (A, B, C, (mFind A F a2 a3 a4), mSU (mFind A F a2 a3 a4) U a1 a4, z_wr V 45 35 1), ⟨hA, hB, hC, kF, k, z_MV_w hV (by decide)⟩, ?_, fun Q => m150c (d := d + 21) hA hF a1 a2 a3 a4 h hU h2⟩
      show _ = ite _ _ _
      rw [if_pos h, if_neg (of_eq_false h2)]
  · refine ⟨_, (A, B, C, F, U, V), ⟨hA, hB, hC, hF, hU, hV⟩, ?_, fun Q => m150a (d := d + 21) a1 a2 a3 a4 h⟩
    show _ = ite _ _ _
    rw [if_neg (z_nf h)]
def fM17 : z_M → Int32 → Int32 → Int32 → Int32 × z_M := fun ⟨A, B, C, F, U, V⟩ a1 a2 a3 => (mLv A B a1 a2 a3, (A, B, C, F, U, V))
set_option maxHeartbeats 8000000 in
set_option maxRecDepth 100000 in
theorem cz17 (hI : z_IM (A, B, C, F, U, V)) (a1 a2 a3 : Int32) : ∃ (v : Int32) (M' : z_M), z_IM M' ∧ ((v, M') = fM17 (A, B, C, F, U, V) a1 a2 a3) ∧ ∀ Q : Option Value → ai_H → Prop, RR S (d + 24) 152 0 [(0, .ref 45), (1, .int a1), (2, .int a2), (3, .int a3)] [] (z_hp x (A, B, C, F, U, V), z) Q = Q (some (.int v)) (z_hp x M', z) := by
  obtain ⟨hA, hB, hC, hF, hU, hV⟩ := hI
  exact ⟨_, (A, B, C, F, U, V), ⟨hA, hB, hC, hF, hU, hV⟩, rfl, fun Q => m152 (d := d + 22) hA hB a1 a2 a3⟩
def fM18 : z_M → Int32 → Int32 → Int32 → Int32 × z_M := fun ⟨A, B, C, F, U, V⟩ a1 a2 a3 => (mRo A B a1 a2 a3, (A, B, C, F, U, V))
set_option maxHeartbeats 8000000 in
set_option maxRecDepth 100000 in
theorem cz18 (hI : z_IM (A, B, C, F, U, V)) (a1 a2 a3 : Int32) : ∃ (v : Int32) (M' : z_M), z_IM M' ∧ ((v, M') = fM18 (A, B, C, F, U, V) a1 a2 a3) ∧ ∀ Q : Option Value → ai_H → Prop, RR S (d + 24) 153 0 [(0, .ref 45), (1, .int a1), (2, .int a2), (3, .int a3)] [] (z_hp x (A, B, C, F, U, V), z) Q = Q (some (.int v)) (z_hp x M', z) := by
  obtain ⟨hA, hB, hC, hF, hU, hV⟩ := hI
  exact ⟨_, (A, B, C, F, U, V), ⟨hA, hB, hC, hF, hU, hV⟩, rfl, fun Q => m153 (d := d + 22) hA hB a1 a2 a3⟩
set_option maxHeartbeats 8000000 in
set_option maxRecDepth 100000 in
theorem cz19 (hI : z_IM (A, B, C, F, U, V)) (a1 a2 : Int32) : ∃ (v : Int32) (M' : z_M), z_IM M' ∧ (∃ V1, M' = (A, B, C, F, U, V1)) ∧ ∀ Q : Option Value → ai_H → Prop, RR S (d + 24) 158 0 [(0, .ref 45), (1, .int a1), (2, .int a2)] [] (z_hp x (A, B, C, F, U, V), z) Q = Q (some (.int v)) (z_hp x M', z) := by
  obtain ⟨hA, hB, hC, hF, hU, hV⟩ := hI
  obtain ⟨v, V', k1, e⟩ := m158 (S := S) (d := d + 20) (x := x) (z := z) (B := B) (C := C) (F := F) hA hU hV a1 a2
  exact ⟨v, (A, B, C, F, U, V'), ⟨hA, hB, hC, hF, hU, k1⟩, ⟨V', rfl⟩, e⟩
set_option maxHeartbeats 8000000 in
set_option maxRecDepth 100000 in
theorem cz20 (hI : z_IM (A, B, C, F, U, V)) (a1 : Int32) : ∃ (v : Int32) (M' : z_M), z_IM M' ∧ (∃ V1, M' = (A, B, C, F, U, V1)) ∧ ∀ Q : Option Value → ai_H → Prop, RR S (d + 24) 159 0 [(0, .ref 45), (1, .int a1)] [] (z_hp x (A, B, C, F, U, V), z) Q = Q (some (.int v)) (z_hp x M', z) := by
  obtain ⟨hA, hB, hC, hF, hU, hV⟩ := hI
  obtain ⟨v, V', k1, e⟩ := m159 (S := S) (d := d + 20) (x := x) (z := z) (B := B) (C := C) (F := F) hA hU hV a1
  exact ⟨v, (A, B, C, F, U, V'), ⟨hA, hB, hC, hF, hU, k1⟩, ⟨V', rfl⟩, e⟩
set_option maxHeartbeats 8000000 in
set_option maxRecDepth 100000 in
theorem cz21 (hI : z_IM (A, B, C, F, U, V)) (a1 : Int32) : ∃ (v : Int32) (M' : z_M), z_IM M' ∧ (∃ V1, M' = (A, B, C, F, U, V1)) ∧ ∀ Q : Option Value → ai_H → Prop, RR S (d + 24) 160 0 [(0, .ref 45), (1, .int a1)] [] (z_hp x (A, B, C, F, U, V), z) Q = Q (some (.int v)) (z_hp x M', z) := by
  obtain ⟨hA, hB, hC, hF, hU, hV⟩ := hI
  obtain ⟨v, V', k1, e⟩ := m160 (S := S) (d := d + 20) (x := x) (z := z) (C := C) (F := F) hA hU hB hV a1
  exact ⟨v, (A, B, C, F, U, V'), ⟨hA, hB, hC, hF, hU, k1⟩, ⟨V', rfl⟩, e⟩
end Zg
