section Zg
variable {S : ai_S} {d z : Nat} {Q : Option Value → ai_H → Prop} {N G P E : z_A} {W : Nat → Int32} {T Pt : Int32} {J : Nat → Int64 × Int64} {St Sq Lt Hd : z_R} {D : Nat → Nat} {n : Nat} {A B C F U V : z_A} {x : z_X} {m : z_M}
/-- the nets of both, their counts, and the reference's room for a way -/
def z_R1 : z_X → z_M → Prop := fun ⟨N, _, T, _, _, _, _, _, Pt, _, _, _, _, _⟩ ⟨A, B, _, F, U, _⟩ => z_NA N A ∧ z_WE N ∧ T = B 45 10 ∧ Pt = U 45 22 ∧ ∀ j, 0 ≤ (F 69 j).toInt ∧ (F 69 j).toInt ≤ 12
theorem mH0_r {F : z_A} {n : Int32} {B : z_A} {q : Nat} (h5 : q ≠ 55) (h6 : q ≠ 56) (h7 : q ≠ 57) : mH0 F B n q = B q := by
  unfold mH0
  rw [mH1_q h6, z_wr_ne h7, z_wr_ne h5]
theorem mH2_r {F : z_A} {l : Int32} {q : Nat} (h5 : q ≠ 55) (h6 : q ≠ 56) (h7 : q ≠ 57) : ∀ (k : Nat) (n : Int32) (B : z_A), (mH2 F l k n B).2 q = B q := by
  intro k
  induction k with
  | zero => intro n B; rfl
  | succ k ih =>
    intro n B
    rw [mH2_s]
    split
    · split
      · split
        · rfl
        · rw [ih, mH0_r h5 h6 h7]
      · rfl
    · rfl
theorem mSB_n {r : Int32 × z_A} {c p : Int32} : mSB r c p 45 10 = r.2 45 10 + 1 := by
  unfold mSB
  rw [z_wr2]
/-- boxes and size of a way that is looked for -/
def z_wg (N : z_A) (a c : Int32) : Prop := 0 ≤ a.toInt ∧ a.toInt ≤ 5 ∧ 0 ≤ c.toInt ∧ c.toInt ≤ 8
theorem z_wg_i {N : z_A} {a c : Int32} (hr : z_RN N) (h1 : xB N a = true) (h2 : xIn c 1 8 = true) : z_wg N a c := by
  have h1 := xB_s h1
  have h2 := xIn_s h2
  have t1 : Int32.toInt 1 = 1 := rfl
  have t8 : Int32.toInt 8 = 8 := rfl
  have := hr.2.1
  exact ⟨by omega, by omega, by omega, by omega⟩
theorem z_wg_s {N : z_A} {T a b c p l : Int32} (hr : z_RN N) (h : xSg N T a b c p l = true) : z_wg N a c := by
  unfold xSg at h
  split at h
  · split at h
    · rename_i h1
      split at h
      · rename_i h2; exact z_wg_i hr (xPr_s h1).1 h2
      · cases h
    · cases h
  · cases h
theorem z_wg_n {N : z_A} {Pt t a b c : Int32} (hr : z_RN N) (h : xSn N Pt t a b c = true) : z_wg N a c := by
  unfold xSn at h
  split at h
  · split at h
    · split at h
      · rename_i h1
        split at h
        · rename_i h2; exact z_wg_i hr (xPr_s h1).1 h2
        · cases h
      · cases h
    · cases h
  · cases h
theorem z_wg_w {N A : z_A} {a b c k i : Int32} (hr : z_RN N) (hN : z_NA N A) (h : mWg A a b c k i = true) : z_wg N a c := by
  unfold mWg at h
  split at h
  · rename_i h1
    split at h
    · split at h
      · rename_i h2; exact z_wg_i hr (by rw [← z_bb hN.1]; exact h1) h2
      · cases h
    · cases h
  · cases h
/-- what find leaves, for both -/
theorem z_fd {N A F : z_A} {a b c : Int32} (hA : z_MA A) (hF : z_MF F) (hN : z_NA N A) (hr : z_RN N) (ha : z_RA N) (hE : z_WE N) (h69 : ∀ j, 0 ≤ (F 69 j).toInt ∧ (F 69 j).toInt ≤ 12) (hg : z_wg N a c) : z_WK N a b c (mFind A F a b c) ∧ z_MF (mFind A F a b c) ∧ (∀ y, y ∈ eW N a b c → 0 ≤ y.toInt) ∧ (∀ o W, z_nx (eW N a b c) o (xNb N a b c o W 4)) := by
  obtain ⟨g1, g2, g3, g4⟩ := hg
  have w := (eW_r (b := b) hr ha (a := a) g3 g4).1
  exact ⟨mFind_e hA hF hN hr ha hE g1 g2 g3 g4 h69, (mFind_k hA hF).1, w, fun o W => xNb_nx (fun y hy e => by have := w y hy; rw [e] at this; exact absurd this (by decide))⟩
theorem z_fd0 {N F : z_A} {a b c : Int32} {W : z_W} (hF : z_MF F) (hK : z_WK N a b c F) (hw : ∀ y, y ∈ eW N a b c → 0 ≤ y.toInt) (hn : z_nx (eW N a b c) (-1) (xNb N a b c (-1) W 4)) : xNb N a b c (-1) W 4 = -1 ↔ F 45 27 = 0 := by
  have p := z_pp hF.2.2.2
  have m1 : (-1 : Int32).toInt = -1 := rfl
  have g := z_nxt hK hw hn (m := 0) (fun j hj => absurd hj (Nat.not_lt_zero _)) (fun _ => by omega)
  by_cases q : 0 < (F 45 27).toNatClampNeg
  · have e := g.1 q
    refine ⟨fun e' => ?_, fun e' => ?_⟩
    · rw [e', m1] at e; omega
    · rw [e'] at q; exact absurd q (by decide)
  · refine ⟨fun _ => Int32.toInt_inj.mp ?_, fun _ => g.2 q⟩
    rw [tI0]; have := hF.2.2.2; omega
set_option maxHeartbeats 8000000 in
set_option maxRecDepth 100000 in
theorem j1_0 {v v' : Int32} {X' : z_X} {M' : z_M} (hX : z_IX (N, W, T, G, J, P, St, Sq, Pt, E, Lt, Hd, D, n)) (hM : z_IM (A, B, C, F, U, V)) (h : z_R1 (N, W, T, G, J, P, St, Sq, Pt, E, Lt, Hd, D, n) (A, B, C, F, U, V)) (a1 : Int32) (hx : (v, X') = fX0 (N, W, T, G, J, P, St, Sq, Pt, E, Lt, Hd, D, n) a1) (hm : (v', M') = fM0 (A, B, C, F, U, V) a1) : z_R1 X' M' ∧ v = v' := by
  obtain ⟨hr, ha, hT', -, -, -, hP', -, -, -⟩ := hX
  obtain ⟨hA, hB, hC, hF, hU, hV⟩ := hM
  obtain ⟨hN, hE, hT, hP, h69⟩ := h
  have e1 := congrArg Prod.fst hx
  have e2 := congrArg Prod.snd hx
  have e3 := congrArg Prod.fst hm
  have e4 := congrArg Prod.snd hm
  dsimp only [fX0, fM0] at e1 e2 e3 e4
  subst e1 e2 e3 e4
  have k := box_al (V := V) (a := a1) hr hA hN hE
  exact ⟨⟨k.2.1, k.2.2, hT, hP, h69⟩, k.1⟩
set_option maxHeartbeats 8000000 in
set_option maxRecDepth 100000 in
theorem j1_1 {v v' : Int32} {X' : z_X} {M' : z_M} (hX : z_IX (N, W, T, G, J, P, St, Sq, Pt, E, Lt, Hd, D, n)) (hM : z_IM (A, B, C, F, U, V)) (h : z_R1 (N, W, T, G, J, P, St, Sq, Pt, E, Lt, Hd, D, n) (A, B, C, F, U, V)) (a1 a2 a3 a4 : Int32) (hx : (v, X') = fX1 (N, W, T, G, J, P, St, Sq, Pt, E, Lt, Hd, D, n) a1 a2 a3 a4) (hm : (v', M') = fM1 (A, B, C, F, U, V) a1 a2 a3 a4) : z_R1 X' M' ∧ v = v' := by
  obtain ⟨hr, ha, hT', -, -, -, hP', -, -, -⟩ := hX
  obtain ⟨hA, hB, hC, hF, hU, hV⟩ := hM
  obtain ⟨hN, hE, hT, hP, h69⟩ := h
  have e1 := congrArg Prod.fst hx
  have e2 := congrArg Prod.snd hx
  have e3 := congrArg Prod.fst hm
  have e4 := congrArg Prod.snd hm
  dsimp only [fX1, fM1] at e1 e2 e3 e4
  subst e1 e2 e3 e4
  have k := wi_eq (a := a1) (b := a2) (l := a3) (s := a4) hr hN hE hT hP
  exact ⟨⟨k.2.1, k.2.2, hT, hP, h69⟩, k.1⟩
set_option maxHeartbeats 8000000 in
set_option maxRecDepth 100000 in
theorem j1_2 {v v' : Int32} {X' : z_X} {M' : z_M} (hX : z_IX (N, W, T, G, J, P, St, Sq, Pt, E, Lt, Hd, D, n)) (hM : z_IM (A, B, C, F, U, V)) (h : z_R1 (N, W, T, G, J, P, St, Sq, Pt, E, Lt, Hd, D, n) (A, B, C, F, U, V)) (a1 : Int32) (hx : (v, X') = fX2 (N, W, T, G, J, P, St, Sq, Pt, E, Lt, Hd, D, n) a1) (hm : (v', M') = fM2 (A, B, C, F, U, V) a1) : z_R1 X' M' ∧ v = v' := by
  obtain ⟨hr, ha, hT', -, -, -, hP', -, -, -⟩ := hX
  obtain ⟨hA, hB, hC, hF, hU, hV⟩ := hM
  obtain ⟨hN, hE, hT, hP, h69⟩ := h
  have e1 := congrArg Prod.fst hx
  have e2 := congrArg Prod.snd hx
  have e3 := congrArg Prod.fst hm
  have e4 := congrArg Prod.snd hm
  dsimp only [fX2, fM2] at e1 e2 e3 e4
  subst e1 e2 e3 e4
  have k := cyc_al (V := V) (h := a1) hN hE hT
  exact ⟨⟨k.2.1, k.2.2, hT, hP, h69⟩, congrArg z_b k.1⟩
set_option maxHeartbeats 8000000 in
set_option maxRecDepth 100000 in
theorem j1_3 {v v' : Int32} {X' : z_X} {M' : z_M} (hX : z_IX (N, W, T, G, J, P, St, Sq, Pt, E, Lt, Hd, D, n)) (hM : z_IM (A, B, C, F, U, V)) (h : z_R1 (N, W, T, G, J, P, St, Sq, Pt, E, Lt, Hd, D, n) (A, B, C, F, U, V)) (a1 : Int32) (hx : (v, X') = fX3 (N, W, T, G, J, P, St, Sq, Pt, E, Lt, Hd, D, n) a1) (hm : (v', M') = fM3 (A, B, C, F, U, V) a1) : z_R1 X' M' ∧ v = v' := by
  obtain ⟨hr, ha, hT', -, -, -, hP', -, -, -⟩ := hX
  obtain ⟨hA, hB, hC, hF, hU, hV⟩ := hM
  obtain ⟨hN, hE, hT, hP, h69⟩ := h
  have e1 := congrArg Prod.fst hx
  have e2 := congrArg Prod.snd hx
  have e3 := congrArg Prod.fst hm
  have e4 := congrArg Prod.snd hm
  dsimp only [fX3, fM3] at e1 e2 e3 e4
  subst e1 e2 e3 e4
  have k := dr_al (V := V) (E := E) (k := a1) hN hE hT
  exact ⟨⟨k.2.1, k.2.2, hT, hP, h69⟩, congrArg z_b k.1⟩
set_option maxHeartbeats 8000000 in
set_option maxRecDepth 100000 in
theorem j1_15 {v v' : Int32} {X' : z_X} {M' : z_M} (hX : z_IX (N, W, T, G, J, P, St, Sq, Pt, E, Lt, Hd, D, n)) (hM : z_IM (A, B, C, F, U, V)) (h : z_R1 (N, W, T, G, J, P, St, Sq, Pt, E, Lt, Hd, D, n) (A, B, C, F, U, V)) (a1 a2 : Int32) (hx : (v, X') = fX15 (N, W, T, G, J, P, St, Sq, Pt, E, Lt, Hd, D, n) a1 a2) (hm : (v', M') = fM15 (A, B, C, F, U, V) a1 a2) : z_R1 X' M' ∧ v = v' := by
  obtain ⟨hr, ha, hT', -, -, -, hP', -, -, -⟩ := hX
  obtain ⟨hA, hB, hC, hF, hU, hV⟩ := hM
  obtain ⟨hN, hE, hT, hP, h69⟩ := h
  have e1 := congrArg Prod.fst hx
  have e2 := congrArg Prod.snd hx
  have e3 := congrArg Prod.fst hm
  have e4 := congrArg Prod.snd hm
  dsimp only [fX15, fM15] at e1 e2 e3 e4
  subst e1 e2 e3 e4
  have k := clk_al (V := V) (E := E) (b := a1) (e := a2) hN hE
  exact ⟨⟨k.2.1, k.2.2, hT, hP, h69⟩, congrArg z_b k.1⟩
set_option maxHeartbeats 8000000 in
set_option maxRecDepth 100000 in
theorem j1_4 {v v' : Int32} {X' : z_X} {M' : z_M} (hX : z_IX (N, W, T, G, J, P, St, Sq, Pt, E, Lt, Hd, D, n)) (hM : z_IM (A, B, C, F, U, V)) (h : z_R1 (N, W, T, G, J, P, St, Sq, Pt, E, Lt, Hd, D, n) (A, B, C, F, U, V)) (a1 a2 a3 a4 a5 : Int32) (hx : (v, X') = fX4 (N, W, T, G, J, P, St, Sq, Pt, E, Lt, Hd, D, n) a1 a2 a3 a4 a5) (hm : (v', M') = fM4 (A, B, C, F, U, V) a1 a2 a3 a4 a5) : z_R1 X' M' := by
  obtain ⟨hr, ha, hT', -, -, -, hP', -, -, -⟩ := hX
  obtain ⟨hA, hB, hC, hF, hU, hV⟩ := hM
  obtain ⟨hN, hE, hT, hP, h69⟩ := h
  have e1 := congrArg Prod.fst hx
  have e2 := congrArg Prod.snd hx
  have e3 := congrArg Prod.fst hm
  have e4 := congrArg Prod.snd hm
  dsimp only [fX4, fM4] at e1 e2 e3 e4
  subst e1 e2 e3 e4
  refine ⟨hN, hE, hT, hP, ?_⟩
  unfold mWy
  split
  · rename_i q
    exact (z_fd (b := a2) hA hF hN hr ha hE h69 (z_wg_w hr hN q)).1.2.2.2
  · exact h69
set_option maxHeartbeats 8000000 in
set_option maxRecDepth 100000 in
theorem j1_5 {v v' : Int32} {X' : z_X} {M' : z_M} (hX : z_IX (N, W, T, G, J, P, St, Sq, Pt, E, Lt, Hd, D, n)) (hM : z_IM (A, B, C, F, U, V)) (h : z_R1 (N, W, T, G, J, P, St, Sq, Pt, E, Lt, Hd, D, n) (A, B, C, F, U, V)) (a1 a2 a3 a4 a5 : Int32) (hx : (v, X') = fX5 (N, W, T, G, J, P, St, Sq, Pt, E, Lt, Hd, D, n) a1 a2 a3 a4 a5) (hm : (v', M') = fM5 (A, B, C, F, U, V) a1 a2 a3 a4 a5) : z_R1 X' M' ∧ v = v' := by
  obtain ⟨hr, ha, hT', -, -, -, hP', -, -, -⟩ := hX
  obtain ⟨hA, hB, hC, hF, hU, hV⟩ := hM
  obtain ⟨hN, hE, hT, hP, h69⟩ := h
  have es := sg_al (a := a1) (b := a2) (c := a3) (p := a4) (l := a5) hr hN hT hT'.2
  dsimp only [fX5, fM5] at hx hm
  rw [← es] at hm
  rcases z_bc (xSg N T a1 a2 a3 a4 a5) with h | h
  · rw [if_pos h] at hx hm
    obtain ⟨hK, hF1, hw, hn⟩ := z_fd (b := a2) hA hF hN hr ha hE h69 (z_wg_s hr h)
    have l1 := z_lt1 (l := a5) hF1 hK hw (hn (-1) W)
    have l2 := mH2_z (F := mFind A F a1 a2 a3) (B := B) (l := a5)
    rcases z_bc (xLt (xNb N a1 a2 a3 (-1) W 4) a5) with h2 | h2
    · rw [if_pos h2] at hx
      rw [if_neg (fun q => l2.mp q (l1.mp h2))] at hm
      have e1 := congrArg Prod.fst hx
      have e2 := congrArg Prod.snd hx
      have e3 := congrArg Prod.fst hm
      have e4 := congrArg Prod.snd hm
      dsimp only at e1 e2 e3 e4
      subst e1 e2 e3 e4
      have q : mSB (mH2 (mFind A F a1 a2 a3) a5 4 0 B) a3 a4 45 10 = B 45 10 + 1 := by rw [mSB_n, mH2_r (by decide) (by decide) (by decide)]
      exact ⟨⟨hN, hE, by rw [q, hT], hP, hK.2.2.2⟩, by rw [q, hT]⟩
    · have n2 := z_nf h2
      rw [if_neg n2] at hx
      rw [if_pos (l2.mpr (fun q => n2 (l1.mpr q)))] at hm
      have e1 := congrArg Prod.fst hx
      have e2 := congrArg Prod.snd hx
      have e3 := congrArg Prod.fst hm
      have e4 := congrArg Prod.snd hm
      dsimp only at e1 e2 e3 e4
      subst e1 e2 e3 e4
      exact ⟨⟨hN, hE, by rw [mH2_r (by decide) (by decide) (by decide)]; exact hT, hP, hK.2.2.2⟩, rfl⟩
  · have n := z_nf h
    rw [if_neg n] at hx hm
    have e1 := congrArg Prod.fst hx
    have e2 := congrArg Prod.snd hx
    have e3 := congrArg Prod.fst hm
    have e4 := congrArg Prod.snd hm
    dsimp only at e1 e2 e3 e4
    subst e1 e2 e3 e4
    exact ⟨⟨hN, hE, hT, hP, h69⟩, rfl⟩
set_option maxHeartbeats 8000000 in
set_option maxRecDepth 100000 in
theorem j1_16 {v v' : Int32} {X' : z_X} {M' : z_M} (hX : z_IX (N, W, T, G, J, P, St, Sq, Pt, E, Lt, Hd, D, n)) (hM : z_IM (A, B, C, F, U, V)) (h : z_R1 (N, W, T, G, J, P, St, Sq, Pt, E, Lt, Hd, D, n) (A, B, C, F, U, V)) (a1 a2 a3 a4 : Int32) (hx : (v, X') = fX16 (N, W, T, G, J, P, St, Sq, Pt, E, Lt, Hd, D, n) a1 a2 a3 a4) (hm : (v', M') = fM16 (A, B, C, F, U, V) a1 a2 a3 a4) : z_R1 X' M' ∧ v = v' := by
  obtain ⟨hr, ha, hT', -, -, -, hP', -, -, -⟩ := hX
  obtain ⟨hA, hB, hC, hF, hU, hV⟩ := hM
  obtain ⟨hN, hE, hT, hP, h69⟩ := h
  have es := sn_al (t := a1) (a := a2) (b := a3) (c := a4) hN hP hP'.2
  dsimp only [fX16, fM16] at hx hm
  rw [← es] at hm
  rcases z_bc (xSn N Pt a1 a2 a3 a4) with h | h
  · rw [if_pos h] at hx hm
    obtain ⟨hK, hF1, hw, hn⟩ := z_fd (b := a3) hA hF hN hr ha hE h69 (z_wg_n hr h)
    have l0 := z_fd0 hF1 hK hw (hn (-1) W)
    by_cases h2 : xNb N a2 a3 a4 (-1) W 4 = -1
    · rw [if_pos h2] at hx
      rw [if_pos (l0.mp h2)] at hm
      have e1 := congrArg Prod.fst hx
      have e2 := congrArg Prod.snd hx
      have e3 := congrArg Prod.fst hm
      have e4 := congrArg Prod.snd hm
      dsimp only at e1 e2 e3 e4
      subst e1 e2 e3 e4
      exact ⟨⟨hN, hE, hT, hP, hK.2.2.2⟩, rfl⟩
    · rw [if_neg h2] at hx
      rw [if_neg (fun q => h2 (l0.mpr q))] at hm
      have e1 := congrArg Prod.fst hx
      have e2 := congrArg Prod.snd hx
      have e3 := congrArg Prod.fst hm
      have e4 := congrArg Prod.snd hm
      dsimp only at e1 e2 e3 e4
      subst e1 e2 e3 e4
      have q : mSU (mFind A F a2 a3 a4) U a1 a4 45 22 = U 45 22 + 1 := by unfold mSU; rw [z_wr2, mPw_q (by decide)]; rfl
      exact ⟨⟨hN, hE, hT, by rw [q, hP], hK.2.2.2⟩, by rw [q, hP]⟩
  · have n := z_nf h
    rw [if_neg n] at hx hm
    have e1 := congrArg Prod.fst hx
    have e2 := congrArg Prod.snd hx
    have e3 := congrArg Prod.fst hm
    have e4 := congrArg Prod.snd hm
    dsimp only at e1 e2 e3 e4
    subst e1 e2 e3 e4
    exact ⟨⟨hN, hE, hT, hP, h69⟩, rfl⟩
set_option maxHeartbeats 8000000 in
set_option maxRecDepth 100000 in
theorem j1_6 {v v' : Int32} {X' : z_X} {M' : z_M} (hX : z_IX (N, W, T, G, J, P, St, Sq, Pt, E, Lt, Hd, D, n)) (hM : z_IM (A, B, C, F, U, V)) (h : z_R1 (N, W, T, G, J, P, St, Sq, Pt, E, Lt, Hd, D, n) (A, B, C, F, U, V)) (a1 : Int32) (hx : (v, X') = fX6 (N, W, T, G, J, P, St, Sq, Pt, E, Lt, Hd, D, n) a1) (hm : (v', M') = fM6 (A, B, C, F, U, V) a1) : z_R1 X' M' := by
  obtain ⟨hr, ha, hT', -, -, -, hP', -, -, -⟩ := hX
  obtain ⟨hA, hB, hC, hF, hU, hV⟩ := hM
  obtain ⟨hN, hE, hT, hP, h69⟩ := h
  have e1 := congrArg Prod.fst hx
  have e2 := congrArg Prod.snd hx
  have e3 := congrArg Prod.fst hm
  have e4 := congrArg Prod.snd hm
  dsimp only [fX6, fM6] at e1 e2 e3 e4
  subst e1 e2 e3 e4
  refine ⟨hN, hE, ?_, hP, h69⟩
  unfold mStk
  split
  · exact hT.trans (by dsimp only; rw [z_wr1 (by decide)])
  · exact hT
set_option maxHeartbeats 8000000 in
set_option maxRecDepth 100000 in
theorem j1_7 {v v' : Int32} {X' : z_X} {M' : z_M} (hX : z_IX (N, W, T, G, J, P, St, Sq, Pt, E, Lt, Hd, D, n)) (hM : z_IM (A, B, C, F, U, V)) (h : z_R1 (N, W, T, G, J, P, St, Sq, Pt, E, Lt, Hd, D, n) (A, B, C, F, U, V)) (hx : (v, X') = fX7 (N, W, T, G, J, P, St, Sq, Pt, E, Lt, Hd, D, n) ) (hm : (v', M') = fM7 (A, B, C, F, U, V) ) : z_R1 X' M' := by
  obtain ⟨hr, ha, hT', -, -, -, hP', -, -, -⟩ := hX
  obtain ⟨hA, hB, hC, hF, hU, hV⟩ := hM
  obtain ⟨hN, hE, hT, hP, h69⟩ := h
  have e1 := congrArg Prod.fst hx
  have e2 := congrArg Prod.snd hx
  have e3 := congrArg Prod.fst hm
  have e4 := congrArg Prod.snd hm
  dsimp only [fX7, fM7] at e1 e2 e3 e4
  subst e1 e2 e3 e4
  refine ⟨hN, hE, ?_, hP, h69⟩
  have k := (mSw_k (A := A) (V := V) (set := 255) hB (z_TR0 (C := C))).2.2 45 (by decide) (by decide) (by decide)
  rw [k]; exact hT
set_option maxHeartbeats 8000000 in
set_option maxRecDepth 100000 in
theorem j1_8 {v v' : Int32} {X' : z_X} {M' : z_M} (hX : z_IX (N, W, T, G, J, P, St, Sq, Pt, E, Lt, Hd, D, n)) (hM : z_IM (A, B, C, F, U, V)) (h : z_R1 (N, W, T, G, J, P, St, Sq, Pt, E, Lt, Hd, D, n) (A, B, C, F, U, V)) (hx : (v, X') = fX8 (N, W, T, G, J, P, St, Sq, Pt, E, Lt, Hd, D, n) ) (hm : (v', M') = fM8 (A, B, C, F, U, V) ) : z_R1 X' M' := by
  obtain ⟨hr, ha, hT', -, -, -, hP', -, -, -⟩ := hX
  obtain ⟨hA, hB, hC, hF, hU, hV⟩ := hM
  obtain ⟨hN, hE, hT, hP, h69⟩ := h
  have e1 := congrArg Prod.fst hx
  have e2 := congrArg Prod.snd hx
  have e3 := congrArg Prod.fst hm
  have e4 := congrArg Prod.snd hm
  dsimp only [fX8, fM8] at e1 e2 e3 e4
  subst e1 e2 e3 e4
  refine ⟨hN, hE, ?_, hP, h69⟩
  have k := (mSw_k (A := A) (V := V) (set := 0) hB (z_TR0 (C := C))).2.2 45 (by decide) (by decide) (by decide)
  rw [k]; exact hT
set_option maxHeartbeats 8000000 in
set_option maxRecDepth 100000 in
theorem j1_9 {v v' : Int32} {X' : z_X} {M' : z_M} (hX : z_IX (N, W, T, G, J, P, St, Sq, Pt, E, Lt, Hd, D, n)) (hM : z_IM (A, B, C, F, U, V)) (h : z_R1 (N, W, T, G, J, P, St, Sq, Pt, E, Lt, Hd, D, n) (A, B, C, F, U, V)) (hx : (v, X') = fX9 (N, W, T, G, J, P, St, Sq, Pt, E, Lt, Hd, D, n) ) (hm : (v', M') = fM9 (A, B, C, F, U, V) ) : z_R1 X' M' := by
  obtain ⟨hr, ha, hT', -, -, -, hP', -, -, -⟩ := hX
  obtain ⟨hA, hB, hC, hF, hU, hV⟩ := hM
  obtain ⟨hN, hE, hT, hP, h69⟩ := h
  have e1 := congrArg Prod.fst hx
  have e2 := congrArg Prod.snd hx
  have e3 := congrArg Prod.fst hm
  have e4 := congrArg Prod.snd hm
  dsimp only [fX9, fM9] at e1 e2 e3 e4
  subst e1 e2 e3 e4
  refine ⟨hN, hE, ?_, hP, h69⟩
  have k := (mTo_o (A := A) (B0 := B) (all := mPd B 9 0 0) 5 0 (B, z_wr C 45 20 0, V) ⟨hB, z_TR0, fun _ _ _ _ => rfl⟩).2.2 45 (by decide) (by decide) (by decide)
  have k' : (mStir A B C V).2.1 45 = B 45 := k
  rw [k']; exact hT
set_option maxHeartbeats 8000000 in
set_option maxRecDepth 100000 in
theorem j1_10 {v v' : Int32} {X' : z_X} {M' : z_M} (hX : z_IX (N, W, T, G, J, P, St, Sq, Pt, E, Lt, Hd, D, n)) (hM : z_IM (A, B, C, F, U, V)) (h : z_R1 (N, W, T, G, J, P, St, Sq, Pt, E, Lt, Hd, D, n) (A, B, C, F, U, V)) (a1 a2 : Int32) (hx : (v, X') = fX10 (N, W, T, G, J, P, St, Sq, Pt, E, Lt, Hd, D, n) a1 a2) (hm : (v', M') = fM10 (A, B, C, F, U, V) a1 a2) : z_R1 X' M' := by
  have e1 := congrArg Prod.fst hx
  have e2 := congrArg Prod.snd hx
  have e3 := congrArg Prod.fst hm
  have e4 := congrArg Prod.snd hm
  dsimp only [fX10, fM10] at e1 e2 e3 e4
  subst e1 e2 e3 e4
  exact h
set_option maxHeartbeats 8000000 in
set_option maxRecDepth 100000 in
theorem j1_11 {v v' : Int32} {X' : z_X} {M' : z_M} (hX : z_IX (N, W, T, G, J, P, St, Sq, Pt, E, Lt, Hd, D, n)) (hM : z_IM (A, B, C, F, U, V)) (h : z_R1 (N, W, T, G, J, P, St, Sq, Pt, E, Lt, Hd, D, n) (A, B, C, F, U, V)) (hx : (v, X') = fX11 (N, W, T, G, J, P, St, Sq, Pt, E, Lt, Hd, D, n) ) (hm : (v', M') = fM11 (A, B, C, F, U, V) ) : z_R1 X' M' := by
  have e1 := congrArg Prod.fst hx
  have e2 := congrArg Prod.snd hx
  have e3 := congrArg Prod.fst hm
  have e4 := congrArg Prod.snd hm
  dsimp only [fX11, fM11] at e1 e2 e3 e4
  subst e1 e2 e3 e4
  exact h
set_option maxHeartbeats 8000000 in
set_option maxRecDepth 100000 in
theorem j1_12 {v v' : Int32} {X' : z_X} {M' : z_M} (hX : z_IX (N, W, T, G, J, P, St, Sq, Pt, E, Lt, Hd, D, n)) (hM : z_IM (A, B, C, F, U, V)) (h : z_R1 (N, W, T, G, J, P, St, Sq, Pt, E, Lt, Hd, D, n) (A, B, C, F, U, V)) (a1 a2 : Int32) (hx : (v, X') = fX12 (N, W, T, G, J, P, St, Sq, Pt, E, Lt, Hd, D, n) a1 a2) (hm : (v', M') = fM12 (A, B, C, F, U, V) a1 a2) : z_R1 X' M' := by
  have e1 := congrArg Prod.fst hx
  have e2 := congrArg Prod.snd hx
  have e3 := congrArg Prod.fst hm
  have e4 := congrArg Prod.snd hm
  dsimp only [fX12, fM12] at e1 e2 e3 e4
  subst e1 e2 e3 e4
  exact h
set_option maxHeartbeats 8000000 in
set_option maxRecDepth 100000 in
theorem j1_13 {v v' : Int32} {X' : z_X} {M' : z_M} (hX : z_IX (N, W, T, G, J, P, St, Sq, Pt, E, Lt, Hd, D, n)) (hM : z_IM (A, B, C, F, U, V)) (h : z_R1 (N, W, T, G, J, P, St, Sq, Pt, E, Lt, Hd, D, n) (A, B, C, F, U, V)) (a1 a2 a3 : Int32) (hx : (v, X') = fX13 (N, W, T, G, J, P, St, Sq, Pt, E, Lt, Hd, D, n) a1 a2 a3) (hm : (v', M') = fM13 (A, B, C, F, U, V) a1 a2 a3) : z_R1 X' M' := by
  have e1 := congrArg Prod.fst hx
  have e2 := congrArg Prod.snd hx
  have e3 := congrArg Prod.fst hm
  have e4 := congrArg Prod.snd hm
  dsimp only [fX13, fM13] at e1 e2 e3 e4
  subst e1 e2 e3 e4
  exact h
set_option maxHeartbeats 8000000 in
set_option maxRecDepth 100000 in
theorem j1_14 {v v' : Int32} {X' : z_X} {M' : z_M} (hX : z_IX (N, W, T, G, J, P, St, Sq, Pt, E, Lt, Hd, D, n)) (hM : z_IM (A, B, C, F, U, V)) (h : z_R1 (N, W, T, G, J, P, St, Sq, Pt, E, Lt, Hd, D, n) (A, B, C, F, U, V)) (a1 a2 : Int32) (hx : (v, X') = fX14 (N, W, T, G, J, P, St, Sq, Pt, E, Lt, Hd, D, n) a1 a2) (hm : (v', M') = fM14 (A, B, C, F, U, V) a1 a2) : z_R1 X' M' := by
  have e1 := congrArg Prod.fst hx
  have e2 := congrArg Prod.snd hx
  have e3 := congrArg Prod.fst hm
  have e4 := congrArg Prod.snd hm
  dsimp only [fX14, fM14] at e1 e2 e3 e4
  subst e1 e2 e3 e4
  exact h
set_option maxHeartbeats 8000000 in
set_option maxRecDepth 100000 in
theorem j1_17 {v v' : Int32} {X' : z_X} {M' : z_M} (hX : z_IX (N, W, T, G, J, P, St, Sq, Pt, E, Lt, Hd, D, n)) (hM : z_IM (A, B, C, F, U, V)) (h : z_R1 (N, W, T, G, J, P, St, Sq, Pt, E, Lt, Hd, D, n) (A, B, C, F, U, V)) (a1 a2 a3 : Int32) (hx : (v, X') = fX17 (N, W, T, G, J, P, St, Sq, Pt, E, Lt, Hd, D, n) a1 a2 a3) (hm : (v', M') = fM17 (A, B, C, F, U, V) a1 a2 a3) : z_R1 X' M' := by
  have e1 := congrArg Prod.fst hx
  have e2 := congrArg Prod.snd hx
  have e3 := congrArg Prod.fst hm
  have e4 := congrArg Prod.snd hm
  dsimp only [fX17, fM17] at e1 e2 e3 e4
  subst e1 e2 e3 e4
  exact h
set_option maxHeartbeats 8000000 in
set_option maxRecDepth 100000 in
theorem j1_18 {v v' : Int32} {X' : z_X} {M' : z_M} (hX : z_IX (N, W, T, G, J, P, St, Sq, Pt, E, Lt, Hd, D, n)) (hM : z_IM (A, B, C, F, U, V)) (h : z_R1 (N, W, T, G, J, P, St, Sq, Pt, E, Lt, Hd, D, n) (A, B, C, F, U, V)) (a1 a2 a3 : Int32) (hx : (v, X') = fX18 (N, W, T, G, J, P, St, Sq, Pt, E, Lt, Hd, D, n) a1 a2 a3) (hm : (v', M') = fM18 (A, B, C, F, U, V) a1 a2 a3) : z_R1 X' M' := by
  have e1 := congrArg Prod.fst hx
  have e2 := congrArg Prod.snd hx
  have e3 := congrArg Prod.fst hm
  have e4 := congrArg Prod.snd hm
  dsimp only [fX18, fM18] at e1 e2 e3 e4
  subst e1 e2 e3 e4
  exact h
set_option maxHeartbeats 8000000 in
set_option maxRecDepth 100000 in
theorem j1_19 {X' : z_X} {M' : z_M} (h : z_R1 (N, W, T, G, J, P, St, Sq, Pt, E, Lt, Hd, D, n) (A, B, C, F, U, V)) (hx : ∃ W1 E1 Hd1, X' = (N, W1, T, G, J, P, St, Sq, Pt, E1, Lt, Hd1, D, n)) (hm : ∃ V1, M' = (A, B, C, F, U, V1)) : z_R1 X' M' := by
  obtain ⟨W1, E1, Hd1, rfl⟩ := hx
  obtain ⟨V1, rfl⟩ := hm
  exact h
set_option maxHeartbeats 8000000 in
set_option maxRecDepth 100000 in
theorem j1_20 {X' : z_X} {M' : z_M} (h : z_R1 (N, W, T, G, J, P, St, Sq, Pt, E, Lt, Hd, D, n) (A, B, C, F, U, V)) (hx : ∃ W1 E1 Hd1, X' = (N, W1, T, G, J, P, St, Sq, Pt, E1, Lt, Hd1, D, n)) (hm : ∃ V1, M' = (A, B, C, F, U, V1)) : z_R1 X' M' := by
  obtain ⟨W1, E1, Hd1, rfl⟩ := hx
  obtain ⟨V1, rfl⟩ := hm
  exact h
set_option maxHeartbeats 8000000 in
set_option maxRecDepth 100000 in
theorem j1_21 {X' : z_X} {M' : z_M} (h : z_R1 (N, W, T, G, J, P, St, Sq, Pt, E, Lt, Hd, D, n) (A, B, C, F, U, V)) (hx : ∃ W1 E1 Hd1, X' = (N, W1, T, G, J, P, St, Sq, Pt, E1, Lt, Hd1, D, n)) (hm : ∃ V1, M' = (A, B, C, F, U, V1)) : z_R1 X' M' := by
  obtain ⟨W1, E1, Hd1, rfl⟩ := hx
  obtain ⟨V1, rfl⟩ := hm
  exact h
end Zg
