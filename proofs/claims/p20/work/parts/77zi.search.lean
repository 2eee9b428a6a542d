/-! The whole search of both. -/
theorem xWo_y {G : z_A} {q : Nat} {c : Int32} (c0 : 0 ≤ c.toInt) (c1 : c < G q 3) : xWo G q c = G (q + 1) c.toNatClampNeg := by
  unfold xWo
  rw [if_neg (by rw [z_ltI, tI0]; omega), if_pos c1]
set_option maxHeartbeats 4000000 in
theorem sim_ch {N A B G : z_A} {T : Int32} {St Sq : z_R} {h M : Nat} {tk : Nat → Int → Prop} (g : z_G3 N A B G T St h) {p : Nat} (pM : p < M) {q : Nat} (hq : Sq p = some q) {s : Int32} (hs : St s.toNatClampNeg = some q) (s0 : 0 ≤ s.toInt) (s1 : s.toInt < T.toInt) {rec : z_J → z_A → z_T}
    (IH : ∀ (F : Nat) (J : z_J) (P C : z_A), z_I3 N B G T St Sq h M tk (p + 1) J P C → C 71 (p + 1) = 0 → 2 * (40000 - (C 45 20).toInt) + ((p + 1 : Nat) : Int) < (F : Int) → z_RS N B G T St Sq h M tk (p + 1) J P C (mSk A B F (Int32.ofNat (p + 1)) C) (rec J P) (fun F' C' _ => mSk A B F (Int32.ofNat (p + 1)) C = mEx A B F' (Int32.ofNat (p + 1)) C' ∧ 2 * (40000 - (C' 45 20).toInt) + ((p + 1 : Nat) : Int) ≤ (F' : Int))) :
    ∀ (k : Nat) (c : Int32) (F : Nat) (J : z_J) (P C : z_A), 0 ≤ c.toInt → c.toInt ≤ (B 54 s.toNatClampNeg).toInt → (B 54 s.toNatClampNeg).toInt < c.toInt + (k : Int) → z_I3 N B G T St Sq h M tk p J P C → C 70 p = s → (C 71 p).toInt = c.toInt * (B 53 s.toNatClampNeg).toInt → 2 * (40000 - (C 45 20).toInt) + (p : Int) < (F : Int) →
      z_RS N B G T St Sq h M tk p J P C (mSk A B F (Int32.ofNat p) C) (xCh N G q (Int32.ofNat p) rec k c J P) (fun F' C' _ => mSk A B F (Int32.ofNat p) C = mEx A B F' (Int32.ofNat p) C' ∧ 2 * (40000 - (C' 45 20).toInt) + (p : Int) ≤ (F' : Int)) := by
  have ps := z_pp s0
  have cb := g.hB.2.2.2.1 s.toNatClampNeg
  have zb := g.hB.2.1 s.toNatClampNeg
  obtain ⟨G0, G1, G3, ⟨nn, n0, hn⟩, -⟩ := g.ss s.toNatClampNeg (by omega) q hs
  have p53 := g.hB.2.2.1 s.toNatClampNeg (by rw [← g.hT]; omega)
  have c3 : (B 54 s.toNatClampNeg).toInt * (B 53 s.toNatClampNeg).toInt ≤ 360 := by
    have := Int.mul_le_mul (show (B 54 s.toNatClampNeg).toInt ≤ 3 by omega) p53.2 (by omega) (by omega)
    omega
  have m0 : 0 ≤ (B 54 s.toNatClampNeg).toInt * (B 53 s.toNatClampNeg).toInt := Int.mul_nonneg (by omega) (by omega)
  have e360 : (B 54 s.toNatClampNeg * B 53 s.toNatClampNeg).toInt = (B 54 s.toNatClampNeg).toInt * (B 53 s.toNatClampNeg).toInt := by
    rw [Int32.toInt_mul, bm32]
    generalize (B 54 s.toNatClampNeg).toInt * (B 53 s.toNatClampNeg).toInt = w at *
    split <;> omega
  intro k
  induction k with
  | zero => intro c F J P C c0 c1 c2; omega
  | succ k ih =>
    intro c F J P C c0 c1 c2 I e70 e71 hF
    have m8 := I.m8
    have ep := z_oft (K := p) (by omega)
    have cp := z_ofc (K := p) (by omega)
    have eM := z_oft (K := M) (by omega)
    obtain ⟨F1, rfl⟩ : ∃ F1, F = F1 + 1 := ⟨F - 1, by have := I.t1; omega⟩
    have lt34 : Int32.ofNat p < C 45 34 := by rw [I.m2, z_ltI]; omega
    rw [xCh_s, cp]
    by_cases cc : c < G q 3
    · rw [if_pos cc, xWo_y c0 cc, G0, G1]
      rw [G3, z_ltI] at cc
      obtain ⟨n', K⟩ := G3_K g s0 s1 hs c0 cc
      obtain ⟨f1, f2⟩ := xFM_I (p := 32 + p) (J := J) g.ha g.hr g.hc (by omega) zb.1 zb.2 (by omega) p53.2 hn n0 (z_CW_y K.cw) I.rz
      have jw : ∀ w, w < 12 → xFM N (32 + p) (B 52 s.toNatClampNeg) (B 53 s.toNatClampNeg) (G (q + 1) c.toNatClampNeg) J (15 + w) = J (15 + w) := fun w hw => f1 _ (by omega) (by omega)
      have p30 : z_wr P 30 p c 30 p = c := z_wr2
      have pj : ∀ j, j < p → z_wr P 30 p c 30 j = P 30 j := fun j hj => z_wrj (by omega)
      have p31 : z_wr P 30 p c 31 = P 31 := z_wr_ne (by decide)
      have p27 : z_wr P 30 p c 27 = P 27 := z_wr_ne (by decide)
      have rg : ∀ j, j < p → xFM N (32 + p) (B 52 s.toNatClampNeg) (B 53 s.toNatClampNeg) (G (q + 1) c.toNatClampNeg) J (32 + j) = J (32 + j) := fun j hj => f1 _ (by omega) (by omega)
      generalize xFM N (32 + p) (B 52 s.toNatClampNeg) (B 53 s.toNatClampNeg) (G (q + 1) c.toNatClampNeg) J = J1 at *
      generalize z_wr P 30 p c = P1 at *
      have lDj : ∀ j, j < p → lD N B G Sq P1 C j = lD N B G Sq P C j := fun j hj => lD_c (pj j hj) (by rw [p31]) rfl
      have I1 : z_I3 N B G T St Sq h M tk p J1 P1 C := by
        refine ⟨fun w hw => by rw [jw w hw]; exact I.rz w hw, fun w hw u => by rw [jw w hw]; exact I.rc w hw u, fun w hw u => ?_, fun j hj w hw u hd => ?_, by rw [p27]; exact I.tr, I.t0, I.t1, by rw [p27]; exact I.m1, I.m2, I.m8, I.sq, fun j hj => ky_c (pj j hj) (by rw [p31]) rfl rfl (I.ky j hj)⟩
        · rw [jw w hw, I.cu w hw u]
          exact ⟨fun a => a.elim Or.inl (fun ⟨j, a, b⟩ => Or.inr ⟨j, a, by rw [lDj j a]; exact b⟩), fun a => a.elim Or.inl (fun ⟨j, a, b⟩ => Or.inr ⟨j, a, by rw [← lDj j a]; exact b⟩)⟩
        · rw [lDj j hj] at hd
          obtain ⟨a, b⟩ := I.dj j hj w hw u hd
          exact ⟨a, fun i hi => by rw [lDj i (by omega)]; exact b i hi⟩
      have t0 : Int32.toInt 0 = 0 := rfl
      have R := sim_tk (tk := tk) g pM hq hs s0 s1 c0 cc IH (tkp := fun w v => rI h (J (15 + w)) v = true) 121 0 (F1 + 1) J1 P1 C (by decide) (by rw [t0]; omega) (by rw [t0]; omega) I1 e70 p30 (by rw [t0, e71]; omega) (fun w hw u => by rw [jw w hw]) f2 hF
      generalize xTk N G q (Int32.ofNat p) (G (q + 1) c.toNatClampNeg) rec 121 0 J1 P1 = r at R ⊢
      have kp1 : z_kp p J P C J1 P1 C := ⟨fun j hj => ⟨pj j hj, by rw [p31], rg j hj⟩, rfl⟩
      rcases R with ⟨r1, C', r2, r3, r4⟩ | ⟨r1, C', r2, r3⟩ | ⟨r1, F', C', ⟨r2, r3, r4, r5⟩, r6, r7⟩
      · rw [if_neg (show ¬ r.1 = 0 by rw [r1]; decide)]
        exact Or.inl ⟨r1, C', r2, r3, r4⟩
      · rw [if_neg (show ¬ r.1 = 0 by rw [r1]; decide)]
        exact Or.inr (Or.inl ⟨r1, C', r2, r3⟩)
      · rw [if_pos r1, r2]
        have ec := z_up1 c0 (by omega)
        have R2 := ih (c + 1) F' r.2.1 r.2.2 C' (by omega) (by omega) (by omega) r6 (by rw [r7.2]; exact e70) (by rw [r4, ec]) r3
        rcases R2 with ⟨a1, D', a2, a3, a4⟩ | ⟨a1, D', a2, a3⟩ | ⟨a1, F'', D', a2, a6, a7⟩
        · exact Or.inl ⟨a1, D', a2, a3, a4.trans r7.2⟩
        · exact Or.inr (Or.inl ⟨a1, D', a2, a3⟩)
        · exact Or.inr (Or.inr ⟨a1, F'', D', a2, a6, kp_t (kp_t kp1 r7) a7⟩)
    · rw [if_neg cc]
      rw [G3, z_ltI] at cc
      have e : c.toInt = (B 54 s.toNatClampNeg).toInt := by omega
      refine Or.inr (Or.inr ⟨rfl, F1, C, ⟨sk_D lt34 ?_, by omega⟩, I, kp_0⟩)
      rw [cp, e70, z_ltI, e360, e71, e]
      omega
theorem sim_sr {N A B G : z_A} {T : Int32} {St Sq : z_R} {h M : Nat} {tk : Nat → Int → Prop} (g : z_G3 N A B G T St h) : ∀ (f p F : Nat) (J : z_J) (P C : z_A), p ≤ M → M < p + f → z_I3 N B G T St Sq h M tk p J P C → C 71 p = 0 → 2 * (40000 - (C 45 20).toInt) + (p : Int) < (F : Int) →
      z_RS N B G T St Sq h M tk p J P C (mSk A B F (Int32.ofNat p) C) (xSr N G Sq f (Int32.ofNat p) J P) (fun F' C' _ => mSk A B F (Int32.ofNat p) C = mEx A B F' (Int32.ofNat p) C' ∧ 2 * (40000 - (C' 45 20).toInt) + (p : Int) ≤ (F' : Int)) := by
  intro f
  induction f with
  | zero => intro p F J P C h1 h2; omega
  | succ f ih =>
    intro p F J P C h1 h2 I e71 hF
    have m8 := I.m8
    have ep := z_oft (K := p) (by omega)
    have cp := z_ofc (K := p) (by omega)
    have eM := z_oft (K := M) (by omega)
    have t8 : Int32.toInt 8 = 8 := rfl
    have t0 : Int32.toInt 0 = 0 := rfl
    obtain ⟨F1, rfl⟩ : ∃ F1, F = F1 + 1 := ⟨F - 1, by have := I.t1; omega⟩
    rw [xSr_s, I.m1]
    by_cases c : p < M
    · obtain ⟨s0, s1, q, hq, hs⟩ := I.sq p c
      have e71' : (C 71 p).toInt = (0 : Int32).toInt * (B 53 (C 70 p).toNatClampNeg).toInt := by rw [e71, t0, Int.zero_mul]
      have ep1 : Int32.ofNat p + 1 = Int32.ofNat (p + 1) := Int32.toInt_inj.mp (by rw [z_up1 (by omega) (by omega), ep, z_oft (by omega)]; omega)
      have cb := g.hB.2.2.2.1 (C 70 p).toNatClampNeg
      rw [if_pos (by rw [z_ltI]; omega), if_pos (by rw [z_ltI]; omega), cp, hq, ep1]
      exact sim_ch g c hq hs s0 s1 (fun F' J' P' C' I' e' hF' => ih (p + 1) F' J' P' C' (by omega) (by omega) I' e' hF') 4 0 (F1 + 1) J P C (by decide) (by rw [t0]; omega) (by rw [t0]; omega) I rfl e71' hF
    · have e : p = M := by omega
      subst e
      rw [if_neg (by rw [z_ltI]; omega)]
      exact Or.inl ⟨rfl, C, sk_E (by rw [I.m2, z_ltI]; omega), I, rfl⟩
