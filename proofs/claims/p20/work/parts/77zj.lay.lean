/-! Places of both, and how their doors are laid. -/
/-- the way and hops of stream s where it is, and its doors -/
def sY (B G : z_A) (q s : Nat) : Int32 := G (q + 1) (B 59 s).toNatClampNeg
def sL (B : z_A) (s : Nat) : Nat := (B 55 (3 * s + (B 59 s).toNatClampNeg)).toNatClampNeg
def sD (N B G : z_A) (St : z_R) (s w : Nat) (u : Int) : Prop := ∃ q, St s = some q ∧ dP N (B 52 s) (B 53 s) (sY B G q s) (sL B s) (B 60 s).toInt w u
def z_S2 (N G B : z_A) (s q : Nat) : Prop := (B 58 s = 0 ∧ G q 4 = -1) ∨ (¬ B 58 s = 0 ∧ G q 4 = B 59 s ∧ G q 5 = B 60 s ∧ (B 60 s).toInt < (B 53 s).toInt ∧ ∀ k, k < sL B s → dT N (B 52 s) (sY B G q s) k ≤ (B 53 s).toInt)
def z_SS (N A B G : z_A) (T : Int32) (St : z_R) (D : Nat → Nat) (n h : Nat) : Prop := (z_G3 N A B G T St h) ∧ (∀ s : Nat, (s : Int) < T.toInt → ∃ q, St s = some q ∧ z_kS D n q ∧ z_S2 N G B s q) ∧ (∀ s s' q : Nat, (s : Int) < T.toInt → (s' : Int) < T.toInt → St s = some q → St s' = some q → s = s') ∧ (∀ s s' : Nat, (s : Int) < T.toInt → (s' : Int) < T.toInt → s ≠ s' → ¬ B 58 s = 0 → ¬ B 58 s' = 0 → ∀ w, w < 12 → ∀ u, sD N B G St s w u → ¬ sD N B G St s' w u)
theorem z_SS.g3 {N A B G : z_A} {T : Int32} {St : z_R} {D : Nat → Nat} {n h : Nat} (K : z_SS N A B G T St D n h) : z_G3 N A B G T St h := K.1
theorem z_SS.st {N A B G : z_A} {T : Int32} {St : z_R} {D : Nat → Nat} {n h : Nat} (K : z_SS N A B G T St D n h) : ∀ s : Nat, (s : Int) < T.toInt → ∃ q, St s = some q ∧ z_kS D n q ∧ z_S2 N G B s q := K.2.1
theorem z_SS.inj {N A B G : z_A} {T : Int32} {St : z_R} {D : Nat → Nat} {n h : Nat} (K : z_SS N A B G T St D n h) : ∀ s s' q : Nat, (s : Int) < T.toInt → (s' : Int) < T.toInt → St s = some q → St s' = some q → s = s' := K.2.2.1
theorem z_SS.pd {N A B G : z_A} {T : Int32} {St : z_R} {D : Nat → Nat} {n h : Nat} (K : z_SS N A B G T St D n h) : ∀ s s' : Nat, (s : Int) < T.toInt → (s' : Int) < T.toInt → s ≠ s' → ¬ B 58 s = 0 → ¬ B 58 s' = 0 → ∀ w, w < 12 → ∀ u, sD N B G St s w u → ¬ sD N B G St s' w u := K.2.2.2
/-- sets of both that hold the doors of those streams below i that are kept -/
def z_L3 (N B G : z_A) (St : z_R) (h : Nat) (kp : Nat → Prop) (i : Nat) (J : z_J) (C : z_A) : Prop := (∀ w, w < 12 → rZ h (J (15 + w))) ∧ (∀ w, w < 12 → ∀ u, rI h (J (15 + w)) u = true ↔ hC C (2 * (h : Int)) w u) ∧ (∀ w, w < 12 → ∀ u, rI h (J (15 + w)) u = true ↔ ∃ s, s < i ∧ kp s ∧ sD N B G St s w u) ∧ (∀ w, w < 12 → ∀ u, ∀ s, s < i → kp s → sD N B G St s w u → C 61 (120 * w + (u % (2 * (h : Int))).toNat) = Int32.ofNat (s + 1)) ∧ (i = 0 → (∀ w, w < 12 → J (15 + w) = (0, 0)) ∧ ∀ x, x < 1440 → C 61 x = 0)
theorem z_L3.rz {N B G : z_A} {St : z_R} {h : Nat} {kp : Nat → Prop} {i : Nat} {J : z_J} {C : z_A} (K : z_L3 N B G St h kp i J C) : ∀ w, w < 12 → rZ h (J (15 + w)) := K.1
theorem z_L3.rc {N B G : z_A} {St : z_R} {h : Nat} {kp : Nat → Prop} {i : Nat} {J : z_J} {C : z_A} (K : z_L3 N B G St h kp i J C) : ∀ w, w < 12 → ∀ u, rI h (J (15 + w)) u = true ↔ hC C (2 * (h : Int)) w u := K.2.1
theorem z_L3.cu {N B G : z_A} {St : z_R} {h : Nat} {kp : Nat → Prop} {i : Nat} {J : z_J} {C : z_A} (K : z_L3 N B G St h kp i J C) : ∀ w, w < 12 → ∀ u, rI h (J (15 + w)) u = true ↔ ∃ s, s < i ∧ kp s ∧ sD N B G St s w u := K.2.2.1
theorem z_L3.ow {N B G : z_A} {St : z_R} {h : Nat} {kp : Nat → Prop} {i : Nat} {J : z_J} {C : z_A} (K : z_L3 N B G St h kp i J C) : ∀ w, w < 12 → ∀ u, ∀ s, s < i → kp s → sD N B G St s w u → C 61 (120 * w + (u % (2 * (h : Int))).toNat) = Int32.ofNat (s + 1) := K.2.2.2.1
theorem z_L3.zz {N B G : z_A} {St : z_R} {h : Nat} {kp : Nat → Prop} {i : Nat} {J : z_J} {C : z_A} (K : z_L3 N B G St h kp i J C) : i = 0 → (∀ w, w < 12 → J (15 + w) = (0, 0)) ∧ ∀ x, x < 1440 → C 61 x = 0 := K.2.2.2.2
theorem xCl_0 : ∀ (k i : Nat) (J : z_J), i ≤ 12 → 12 < i + k → (∀ w, w < 12 → (∀ v, v < i → J (15 + v) = (0, 0)) → xCl k (Int32.ofNat i) J (15 + w) = (0, 0)) ∧ ∀ q, (q < 15 ∨ 27 ≤ q) → xCl k (Int32.ofNat i) J q = J q := by
  intro k
  induction k with
  | zero => intro i J h1 h2; omega
  | succ k ih =>
    intro i J h1 h2
    have ei := z_oft (K := i) (by omega)
    have ci := z_ofc (K := i) (by omega)
    have t12 : Int32.toInt 12 = 12 := rfl
    rw [xCl_s]
    by_cases c : i < 12
    · have ek : Int32.ofNat i + 1 = Int32.ofNat (i + 1) := Int32.toInt_inj.mp (by rw [z_up1 (by omega) (by omega), ei, z_oft (by omega)]; omega)
      rw [if_pos (by rw [z_ltI]; omega), ek, ci]
      obtain ⟨a, b⟩ := ih (i + 1) (z_wj J (15 + i) 0 0) (by omega) (by omega)
      refine ⟨fun w hw hv => a w hw (fun v hv' => ?_), fun q hq => (b q hq).trans (z_wj2 (by omega))⟩
      by_cases e : v = i
      · subst e; exact z_wj1
      · rw [z_wj2 (by omega)]; exact hv v (by omega)
    · rw [if_neg (by rw [z_ltI]; omega)]
      exact ⟨fun w hw hv => hv w (by omega), fun _ _ => rfl⟩
theorem xCl_z {J : z_J} {w : Nat} (hw : w < 12) : xCl 13 0 J (15 + w) = (0, 0) := (xCl_0 13 0 J (by omega) (by omega)).1 w hw (fun v hv => by omega)
theorem mCl_0 : ∀ (k i : Nat) (C : z_A), i ≤ 1440 → 1440 < i + k → ∀ x, x < 1440 → (∀ v, v < i → C 61 v = 0) → mCl k (Int32.ofNat i) C 61 x = 0 := by
  intro k
  induction k with
  | zero => intro i C h1 h2; omega
  | succ k ih =>
    intro i C h1 h2 x hx hv
    have ei := z_oft (K := i) (by omega)
    have ci := z_ofc (K := i) (by omega)
    have t : Int32.toInt 1440 = 1440 := rfl
    rw [mCl_s]
    by_cases c : i < 1440
    · have ek : Int32.ofNat i + 1 = Int32.ofNat (i + 1) := Int32.toInt_inj.mp (by rw [z_inc1 (b := 10000) (by omega) (by omega) (by decide), ei, z_oft (by omega)]; omega)
      rw [if_pos (by rw [z_ltI]; omega), ek, ci]
      refine ih (i + 1) _ (by omega) (by omega) x hx (fun v hv' => ?_)
      by_cases e : v = i
      · subst e; exact z_wr2
      · rw [z_wrj (by omega)]; exact hv v (by omega)
    · rw [if_neg (by rw [z_ltI]; omega)]
      exact hv x (by omega)
theorem mCl_z {C : z_A} {x : Nat} (hx : x < 1440) : mCl 1441 0 C 61 x = 0 := mCl_0 1441 0 C (by omega) (by omega) x hx (fun v hv => by omega)
theorem z_x14 {h w : Nat} (hh : h ≤ 60) (h0 : 0 < h) (hw : w < 12) (u : Int) : 120 * w + (u % (2 * (h : Int))).toNat < 1440 := by
  have d1 := Int.emod_lt_of_pos u (show 0 < 2 * (h : Int) by omega)
  have d0 := Int.emod_nonneg u (show 2 * (h : Int) ≠ 0 by omega)
  omega
/-- both cleared -/
theorem L3_0 {N B G : z_A} {St : z_R} {h : Nat} {kp : Nat → Prop} {J : z_J} {C : z_A} (hh : h ≤ 60) (h0 : 0 < h) (hJ : ∀ w, w < 12 → J (15 + w) = (0, 0)) (hC0 : ∀ x, x < 1440 → C 61 x = 0) : z_L3 N B G St h kp 0 J C := by
  refine ⟨fun w hw => by rw [hJ w hw]; exact rZ_0, fun w hw u => ?_, fun w hw u => ?_, fun w hw u s hs => by omega, fun _ => ⟨hJ, hC0⟩⟩
  · rw [hJ w hw, rI_0]
    refine ⟨fun q => (by cases q), fun q => ?_⟩
    exact absurd (hC0 _ (z_x14 hh h0 hw u)) q
  · rw [hJ w hw, rI_0]
    refine ⟨fun q => (by cases q), ?_⟩
    rintro ⟨s, hs, -⟩; omega
theorem L3_k {N B G : z_A} {St : z_R} {h : Nat} {kp : Nat → Prop} {i : Nat} {J : z_J} {C : z_A} (I : z_L3 N B G St h kp i J C) (hk : ¬ kp i) : z_L3 N B G St h kp (i + 1) J C := by
  refine ⟨I.rz, I.rc, fun w hw u => (I.cu w hw u).trans ?_, fun w hw u s hs ks => ?_, fun e => by omega⟩
  · constructor
    · rintro ⟨s, a, b⟩; exact ⟨s, by omega, b⟩
    · rintro ⟨s, a, b, c⟩
      refine ⟨s, ?_, b, c⟩
      by_cases e : s = i
      · subst e; exact absurd b hk
      · omega
  · refine I.ow w hw u s ?_ ks
    by_cases e : s = i
    · subst e; exact absurd ks hk
    · omega
theorem xPl_y {T : Int32} {St : z_R} {G : z_A} {s : Int32} {q : Nat} (s0 : 0 ≤ s.toInt) (s1 : s.toInt < T.toInt) (hq : St s.toNatClampNeg = some q) : xPl T St G s = if G q 4 = -1 then none else some q := by
  unfold xPl xOn
  rw [if_neg (by rw [z_ltI, tI0]; omega), if_pos (by rw [z_ltI]; exact s1), hq]
theorem SS_K {N A B G : z_A} {T : Int32} {St : z_R} {D : Nat → Nat} {n h : Nat} (S : z_SS N A B G T St D n h) {s : Int32} {q : Nat} (s0 : 0 ≤ s.toInt) (s1 : s.toInt < T.toInt) (hq : St s.toNatClampNeg = some q) (hp : ¬ B 58 s.toNatClampNeg = 0) : ∃ m, z_K1 N A B s (B 59 s.toNatClampNeg) (sY B G q s.toNatClampNeg) (sL B s.toNatClampNeg) h m := by
  have p := z_pp s0
  have b := S.g3.hB.2.2.2.2.2.2.2.2.2.2 s.toNatClampNeg (by rw [← S.g3.hT]; omega) hp
  have c := S.g3.hB.2.2.2.2.2.2.1 s.toNatClampNeg
  exact G3_K S.g3 s0 s1 hq c.1 b
/-- a stream's doors go into both -/
theorem L3_g {N A B G : z_A} {T : Int32} {St : z_R} {D : Nat → Nat} {n h : Nat} (S : z_SS N A B G T St D n h) {kp : Nat → Prop} {i : Nat} {J : z_J} {C : z_A} (hi : (i : Int) < T.toInt) (kb : ∀ s, kp s → ¬ B 58 s = 0) (I : z_L3 N B G St h kp i J C) (hk : kp i) : z_L3 N B G St h kp (i + 1) (xGd N T St G (Int32.ofNat i) J) (mPt A B (Int32.ofNat i) (B 59 i) (B 60 i) (Int32.ofNat i + 1) C) := by
  have T8 : T.toInt ≤ 8 := by rw [S.g3.hT]; exact S.g3.hB.1.2
  have ei := z_oft (K := i) (by omega)
  have ci := z_ofc (K := i) (by omega)
  obtain ⟨q, hq, kq, s2⟩ := S.st i hi
  have hp := kb i hk
  rcases s2 with ⟨a, -⟩ | ⟨-, g4, g5, t53, fit⟩
  · exact absurd a hp
  · obtain ⟨G0, G1, G3, -, -⟩ := S.g3.ss i hi q hq
    have hB := S.g3.hB
    have b59 := hB.2.2.2.2.2.2.1 i
    have b60 := hB.2.2.2.2.2.2.2.1 i
    have b54 := hB.2.2.2.2.2.2.2.2.2.2 i (by rw [← S.g3.hT]; exact hi) hp
    have zb := hB.2.1 i
    have hq' : St (Int32.ofNat i).toNatClampNeg = some q := by rw [ci]; exact hq
    have np : ¬ G q 4 = -1 := fun e => by
      rw [g4] at e
      rw [e] at b59
      exact absurd b59.1 (by decide)
    have eg : xGd N T St G (Int32.ofNat i) J = xHd N (B 52 i) (B 53 i) (sY B G q i) 1 5 0 (B 60 i) J := by
      unfold xGd
      rw [xPl_y (by omega) (by omega) hq', if_neg np]
      show xHd N (G q 0) (G q 1) (xWn G q) 1 5 0 (G q 5) J = _
      have e : xWn G q = sY B G q i := by
        unfold xWn sY
        rw [g4]
        exact xWo_y b59.1 (by rw [G3, z_ltI]; exact b54)
      rw [e, G0, G1, g5]
    obtain ⟨m, K⟩ := SS_K S (s := Int32.ofNat i) (by omega) (by omega) hq' (by rw [ci]; exact hp)
    rw [ci] at K
    have kc := K1_c K
    obtain ⟨p0, p1, s7⟩ := K1_p K
    rw [ci] at p0 p1
    have Kn := K.hn
    rw [ci] at Kn
    obtain ⟨x1, x2, x3⟩ := xHd_d (gv := 1) (st := B 60 i) (J := J) S.g3.ha S.g3.hr S.g3.hc zb.1 zb.2 (by omega) p1 Kn K.n0 (z_CW_y K.cw) fit (by omega) (by omega)
    have e1 := z_up1 (p := Int32.ofNat i) (by omega) (by omega)
    have ek : Int32.ofNat i + 1 = Int32.ofNat (i + 1) := Int32.toInt_inj.mp (by rw [e1, ei, z_oft (by omega)]; omega)
    have who : ¬ Int32.ofNat i + 1 = 0 := fun e => by rw [e] at e1; have : Int32.toInt 0 = 0 := rfl; omega
    have hP := mPt_h (C := C) (who := Int32.ofNat i + 1) K b60.1 (by omega) (by rw [ci]; exact fit)
    have hO := fun w u => mPt_c (C := C) (who := Int32.ofNat i + 1) K b60.1 (by omega) (by rw [ci]; exact fit) (w := w) (u := u)
    rw [kc, ci] at hP
    rw [kc, ci] at hO
    have sd : ∀ w u, sD N B G St i w u ↔ dP N (B 52 i) (B 53 i) (sY B G q i) (sL B i) (B 60 i).toInt w u := fun w u => by
      unfold sD
      constructor
      · rintro ⟨q', a, b⟩
        rw [hq] at a
        cases a
        exact b
      · intro a; exact ⟨q, hq, a⟩
    rw [eg]
    refine ⟨fun w hw => x1 w (I.rz w hw), fun w hw u => ?_, fun w hw u => ?_, fun w hw u s hs ks d => ?_, fun e => by omega⟩
    · rw [x3 w u, hP w u]
      unfold gO
      rw [if_neg who, if_neg (by decide), I.rc w hw u]
    · rw [x3 w u]
      unfold gO
      rw [if_neg (by decide), I.cu w hw u, ← sd w u]
      constructor
      · rintro (⟨s, a, b⟩ | a)
        · exact ⟨s, by omega, b⟩
        · exact ⟨i, by omega, hk, a⟩
      · rintro ⟨s, a, b, c⟩
        by_cases e : s = i
        · subst e; exact Or.inr c
        · exact Or.inl ⟨s, by omega, b, c⟩
    · by_cases e : s = i
      · subst e
        rw [(hO w u).1 ((sd w u).mp d), ek]
      · rw [(hO w u).2 (fun d' => S.pd s i (by omega) hi e (kb s ks) hp w hw u d ((sd w u).mpr d'))]
        exact I.ow w hw u s (by omega) ks d
theorem lay_l {N A B G : z_A} {T : Int32} {St : z_R} {D : Nat → Nat} {n h : Nat} (S : z_SS N A B G T St D n h) : ∀ (k i : Nat) (J : z_J) (C : z_A), (i : Int) ≤ T.toInt → T.toInt < (i : Int) + (k : Int) → z_L3 N B G St h (fun s => ¬ B 58 s = 0) i J C → z_L3 N B G St h (fun s => ¬ B 58 s = 0) T.toNatClampNeg (xSd N T St G k (Int32.ofNat i) J) (mLa A B k (Int32.ofNat i) C) := by
  have T8 : T.toInt ≤ 8 := by rw [S.g3.hT]; exact S.g3.hB.1.2
  intro k
  induction k with
  | zero => intro i J C h1 h2; omega
  | succ k ih =>
    intro i J C h1 h2 I
    have ei := z_oft (K := i) (by omega)
    have ci := z_ofc (K := i) (by omega)
    rw [xSd_s, mLa_s, ← S.g3.hT]
    by_cases c : (i : Int) < T.toInt
    · have ek : Int32.ofNat i + 1 = Int32.ofNat (i + 1) := Int32.toInt_inj.mp (by rw [z_up1 (by omega) (by omega), ei, z_oft (by omega)]; omega)
      rw [if_pos (by rw [z_ltI]; omega), if_pos (by rw [z_ltI]; omega), ci]
      by_cases p : B 58 i = 0
      · rw [if_pos p]
        obtain ⟨q, hq, -, s2⟩ := S.st i c
        have e : xGd N T St G (Int32.ofNat i) J = J := by
          rcases s2 with ⟨-, a⟩ | ⟨a, -⟩
          · unfold xGd
            rw [xPl_y (q := q) (by omega) (by omega) (by rw [ci]; exact hq), if_pos a]
          · exact absurd p a
        rw [e, ek]
        exact ih (i + 1) J C (by omega) (by omega) (L3_k I (fun q => q p))
      · rw [if_neg p]
        have I' := L3_g S c (fun s hs => hs) I p
        rw [ek] at I' ⊢
        exact ih (i + 1) _ _ (by omega) (by omega) I'
    · rw [if_neg (by rw [z_ltI]; omega), if_neg (by rw [z_ltI]; omega)]
      have e : i = T.toNatClampNeg := by have := z_pp (p := T) (by omega); omega
      rw [← e]; exact I
theorem lay_I {N A B G : z_A} {T : Int32} {St : z_R} {D : Nat → Nat} {n h : Nat} (S : z_SS N A B G T St D n h) (T0 : 0 ≤ T.toInt) (J : z_J) (C : z_A) : z_L3 N B G St h (fun s => ¬ B 58 s = 0) T.toNatClampNeg (xSD N T St G J) (mLay A B C) := by
  have T8 : T.toInt ≤ 8 := by rw [S.g3.hT]; exact S.g3.hB.1.2
  have h6 := S.g3.hc.2.2
  exact lay_l S 9 0 _ _ (by omega) (by omega) (L3_0 h6.2 (by omega) (fun w hw => xCl_z hw) (fun x hx => mCl_z hx))
