/-! fit and seekWith: the same answer, the same places. -/
def z_W3 (N B G : z_A) (St : z_R) (h : Nat) (kp : Nat → Prop) (i M : Nat) (J : z_J) (P : z_A) (Sq : z_R) (C : z_A) : Prop := (z_L3 N B G St h kp i J C) ∧ (P 27 6 = Int32.ofNat M) ∧ (C 45 34 = Int32.ofNat M) ∧ (M ≤ i) ∧ (∀ j, j < M → 0 ≤ (C 70 j).toInt ∧ (C 70 j).toInt < (i : Int) ∧ ∃ q, Sq j = some q ∧ St (lS C j) = some q) ∧ (∀ j j', j < j' → j' < M → lS C j < lS C j') ∧ (∀ j, j < M → ¬ kp (lS C j)) ∧ (∀ s : Nat, s < i → ¬ kp s → ∃ j, j < M ∧ lS C j = s) ∧ (P 27 7 = C 45 20)
theorem z_W3.L {N B G : z_A} {St : z_R} {h : Nat} {kp : Nat → Prop} {i M : Nat} {J : z_J} {P : z_A} {Sq : z_R} {C : z_A} (K : z_W3 N B G St h kp i M J P Sq C) : z_L3 N B G St h kp i J C := K.1
theorem z_W3.m1 {N B G : z_A} {St : z_R} {h : Nat} {kp : Nat → Prop} {i M : Nat} {J : z_J} {P : z_A} {Sq : z_R} {C : z_A} (K : z_W3 N B G St h kp i M J P Sq C) : P 27 6 = Int32.ofNat M := K.2.1
theorem z_W3.m2 {N B G : z_A} {St : z_R} {h : Nat} {kp : Nat → Prop} {i M : Nat} {J : z_J} {P : z_A} {Sq : z_R} {C : z_A} (K : z_W3 N B G St h kp i M J P Sq C) : C 45 34 = Int32.ofNat M := K.2.2.1
theorem z_W3.mi {N B G : z_A} {St : z_R} {h : Nat} {kp : Nat → Prop} {i M : Nat} {J : z_J} {P : z_A} {Sq : z_R} {C : z_A} (K : z_W3 N B G St h kp i M J P Sq C) : M ≤ i := K.2.2.2.1
theorem z_W3.sq {N B G : z_A} {St : z_R} {h : Nat} {kp : Nat → Prop} {i M : Nat} {J : z_J} {P : z_A} {Sq : z_R} {C : z_A} (K : z_W3 N B G St h kp i M J P Sq C) : ∀ j, j < M → 0 ≤ (C 70 j).toInt ∧ (C 70 j).toInt < (i : Int) ∧ ∃ q, Sq j = some q ∧ St (lS C j) = some q := K.2.2.2.2.1
theorem z_W3.up {N B G : z_A} {St : z_R} {h : Nat} {kp : Nat → Prop} {i M : Nat} {J : z_J} {P : z_A} {Sq : z_R} {C : z_A} (K : z_W3 N B G St h kp i M J P Sq C) : ∀ j j', j < j' → j' < M → lS C j < lS C j' := K.2.2.2.2.2.1
theorem z_W3.nk {N B G : z_A} {St : z_R} {h : Nat} {kp : Nat → Prop} {i M : Nat} {J : z_J} {P : z_A} {Sq : z_R} {C : z_A} (K : z_W3 N B G St h kp i M J P Sq C) : ∀ j, j < M → ¬ kp (lS C j) := K.2.2.2.2.2.2.1
theorem z_W3.al {N B G : z_A} {St : z_R} {h : Nat} {kp : Nat → Prop} {i M : Nat} {J : z_J} {P : z_A} {Sq : z_R} {C : z_A} (K : z_W3 N B G St h kp i M J P Sq C) : ∀ s : Nat, s < i → ¬ kp s → ∃ j, j < M ∧ lS C j = s := K.2.2.2.2.2.2.2.1
theorem z_W3.tr {N B G : z_A} {St : z_R} {h : Nat} {kp : Nat → Prop} {i M : Nat} {J : z_J} {P : z_A} {Sq : z_R} {C : z_A} (K : z_W3 N B G St h kp i M J P Sq C) : P 27 7 = C 45 20 := K.2.2.2.2.2.2.2.2
theorem L3_c {N B G : z_A} {St : z_R} {h : Nat} {kp : Nat → Prop} {i : Nat} {J : z_J} {C C' : z_A} (I : z_L3 N B G St h kp i J C) (e : C' 61 = C 61) : z_L3 N B G St h kp i J C' := by
  refine ⟨I.rz, fun w hw u => ?_, I.cu, fun w hw u s hs ks d => by rw [e]; exact I.ow w hw u s hs ks d, fun z => ⟨(I.zz z).1, fun x hx => by rw [e]; exact (I.zz z).2 x hx⟩⟩
  unfold hC
  rw [e]
  exact I.rc w hw u
theorem fit_l {N A B G : z_A} {T : Int32} {St : z_R} {D : Nat → Nat} {n h : Nat} (S : z_SS N A B G T St D n h) {set ms : Int32} {kp : Nat → Prop} (hk : ∀ i : Nat, (i : Int) < T.toInt → (kp i ↔ ¬ B 58 i = 0 ∧ ¬ (ms >>> (Int32.ofNat i &&& 31)) &&& 1 = 1)) (kb : ∀ s, kp s → ¬ B 58 s = 0) (hs : ∀ i : Nat, (i : Int) < T.toInt → ((set >>> (Int32.ofNat i &&& 31)) &&& 1 = 0 ↔ kp i)) : ∀ (k i M : Nat) (J : z_J) (P : z_A) (Sq : z_R) (C : z_A), (i : Int) ≤ T.toInt → T.toInt < (i : Int) + (k : Int) → z_W3 N B G St h kp i M J P Sq C → ∃ (J' : z_J) (P' : z_A) (Sq' : z_R) (M' : Nat), xFt N T St G set k (Int32.ofNat i) J P Sq = xFe N T St G J' P' Sq' ∧ z_W3 N B G St h kp T.toNatClampNeg M' J' P' Sq' (mWl A B ms k (Int32.ofNat i) C) ∧ mWl A B ms k (Int32.ofNat i) C 45 20 = C 45 20 := by
  have T8 : T.toInt ≤ 8 := by rw [S.g3.hT]; exact S.g3.hB.1.2
  intro k
  induction k with
  | zero => intro i M J P Sq C h1 h2; omega
  | succ k ih =>
    intro i M J P Sq C h1 h2 I
    have ei := z_oft (K := i) (by omega)
    have ci := z_ofc (K := i) (by omega)
    have mi := I.mi
    rw [xFt_s, mWl_s, ← S.g3.hT]
    by_cases c : (i : Int) < T.toInt
    · have ek : Int32.ofNat i + 1 = Int32.ofNat (i + 1) := Int32.toInt_inj.mp (by rw [z_up1 (by omega) (by omega), ei, z_oft (by omega)]; omega)
      have lt : Int32.ofNat i < T := by rw [z_ltI]; omega
      rw [if_pos lt, if_pos lt, ci]
      obtain ⟨q, hq, -, -⟩ := S.st i c
      by_cases p : kp i
      · obtain ⟨p1, p2⟩ := (hk i c).mp p
        rw [if_pos ((hs i c).mpr p), if_neg p1, if_neg p2]
        have L' := L3_g S c kb I.L p
        have e70 : mPt A B (Int32.ofNat i) (B 59 i) (B 60 i) (Int32.ofNat i + 1) C 70 = C 70 := mPt_q (by decide)
        have e45 : mPt A B (Int32.ofNat i) (B 59 i) (B 60 i) (Int32.ofNat i + 1) C 45 = C 45 := mPt_q (by decide)
        rw [ek] at L' e70 e45 ⊢
        generalize mPt A B (Int32.ofNat i) (B 59 i) (B 60 i) (Int32.ofNat (i + 1)) C = C1 at *
        have eS : lS C1 = lS C := by unfold lS; rw [e70]
        have I1 : z_W3 N B G St h kp (i + 1) M (xGd N T St G (Int32.ofNat i) J) P Sq C1 := by
          refine ⟨L', I.m1, by rw [e45]; exact I.m2, by omega, fun j hj => ?_, by rw [eS]; exact I.up, by rw [eS]; exact I.nk, fun s hs' ns => ?_, by rw [e45]; exact I.tr⟩
          · obtain ⟨a, b, d⟩ := I.sq j hj
            rw [eS, e70]
            exact ⟨a, by omega, d⟩
          · rw [eS]
            by_cases e : s = i
            · subst e; exact absurd p ns
            · exact I.al s (by omega) ns
        obtain ⟨J', P', Sq', M', r1, r2, r3⟩ := ih (i + 1) M _ P Sq C1 (by omega) (by omega) I1
        exact ⟨J', P', Sq', M', r1, r2, r3.trans (by rw [e45])⟩
      · have nb : ¬ (set >>> (Int32.ofNat i &&& 31)) &&& 1 = 0 := fun e => p ((hs i c).mp e)
        have eM := z_oft (K := M) (by omega)
        have cM := z_ofc (K := M) (by omega)
        have t8 : Int32.toInt 8 = 8 := rfl
        have l8 : Int32.ofNat M < 8 := by rw [z_ltI]; omega
        rw [if_neg nb, I.m1, if_pos l8, cM]
        have ad : (if B 58 i = 0 then mAd C (Int32.ofNat i) else if (ms >>> (Int32.ofNat i &&& 31)) &&& 1 = 1 then mAd C (Int32.ofNat i) else mPt A B (Int32.ofNat i) (B 59 i) (B 60 i) (Int32.ofNat i + 1) C) = mAd C (Int32.ofNat i) := by
          split
          · rfl
          · rename_i a
            split
            · rfl
            · rename_i b; exact absurd ((hk i c).mpr ⟨a, b⟩) p
        rw [ad]
        have ekM : Int32.ofNat M + 1 = Int32.ofNat (M + 1) := Int32.toInt_inj.mp (by rw [z_up1 (by omega) (by omega), eM, z_oft (by omega)]; omega)
        have d61 : mAd C (Int32.ofNat i) 61 = C 61 := by unfold mAd; rw [z_wr_ne (by decide), z_wr_ne (by decide)]
        have d20 : mAd C (Int32.ofNat i) 45 20 = C 45 20 := by unfold mAd; rw [z_wrj (by decide), z_wr1 (by decide)]
        have d34 : mAd C (Int32.ofNat i) 45 34 = Int32.ofNat (M + 1) := by unfold mAd; rw [z_wr2, I.m2, ekM]
        have d70 : mAd C (Int32.ofNat i) 70 M = Int32.ofNat i := by unfold mAd; rw [z_wr1 (by decide), I.m2, cM, z_wr2]
        have d7j : ∀ j, j < M → mAd C (Int32.ofNat i) 70 j = C 70 j := fun j hj => by unfold mAd; rw [z_wr1 (by decide), I.m2, cM, z_wrj (by omega)]
        have on : xOn T St (Int32.ofNat i) = some q := by
          unfold xOn
          rw [if_neg (by rw [z_ltI, tI0]; omega), if_pos (by rw [z_ltI]; omega), ci, hq]
        rw [ek, on, ekM]
        generalize mAd C (Int32.ofNat i) = C1 at *
        have l1 : ∀ j, j < M → lS C1 j = lS C j := fun j hj => by unfold lS; rw [d7j j hj]
        have lM : lS C1 M = i := by unfold lS; rw [d70, ci]
        have s1 : ∀ j, j < M → va_up Sq M (some q) j = Sq j := fun j hj => if_neg (by omega)
        have sM : va_up Sq M (some q) M = some q := if_pos rfl
        have lt : ∀ j, j < M → lS C j < i := fun j hj => by
          obtain ⟨a, b, -⟩ := I.sq j hj
          have := z_pp a
          unfold lS; omega
        have I1 : z_W3 N B G St h kp (i + 1) (M + 1) J (z_wr P 27 6 (Int32.ofNat (M + 1))) (va_up Sq M (some q)) C1 := by
          refine ⟨L3_c (L3_k I.L p) d61, z_wr2, d34, by omega, fun j hj => ?_, fun j j' h1 h2 => ?_, fun j hj => ?_, fun s hs' ns => ?_, by rw [z_wrj (by decide), d20]; exact I.tr⟩
          · by_cases e : j = M
            · subst e
              rw [lM, d70, sM]
              exact ⟨by omega, by omega, q, rfl, hq⟩
            · have jM : j < M := by omega
              obtain ⟨a, b, d⟩ := I.sq j jM
              rw [l1 j jM, d7j j jM, s1 j jM]
              exact ⟨a, by omega, d⟩
          · by_cases e : j' = M
            · subst e
              rw [lM, l1 j h1]
              exact lt j h1
            · rw [l1 j (by omega), l1 j' (by omega)]
              exact I.up j j' h1 (by omega)
          · by_cases e : j = M
            · subst e; rw [lM]; exact p
            · rw [l1 j (by omega)]; exact I.nk j (by omega)
          · by_cases e : s = i
            · exact ⟨M, by omega, by rw [lM, e]⟩
            · obtain ⟨j, j1, j2⟩ := I.al s (by omega) ns
              exact ⟨j, by omega, by rw [l1 j j1]; exact j2⟩
        obtain ⟨J', P', Sq', M', r1, r2, r3⟩ := ih (i + 1) (M + 1) J _ _ C1 (by omega) (by omega) I1
        exact ⟨J', P', Sq', M', r1, r2, r3.trans d20⟩
    · have lt : ¬ Int32.ofNat i < T := by rw [z_ltI]; omega
      rw [if_neg lt, if_neg lt]
      have e : i = T.toNatClampNeg := by have := z_pp (p := T) (by omega); omega
      exact ⟨J, P, Sq, M, rfl, by rw [← e]; exact I, rfl⟩
theorem mKp_n {C B : z_A} {a i : Int32} {k : Nat} (h : ¬ a = 1) : mKp C a k i B = B := by
  cases k with
  | zero => rfl
  | succ k =>
    rw [mKp_s, if_neg h]
    split <;> rfl
theorem fit_I {N A B G : z_A} {T : Int32} {St : z_R} {D : Nat → Nat} {n h : Nat} (S : z_SS N A B G T St D n h) (T0 : 0 ≤ T.toInt) {set ms : Int32} (hs : ∀ i : Nat, (i : Int) < T.toInt → ((set >>> (Int32.ofNat i &&& 31)) &&& 1 = 0 ↔ ¬ B 58 i = 0 ∧ ¬ (ms >>> (Int32.ofNat i &&& 31)) &&& 1 = 1)) {J : z_J} {P : z_A} {Sq : z_R} {C V : z_A} (hT : z_TR C) (tr : P 27 7 = C 45 20) :
    (xFit N T St set G J P Sq).1 = (mSw A B C V ms).1 ∧ z_SS N A (mSw A B C V ms).2.1 (xFit N T St set G J P Sq).2.1 T St D n h ∧ z_L3 N (mSw A B C V ms).2.1 (xFit N T St set G J P Sq).2.1 St h (fun s => ¬ (mSw A B C V ms).2.1 58 s = 0) T.toNatClampNeg (xFit N T St set G J P Sq).2.2.1 (mSw A B C V ms).2.2.1 ∧ (xFit N T St set G J P Sq).2.2.2.1 27 7 = (mSw A B C V ms).2.2.1 45 20 ∧ ((xFit N T St set G J P Sq).1 = 0 → (mSw A B C V ms).2.1 = B ∧ (xFit N T St set G J P Sq).2.1 = G) ∧ ((xFit N T St set G J P Sq).1 = 0 ∨ (xFit N T St set G J P Sq).1 = 1 ∨ (xFit N T St set G J P Sq).1 = -2) := by
  have T8 : T.toInt ≤ 8 := by rw [S.g3.hT]; exact S.g3.hB.1.2
  have h6 := S.g3.hc.2.2
  have pT := z_pp T0
  have hMB := (mSw_k (A := A) (V := V) (set := ms) S.g3.hB hT).1
  have c61 : z_wr (mCl 1441 0 C) 45 34 0 61 = mCl 1441 0 C 61 := z_wr_ne (by decide)
  have c20 : z_wr (mCl 1441 0 C) 45 34 0 45 20 = C 45 20 := by rw [z_wrj (by decide), mCl_q (by decide)]
  have I0 : z_W3 N B G St h (fun s => (s : Int) < T.toInt ∧ ¬ B 58 s = 0 ∧ ¬ (ms >>> (Int32.ofNat s &&& 31)) &&& 1 = 1) 0 0 (xCl 13 0 J) (z_wr P 27 6 0) Sq (z_wr (mCl 1441 0 C) 45 34 0) :=
    ⟨L3_c (L3_0 h6.2 (by omega) (fun w hw => xCl_z hw) (fun x hx => mCl_z hx)) c61, z_wr2, z_wr2, Nat.le_refl _, fun j hj => by omega, fun j j' h1 h2 => by omega, fun j hj => by omega, fun s hs => by omega, by rw [z_wrj (by decide), c20]; exact tr⟩
  obtain ⟨J1, P1, Sq1, M, r1, W, r3⟩ := fit_l S (set := set) (ms := ms) (kp := fun s => (s : Int) < T.toInt ∧ ¬ B 58 s = 0 ∧ ¬ (ms >>> (Int32.ofNat s &&& 31)) &&& 1 = 1) (fun i hi => ⟨fun q => q.2, fun q => ⟨hi, q⟩⟩) (fun s q => q.2.1) (fun i hi => (hs i hi).trans ⟨fun q => ⟨hi, q⟩, fun q => q.2⟩) 9 0 0 _ _ Sq _ (by omega) (by omega) I0
  have ex : xFit N T St set G J P Sq = xFe N T St G J1 P1 Sq1 := r1
  have em : mSc A B C ms = z_wr (mWl A B ms 9 0 (z_wr (mCl 1441 0 C) 45 34 0)) 71 0 0 := rfl
  have z0 : Int32.ofNat 0 = 0 := rfl
  rw [z0] at W r3
  rw [ex]
  unfold xFe mSw
  unfold mSw at hMB
  rw [em] at hMB ⊢
  generalize mWl A B ms 9 0 (z_wr (mCl 1441 0 C) 45 34 0) = C1 at *
  have d61 : z_wr C1 71 0 0 61 = C1 61 := z_wr_ne (by decide)
  have d70 : z_wr C1 71 0 0 70 = C1 70 := z_wr_ne (by decide)
  have d45 : z_wr C1 71 0 0 45 = C1 45 := z_wr_ne (by decide)
  have d71 : z_wr C1 71 0 0 71 0 = 0 := z_wr2
  generalize z_wr C1 71 0 0 = C2 at *
  have eS : lS C2 = lS C1 := by unfold lS; rw [d70]
  have mi := W.mi
  have I : z_I3 N B G T St Sq1 h M (fun w u => ∃ s, s < T.toNatClampNeg ∧ ((s : Int) < T.toInt ∧ ¬ B 58 s = 0 ∧ ¬ (ms >>> (Int32.ofNat s &&& 31)) &&& 1 = 1) ∧ sD N B G St s w u) 0 J1 P1 C2 := by
    have L' := L3_c W.L d61
    refine ⟨L'.rz, L'.rc, fun w hw u => (L'.cu w hw u).trans ⟨Or.inl, fun q => q.elim id (fun ⟨j, a, _⟩ => by omega)⟩, fun j hj => by omega, by rw [d45]; exact W.tr, by rw [d45, r3, c20]; exact hT.1, by rw [d45, r3, c20]; exact hT.2, W.m1, by rw [d45]; exact W.m2, by omega, fun j hj => ?_, fun j hj => by omega⟩
    obtain ⟨a, b, c⟩ := W.sq j hj
    rw [eS, d70]
    exact ⟨a, by omega, c⟩
  have R := sim_sr S.g3 9 0 80020 J1 P1 C2 (Nat.zero_le _) (by omega) I d71 (by have := I.t0; omega)
  rw [z0] at R
  have I' := I
  generalize xSr N G Sq1 9 0 J1 P1 = r at R ⊢
  generalize hsk : mSk A B 80020 0 C2 = rm at R hMB ⊢
  rcases R with ⟨a1, C3, a2, a3, a4⟩ | ⟨a1, C3, a2, a3⟩ | ⟨a1, F', C3, ⟨a2, -⟩, a6, a7⟩
  · subst a2
    have l3 : lS C3 = lS C1 := by rw [← eS]; unfold lS; rw [a4]
    rw [a1, if_pos rfl]
    dsimp only at hMB ⊢
    have KB := keep_b (N := N) (G := G) (B0 := B) (Sq := Sq1) (P := r.2.2) (C := C3) (M := M) a3.m8 a3.m2 (by rw [l3]; exact W.up) (fun j hj => by
      obtain ⟨s0, s1, -⟩ := a3.sq j hj
      have := z_pp s0
      have b := S.g3.hB.2.2.1 (lS C3 j) (by rw [← S.g3.hT]; unfold lS; omega)
      omega) a3.ky 9 0 B (Nat.zero_le _) (by omega) ⟨fun _ _ _ _ => rfl, fun j hj => by omega, fun _ _ => ⟨rfl, rfl, rfl⟩⟩
    have KG := keep_g (Sq := Sq1) (P := r.2.2) (G0 := G) (M := M) a3.m8 a3.m1 (fun j hj => by obtain ⟨-, -, q, c2, -⟩ := a3.sq j hj; exact ⟨q, c2⟩) (fun j j' hj hj' e => by
      obtain ⟨s0, s1, q, c2, c3⟩ := a3.sq j hj
      obtain ⟨s0', s1', q', c2', c3'⟩ := a3.sq j' hj'
      rw [c2, c2'] at e
      cases e
      have p1 := z_pp s0
      have p2 := z_pp s0'
      have l := S.inj (lS C3 j) (lS C3 j') q (by unfold lS; omega) (by unfold lS; omega) c3 c3'
      rw [l3] at l
      rcases Nat.lt_trichotomy j j' with x | x | x
      · have := W.up j j' x hj'; omega
      · exact x
      · have := W.up j' j x hj; omega) 9 0 G (Nat.zero_le _) (by omega) ⟨fun _ _ _ _ => rfl, fun j hj => by omega, fun _ _ => rfl⟩
    rw [z0] at KB KG
    have S' := keep_SS S a3 (fun s q => q.2.1) hMB KB KG (by rw [l3]; exact W.up) (by rw [l3]; exact W.nk) (fun s hs ns => by rw [l3]; exact W.al s (by omega) ns)
    refine ⟨rfl, S', lay_I S' T0 _ _, ?_, fun q => absurd q (by decide), Or.inr (Or.inl rfl)⟩
    rw [mLay_q (by decide)]; exact a3.tr
  · subst a2
    have n1 : ¬ (-2 : Int32) = 1 := by decide
    rw [a1, if_neg n1]
    dsimp only
    rw [mKp_n n1]
    refine ⟨rfl, S, lay_I S T0 _ _, ?_, fun q => absurd q (by decide), Or.inr (Or.inr rfl)⟩
    rw [mLay_q (by decide)]; exact a3
  · have e0 : mEx A B F' 0 C3 = (0, C3) := by
      unfold mEx
      exact if_pos (by decide)
    rw [e0] at a2
    rw [a2] at hMB ⊢
    have n1 : ¬ (0 : Int32) = 1 := by decide
    rw [a1, if_neg n1]
    dsimp only
    rw [mKp_n n1]
    refine ⟨rfl, S, lay_I S T0 _ _, ?_, fun _ => ⟨rfl, rfl⟩, Or.inl rfl⟩
    rw [mLay_q (by decide)]; exact a6.tr
