/-! door: both answer alike. -/
theorem z_msb {x : Int32} : x.toBitVec.msb = decide (x.toInt < 0) := BitVec.msb_eq_toInt
theorem z_xs {a b : Int32} (b0 : 0 ≤ b.toInt) : a ^^^ b < 0 ↔ a < 0 := by
  have h : decide ((a ^^^ b).toInt < 0) = decide (a.toInt < 0) := by
    rw [← z_msb, ← z_msb, Int32.toBitVec_xor, BitVec.msb_xor, z_msb (x := b), decide_eq_false (by omega), Bool.xor_false]
  rw [z_ltI, z_ltI, tI0]
  exact decide_eq_decide.mp h
theorem xFm_n {a b : Int32} (a0 : -100000000 ≤ a.toInt) (a1 : a.toInt ≤ 100000000) (b0 : 0 < b.toInt) (b1 : b.toInt ≤ 1000) : (xFm a b).toInt = a.toInt % b.toInt := by
  obtain ⟨q, h1, h2, h3, h4, h5⟩ := z_tm a0 a1 b0 b1
  unfold xFm
  generalize a - a / b * b = r at h1 h2 h3 h4 h5 ⊢
  by_cases c : a ^^^ b < 0
  · rw [if_pos c]
    rw [z_xs (by omega), z_ltI, tI0] at c
    by_cases e : r = 0
    · rw [if_pos e]
      have e' : r.toInt = 0 := by rw [e]; rfl
      exact (z_ue (q := q) (by omega) (by omega) (by omega)).symm
    · rw [if_neg e]
      have e' : ¬ r.toInt = 0 := fun x => e (Int32.toInt_inj.mp (x.trans (by decide)))
      have h4 := h4 c
      have e2 : (r + b).toInt = r.toInt + b.toInt := by rw [Int32.toInt_add, bm32]; split <;> omega
      rw [e2]
      exact (z_ue (q := q - 1) (by omega) (by omega) (by rw [Int.mul_sub]; omega)).symm
  · rw [if_neg c]
    rw [z_xs (by omega), z_ltI, tI0] at c
    have h5 := h5 (by omega)
    exact (z_ue (q := q) (by omega) (by omega) (by omega)).symm
theorem xHo_I {y w : Int32} (hw : ¬ w = -1) : (xHo y w = -1 ∧ ∀ k : Nat, k < 4 → ¬ xA y (Int32.ofNat k) = w) ∨ ∃ k : Nat, k < 4 ∧ xHo y w = Int32.ofNat k ∧ xA y (Int32.ofNat k) = w := by
  unfold xHo
  rw [if_neg hw]
  by_cases c0 : xA y 0 = w
  · rw [if_pos c0]; exact Or.inr ⟨0, by omega, rfl, c0⟩
  · rw [if_neg c0]
    by_cases c1 : xA y 1 = w
    · rw [if_pos c1]; exact Or.inr ⟨1, by omega, rfl, c1⟩
    · rw [if_neg c1]
      by_cases c2 : xA y 2 = w
      · rw [if_pos c2]; exact Or.inr ⟨2, by omega, rfl, c2⟩
      · rw [if_neg c2]
        by_cases c3 : xA y 3 = w
        · rw [if_pos c3]; exact Or.inr ⟨3, by omega, rfl, c3⟩
        · rw [if_neg c3]
          refine Or.inl ⟨rfl, fun k hk => ?_⟩
          rcases (by omega : k = 0 ∨ k = 1 ∨ k = 2 ∨ k = 3) with e | e | e | e <;> subst e
          · exact c0
          · exact c1
          · exact c2
          · exact c3
theorem xDo_I {N A B G : z_A} {s : Int32} {q L h : Nat} {y : Int32} {m : Int} (P : z_P1 N A B G s q L h y m) {w t : Int32} (w0 : 0 ≤ w.toInt) (t0 : 0 ≤ t.toInt) (t1 : t.toInt ≤ 1000) : xDo N G q w t = true ↔ dP N (B 52 s.toNatClampNeg) (B 53 s.toNatClampNeg) y L (B 60 s.toNatClampNeg).toInt w.toNatClampNeg t.toInt := by
  obtain ⟨p0, p1, s7⟩ := K1_p P.k
  have L4 := P.k.cw.2.2.1
  have zb := P.k.hB.2.1 s.toNatClampNeg
  have pw := z_pp w0
  have b60 := P.t0
  have b61 := P.t1
  have nw : ¬ w = -1 := fun e => by rw [e] at w0; exact absurd w0 (by decide)
  have xw : ∀ k : Nat, k < L → dW y k = w.toNatClampNeg → xA y (Int32.ofNat k) = w := fun k hk e => by
    have a := (K1_w P.k hk).1
    have pa := z_pp a
    unfold dW at e
    exact Int32.toInt_inj.mp (by omega)
  unfold xDo
  rw [P.gy, P.g0, P.g1]
  rcases xHo_I (y := y) nw with ⟨e, n⟩ | ⟨k, k4, e, ek⟩
  · rw [e, if_pos rfl]
    refine ⟨fun q => (by cases q), ?_⟩
    rintro ⟨k, k1, k2, -⟩
    exact absurd (xw k k1 k2) (n k (by omega))
  · have eK := z_oft (K := k) (by omega)
    have ck := z_ofc (K := k) (by omega)
    have kL : k < L := by
      rcases P1_a P (Int32.ofNat k) with ⟨-, a2, -⟩ | ⟨-, a2⟩
      · omega
      · rw [ek] at a2; exact absurd a2 nw
    have n1 : ¬ Int32.ofNat k = -1 := fun x => by
      rw [x] at eK
      have : Int32.toInt (-1) = -1 := rfl
      omega
    rw [e, if_neg n1]
    have so := (P1_o P (k := Int32.ofNat k) (by omega) (by omega)).1
    rw [ck] at so
    have ob := oI_b P.k.ha (z := B 52 s.toNatClampNeg) (y := y) zb.1 zb.2 k
    have d := z_dif (a := t) (b := xSo N G q (Int32.ofNat k)) (by omega) (by omega) (by omega) (by omega)
    have fm := xFm_n (a := t - xSo N G q (Int32.ofNat k)) (b := B 53 s.toNatClampNeg) (by omega) (by omega) (by omega) (by omega)
    rw [d, so] at fm
    have dk : dT N (B 52 s.toNatClampNeg) y k = (xT N w (B 52 s.toNatClampNeg)).toInt := by unfold dT; rw [ek]
    have iff1 : xFm (t - xSo N G q (Int32.ofNat k)) (B 53 s.toNatClampNeg) < xT N w (B 52 s.toNatClampNeg) ↔ dP N (B 52 s.toNatClampNeg) (B 53 s.toNatClampNeg) y L (B 60 s.toNatClampNeg).toInt w.toNatClampNeg t.toInt := by
      rw [z_ltI, fm, ← dk]
      constructor
      · intro x
        refine ⟨k, kL, ?_, x⟩
        unfold dW
        rw [ek]
      · rintro ⟨k', k1, k2, k3⟩
        have e' := xw k' k1 k2
        have kk : k' = k := by
          rcases Nat.lt_trichotomy k' k with c | c | c
          · exact absurd (e'.trans ek.symm) (P.k.cw.2.2.2.2.2.2 k' k c kL)
          · exact c
          · exact absurd (ek.trans e'.symm) (P.k.cw.2.2.2.2.2.2 k k' c k1)
        rw [kk] at k3
        exact k3
    by_cases c : xFm (t - xSo N G q (Int32.ofNat k)) (B 53 s.toNatClampNeg) < xT N w (B 52 s.toNatClampNeg)
    · rw [if_pos c]
      exact ⟨fun _ => iff1.mp c, fun _ => rfl⟩
    · rw [if_neg c]
      exact ⟨fun x => (by cases x), fun x => absurd (iff1.mpr x) c⟩
theorem xDl_I {N A B G : z_A} {T : Int32} {St : z_R} {D : Nat → Nat} {n h : Nat} (S : z_SS N A B G T St D n h) {w t : Int32} (w0 : 0 ≤ w.toInt) (t0 : 0 ≤ t.toInt) (t1 : t.toInt ≤ 1000) : ∀ (k i : Nat), (i : Int) ≤ T.toInt → T.toInt < (i : Int) + (k : Int) → (∃ s : Nat, i ≤ s ∧ (s : Int) < T.toInt ∧ ¬ B 58 s = 0 ∧ sD N B G St s w.toNatClampNeg t.toInt ∧ xDl N T St G w t k (Int32.ofNat i) = Int32.ofNat s) ∨ ((∀ s : Nat, i ≤ s → (s : Int) < T.toInt → ¬ B 58 s = 0 → ¬ sD N B G St s w.toNatClampNeg t.toInt) ∧ xDl N T St G w t k (Int32.ofNat i) = -1) := by
  have T8 : T.toInt ≤ 8 := by rw [S.g3.hT]; exact S.g3.hB.1.2
  intro k
  induction k with
  | zero => intro i h1 h2; omega
  | succ k ih =>
    intro i h1 h2
    have ei := z_oft (K := i) (by omega)
    have ci := z_ofc (K := i) (by omega)
    have st_ : xDl N T St G w t (k + 1) (Int32.ofNat i) = if Int32.ofNat i < T then match xPl T St G (Int32.ofNat i) with
      | none => xDl N T St G w t k (Int32.ofNat i + 1)
      | some q => if xDo N G q w t = true then Int32.ofNat i else xDl N T St G w t k (Int32.ofNat i + 1) else -1 := rfl
    rw [st_]
    by_cases c : (i : Int) < T.toInt
    · have ek : Int32.ofNat i + 1 = Int32.ofNat (i + 1) := Int32.toInt_inj.mp (by rw [z_up1 (by omega) (by omega), ei, z_oft (by omega)]; omega)
      rw [if_pos (by rw [z_ltI]; omega), ek]
      have next : ¬ (¬ B 58 i = 0 ∧ sD N B G St i w.toNatClampNeg t.toInt) → ((∃ s : Nat, i ≤ s ∧ (s : Int) < T.toInt ∧ ¬ B 58 s = 0 ∧ sD N B G St s w.toNatClampNeg t.toInt ∧ xDl N T St G w t k (Int32.ofNat (i + 1)) = Int32.ofNat s) ∨ ((∀ s : Nat, i ≤ s → (s : Int) < T.toInt → ¬ B 58 s = 0 → ¬ sD N B G St s w.toNatClampNeg t.toInt) ∧ xDl N T St G w t k (Int32.ofNat (i + 1)) = -1)) := fun no => by
        rcases ih (i + 1) (by omega) (by omega) with ⟨s, a1, a2, a3, a4, a5⟩ | ⟨a1, a2⟩
        · exact Or.inl ⟨s, by omega, a2, a3, a4, a5⟩
        · refine Or.inr ⟨fun s b1 b2 b3 b4 => ?_, a2⟩
          by_cases e : s = i
          · subst e; exact no ⟨b3, b4⟩
          · exact a1 s (by omega) b2 b3 b4
      rcases xPl_n S c with ⟨a, b⟩ | ⟨a, q, b, d⟩
      · rw [b]
        exact next (fun x => x.1 a)
      · rw [d]
        obtain ⟨L, y, m, P⟩ := P1_i S (s := Int32.ofNat i) (by omega) (by omega) (by rw [ci]; exact b) (by rw [ci]; exact a)
        have x := xDo_I P w0 t0 t1
        have sd := P.sd
        rw [ci] at x sd
        have e : sD N B G St i w.toNatClampNeg t.toInt ↔ dP N (B 52 i) (B 53 i) y L (B 60 i).toInt w.toNatClampNeg t.toInt := by
          rw [sd.1, sd.2]
          unfold sD
          constructor
          · rintro ⟨q', u, v⟩
            rw [b] at u
            cases u
            exact v
          · intro v; exact ⟨q, b, v⟩
        show (∃ s : Nat, i ≤ s ∧ (s : Int) < T.toInt ∧ ¬ B 58 s = 0 ∧ sD N B G St s w.toNatClampNeg t.toInt ∧ (if xDo N G q w t = true then Int32.ofNat i else xDl N T St G w t k (Int32.ofNat (i + 1))) = Int32.ofNat s) ∨ ((∀ s : Nat, i ≤ s → (s : Int) < T.toInt → ¬ B 58 s = 0 → ¬ sD N B G St s w.toNatClampNeg t.toInt) ∧ (if xDo N G q w t = true then Int32.ofNat i else xDl N T St G w t k (Int32.ofNat (i + 1))) = -1)
        by_cases z : xDo N G q w t = true
        · rw [if_pos z]
          exact Or.inl ⟨i, Nat.le_refl _, c, a, e.mpr (x.mp z), rfl⟩
        · rw [if_neg z]
          exact next (fun y => z (x.mpr (e.mp y.2)))
    · rw [if_neg (by rw [z_ltI]; omega)]
      exact Or.inr ⟨fun s b1 b2 => by omega, rfl⟩
theorem z_ix12 {w t : Int32} (w0 : 0 ≤ w.toInt) (w1 : w.toInt ≤ 11) (t0 : 0 ≤ t.toInt) (t1 : t.toInt < 120) : (120 * w + t).toNatClampNeg = 120 * w.toNatClampNeg + t.toNatClampNeg := by
  have e1 : (120 * w).toInt = 120 * w.toInt := by
    rw [Int32.toInt_mul, bm32]
    have : Int32.toInt 120 = 120 := rfl
    rw [this]; split <;> omega
  have e2 : (120 * w + t).toInt = 120 * w.toInt + t.toInt := by rw [z_sum (by omega) (by omega) (by omega) (by omega), e1]
  have p := z_pp (p := 120 * w + t) (by omega)
  have p2 := z_pp w0
  have p3 := z_pp t0
  omega
theorem SS_c {N A B G : z_A} {T : Int32} {St : z_R} {D : Nat → Nat} {n h : Nat} (S : z_SS N A B G T St D n h) : (A 45 8).toInt = 2 * (h : Int) ∧ (N 1 8).toInt = 2 * (h : Int) := by
  have c4 := S.g3.hc.2.2.2
  have e : (N 1 8).toInt = 2 * (h : Int) := by rw [S.g3.hc.1, z_oft (by omega)]; omega
  exact ⟨by rw [← S.g3.hN.2.2.1]; exact e, e⟩
theorem mW_x {N A : z_A} (hN : z_NA N A) (w : Int32) : mW A w = xW N w := by unfold mW xW; rw [hN.2.1]
theorem door_I {N A B G : z_A} {T : Int32} {St : z_R} {D : Nat → Nat} {n h : Nat} (S : z_SS N A B G T St D n h) (T0 : 0 ≤ T.toInt) {J : z_J} {C : z_A} (L : z_L3 N B G St h (fun s => ¬ B 58 s = 0) T.toNatClampNeg J C) (w t : Int32) : xDoor N T St G w t = mDoor A C w t := by
  have T8 : T.toInt ≤ 8 := by rw [S.g3.hT]; exact S.g3.hB.1.2
  have pT := z_pp T0
  obtain ⟨cA, cN⟩ := SS_c S
  have c6 := S.g3.hc.2.2
  have wb := S.g3.hr.2.2.2.1
  unfold xDoor mDoor
  rw [mW_x S.g3.hN]
  by_cases hw : xW N w = true
  · rw [if_pos hw, if_pos hw]
    have ws := xW_s hw
    have pw := z_pp ws.1
    unfold xK
    by_cases t0 : t < 0
    · rw [if_pos t0, if_pos t0]; rfl
    · rw [if_neg t0, if_neg t0, S.g3.hN.2.2.1]
      rw [z_ltI, tI0] at t0
      by_cases t1 : t < A 45 8
      · rw [if_pos t1, if_pos t1, if_pos rfl]
        rw [z_ltI] at t1
        have pt := z_pp (p := t) (by omega)
        have ix := z_ix12 (w := w) (t := t) ws.1 (by omega) (by omega) (by omega)
        have em : (t.toInt % (2 * (h : Int))).toNat = t.toNatClampNeg := by
          rw [Int.emod_eq_of_lt (by omega) (by omega)]; omega
        rw [ix]
        have z0 : Int32.ofNat 0 = 0 := rfl
        rcases xDl_I S (w := w) (t := t) ws.1 (by omega) (by omega) 9 0 (by omega) (by omega) with ⟨s, -, a2, a3, a4, a5⟩ | ⟨a1, a2⟩
        · rw [z0] at a5
          rw [a5]
          have o := L.ow w.toNatClampNeg (by omega) t.toInt s (by omega) a3 a4
          rw [em] at o
          rw [o]
          have e1 := z_oft (K := s) (by omega)
          have e2 := z_oft (K := s + 1) (by omega)
          have t1' : Int32.toInt 1 = 1 := rfl
          refine Int32.toInt_inj.mp ?_
          rw [z_dif (by omega) (by omega) (by omega) (by omega)]
          omega
        · rw [z0] at a2
          rw [a2]
          have nh : ¬ hC C (2 * (h : Int)) w.toNatClampNeg t.toInt := fun x => by
            obtain ⟨s, b1, b2, b3⟩ := (L.cu w.toNatClampNeg (by omega) t.toInt).mp ((L.rc w.toNatClampNeg (by omega) t.toInt).mpr x)
            exact a1 s (Nat.zero_le _) (by omega) b2 b3
          have e0 : C 61 (120 * w.toNatClampNeg + t.toNatClampNeg) = 0 := by
            by_cases x : C 61 (120 * w.toNatClampNeg + t.toNatClampNeg) = 0
            · exact x
            · exfalso
              refine nh ?_
              unfold hC
              rw [em]; exact x
          rw [e0]; rfl
      · rw [if_neg t1, if_neg t1]; rfl
  · rw [if_neg hw, if_neg hw]
