/-! stir: both take the same sets in the same order. -/
/-- both while no plan is found -/
def z_St (N A B G : z_A) (T : Int32) (St : z_R) (D : Nat → Nat) (n h : Nat) (s : z_S) (s' : z_S3) : Prop := (s.1 = G) ∧ (s'.1 = B) ∧ (z_L3 N B G St h (fun s => ¬ B 58 s = 0) T.toNatClampNeg s.2.1 s'.2.1) ∧ (s.2.2.1 27 7 = s'.2.1 45 20) ∧ (z_TR s'.2.1)
theorem z_St.sg {N A B G : z_A} {T : Int32} {St : z_R} {D : Nat → Nat} {n h : Nat} {s : z_S} {s' : z_S3} (K : z_St N A B G T St D n h s s') : s.1 = G := K.1
theorem z_St.sb {N A B G : z_A} {T : Int32} {St : z_R} {D : Nat → Nat} {n h : Nat} {s : z_S} {s' : z_S3} (K : z_St N A B G T St D n h s s') : s'.1 = B := K.2.1
theorem z_St.l3 {N A B G : z_A} {T : Int32} {St : z_R} {D : Nat → Nat} {n h : Nat} {s : z_S} {s' : z_S3} (K : z_St N A B G T St D n h s s') : z_L3 N B G St h (fun s => ¬ B 58 s = 0) T.toNatClampNeg s.2.1 s'.2.1 := K.2.2.1
theorem z_St.tr {N A B G : z_A} {T : Int32} {St : z_R} {D : Nat → Nat} {n h : Nat} {s : z_S} {s' : z_S3} (K : z_St N A B G T St D n h s s') : s.2.2.1 27 7 = s'.2.1 45 20 := K.2.2.2.1
theorem z_St.hT {N A B G : z_A} {T : Int32} {St : z_R} {D : Nat → Nat} {n h : Nat} {s : z_S} {s' : z_S3} (K : z_St N A B G T St D n h s s') : z_TR s'.2.1 := K.2.2.2.2
/-- and at the end -/
def z_Fi (N A : z_A) (T : Int32) (St : z_R) (D : Nat → Nat) (n h : Nat) (s : z_S) (s' : z_S3) : Prop := (z_SS N A s'.1 s.1 T St D n h) ∧ (z_L3 N s'.1 s.1 St h (fun i => ¬ s'.1 58 i = 0) T.toNatClampNeg s.2.1 s'.2.1) ∧ (s.2.2.1 27 7 = s'.2.1 45 20)
theorem z_Fi.ss {N A : z_A} {T : Int32} {St : z_R} {D : Nat → Nat} {n h : Nat} {s : z_S} {s' : z_S3} (K : z_Fi N A T St D n h s s') : z_SS N A s'.1 s.1 T St D n h := K.1
theorem z_Fi.l3 {N A : z_A} {T : Int32} {St : z_R} {D : Nat → Nat} {n h : Nat} {s : z_S} {s' : z_S3} (K : z_Fi N A T St D n h s s') : z_L3 N s'.1 s.1 St h (fun i => ¬ s'.1 58 i = 0) T.toNatClampNeg s.2.1 s'.2.1 := K.2.1
theorem z_Fi.tr {N A : z_A} {T : Int32} {St : z_R} {D : Nat → Nat} {n h : Nat} {s : z_S} {s' : z_S3} (K : z_Fi N A T St D n h s s') : s.2.2.1 27 7 = s'.2.1 45 20 := K.2.2
theorem St_F {N A B G : z_A} {T : Int32} {St : z_R} {D : Nat → Nat} {n h : Nat} {s : z_S} {s' : z_S3} (S : z_SS N A B G T St D n h) (R : z_St N A B G T St D n h s s') : z_Fi N A T St D n h s s' := by
  have a := R.sg
  have b := R.sb
  refine ⟨by rw [a, b]; exact S, by rw [a, b]; exact R.l3, R.tr⟩
/-- the class's count, from b1 - 1 down -/
def bI (b1 : Nat) : Int32 := if b1 = 0 then -1 else Int32.ofNat (b1 - 1)
theorem bI_s {b : Nat} (h : b < 256) : bI (b + 1) = Int32.ofNat b ∧ Int32.ofNat b + -1 = bI b := by
  refine ⟨rfl, ?_⟩
  have e := z_oft (K := b) (by omega)
  refine Int32.toInt_inj.mp ?_
  rw [z_dec1 (by omega) (by omega), e]
  unfold bI
  split
  · rename_i q; subst q; rfl
  · rw [z_oft (by omega)]; omega
theorem in2_I {N A B G : z_A} {T : Int32} {St : z_R} {D : Nat → Nat} {n h : Nat} (S : z_SS N A B G T St D n h) (T0 : 0 ≤ T.toInt) {st : Int32} : ∀ (b1 k k' : Nat) (set : Int32) (s : z_S) (s' : z_S3), b1 ≤ 256 → b1 < k → b1 < k' → z_St N A B G T St D n h s s' → sN (mPd B 9 0 0) st b1 set →
    ((xIn2 N T St (xWp T St G 9 0 0) ((((1 : Int32) <<< (T &&& 31)) - 1) &&& (xWp T St G 9 0 0 ^^^ -1)) st k (bI b1) s).1 = none ∧ (mTw A (mPd B 9 0 0) st k' set s').1 = none ∧ z_St N A B G T St D n h (xIn2 N T St (xWp T St G 9 0 0) ((((1 : Int32) <<< (T &&& 31)) - 1) &&& (xWp T St G 9 0 0 ^^^ -1)) st k (bI b1) s).2 (mTw A (mPd B 9 0 0) st k' set s').2) ∨
    ∃ a, (xIn2 N T St (xWp T St G 9 0 0) ((((1 : Int32) <<< (T &&& 31)) - 1) &&& (xWp T St G 9 0 0 ^^^ -1)) st k (bI b1) s).1 = some a ∧ (mTw A (mPd B 9 0 0) st k' set s').1 = some a ∧ z_Fi N A T St D n h (xIn2 N T St (xWp T St G 9 0 0) ((((1 : Int32) <<< (T &&& 31)) - 1) &&& (xWp T St G 9 0 0 ^^^ -1)) st k (bI b1) s).2 (mTw A (mPd B 9 0 0) st k' set s').2 := by
  obtain ⟨ew, -⟩ := wp_I S T0
  have hst := hs_stir S T0
  generalize ((((1 : Int32) <<< (T &&& 31)) - 1) &&& (xWp T St G 9 0 0 ^^^ -1)) = wo at hst ⊢
  rw [ew]
  intro b1
  induction b1 with
  | zero =>
    intro k k' set s s' h1 h2 h3 R hN
    obtain ⟨k, rfl⟩ : ∃ j, k = j + 1 := ⟨k - 1, by omega⟩
    obtain ⟨k', rfl⟩ : ∃ j, k' = j + 1 := ⟨k' - 1, by omega⟩
    have e : set = -1 := by
      rcases hN with ⟨e, -⟩ | ⟨b, hb, -⟩
      · exact e
      · omega
    have x : xIn2 N T St (mPd B 9 0 0) wo st (k + 1) (bI 0) s = (none, s) := by
      rw [xIn2_s]
      exact if_pos (by decide)
    have y : mTw A (mPd B 9 0 0) st (k' + 1) set s' = (none, s') := by
      rw [mTw_s, e]
      exact if_pos (by decide)
    rw [x, y]
    exact Or.inl ⟨rfl, rfl, R⟩
  | succ b ih =>
    intro k k' set s s' h1 h2 h3 R hN
    obtain ⟨k, rfl⟩ : ∃ j, k = j + 1 := ⟨k - 1, by omega⟩
    obtain ⟨eb, em⟩ := bI_s (b := b) (by omega)
    have e := z_oft (K := b) (by omega)
    have nb : ¬ Int32.ofNat b < 0 := by rw [z_ltI, tI0]; omega
    rw [eb, xIn2_s, if_neg nb, em]
    have es : xMi (Int32.ofNat b) 9 0 0 = sB b := rfl
    have ebt : xBt (sB b) = mBi (sB b) 9 0 0 := l_bt ⟨b, by omega⟩
    rw [es, ebt]
    by_cases ok : sO (mPd B 9 0 0) st b
    · rw [if_pos ok.1, if_pos ok.2]
      obtain ⟨k', rfl⟩ : ∃ j, k' = j + 1 := ⟨k' - 1, by omega⟩
      have eset : set = sB b := by
        rcases hN with ⟨-, q⟩ | ⟨b', hb', e1, e2, e3⟩
        · exact absurd ok (q b (by omega))
        · by_cases c : b' = b
          · rw [← c]; exact e1
          · exact absurd ok (e3 b (by omega) (by omega))
      subst eset
      have n0 : ¬ sB b < 0 := by rw [z_ltI, tI0]; have := (sB_b (b := b) (by omega)).2.1; omega
      rw [mTw_s, if_neg n0]
      have rg := R.sg
      have rb := R.sb
      obtain ⟨f1, f2, f3, f4, f5, f6⟩ := fit_I S T0 (set := sB b ||| wo) (ms := sB b) (hst (sB b)) (J := s.2.1) (P := s.2.2.1) (Sq := s.2.2.2) (C := s'.2.1) (V := s'.2.2) R.hT R.tr
      have f7 := (mSw_k (A := A) (V := s'.2.2) (set := sB b) S.g3.hB R.hT).2.1
      rw [rg, rb]
      generalize xFit N T St (sB b ||| wo) G s.2.1 s.2.2.1 s.2.2.2 = x at *
      generalize mSw A B s'.2.1 s'.2.2 (sB b) = y at *
      by_cases z : x.1 = 0
      · rw [if_pos z, if_pos (f1.symm.trans z)]
        obtain ⟨g1, g2⟩ := f5 z
        have R' : z_St N A B G T St D n h x.2 y.2 := ⟨g2, g1, by rw [g1, g2] at f3; exact f3, f4, f7⟩
        refine ih k k' _ x.2 y.2 (by omega) (by omega) (by omega) R' ?_
        exact mNx_I (Or.inr ⟨by omega, rfl⟩)
      · rw [if_neg z, if_neg (fun q => z (f1.trans q))]
        refine Or.inr ⟨if y.1 = 1 then st else -2, ?_, rfl, ⟨f2, f3, f4⟩⟩
        rw [← f1]
        show some (if x.1 = 1 then st else x.1) = some (if x.1 = 1 then st else -2)
        rcases f6 with q | q | q
        · exact absurd q z
        · rw [if_pos q, if_pos q]
        · have n1 : ¬ x.1 = 1 := by rw [q]; decide
          rw [if_neg n1, if_neg n1, q]
    · have hN' : sN (mPd B 9 0 0) st b set := by
        rcases hN with ⟨q1, q2⟩ | ⟨b', hb', e1, e2, e3⟩
        · exact Or.inl ⟨q1, fun c hc => q2 c (by omega)⟩
        · refine Or.inr ⟨b', ?_, e1, e2, fun c c1 c2 => e3 c c1 (by omega)⟩
          by_cases c : b' = b
          · subst c; exact absurd e2 ok
          · omega
      have sk : (if sB b &&& (mPd B 9 0 0 ^^^ -1) = 0 then if mBi (sB b) 9 0 0 = st then if (xFit N T St (sB b ||| wo) s.1 s.2.1 s.2.2.1 s.2.2.2).1 = 0 then xIn2 N T St (mPd B 9 0 0) wo st k (bI b) (xFit N T St (sB b ||| wo) s.1 s.2.1 s.2.2.1 s.2.2.2).2 else (some (if (xFit N T St (sB b ||| wo) s.1 s.2.1 s.2.2.1 s.2.2.2).1 = 1 then st else (xFit N T St (sB b ||| wo) s.1 s.2.1 s.2.2.1 s.2.2.2).1), (xFit N T St (sB b ||| wo) s.1 s.2.1 s.2.2.1 s.2.2.2).2) else xIn2 N T St (mPd B 9 0 0) wo st k (bI b) s else xIn2 N T St (mPd B 9 0 0) wo st k (bI b) s) = xIn2 N T St (mPd B 9 0 0) wo st k (bI b) s := by
        by_cases c1 : sB b &&& (mPd B 9 0 0 ^^^ -1) = 0
        · rw [if_pos c1, if_neg (fun c2 => ok ⟨c1, c2⟩)]
        · rw [if_neg c1]
      rw [sk]
      exact ih k k' set s s' (by omega) (by omega) (by omega) R hN'
theorem ou_I {N A B G : z_A} {T : Int32} {St : z_R} {D : Nat → Nat} {n h : Nat} (S : z_SS N A B G T St D n h) (T0 : 0 ≤ T.toInt) : ∀ (k m : Nat) (s : z_S) (s' : z_S3), m ≤ 4 → 4 < m + k → z_St N A B G T St D n h s s' →
    (xOu N T St (xWp T St G 9 0 0) ((((1 : Int32) <<< (T &&& 31)) - 1) &&& (xWp T St G 9 0 0 ^^^ -1)) k (Int32.ofNat m) s).1 = (mTo A (mPd B 9 0 0) k (Int32.ofNat m) s').1 ∧ z_Fi N A T St D n h (xOu N T St (xWp T St G 9 0 0) ((((1 : Int32) <<< (T &&& 31)) - 1) &&& (xWp T St G 9 0 0 ^^^ -1)) k (Int32.ofNat m) s).2 (mTo A (mPd B 9 0 0) k (Int32.ofNat m) s').2 := by
  intro k
  induction k with
  | zero => intro m s s' h1 h2; omega
  | succ k ih =>
    intro m s s' h1 h2 R
    have em := z_oft (K := m) (by omega)
    have t3 : Int32.toInt 3 = 3 := rfl
    have t4 : Int32.toInt 4 = 4 := rfl
    rw [xOu_s, mTo_s]
    by_cases c : m < 4
    · have ek : Int32.ofNat m + 1 = Int32.ofNat (m + 1) := Int32.toInt_inj.mp (by rw [z_up1 (by omega) (by omega), em, z_oft (by omega)]; omega)
      rw [if_neg (by rw [z_ltI]; omega), if_pos (by rw [z_ltI]; omega), ek]
      have I := in2_I S T0 (st := Int32.ofNat m) 256 257 513 (mNx (mPd B 9 0 0) (Int32.ofNat m) (-1) 257 0 (-1)) s s' (by omega) (by omega) (by omega) R (mNx_I (Or.inl ⟨rfl, rfl⟩))
      have e255 : bI 256 = 255 := rfl
      rw [e255] at I
      generalize xIn2 N T St (xWp T St G 9 0 0) ((((1 : Int32) <<< (T &&& 31)) - 1) &&& (xWp T St G 9 0 0 ^^^ -1)) (Int32.ofNat m) 257 255 s = x at I ⊢
      generalize mTw A (mPd B 9 0 0) (Int32.ofNat m) 513 (mNx (mPd B 9 0 0) (Int32.ofNat m) (-1) 257 0 (-1)) s' = y at I ⊢
      obtain ⟨x1, x2⟩ := x
      obtain ⟨y1, y2⟩ := y
      rcases I with ⟨a, b, R'⟩ | ⟨v, a, b, F⟩
      · have a : x1 = none := a
        have b : y1 = none := b
        subst a b
        exact ih (m + 1) x2 y2 (by omega) (by omega) R'
      · have a : x1 = some v := a
        have b : y1 = some v := b
        subst a b
        exact ⟨rfl, F⟩
    · rw [if_pos (by rw [z_ltI]; omega), if_neg (by rw [z_ltI]; omega)]
      exact ⟨rfl, St_F S R⟩
theorem stir_I {N A B G : z_A} {T : Int32} {St : z_R} {D : Nat → Nat} {n h : Nat} (S : z_SS N A B G T St D n h) (T0 : 0 ≤ T.toInt) {J : z_J} {P : z_A} {Sq : z_R} {C V : z_A} (L : z_L3 N B G St h (fun s => ¬ B 58 s = 0) T.toNatClampNeg J C) : (xStir N T St G J P Sq).1 = (mStir A B C V).1 ∧ z_Fi N A T St D n h (xStir N T St G J P Sq).2 (mStir A B C V).2 := by
  have z0 : Int32.ofNat 0 = 0 := rfl
  have I := ou_I S T0 5 0 (G, J, z_wr P 27 7 0, Sq) (B, z_wr C 45 20 0, V) (by omega) (by omega) ⟨rfl, rfl, L3_c L (show z_wr C 45 20 0 61 = C 61 from z_wr_ne (by decide)), by show z_wr P 27 7 0 27 7 = z_wr C 45 20 0 45 20; rw [z_wr2, z_wr2], z_TR0⟩
  rw [z0] at I
  exact I
