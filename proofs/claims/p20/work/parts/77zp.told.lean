/-! A new stream: both find the same choices. -/
theorem lt_j {F : z_A} {y l : Int32} {j : Nat} (hF : z_MF F) (h8 : ∀ j : Nat, (j : Int) < (F 45 27).toInt → 0 ≤ (F 68 j).toInt) (h : z_rw F j y) : xLt y l = true ↔ (j < (F 45 27).toNatClampNeg ∧ ¬ l < F 68 j) := by
  have p := z_pp hF.2.2.2
  have m1 : (-1 : Int32).toInt = -1 := rfl
  unfold xLt
  by_cases q : j < (F 45 27).toNatClampNeg
  · have e := h.1 q
    rw [if_neg (fun e' => by rw [e', m1] at e; omega), z_l16 hF (h8 j (by omega)) e]
    split
    · rename_i c; exact ⟨fun h => absurd h (by decide), fun h' => absurd c h'.2⟩
    · rename_i c; exact ⟨fun _ => ⟨q, c⟩, fun _ => rfl⟩
  · rw [if_pos (h.2 q)]
    exact ⟨fun h => absurd h (by decide), fun h => absurd h.1 q⟩
theorem z_CW_c {N B B' : z_A} {s c : Nat} {y : Int32} {L : Nat} (h5 : B' 55 (3 * s + c) = B 55 (3 * s + c)) (h7 : B' 57 (3 * s + c) = B 57 (3 * s + c)) (h6 : ∀ k, k < 4 → B' 56 (4 * (3 * s + c) + k) = B 56 (4 * (3 * s + c) + k)) (h : z_CW N B s c y L) : z_CW N B' s c y L := by
  obtain ⟨a1, a2, a3, a4, a5, a6, a7⟩ := h
  refine ⟨by rw [h5]; exact a1, a2, a3, fun k hk => ?_, a5, by rw [h7]; exact a6, a7⟩
  rw [h6 k (by omega)]
  exact a4 k hk
theorem mH1_I {F : z_A} (hF : z_MF F) {c n : Int32} (c0 : 0 ≤ c.toInt) (c1 : c.toInt ≤ 100) (n0 : 0 ≤ n.toInt) (n1 : n.toInt ≤ 100) : ∀ (k i : Nat) (B : z_A), i ≤ 4 → 4 < i + k → (∀ i', i ≤ i' → (i' : Int) < (F 66 n.toNatClampNeg).toInt → mH1 F c n k (Int32.ofNat i) B 56 (4 * c.toNatClampNeg + i') = F 67 (4 * n.toNatClampNeg + i')) ∧ ∀ x, (x < 4 * c.toNatClampNeg + i ∨ 4 * c.toNatClampNeg + 4 ≤ x) → mH1 F c n k (Int32.ofNat i) B 56 x = B 56 x := by
  have f66 := hF.1 n.toNatClampNeg
  intro k
  induction k with
  | zero => intro i B h1 h2; omega
  | succ k ih =>
    intro i B h1 h2
    have ei := z_oft (K := i) (by omega)
    have ci := z_ofc (K := i) (by omega)
    rw [mH1_s]
    by_cases q : (i : Int) < (F 66 n.toNatClampNeg).toInt
    · have ek : Int32.ofNat i + 1 = Int32.ofNat (i + 1) := Int32.toInt_inj.mp (by rw [z_up1 (by omega) (by omega), ei, z_oft (by omega)]; omega)
      rw [if_pos (by rw [z_ltI]; omega), ek, z_ix c0 (by omega) (by omega) (by omega), z_ix n0 (by omega) (by omega) (by omega), ci]
      obtain ⟨a, b⟩ := ih (i + 1) (z_wr B 56 (4 * c.toNatClampNeg + i) (F 67 (4 * n.toNatClampNeg + i))) (by omega) (by omega)
      refine ⟨fun i' h1' h2' => ?_, fun x hx => ?_⟩
      · by_cases e : i' = i
        · subst e
          rw [b _ (by omega), z_wr2]
        · exact a i' (by omega) h2'
      · rw [b x (by omega), z_wrj (by omega)]
    · rw [if_neg (by rw [z_ltI]; omega)]
      exact ⟨fun i' h1' h2' => by omega, fun _ _ => rfl⟩
/-- what stands of a new stream's choices when j are found -/
def z_Z (N : z_A) (c : Int32) (s q : Nat) (G0 B0 : z_A) (j : Nat) (G B : z_A) : Prop := (G q 3 = Int32.ofNat j) ∧ (G q 0 = c) ∧ (∀ k, k ≠ 3 → G q k = G0 q k) ∧ (∀ p, p ≠ q → p ≠ q + 1 → G p = G0 p) ∧ (∀ p, p ≠ 55 → p ≠ 56 → p ≠ 57 → B p = B0 p) ∧ (∀ x, x < 3 * s → B 55 x = B0 55 x ∧ B 57 x = B0 57 x) ∧ (∀ x, x < 12 * s → B 56 x = B0 56 x) ∧ (∀ i, i < j → z_CW N B s i (G (q + 1) i) (B 55 (3 * s + i)).toNatClampNeg)
theorem z_Z.g3 {N : z_A} {c : Int32} {s q : Nat} {G0 B0 : z_A} {j : Nat} {G B : z_A} (K : z_Z N c s q G0 B0 j G B) : G q 3 = Int32.ofNat j := K.1
theorem z_Z.g0 {N : z_A} {c : Int32} {s q : Nat} {G0 B0 : z_A} {j : Nat} {G B : z_A} (K : z_Z N c s q G0 B0 j G B) : G q 0 = c := K.2.1
theorem z_Z.gk {N : z_A} {c : Int32} {s q : Nat} {G0 B0 : z_A} {j : Nat} {G B : z_A} (K : z_Z N c s q G0 B0 j G B) : ∀ k, k ≠ 3 → G q k = G0 q k := K.2.2.1
theorem z_Z.go {N : z_A} {c : Int32} {s q : Nat} {G0 B0 : z_A} {j : Nat} {G B : z_A} (K : z_Z N c s q G0 B0 j G B) : ∀ p, p ≠ q → p ≠ q + 1 → G p = G0 p := K.2.2.2.1
theorem z_Z.bq {N : z_A} {c : Int32} {s q : Nat} {G0 B0 : z_A} {j : Nat} {G B : z_A} (K : z_Z N c s q G0 B0 j G B) : ∀ p, p ≠ 55 → p ≠ 56 → p ≠ 57 → B p = B0 p := K.2.2.2.2.1
theorem z_Z.b57 {N : z_A} {c : Int32} {s q : Nat} {G0 B0 : z_A} {j : Nat} {G B : z_A} (K : z_Z N c s q G0 B0 j G B) : ∀ x, x < 3 * s → B 55 x = B0 55 x ∧ B 57 x = B0 57 x := K.2.2.2.2.2.1
theorem z_Z.b56 {N : z_A} {c : Int32} {s q : Nat} {G0 B0 : z_A} {j : Nat} {G B : z_A} (K : z_Z N c s q G0 B0 j G B) : ∀ x, x < 12 * s → B 56 x = B0 56 x := K.2.2.2.2.2.2.1
theorem z_Z.cw {N : z_A} {c : Int32} {s q : Nat} {G0 B0 : z_A} {j : Nat} {G B : z_A} (K : z_Z N c s q G0 B0 j G B) : ∀ i, i < j → z_CW N B s i (G (q + 1) i) (B 55 (3 * s + i)).toNatClampNeg := K.2.2.2.2.2.2.2
theorem fch_I {N F : z_A} {a b c lat : Int32} {s q : Nat} {G0 B0 : z_A} (hr : z_RN N) (ha : z_RA N) (hE : z_WE N) (hF : z_MF F) (hK : z_WK N a b c F) (hw : ∀ y, y ∈ eW N a b c → 0 ≤ y.toInt) (hn : ∀ o W, z_nx (eW N a b c) o (xNb N a b c o W 4)) (s7 : s ≤ 7) (hs : B0 45 10 = Int32.ofNat s) : ∀ (k j : Nat) (y : Int32) (G B : z_A) (W : z_W), j ≤ 3 → 3 < j + k → z_rw F j y → z_Z N c s q G0 B0 j G B → ∃ m, m ≤ 3 ∧ (mH2 F lat k (Int32.ofNat j) B).1 = Int32.ofNat m ∧ z_Z N c s q G0 B0 m (xFch N q a b lat k (Int32.ofNat j) y G W).1 (mH2 F lat k (Int32.ofNat j) B).2 := by
  have pw := z_pp hF.2.2.2
  have t3 : Int32.toInt 3 = 3 := rfl
  intro k
  induction k with
  | zero => intro j y G B W h1 h2; omega
  | succ k ih =>
    intro j y G B W h1 h2 hy Z
    have ej := z_oft (K := j) (by omega)
    have cj := z_ofc (K := j) (by omega)
    have lj := lt_j (l := lat) hF hK.2.2.1 hy
    rw [xFch_s, mH2_s]
    by_cases c3 : j < 3
    · have l3 : Int32.ofNat j < 3 := by rw [z_ltI]; omega
      rw [if_pos l3, if_pos l3, cj]
      by_cases ok : xLt y lat = true
      · obtain ⟨o1, o2⟩ := lj.mp ok
        have lw : Int32.ofNat j < F 45 27 := by rw [z_ltI]; omega
        rw [if_pos ok, if_pos lw, if_neg o2]
        have ek : Int32.ofNat j + 1 = Int32.ofNat (j + 1) := Int32.toInt_inj.mp (by rw [z_up1 (by omega) (by omega), ej, z_oft (by omega)]; omega)
        have e45 : B 45 10 = Int32.ofNat s := by rw [Z.bq 45 (by decide) (by decide) (by decide)]; exact hs
        have es := z_oft (K := s) (by omega)
        have cs := z_ofc (K := s) (by omega)
        have m3 := z_m3 (s := Int32.ofNat s) (c := Int32.ofNat j) (by omega) (by omega) (by omega) (by omega)
        have p3 := z_pp (p := 3 * Int32.ofNat s + Int32.ofNat j) (by omega)
        have x3 : (3 * Int32.ofNat s + Int32.ofNat j).toNatClampNeg = 3 * s + j := by omega
        -- the class's offer
        have eO : xOff G q y = z_wr (z_wr G (q + 1) j y) q 3 (Int32.ofNat (j + 1)) := by
          unfold xOff
          rw [Z.g3, if_pos l3, cj, ek]
        have G1q : ∀ k', k' ≠ 3 → xOff G q y q k' = G q k' := fun k' hk' => by rw [eO, z_wrj hk', z_wr_ne (by omega)]
        have G1w : ∀ i, xOff G q y (q + 1) i = upd (G (q + 1)) j y i := fun i => by rw [eO, z_wr_ne (by omega), z_wr_eq]
        -- the reference's
        obtain ⟨hj1, hj2⟩ := mH1_I hF (c := 3 * B 45 10 + Int32.ofNat j) (n := Int32.ofNat j) (by rw [e45]; omega) (by rw [e45]; omega) (by omega) (by omega) 5 0 (z_wr (z_wr B 55 (3 * B 45 10 + Int32.ofNat j).toNatClampNeg (F 66 (Int32.ofNat j).toNatClampNeg)) 57 (3 * B 45 10 + Int32.ofNat j).toNatClampNeg (F 68 (Int32.ofNat j).toNatClampNeg)) (by omega) (by omega)
        rw [e45, x3, cj] at hj1 hj2
        have e0 : Int32.ofNat 0 = 0 := rfl
        rw [e0] at hj1 hj2
        have eH : mH0 F B (Int32.ofNat j) = mH1 F (3 * Int32.ofNat s + Int32.ofNat j) (Int32.ofNat j) 5 0 (z_wr (z_wr B 55 (3 * s + j) (F 66 j)) 57 (3 * s + j) (F 68 j)) := by
          unfold mH0
          rw [e45, x3, cj]
        have B55 : ∀ x, mH0 F B (Int32.ofNat j) 55 x = upd (B 55) (3 * s + j) (F 66 j) x := fun x => by
          rw [eH, mH1_q (by decide), z_wr_ne (by decide), z_wr_eq]
        have B57 : ∀ x, mH0 F B (Int32.ofNat j) 57 x = upd (B 57) (3 * s + j) (F 68 j) x := fun x => by
          rw [eH, mH1_q (by decide), z_wr_eq, z_wr_ne (by decide)]
        have B56 : ∀ i' : Nat, (i' : Int) < (F 66 j).toInt → mH0 F B (Int32.ofNat j) 56 (4 * (3 * s + j) + i') = F 67 (4 * j + i') := fun i' hi => by
          rw [eH]; exact hj1 i' (Nat.zero_le _) hi
        have B56o : ∀ x, (x < 4 * (3 * s + j) ∨ 4 * (3 * s + j) + 4 ≤ x) → mH0 F B (Int32.ofNat j) 56 x = B 56 x := fun x hx => by
          rw [eH, hj2 x (by omega), z_wr1 (by decide), z_wr1 (by decide)]
        obtain ⟨w1, w2, w3, w4⟩ := row_W hr ha hE hF hK o1 (hy.1 o1)
        have f66 := hF.1 j
        have f661 := hF.2.1 j (by omega)
        have p66 := z_pp f66.1
        have b55j : mH0 F B (Int32.ofNat j) 55 (3 * s + j) = F 66 j := (B55 _).trans (if_pos rfl)
        have Z1 : z_Z N c s q G0 B0 (j + 1) (xOff G q y) (mH0 F B (Int32.ofNat j)) := by
          refine ⟨by rw [eO, z_wr2], (G1q 0 (by decide)).trans Z.g0, fun k' hk' => (G1q k' hk').trans (Z.gk k' hk'), fun p p1 p2 => ?_, fun p p1 p2 p3 => (mH0_q p1 p2 p3).trans (Z.bq p p1 p2 p3), fun x hx => ?_, fun x hx => (B56o x (by omega)).trans (Z.b56 x hx), fun i hi => ?_⟩
          · rw [eO, z_wr_ne p1, z_wr_ne p2]
            exact Z.go p p1 p2
          · rw [B55, B57]
            unfold upd
            rw [if_neg (by omega), if_neg (by omega)]
            exact Z.b57 x hx
          · by_cases e : i = j
            · subst e
              have ey : xOff G q y (q + 1) i = y := (G1w i).trans (if_pos rfl)
              rw [ey, b55j]
              refine ⟨by rw [b55j]; omega, by omega, by omega, fun k' hk' => ?_, fun k' hk' h4 => w2 k' (by omega) h4, ?_, fun i' k' h1 h2 => w4 i' k' h1 (by omega)⟩
              · obtain ⟨u1, u2, u3⟩ := w1 k' (by omega)
                rw [B56 k' (by omega)]
                exact ⟨u1, u2, u3⟩
              · rw [w3]
                exact ((B57 _).trans (if_pos rfl)).symm
            · have ij : i < j := by omega
              have ey : xOff G q y (q + 1) i = G (q + 1) i := (G1w i).trans (if_neg e)
              have e5 : mH0 F B (Int32.ofNat j) 55 (3 * s + i) = B 55 (3 * s + i) := (B55 _).trans (if_neg (by omega))
              rw [ey, e5]
              exact z_CW_c e5 ((B57 _).trans (if_neg (by omega))) (fun k' hk' => B56o _ (by omega)) (Z.cw i ij)
        have ny : ¬ y = -1 := fun e => by
          have := hy.1 o1
          rw [e] at this
          have m1 : (-1 : Int32).toInt = -1 := rfl
          omega
        have q0 : xOff G q y q 0 = c := (G1q 0 (by decide)).trans Z.g0
        rw [ek, q0]
        exact ih (j + 1) _ _ _ _ (by omega) (by omega) (z_rws hK hw hy ny (hn y W)) Z1
      · rw [if_neg ok]
        have st_ : (if Int32.ofNat j < F 45 27 then if lat < F 68 j then (Int32.ofNat j, B) else mH2 F lat k (Int32.ofNat j + 1) (mH0 F B (Int32.ofNat j)) else (Int32.ofNat j, B)) = (Int32.ofNat j, B) := by
          by_cases q1 : Int32.ofNat j < F 45 27
          · rw [if_pos q1]
            rw [z_ltI] at q1
            by_cases q2 : lat < F 68 j
            · rw [if_pos q2]
            · exact absurd (lj.mpr ⟨by omega, q2⟩) ok
          · rw [if_neg q1]
        rw [st_]
        exact ⟨j, by omega, rfl, Z⟩
    · have l3 : ¬ Int32.ofNat j < 3 := by rw [z_ltI]; omega
      rw [if_neg l3, if_neg l3]
      exact ⟨j, by omega, rfl, Z⟩
theorem z_nG2 {G : z_A} {n : Nat} {a b : Int32} {p : Nat} (h1 : p ≠ 78 + n) (h2 : p ≠ 78 + n + 1) : z_nwG G n a b p = G p := by
  unfold z_nwG
  rw [if_neg h1, if_neg h2]
/-- the places of all with one stream more, which has none -/
theorem told_SS {N A B G B1 B' G' : z_A} {T T' c p : Int32} {St : z_R} {D : Nat → Nat} {n h m : Nat} (S : z_SS N A B G T St D n h) (T0 : 0 ≤ T.toInt) (T7 : T.toInt < 8) (eT : T' = T + 1) (p2 : 2 ≤ p.toInt) (p120 : p.toInt ≤ 120) (hp : N 1 8 - N 1 8 / p * p = 0) (m3 : m ≤ 3) (hB' : z_MB B') (Z : z_Z N c T.toNatClampNeg (78 + n) (z_nwG G n c (xMx p 2)) B m G' B1) (hBq : ∀ q, q ≠ 45 → q ≠ 52 → q ≠ 53 → q ≠ 54 → q ≠ 58 → B' q = B1 q) (h45 : B' 45 10 = T') (h52 : B' 52 = upd (B1 52) T.toNatClampNeg c) (h53 : B' 53 = upd (B1 53) T.toNatClampNeg p) (h54 : B' 54 = upd (B1 54) T.toNatClampNeg (Int32.ofNat m)) (h58 : B' 58 = upd (B1 58) T.toNatClampNeg 0) : z_SS N A B' G' T' (va_up St T.toNatClampNeg (some (78 + n))) (z_nwD D n) (n + 2) h ∧ ∀ (J : z_J) (C : z_A), z_L3 N B G St h (fun s => ¬ B 58 s = 0) T.toNatClampNeg J C → z_L3 N B' G' (va_up St T.toNatClampNeg (some (78 + n))) h (fun s => ¬ B' 58 s = 0) T'.toNatClampNeg J C := by
  have pT := z_pp T0
  have e1 := z_up1 T0 (by omega)
  have eT' : T'.toInt = T.toInt + 1 := by rw [eT]; exact e1
  have pT' := z_pp (p := T') (by omega)
  have g3 := S.g3
  have c6 := g3.hc.2.2
  have b52 : B1 52 = B 52 := Z.bq 52 (by decide) (by decide) (by decide)
  have b53 : B1 53 = B 53 := Z.bq 53 (by decide) (by decide) (by decide)
  have b54 : B1 54 = B 54 := Z.bq 54 (by decide) (by decide) (by decide)
  have b58 : B1 58 = B 58 := Z.bq 58 (by decide) (by decide) (by decide)
  have b59 : B' 59 = B 59 := (hBq 59 (by decide) (by decide) (by decide) (by decide) (by decide)).trans (Z.bq 59 (by decide) (by decide) (by decide))
  have b60 : B' 60 = B 60 := (hBq 60 (by decide) (by decide) (by decide) (by decide) (by decide)).trans (Z.bq 60 (by decide) (by decide) (by decide))
  have b55 : B' 55 = B1 55 := hBq 55 (by decide) (by decide) (by decide) (by decide) (by decide)
  have b56 : B' 56 = B1 56 := hBq 56 (by decide) (by decide) (by decide) (by decide) (by decide)
  have b57 : B' 57 = B1 57 := hBq 57 (by decide) (by decide) (by decide) (by decide) (by decide)
  have o52 : ∀ s, s < T.toNatClampNeg → B' 52 s = B 52 s := fun s hs => by rw [h52, b52]; exact if_neg (by omega)
  have o53 : ∀ s, s < T.toNatClampNeg → B' 53 s = B 53 s := fun s hs => by rw [h53, b53]; exact if_neg (by omega)
  have o54 : ∀ s, s < T.toNatClampNeg → B' 54 s = B 54 s := fun s hs => by rw [h54, b54]; exact if_neg (by omega)
  have o58 : ∀ s, s < T.toNatClampNeg → B' 58 s = B 58 s := fun s hs => by rw [h58, b58]; exact if_neg (by omega)
  have n52 : B' 52 T.toNatClampNeg = c := by rw [h52]; exact if_pos rfl
  have n53 : B' 53 T.toNatClampNeg = p := by rw [h53]; exact if_pos rfl
  have n54 : B' 54 T.toNatClampNeg = Int32.ofNat m := by rw [h54]; exact if_pos rfl
  have n58 : B' 58 T.toNatClampNeg = 0 := by rw [h58]; exact if_pos rfl
  have o55 : ∀ x, x < 3 * T.toNatClampNeg → B' 55 x = B 55 x := fun x hx => by rw [b55]; exact (Z.b57 x hx).1
  have o57 : ∀ x, x < 3 * T.toNatClampNeg → B' 57 x = B 57 x := fun x hx => by rw [b57]; exact (Z.b57 x hx).2
  have o56 : ∀ x, x < 12 * T.toNatClampNeg → B' 56 x = B 56 x := fun x hx => by rw [b56]; exact Z.b56 x hx
  have so : ∀ s, s < T.toNatClampNeg → va_up St T.toNatClampNeg (some (78 + n)) s = St s := fun s hs => if_neg (by omega)
  have sn : va_up St T.toNatClampNeg (some (78 + n)) T.toNatClampNeg = some (78 + n) := if_pos rfl
  have oG : ∀ s : Nat, s < T.toNatClampNeg → ∀ q, St s = some q → q + 1 < 78 + n ∧ G' q = G q ∧ G' (q + 1) = G (q + 1) := fun s hs q hq => by
    obtain ⟨q', e, kS, -⟩ := S.st s (by omega)
    rw [hq] at e
    cases e
    have k4 := kS.2.2.2
    exact ⟨k4, (Z.go q (by omega) (by omega)).trans (z_nG2 (by omega) (by omega)), (Z.go (q + 1) (by omega) (by omega)).trans (z_nG2 (by omega) (by omega))⟩
  have k59 : ∀ s, (B 59 s).toNatClampNeg ≤ 2 := fun s => by
    have a := g3.hB.2.2.2.2.2.2.1 s
    have := z_pp a.1
    omega
  have sd : ∀ s, s < T.toNatClampNeg → sD N B' G' (va_up St T.toNatClampNeg (some (78 + n))) s = sD N B G St s := fun s hs => by
    have k := k59 s
    have e : ∀ q, St s = some q → dP N (B' 52 s) (B' 53 s) (sY B' G' q s) (sL B' s) (B' 60 s).toInt = dP N (B 52 s) (B 53 s) (sY B G q s) (sL B s) (B 60 s).toInt := fun q hq => by
      unfold sY sL
      rw [o52 s hs, o53 s hs, b59, b60, o55 _ (by omega), (oG s hs q hq).2.2]
    funext w u
    unfold sD
    rw [so s hs]
    exact propext ⟨fun ⟨q, a, b⟩ => ⟨q, a, by rw [← e q a]; exact b⟩, fun ⟨q, a, b⟩ => ⟨q, a, by rw [e q a]; exact b⟩⟩
  have last : ∀ s : Nat, (s : Int) < T'.toInt → s < T.toNatClampNeg ∨ s = T.toNatClampNeg := fun s hs => by omega
  have newS1 : z_S1 N G' B' h T.toNatClampNeg (78 + n) := by
    have e8 : (N 1 8).toInt = 2 * (h : Int) := by rw [g3.hc.1, z_oft (by omega)]; omega
    have mx : xMx p 2 = p := by
      unfold xMx
      have t2 : Int32.toInt 2 = 2 := rfl
      rw [if_neg (by rw [z_ltI]; omega)]
    refine ⟨by rw [n52]; exact Z.g0, ?_, by rw [n54]; exact Z.g3, ?_, fun i hi => ?_⟩
    · rw [n53, Z.gk 1 (by decide), mx]
      unfold z_nwG
      rw [if_pos rfl]; rfl
    · rw [n53]
      have r := z_rem (y := N 1 8) (c := p) (by omega) (by omega)
      rw [hp, tI0, e8] at r
      have e := Int.mul_ediv_add_emod (2 * (h : Int)) p.toInt
      rw [← r] at e
      refine ⟨2 * (h : Int) / p.toInt, ?_, by omega⟩
      by_cases q : 0 < 2 * (h : Int) / p.toInt
      · exact q
      · exfalso
        have := Int.mul_le_mul_of_nonneg_left (show 2 * (h : Int) / p.toInt ≤ 0 by omega) (show 0 ≤ p.toInt by omega)
        rw [Int.mul_zero] at this
        omega
    · rw [n54, z_oft (by omega)] at hi
      have cw := Z.cw i (by omega)
      rw [b55]
      exact z_CW_c (by rw [b55]) (by rw [b57]) (fun k _ => by rw [b56]) cw
  have oldS1 : ∀ s, s < T.toNatClampNeg → ∀ q, St s = some q → z_S1 N G' B' h s q := fun s hs q hq => by
    obtain ⟨a0, a1, a3, a4, a5⟩ := g3.ss s (by omega) q hq
    obtain ⟨-, g1, g2⟩ := oG s hs q hq
    refine ⟨by rw [g1, o52 s hs]; exact a0, by rw [g1, o53 s hs]; exact a1, by rw [g1, o54 s hs]; exact a3, by rw [o53 s hs]; exact a4, fun i hi => ?_⟩
    rw [o54 s hs] at hi
    have b := (g3.hB.2.2.2.1 s).2
    rw [g2, o55 _ (by omega)]
    exact z_CW_c (o55 _ (by omega)) (o57 _ (by omega)) (fun k hk => o56 _ (by omega)) (a5 i hi)
  refine ⟨⟨⟨g3.ha, g3.hr, g3.hA, hB', g3.hN, g3.hc, h45.symm, fun s hs q hq => ?_⟩, fun s hs => ?_, fun s s' q hs hs' hq hq' => ?_, fun s s' hs hs' ne pl pl' w hw u d => ?_⟩, fun J C L => ?_⟩
  · rcases last s hs with c' | c'
    · rw [so s c'] at hq
      exact oldS1 s c' q hq
    · subst c'
      rw [sn] at hq
      cases hq
      exact newS1
  · rcases last s hs with c' | c'
    · obtain ⟨q, hq, kS, s2⟩ := S.st s (by omega)
      refine ⟨q, (so s c').trans hq, ?_, ?_⟩
      · obtain ⟨k1, k2, k3, k4⟩ := kS
        refine ⟨?_, ?_, k3, by omega⟩
        · unfold z_nwD; rw [if_neg (by omega), if_neg (by omega)]; exact k1
        · unfold z_nwD; rw [if_neg (by omega), if_neg (by omega)]; exact k2
      · have k := k59 s
        obtain ⟨-, g1, g2⟩ := oG s c' q hq
        unfold z_S2 sY sL at *
        rw [o58 s c', g1, b59, b60, o53 s c', o52 s c', g2, o55 _ (by omega)]
        exact s2
    · subst c'
      refine ⟨78 + n, sn, z_kn, Or.inl ⟨n58, ?_⟩⟩
      rw [Z.gk 4 (by decide)]
      unfold z_nwG
      rw [if_pos rfl]; rfl
  · rcases last s hs with c' | c'
    · rw [so s c'] at hq
      rcases last s' hs' with c'' | c''
      · rw [so s' c''] at hq'
        exact S.inj s s' q (by omega) (by omega) hq hq'
      · subst c''
        rw [sn] at hq'
        cases hq'
        have := (oG s c' _ hq).1
        omega
    · subst c'
      rw [sn] at hq
      cases hq
      rcases last s' hs' with c'' | c''
      · rw [so s' c''] at hq'
        have := (oG s' c'' _ hq').1
        omega
      · exact c''.symm
  · rcases last s hs with c' | c'
    · rcases last s' hs' with c'' | c''
      · rw [sd s c'] at d
        rw [sd s' c'']
        rw [o58 s c'] at pl
        rw [o58 s' c''] at pl'
        exact S.pd s s' (by omega) (by omega) ne pl pl' w hw u d
      · subst c''; exact absurd n58 pl'
    · subst c'; exact absurd n58 pl
  · have eTT : T'.toNatClampNeg = T.toNatClampNeg + 1 := by omega
    rw [eTT]
    refine ⟨L.rz, L.rc, fun w hw u => (L.cu w hw u).trans ?_, fun w hw u s hs ks d => ?_, fun e => by omega⟩
    · constructor
      · rintro ⟨s, a, b, d⟩
        exact ⟨s, by omega, by show ¬ B' 58 s = 0; rw [o58 s a]; exact b, by rw [sd s a]; exact d⟩
      · rintro ⟨s, a, b, d⟩
        by_cases e : s = T.toNatClampNeg
        · subst e; exact absurd n58 b
        · have a' : s < T.toNatClampNeg := by omega
          have b : ¬ B' 58 s = 0 := b
          rw [o58 s a'] at b
          rw [sd s a'] at d
          exact ⟨s, a', b, d⟩
    · by_cases e : s = T.toNatClampNeg
      · subst e; exact absurd n58 ks
      · have a' : s < T.toNatClampNeg := by omega
        have ks : ¬ B' 58 s = 0 := ks
        rw [o58 s a'] at ks
        rw [sd s a'] at d
        exact L.ow w hw u s a' ks d
