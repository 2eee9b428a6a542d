/-! Both searches, side by side. -/
/-- what both know of stream s, which the class holds at q -/
def z_S1 (N G B : z_A) (h s q : Nat) : Prop := G q 0 = B 52 s ∧ G q 1 = B 53 s ∧ G q 3 = B 54 s ∧ (∃ n : Int, 0 < n ∧ 2 * (h : Int) = (B 53 s).toInt * n) ∧ ∀ c : Nat, (c : Int) < (B 54 s).toInt → z_CW N B s c (G (q + 1) c) (B 55 (3 * s + c)).toNatClampNeg
def z_G3 (N A B G : z_A) (T : Int32) (St : z_R) (h : Nat) : Prop := (z_RA N) ∧ (z_RN N) ∧ (z_MA A) ∧ (z_MB B) ∧ (z_NA N A) ∧ (z_Cc N h) ∧ (T = B 45 10) ∧ (∀ s : Nat, (s : Int) < T.toInt → ∀ q, St s = some q → z_S1 N G B h s q)
theorem z_G3.ha {N A B G : z_A} {T : Int32} {St : z_R} {h : Nat} (K : z_G3 N A B G T St h) : z_RA N := K.1
theorem z_G3.hr {N A B G : z_A} {T : Int32} {St : z_R} {h : Nat} (K : z_G3 N A B G T St h) : z_RN N := K.2.1
theorem z_G3.hA {N A B G : z_A} {T : Int32} {St : z_R} {h : Nat} (K : z_G3 N A B G T St h) : z_MA A := K.2.2.1
theorem z_G3.hB {N A B G : z_A} {T : Int32} {St : z_R} {h : Nat} (K : z_G3 N A B G T St h) : z_MB B := K.2.2.2.1
theorem z_G3.hN {N A B G : z_A} {T : Int32} {St : z_R} {h : Nat} (K : z_G3 N A B G T St h) : z_NA N A := K.2.2.2.2.1
theorem z_G3.hc {N A B G : z_A} {T : Int32} {St : z_R} {h : Nat} (K : z_G3 N A B G T St h) : z_Cc N h := K.2.2.2.2.2.1
theorem z_G3.hT {N A B G : z_A} {T : Int32} {St : z_R} {h : Nat} (K : z_G3 N A B G T St h) : T = B 45 10 := K.2.2.2.2.2.2.1
theorem z_G3.ss {N A B G : z_A} {T : Int32} {St : z_R} {h : Nat} (K : z_G3 N A B G T St h) : ∀ s : Nat, (s : Int) < T.toInt → ∀ q, St s = some q → z_S1 N G B h s q := K.2.2.2.2.2.2.2
/-- the level's stream, code, hops and doors -/
def lS (C : z_A) (j : Nat) : Nat := (C 70 j).toNatClampNeg
def lY (G : z_A) (Sq : z_R) (P : z_A) (j : Nat) : Int32 := match Sq j with
  | none => 0
  | some q => G (q + 1) (P 30 j).toNatClampNeg
def lL (B P C : z_A) (j : Nat) : Nat := (B 55 (3 * lS C j + (P 30 j).toNatClampNeg)).toNatClampNeg
def lD (N B G : z_A) (Sq : z_R) (P C : z_A) (j : Nat) (w : Nat) (u : Int) : Prop := dP N (B 52 (lS C j)) (B 53 (lS C j)) (lY G Sq P j) (lL B P C j) (P 31 j).toInt w u
def z_ky (N B G : z_A) (Sq : z_R) (P C : z_A) (j : Nat) : Prop := 0 ≤ (P 30 j).toInt ∧ (P 30 j).toInt < (B 54 (lS C j)).toInt ∧ 0 ≤ (P 31 j).toInt ∧ (P 31 j).toInt < (B 53 (lS C j)).toInt ∧ (C 71 j).toInt = (P 30 j).toInt * (B 53 (lS C j)).toInt + (P 31 j).toInt ∧ ∀ k, k < lL B P C j → dT N (B 52 (lS C j)) (lY G Sq P j) k ≤ (B 53 (lS C j)).toInt
def z_I3 (N B G : z_A) (T : Int32) (St Sq : z_R) (h M : Nat) (tk : Nat → Int → Prop) (p : Nat) (J : z_J) (P C : z_A) : Prop := (∀ w, w < 12 → rZ h (J (15 + w))) ∧ (∀ w, w < 12 → ∀ u, rI h (J (15 + w)) u = true ↔ hC C (2 * (h : Int)) w u) ∧ (∀ w, w < 12 → ∀ u, rI h (J (15 + w)) u = true ↔ (tk w u ∨ ∃ j, j < p ∧ lD N B G Sq P C j w u)) ∧ (∀ j, j < p → ∀ w, w < 12 → ∀ u, lD N B G Sq P C j w u → ¬ tk w u ∧ ∀ i, i < j → ¬ lD N B G Sq P C i w u) ∧ (P 27 7 = C 45 20) ∧ (0 ≤ (C 45 20).toInt) ∧ ((C 45 20).toInt ≤ 40000) ∧ (P 27 6 = Int32.ofNat M) ∧ (C 45 34 = Int32.ofNat M) ∧ (M ≤ 8) ∧ (∀ j, j < M → 0 ≤ (C 70 j).toInt ∧ (C 70 j).toInt < T.toInt ∧ ∃ q, Sq j = some q ∧ St (lS C j) = some q) ∧ (∀ j, j < p → z_ky N B G Sq P C j)
theorem z_I3.rz {N B G : z_A} {T : Int32} {St Sq : z_R} {h M : Nat} {tk : Nat → Int → Prop} {p : Nat} {J : z_J} {P C : z_A} (K : z_I3 N B G T St Sq h M tk p J P C) : ∀ w, w < 12 → rZ h (J (15 + w)) := K.1
theorem z_I3.rc {N B G : z_A} {T : Int32} {St Sq : z_R} {h M : Nat} {tk : Nat → Int → Prop} {p : Nat} {J : z_J} {P C : z_A} (K : z_I3 N B G T St Sq h M tk p J P C) : ∀ w, w < 12 → ∀ u, rI h (J (15 + w)) u = true ↔ hC C (2 * (h : Int)) w u := K.2.1
theorem z_I3.cu {N B G : z_A} {T : Int32} {St Sq : z_R} {h M : Nat} {tk : Nat → Int → Prop} {p : Nat} {J : z_J} {P C : z_A} (K : z_I3 N B G T St Sq h M tk p J P C) : ∀ w, w < 12 → ∀ u, rI h (J (15 + w)) u = true ↔ (tk w u ∨ ∃ j, j < p ∧ lD N B G Sq P C j w u) := K.2.2.1
theorem z_I3.dj {N B G : z_A} {T : Int32} {St Sq : z_R} {h M : Nat} {tk : Nat → Int → Prop} {p : Nat} {J : z_J} {P C : z_A} (K : z_I3 N B G T St Sq h M tk p J P C) : ∀ j, j < p → ∀ w, w < 12 → ∀ u, lD N B G Sq P C j w u → ¬ tk w u ∧ ∀ i, i < j → ¬ lD N B G Sq P C i w u := K.2.2.2.1
theorem z_I3.tr {N B G : z_A} {T : Int32} {St Sq : z_R} {h M : Nat} {tk : Nat → Int → Prop} {p : Nat} {J : z_J} {P C : z_A} (K : z_I3 N B G T St Sq h M tk p J P C) : P 27 7 = C 45 20 := K.2.2.2.2.1
theorem z_I3.t0 {N B G : z_A} {T : Int32} {St Sq : z_R} {h M : Nat} {tk : Nat → Int → Prop} {p : Nat} {J : z_J} {P C : z_A} (K : z_I3 N B G T St Sq h M tk p J P C) : 0 ≤ (C 45 20).toInt := K.2.2.2.2.2.1
theorem z_I3.t1 {N B G : z_A} {T : Int32} {St Sq : z_R} {h M : Nat} {tk : Nat → Int → Prop} {p : Nat} {J : z_J} {P C : z_A} (K : z_I3 N B G T St Sq h M tk p J P C) : (C 45 20).toInt ≤ 40000 := K.2.2.2.2.2.2.1
theorem z_I3.m1 {N B G : z_A} {T : Int32} {St Sq : z_R} {h M : Nat} {tk : Nat → Int → Prop} {p : Nat} {J : z_J} {P C : z_A} (K : z_I3 N B G T St Sq h M tk p J P C) : P 27 6 = Int32.ofNat M := K.2.2.2.2.2.2.2.1
theorem z_I3.m2 {N B G : z_A} {T : Int32} {St Sq : z_R} {h M : Nat} {tk : Nat → Int → Prop} {p : Nat} {J : z_J} {P C : z_A} (K : z_I3 N B G T St Sq h M tk p J P C) : C 45 34 = Int32.ofNat M := K.2.2.2.2.2.2.2.2.1
theorem z_I3.m8 {N B G : z_A} {T : Int32} {St Sq : z_R} {h M : Nat} {tk : Nat → Int → Prop} {p : Nat} {J : z_J} {P C : z_A} (K : z_I3 N B G T St Sq h M tk p J P C) : M ≤ 8 := K.2.2.2.2.2.2.2.2.2.1
theorem z_I3.sq {N B G : z_A} {T : Int32} {St Sq : z_R} {h M : Nat} {tk : Nat → Int → Prop} {p : Nat} {J : z_J} {P C : z_A} (K : z_I3 N B G T St Sq h M tk p J P C) : ∀ j, j < M → 0 ≤ (C 70 j).toInt ∧ (C 70 j).toInt < T.toInt ∧ ∃ q, Sq j = some q ∧ St (lS C j) = some q := K.2.2.2.2.2.2.2.2.2.2.1
theorem z_I3.ky {N B G : z_A} {T : Int32} {St Sq : z_R} {h M : Nat} {tk : Nat → Int → Prop} {p : Nat} {J : z_J} {P C : z_A} (K : z_I3 N B G T St Sq h M tk p J P C) : ∀ j, j < p → z_ky N B G Sq P C j := K.2.2.2.2.2.2.2.2.2.2.2
theorem lD_c {N B G : z_A} {Sq : z_R} {P C P' C' : z_A} {j : Nat} (h1 : P' 30 j = P 30 j) (h2 : P' 31 j = P 31 j) (h3 : C' 70 j = C 70 j) : lD N B G Sq P' C' j = lD N B G Sq P C j := by
  unfold lD lL lS lY
  rw [h1, h2, h3]
theorem ky_c {N B G : z_A} {Sq : z_R} {P C P' C' : z_A} {j : Nat} (h1 : P' 30 j = P 30 j) (h2 : P' 31 j = P 31 j) (h3 : C' 70 j = C 70 j) (h4 : C' 71 j = C 71 j) (h : z_ky N B G Sq P C j) : z_ky N B G Sq P' C' j := by
  unfold z_ky lL lS lY at *
  rw [h1, h2, h3, h4]
  exact h
/-- what a level leaves as it was -/
def z_kp (p : Nat) (J : z_J) (P C : z_A) (J' : z_J) (P' C' : z_A) : Prop := (∀ j, j < p → P' 30 j = P 30 j ∧ P' 31 j = P 31 j ∧ J' (32 + j) = J (32 + j)) ∧ C' 70 = C 70
theorem kp_0 {p : Nat} {J : z_J} {P C : z_A} : z_kp p J P C J P C := ⟨fun _ _ => ⟨rfl, rfl, rfl⟩, rfl⟩
theorem kp_t {p : Nat} {J J1 J2 : z_J} {P C P1 C1 P2 C2 : z_A} (h1 : z_kp p J P C J1 P1 C1) (h2 : z_kp p J1 P1 C1 J2 P2 C2) : z_kp p J P C J2 P2 C2 :=
  ⟨fun j hj => ⟨(h2.1 j hj).1.trans (h1.1 j hj).1, (h2.1 j hj).2.1.trans (h1.1 j hj).2.1, (h2.1 j hj).2.2.trans (h1.1 j hj).2.2⟩, h2.2.trans h1.2⟩
/-- how the class's answer r and the reference's rest of the search hang together -/
def z_RS (N B G : z_A) (T : Int32) (St Sq : z_R) (h M : Nat) (tk : Nat → Int → Prop) (p : Nat) (J : z_J) (P C : z_A) (res : Int32 × z_A) (r : Int32 × z_J × z_A) (E : Nat → z_A → z_A → Prop) : Prop :=
  (r.1 = 1 ∧ ∃ C', res = (1, C') ∧ z_I3 N B G T St Sq h M tk M r.2.1 r.2.2 C' ∧ C' 70 = C 70) ∨ (r.1 = -2 ∧ ∃ C', res = (-2, C') ∧ r.2.2 27 7 = C' 45 20) ∨ (r.1 = 0 ∧ ∃ F' C', E F' C' r.2.2 ∧ z_I3 N B G T St Sq h M tk p r.2.1 r.2.2 C' ∧ z_kp p J P C r.2.1 r.2.2 C')
theorem dTk_s {N G : z_A} {q k : Nat} {lv way t : Int32} {rec : z_J → z_A → z_T} {J : z_J} {P : z_A} : xTk N G q lv way rec (k + 1) t J P = if t < G q 1 then if P 27 7 < 40000 then if xHs N (J (32 + lv.toNatClampNeg)) t = true then xTk N G q lv way rec k (t + 1) J (z_wr P 27 7 (P 27 7 + 1)) else if (rec (xHd N (G q 0) (G q 1) way 1 5 0 t J) (z_wr (z_wr P 27 7 (P 27 7 + 1)) 31 lv.toNatClampNeg t)).1 = 0 then xTk N G q lv way rec k (t + 1) (xHd N (G q 0) (G q 1) way 0 5 0 t (rec (xHd N (G q 0) (G q 1) way 1 5 0 t J) (z_wr (z_wr P 27 7 (P 27 7 + 1)) 31 lv.toNatClampNeg t)).2.1) (rec (xHd N (G q 0) (G q 1) way 1 5 0 t J) (z_wr (z_wr P 27 7 (P 27 7 + 1)) 31 lv.toNatClampNeg t)).2.2 else rec (xHd N (G q 0) (G q 1) way 1 5 0 t J) (z_wr (z_wr P 27 7 (P 27 7 + 1)) 31 lv.toNatClampNeg t) else (-2, J, P) else (0, J, P) := rfl
theorem G3_K {N A B G : z_A} {T : Int32} {St : z_R} {h : Nat} (g : z_G3 N A B G T St h) {s c : Int32} {q : Nat} (s0 : 0 ≤ s.toInt) (s1 : s.toInt < T.toInt) (hq : St s.toNatClampNeg = some q) (c0 : 0 ≤ c.toInt) (c1 : c.toInt < (B 54 s.toNatClampNeg).toInt) : ∃ n, z_K1 N A B s c (G (q + 1) c.toNatClampNeg) (B 55 (3 * s.toNatClampNeg + c.toNatClampNeg)).toNatClampNeg h n := by
  have p := z_pp s0
  have pc := z_pp c0
  obtain ⟨-, -, -, ⟨n, n0, hn⟩, cw⟩ := g.ss s.toNatClampNeg (by omega) q hq
  have b := g.hB.2.2.2.1 s.toNatClampNeg
  exact ⟨n, g.ha, g.hr, g.hA, g.hB, g.hN, g.hc, s0, by rw [← g.hT]; exact s1, c0, by omega, cw c.toNatClampNeg (by omega), hn, n0⟩
theorem mP_c {N : z_A} {z per y : Int32} {L : Nat} {tk tk' : Nat → Int → Prop} {u : Int} (hw : ∀ k, k < L → dW y k < 12) (h : ∀ w, w < 12 → ∀ v, tk w v ↔ tk' w v) : mP N z per y L tk u ↔ mP N z per y L tk' u := by
  unfold mP
  constructor
  · rintro (a | ⟨k, k1, v, k2, k3⟩)
    · exact Or.inl a
    · exact Or.inr ⟨k, k1, v, k2, (h _ (hw k k1) v).mp k3⟩
  · rintro (a | ⟨k, k1, v, k2, k3⟩)
    · exact Or.inl a
    · exact Or.inr ⟨k, k1, v, k2, (h _ (hw k k1) v).mpr k3⟩
/-- the levels' doors, and others', at one tick: a level on -/
theorem z_ex1 {p : Nat} {f : Nat → Prop} : (∃ j, j < p + 1 ∧ f j) ↔ ((∃ j, j < p ∧ f j) ∨ f p) := by
  constructor
  · rintro ⟨j, j1, j2⟩
    by_cases e : j = p
    · subst e; exact Or.inr j2
    · exact Or.inl ⟨j, by omega, j2⟩
  · rintro (⟨j, j1, j2⟩ | h)
    · exact ⟨j, by omega, j2⟩
    · exact ⟨p, by omega, h⟩
set_option maxHeartbeats 4000000 in
theorem sim_tk {N A B G : z_A} {T : Int32} {St Sq : z_R} {h M : Nat} {tk : Nat → Int → Prop} (g : z_G3 N A B G T St h) {p : Nat} (pM : p < M) {q : Nat} (hq : Sq p = some q) {s c : Int32} (hs : St s.toNatClampNeg = some q) (s0 : 0 ≤ s.toInt) (s1 : s.toInt < T.toInt) (c0 : 0 ≤ c.toInt) (c1 : c.toInt < (B 54 s.toNatClampNeg).toInt) {rec : z_J → z_A → z_T}
    (IH : ∀ (F : Nat) (J : z_J) (P C : z_A), z_I3 N B G T St Sq h M tk (p + 1) J P C → C 71 (p + 1) = 0 → 2 * (40000 - (C 45 20).toInt) + ((p + 1 : Nat) : Int) < (F : Int) → z_RS N B G T St Sq h M tk (p + 1) J P C (mSk A B F (Int32.ofNat (p + 1)) C) (rec J P) (fun F' C' _ => mSk A B F (Int32.ofNat (p + 1)) C = mEx A B F' (Int32.ofNat (p + 1)) C' ∧ 2 * (40000 - (C' 45 20).toInt) + ((p + 1 : Nat) : Int) ≤ (F' : Int)))
    {tkp : Nat → Int → Prop} : ∀ (k : Nat) (t : Int32) (F : Nat) (J : z_J) (P C : z_A), 0 ≤ t.toInt → t.toInt ≤ (B 53 s.toNatClampNeg).toInt → (B 53 s.toNatClampNeg).toInt < t.toInt + (k : Int) → z_I3 N B G T St Sq h M tk p J P C → C 70 p = s → P 30 p = c → (C 71 p).toInt = c.toInt * (B 53 s.toNatClampNeg).toInt + t.toInt → (∀ w, w < 12 → ∀ u, rI h (J (15 + w)) u = true ↔ tkp w u) → (∀ u, rI h (J (32 + p)) u = true ↔ mP N (B 52 s.toNatClampNeg) (B 53 s.toNatClampNeg) (G (q + 1) c.toNatClampNeg) (B 55 (3 * s.toNatClampNeg + c.toNatClampNeg)).toNatClampNeg tkp u) → 2 * (40000 - (C 45 20).toInt) + (p : Int) < (F : Int) →
      z_RS N B G T St Sq h M tk p J P C (mSk A B F (Int32.ofNat p) C) (xTk N G q (Int32.ofNat p) (G (q + 1) c.toNatClampNeg) rec k t J P) (fun F' C' P' => mSk A B F (Int32.ofNat p) C = mSk A B F' (Int32.ofNat p) C' ∧ 2 * (40000 - (C' 45 20).toInt) + (p : Int) < (F' : Int) ∧ (C' 71 p).toInt = (c.toInt + 1) * (B 53 s.toNatClampNeg).toInt ∧ P' 30 p = c) := by
  obtain ⟨nn, K⟩ := G3_K g s0 s1 hs c0 c1
  have kc := K1_c K
  obtain ⟨p0, p1, s7⟩ := K1_p K
  have zb := g.hB.2.1 s.toNatClampNeg
  have cb := g.hB.2.2.2.1 s.toNatClampNeg
  have h120 : 2 * (h : Int) ≤ 120 := by have := g.hc.2.2.2; omega
  have pc := z_pp c0
  have ps := z_pp s0
  obtain ⟨G0, G1, G3, -, -⟩ := g.ss s.toNatClampNeg (by omega) q hs
  have perc : (B 53 s.toNatClampNeg).toInt ≤ 2 * (h : Int) := by
    have := Int.mul_le_mul_of_nonneg_left (show 1 ≤ nn by have := K.n0; omega) (show 0 ≤ (B 53 s.toNatClampNeg).toInt by omega)
    have := K.hn
    omega
  have cper : c.toInt * (B 53 s.toNatClampNeg).toInt + (B 53 s.toNatClampNeg).toInt ≤ (B 54 s.toNatClampNeg).toInt * (B 53 s.toNatClampNeg).toInt := by
    have := Int.mul_le_mul_of_nonneg_right (show c.toInt + 1 ≤ (B 54 s.toNatClampNeg).toInt by omega) (show 0 ≤ (B 53 s.toNatClampNeg).toInt by omega)
    rw [Int.add_mul, Int.one_mul] at this
    exact this
  have c3 : (B 54 s.toNatClampNeg).toInt * (B 53 s.toNatClampNeg).toInt ≤ 360 := by
    have := Int.mul_le_mul (show (B 54 s.toNatClampNeg).toInt ≤ 3 by omega) p1 (by omega) (by omega)
    omega
  have cp0 : 0 ≤ c.toInt * (B 53 s.toNatClampNeg).toInt := Int.mul_nonneg c0 (by omega)
  have e360 : (B 54 s.toNatClampNeg * B 53 s.toNatClampNeg).toInt = (B 54 s.toNatClampNeg).toInt * (B 53 s.toNatClampNeg).toInt := by
    rw [Int32.toInt_mul, bm32]
    generalize (B 54 s.toNatClampNeg).toInt * (B 53 s.toNatClampNeg).toInt = w at *
    split <;> omega
  have wy := z_CW_y K.cw
  have wlt : ∀ k, k < (B 55 (3 * s.toNatClampNeg + c.toNatClampNeg)).toNatClampNeg → dW (G (q + 1) c.toNatClampNeg) k < 12 := fun k hk => by have := (K1_w K hk).2.2; omega
  have t40 : Int32.toInt 40000 = 40000 := rfl
  generalize hy : G (q + 1) c.toNatClampNeg = y at *
  generalize hL : (B 55 (3 * s.toNatClampNeg + c.toNatClampNeg)).toNatClampNeg = L at *
  intro k
  induction k with
  | zero => intro t F J P C t0 t1 t2; omega
  | succ k ih =>
    intro t F J P C t0 t1 t2 I e70 e30 e71 hT hR hF
    have m8 := I.m8
    have ep := z_oft (K := p) (by omega)
    have cp := z_ofc (K := p) (by omega)
    have eM := z_oft (K := M) (by omega)
    obtain ⟨F1, rfl⟩ : ∃ F1, F = F1 + 1 := ⟨F - 1, by have := I.t1; omega⟩
    have lt34 : Int32.ofNat p < C 45 34 := by rw [I.m2, z_ltI]; omega
    rw [dTk_s, cp, G1, G0]
    by_cases tt : t < B 53 s.toNatClampNeg
    · rw [if_pos tt]
      rw [z_ltI] at tt
      have hk : C 71 (Int32.ofNat p).toNatClampNeg < B 54 (C 70 (Int32.ofNat p).toNatClampNeg).toNatClampNeg * B 53 (C 70 (Int32.ofNat p).toNatClampNeg).toNatClampNeg := by
        rw [cp, e70, z_ltI, e360]; omega
      obtain ⟨d1, d2⟩ := z_dm (by omega) c0 t0 tt e71
      by_cases full : P 27 7 < 40000
      · rw [if_pos full]
        have full' := full
        rw [z_ltI, I.tr, t40] at full'
        have n40 : ¬ C 45 20 = 40000 := fun e => by rw [e, t40] at full'; omega
        have It0 := I.t0
        have et := z_inc1 (b := 100000) I.t0 (by omega) (by decide)
        -- do both say that it meets?
        have hMt : mMt A B (z_wr C 45 20 (C 45 20 + 1)) (C 70 (Int32.ofNat p).toNatClampNeg) (C 71 (Int32.ofNat p).toNatClampNeg / B 53 (C 70 (Int32.ofNat p).toNatClampNeg).toNatClampNeg) (C 71 (Int32.ofNat p).toNatClampNeg - C 71 (Int32.ofNat p).toNatClampNeg / B 53 (C 70 (Int32.ofNat p).toNatClampNeg).toNatClampNeg * B 53 (C 70 (Int32.ofNat p).toNatClampNeg).toNatClampNeg) = true ↔ mP N (B 52 s.toNatClampNeg) (B 53 s.toNatClampNeg) y L tkp t.toInt := by
          rw [cp, e70, d2, d1]
          refine (mMt_I K t0 (by omega)).trans (mP_c wlt (fun w hw v => ?_))
          rw [kc]
          exact (hC_q (by decide)).trans ((I.rc w hw v).symm.trans (hT w hw v))
        have hXs : xHs N (J (32 + p)) t = true ↔ mP N (B 52 s.toNatClampNeg) (B 53 s.toNatClampNeg) y L tkp t.toInt := by
          have pt := z_pp t0
          rw [xHs_b g.hc t0 (by omega), ← rI_t (by omega), pt]
          exact hR _
        by_cases mt : mP N (B 52 s.toNatClampNeg) (B 53 s.toNatClampNeg) y L tkp t.toInt
        · rw [if_pos (hXs.mpr mt)]
          have sA := sk_A (A := A) (B := B) (C := C) (p := Int32.ofNat p) (f := F1) lt34 hk n40 (by rw [cp]; omega) (by rw [cp, e70, e360]; omega) (hMt.mpr mt)
          rw [cp] at sA
          have e1 := z_up1 t0 (by omega)
          have ek : (C 71 p + 1).toInt = (C 71 p).toInt + 1 := z_up1 (by omega) (by omega)
          have c20 : z_wr (z_wr C 45 20 (C 45 20 + 1)) 71 p (C 71 p + 1) 45 20 = C 45 20 + 1 := by rw [z_wr1 (by decide), z_wr2]
          have c34 : z_wr (z_wr C 45 20 (C 45 20 + 1)) 71 p (C 71 p + 1) 45 34 = C 45 34 := by rw [z_wr1 (by decide), z_wrj (by decide)]
          have c70 : z_wr (z_wr C 45 20 (C 45 20 + 1)) 71 p (C 71 p + 1) 70 = C 70 := (z_wr_ne (by decide)).trans (z_wr_ne (by decide))
          have c71 : z_wr (z_wr C 45 20 (C 45 20 + 1)) 71 p (C 71 p + 1) 71 p = C 71 p + 1 := z_wr2
          have p30 : z_wr P 27 7 (P 27 7 + 1) 30 = P 30 := z_wr_ne (by decide)
          have p31 : z_wr P 27 7 (P 27 7 + 1) 31 = P 31 := z_wr_ne (by decide)
          have p27 : z_wr P 27 7 (P 27 7 + 1) 27 7 = P 27 7 + 1 := z_wr2
          have p26 : z_wr P 27 7 (P 27 7 + 1) 27 6 = P 27 6 := z_wrj (by decide)
          have cj : ∀ j, j < p → z_wr (z_wr C 45 20 (C 45 20 + 1)) 71 p (C 71 p + 1) 71 j = C 71 j := fun j hj => (z_wrj (by omega)).trans (z_wr1 (by decide))
          have ch : ∀ w u, hC (z_wr (z_wr C 45 20 (C 45 20 + 1)) 71 p (C 71 p + 1)) (2 * (h : Int)) w u ↔ hC C (2 * (h : Int)) w u := fun w u => (hC_q (by decide)).trans (hC_q (by decide))
          generalize z_wr (z_wr C 45 20 (C 45 20 + 1)) 71 p (C 71 p + 1) = C1 at *
          generalize z_wr P 27 7 (P 27 7 + 1) = P1 at *
          have lDc : ∀ j, lD N B G Sq P1 C1 j = lD N B G Sq P C j := fun j => lD_c (by rw [p30]) (by rw [p31]) (by rw [c70])
          have I1 : z_I3 N B G T St Sq h M tk p J P1 C1 := ⟨I.rz, fun w hw u => (I.rc w hw u).trans (ch w u).symm, fun w hw u => by simp only [lDc]; exact I.cu w hw u, fun j hj w hw u => by simp only [lDc]; exact I.dj j hj w hw u, by rw [p27, c20, I.tr], by rw [c20]; omega, by rw [c20]; omega, by rw [p26]; exact I.m1, by rw [c34]; exact I.m2, I.m8, fun j hj => by have := I.sq j hj; unfold lS at *; rw [c70]; exact this, fun j hj => ky_c (by rw [p30]) (by rw [p31]) (by rw [c70]) (cj j hj) (I.ky j hj)⟩
          have R := ih (t + 1) (F1 + 1) J P1 C1 (by omega) (by omega) (by omega) I1 (by rw [c70]; exact e70) (by rw [p30]; exact e30) (by rw [c71, ek, e71, e1]; omega) hT hR (by rw [c20]; omega)
          have kp1 : z_kp p J P C J P1 C1 := ⟨fun j _ => ⟨by rw [p30], by rw [p31], rfl⟩, c70⟩
          rw [sA]
          rcases R with ⟨r1, C', r2, r3, r4⟩ | ⟨r1, C', r2, r3⟩ | ⟨r1, F', C', ⟨r2, r3, r4, r5⟩, r6, r7⟩
          · exact Or.inl ⟨r1, C', r2, r3, r4.trans c70⟩
          · exact Or.inr (Or.inl ⟨r1, C', r2, r3⟩)
          · exact Or.inr (Or.inr ⟨r1, F', C', ⟨r2, r3, r4, r5⟩, r6, kp_t kp1 r7⟩)
        · rw [if_neg (fun q => mt (hXs.mp q))]
          have sB := sk_B (A := A) (B := B) (C := C) (p := Int32.ofNat p) (f := F1) lt34 hk n40 (fun q => mt (hMt.mp q))
          have ep1 : Int32.ofNat p + 1 = Int32.ofNat (p + 1) := Int32.toInt_inj.mp (by rw [z_up1 (by omega) (by omega), ep, z_oft (by omega)]; omega)
          have em1 : Int32.ofNat (p + 1) + -1 = Int32.ofNat p := Int32.toInt_inj.mp (by rw [z_dec1 (by rw [z_oft (by omega)]; omega) (by rw [z_oft (by omega)]; omega), z_oft (by omega), ep]; omega)
          have cp1 := z_ofc (K := p + 1) (by omega)
          rw [cp, e70, ep1, cp1] at sB
          have ePut : ∀ who C0, mPut A B s (C 71 p) who C0 = mPt A B s c t who C0 := fun who C0 => by unfold mPut; rw [d2, d1]
          rw [ePut] at sB
          have fit : ∀ k, k < L → dT N (B 52 s.toNatClampNeg) y k ≤ (B 53 s.toNatClampNeg).toInt := fun k hk => by
            by_cases q : dT N (B 52 s.toNatClampNeg) y k ≤ (B 53 s.toNatClampNeg).toInt
            · exact q
            · exact absurd (Or.inl ⟨k, hk, by omega⟩) mt
          have apart : ∀ w u, dP N (B 52 s.toNatClampNeg) (B 53 s.toNatClampNeg) y L t.toInt w u → ¬ tkp w u := fun w u d hk => by
            obtain ⟨k, k1, k2, k3⟩ := d
            exact mt (Or.inr ⟨k, k1, u, k3, by rw [k2]; exact hk⟩)
          obtain ⟨x1, x2, x3⟩ := xHd_d (gv := 1) (st := t) (J := J) g.ha g.hr g.hc zb.1 zb.2 (by omega) p1 K.hn K.n0 wy fit (by omega) (by omega)
          have es1 := z_up1 s0 (by omega)
          have who : ¬ s + 1 = 0 := fun e => by rw [e] at es1; have : Int32.toInt 0 = 0 := rfl; omega
          have hP := mPt_h (C := z_wr C 45 20 (C 45 20 + 1)) (who := s + 1) K t0 (by omega) fit
          rw [kc] at hP
          have c20 : z_wr (mPt A B s c t (s + 1) (z_wr C 45 20 (C 45 20 + 1))) 71 (p + 1) 0 45 20 = C 45 20 + 1 := by rw [z_wr1 (by decide), mPt_q (by decide), z_wr2]
          have c34 : z_wr (mPt A B s c t (s + 1) (z_wr C 45 20 (C 45 20 + 1))) 71 (p + 1) 0 45 34 = C 45 34 := by rw [z_wr1 (by decide), mPt_q (by decide), z_wrj (by decide)]
          have c70 : z_wr (mPt A B s c t (s + 1) (z_wr C 45 20 (C 45 20 + 1))) 71 (p + 1) 0 70 = C 70 := by rw [z_wr_ne (by decide), mPt_q (by decide), z_wr_ne (by decide)]
          have c71 : z_wr (mPt A B s c t (s + 1) (z_wr C 45 20 (C 45 20 + 1))) 71 (p + 1) 0 71 (p + 1) = 0 := z_wr2
          have cj : ∀ j, j < p + 1 → z_wr (mPt A B s c t (s + 1) (z_wr C 45 20 (C 45 20 + 1))) 71 (p + 1) 0 71 j = C 71 j := fun j hj => by rw [z_wrj (by omega), mPt_q (by decide), z_wr1 (by decide)]
          have ch : ∀ w u, hC (z_wr (mPt A B s c t (s + 1) (z_wr C 45 20 (C 45 20 + 1))) 71 (p + 1) 0) (2 * (h : Int)) w u ↔ (hC C (2 * (h : Int)) w u ∨ dP N (B 52 s.toNatClampNeg) (B 53 s.toNatClampNeg) y L t.toInt w u) := fun w u => by
            refine (hC_q (by decide)).trans ((hP w u).trans ?_)
            unfold gO
            rw [if_neg who, propext (hC_q (C := C) (m := 2 * (h : Int)) (q := 45) (i := 20) (v := C 45 20 + 1) (w := w) (u := u) (by decide))]
          have p30 : z_wr (z_wr P 27 7 (P 27 7 + 1)) 31 p t 30 = P 30 := (z_wr_ne (by decide)).trans (z_wr_ne (by decide))
          have p31 : z_wr (z_wr P 27 7 (P 27 7 + 1)) 31 p t 31 p = t := z_wr2
          have pj : ∀ j, j < p → z_wr (z_wr P 27 7 (P 27 7 + 1)) 31 p t 31 j = P 31 j := fun j hj => (z_wrj (by omega)).trans (z_wr1 (by decide))
          have p27 : z_wr (z_wr P 27 7 (P 27 7 + 1)) 31 p t 27 7 = P 27 7 + 1 := (z_wr1 (by decide)).trans z_wr2
          have p26 : z_wr (z_wr P 27 7 (P 27 7 + 1)) 31 p t 27 6 = P 27 6 := (z_wr1 (by decide)).trans (z_wrj (by decide))
          have x4 : ∀ w u, rI h (xHd N (B 52 s.toNatClampNeg) (B 53 s.toNatClampNeg) y 1 5 0 t J (15 + w)) u = true ↔ (rI h (J (15 + w)) u = true ∨ dP N (B 52 s.toNatClampNeg) (B 53 s.toNatClampNeg) y L t.toInt w u) := fun w u => by
            refine (x3 w u).trans ?_
            unfold gO
            rw [if_neg (by decide)]
          rw [sB]
          generalize z_wr (mPt A B s c t (s + 1) (z_wr C 45 20 (C 45 20 + 1))) 71 (p + 1) 0 = C2 at *
          generalize z_wr (z_wr P 27 7 (P 27 7 + 1)) 31 p t = P1 at *
          generalize hJ1 : xHd N (B 52 s.toNatClampNeg) (B 53 s.toNatClampNeg) y 1 5 0 t J = J1 at *
          have lDj : ∀ j, j < p → lD N B G Sq P1 C2 j = lD N B G Sq P C j := fun j hj => lD_c (by rw [p30]) (pj j hj) (by rw [c70])
          have lDp : lD N B G Sq P1 C2 p = dP N (B 52 s.toNatClampNeg) (B 53 s.toNatClampNeg) y L t.toInt := by
            unfold lD lL lS lY
            rw [c70, e70, p31, p30, e30, hq, hL]
            show dP N _ _ (G (q + 1) c.toNatClampNeg) L t.toInt = _
            rw [hy]
          have I1 : z_I3 N B G T St Sq h M tk (p + 1) J1 P1 C2 := by
            refine ⟨fun w hw => x1 w (I.rz w hw), fun w hw u => ?_, fun w hw u => ?_, fun j hj w hw u hd => ?_, by rw [p27, c20, I.tr], by rw [c20]; omega, by rw [c20]; omega, by rw [p26]; exact I.m1, by rw [c34]; exact I.m2, I.m8, fun j hj => by have := I.sq j hj; unfold lS at *; rw [c70]; exact this, fun j hj => ?_⟩
            · rw [x4 w u, ch w u, I.rc w hw u]
            · rw [x4 w u, I.cu w hw u, z_ex1, lDp, ← or_assoc]
              have e : (∃ j, j < p ∧ lD N B G Sq P1 C2 j w u) ↔ ∃ j, j < p ∧ lD N B G Sq P C j w u := ⟨fun ⟨j, a, b⟩ => ⟨j, a, by rw [← lDj j a]; exact b⟩, fun ⟨j, a, b⟩ => ⟨j, a, by rw [lDj j a]; exact b⟩⟩
              rw [e]
            · by_cases e : j = p
              · subst e
                rw [lDp] at hd
                have n := apart w u hd
                rw [← hT w hw u, I.cu w hw u] at n
                exact ⟨fun q => n (Or.inl q), fun i hi q => n (Or.inr ⟨i, hi, by rw [← lDj i hi]; exact q⟩)⟩
              · have jp : j < p := by omega
                rw [lDj j jp] at hd
                obtain ⟨a, b⟩ := I.dj j jp w hw u hd
                exact ⟨a, fun i hi => by rw [lDj i (by omega)]; exact b i hi⟩
            · by_cases e : j = p
              · subst e
                unfold z_ky lL lS lY
                rw [c70, e70, p30, e30, p31, cj j hj, hq, hL]
                refine ⟨c0, c1, t0, tt, e71, fun k hk => ?_⟩
                show dT N _ (G (q + 1) c.toNatClampNeg) k ≤ _
                rw [hy]; exact fit k hk
              · exact ky_c (by rw [p30]) (pj j (by omega)) (by rw [c70]) (cj j hj) (I.ky j (by omega))
          have R := IH F1 J1 P1 C2 I1 c71 (by rw [c20]; omega)
          generalize rec J1 P1 = r at R ⊢
          rcases R with ⟨r1, C3, r2, r3, r4⟩ | ⟨r1, C3, r2, r3⟩ | ⟨r1, F', C3, ⟨r2, r3⟩, r6, r7⟩
          · rw [if_neg (show ¬ r.1 = 0 by rw [r1]; decide)]
            exact Or.inl ⟨r1, C3, r2, r3, r4.trans c70⟩
          · rw [if_neg (show ¬ r.1 = 0 by rw [r1]; decide)]
            exact Or.inr (Or.inl ⟨r1, C3, r2, r3⟩)
          · rw [if_pos r1, r2]
            have k30 : r.2.2 30 p = c := (r7.1 p (by omega)).1.trans (by rw [p30]; exact e30)
            have k31 : r.2.2 31 p = t := (r7.1 p (by omega)).2.1.trans p31
            have k70 : C3 70 = C 70 := r7.2.trans c70
            have k71 : (C3 71 p).toInt = c.toInt * (B 53 s.toNatClampNeg).toInt + t.toInt := by
              have := (r6.ky p (by omega)).2.2.2.2.1
              unfold lS at this
              rw [k70, e70, k30, k31] at this
              exact this
            obtain ⟨d3, d4⟩ := z_dm (by omega) c0 t0 tt k71
            have ePut3 : mPut A B (C3 70 p) (C3 71 p) 0 C3 = mPt A B s c t 0 C3 := by
              unfold mPut
              rw [k70, e70, d4, d3]
            have eEx : mEx A B F' (Int32.ofNat (p + 1)) C3 = mSk A B F' (Int32.ofNat p) (z_wr (mPt A B s c t 0 C3) 71 p (C3 71 p + 1)) := by
              unfold mEx
              rw [em1, cp, ePut3, if_neg (by rw [z_ltI, ep]; have : Int32.toInt 0 = 0 := rfl; omega), mPt_q (by decide)]
            rw [eEx]
            obtain ⟨y1, y2, y3⟩ := xHd_d (gv := 0) (st := t) (J := r.2.1) g.ha g.hr g.hc zb.1 zb.2 (by omega) p1 K.hn K.n0 wy fit (by omega) (by omega)
            have hP3 := mPt_h (C := C3) (who := 0) K t0 (by omega) fit
            rw [kc] at hP3
            have c420 : z_wr (mPt A B s c t 0 C3) 71 p (C3 71 p + 1) 45 20 = C3 45 20 := by rw [z_wr1 (by decide), mPt_q (by decide)]
            have c434 : z_wr (mPt A B s c t 0 C3) 71 p (C3 71 p + 1) 45 34 = C3 45 34 := by rw [z_wr1 (by decide), mPt_q (by decide)]
            have c470 : z_wr (mPt A B s c t 0 C3) 71 p (C3 71 p + 1) 70 = C3 70 := by rw [z_wr_ne (by decide), mPt_q (by decide)]
            have c471 : z_wr (mPt A B s c t 0 C3) 71 p (C3 71 p + 1) 71 p = C3 71 p + 1 := z_wr2
            have c4j : ∀ j, j < p → z_wr (mPt A B s c t 0 C3) 71 p (C3 71 p + 1) 71 j = C3 71 j := fun j hj => by rw [z_wrj (by omega), mPt_q (by decide)]
            have ch4 : ∀ w u, hC (z_wr (mPt A B s c t 0 C3) 71 p (C3 71 p + 1)) (2 * (h : Int)) w u ↔ (hC C3 (2 * (h : Int)) w u ∧ ¬ dP N (B 52 s.toNatClampNeg) (B 53 s.toNatClampNeg) y L t.toInt w u) := fun w u => by
              refine (hC_q (by decide)).trans ((hP3 w u).trans ?_)
              unfold gO
              rw [if_pos rfl]
            have y4 : ∀ w u, rI h (xHd N (B 52 s.toNatClampNeg) (B 53 s.toNatClampNeg) y 0 5 0 t r.2.1 (15 + w)) u = true ↔ (rI h (r.2.1 (15 + w)) u = true ∧ ¬ dP N (B 52 s.toNatClampNeg) (B 53 s.toNatClampNeg) y L t.toInt w u) := fun w u => by
              refine (y3 w u).trans ?_
              unfold gO
              rw [if_pos rfl]
            generalize z_wr (mPt A B s c t 0 C3) 71 p (C3 71 p + 1) = C4 at *
            generalize xHd N (B 52 s.toNatClampNeg) (B 53 s.toNatClampNeg) y 0 5 0 t r.2.1 = J4 at *
            have lD3p : lD N B G Sq r.2.2 C3 p = dP N (B 52 s.toNatClampNeg) (B 53 s.toNatClampNeg) y L t.toInt := (lD_c (r7.1 p (by omega)).1 (r7.1 p (by omega)).2.1 (by rw [r7.2])).trans lDp
            have lD4 : ∀ j, lD N B G Sq r.2.2 C4 j = lD N B G Sq r.2.2 C3 j := fun j => lD_c rfl rfl (by rw [c470])
            have lD0 : ∀ j, j < p → lD N B G Sq r.2.2 C4 j = lD N B G Sq P C j := fun j hj => (lD4 j).trans ((lD_c (r7.1 j (by omega)).1 (r7.1 j (by omega)).2.1 (by rw [r7.2])).trans (lDj j hj))
            have cu4 : ∀ w, w < 12 → ∀ u, rI h (J4 (15 + w)) u = true ↔ (tk w u ∨ ∃ j, j < p ∧ lD N B G Sq r.2.2 C4 j w u) := fun w hw u => by
              rw [y4 w u, r6.cu w hw u, z_ex1, lD3p]
              have no := r6.dj p (by omega) w hw u
              rw [lD3p] at no
              constructor
              · rintro ⟨a | ⟨j, a, b⟩ | a, n⟩
                · exact Or.inl a
                · exact Or.inr ⟨j, a, by rw [lD4]; exact b⟩
                · exact absurd a n
              · rintro (a | ⟨j, a, b⟩)
                · exact ⟨Or.inl a, fun d => (no d).1 a⟩
                · rw [lD4] at b
                  exact ⟨Or.inr (Or.inl ⟨j, a, b⟩), fun d => (no d).2 j a b⟩
            have I4 : z_I3 N B G T St Sq h M tk p J4 r.2.2 C4 := by
              refine ⟨fun w hw => y1 w (r6.rz w hw), fun w hw u => ?_, cu4, fun j hj w hw u hd => ?_, by rw [c420]; exact r6.tr, by rw [c420]; exact r6.t0, by rw [c420]; exact r6.t1, r6.m1, by rw [c434]; exact r6.m2, r6.m8, fun j hj => by have := r6.sq j hj; unfold lS at *; rw [c470]; exact this, fun j hj => ky_c rfl rfl (by rw [c470]) (c4j j hj) (r6.ky j (by omega))⟩
              · rw [y4 w u, ch4 w u, r6.rc w hw u]
              · rw [lD4] at hd
                obtain ⟨a, b⟩ := r6.dj j (by omega) w hw u hd
                exact ⟨a, fun i hi => by rw [lD4]; exact b i hi⟩
            have hT4 : ∀ w, w < 12 → ∀ u, rI h (J4 (15 + w)) u = true ↔ tkp w u := fun w hw u => by
              rw [cu4 w hw u, ← hT w hw u, I.cu w hw u]
              exact ⟨fun a => a.elim Or.inl (fun ⟨j, a, b⟩ => Or.inr ⟨j, a, by rw [← lD0 j a]; exact b⟩), fun a => a.elim Or.inl (fun ⟨j, a, b⟩ => Or.inr ⟨j, a, by rw [lD0 j a]; exact b⟩)⟩
            have rg : ∀ j, j < p + 1 → J4 (32 + j) = J (32 + j) := fun j hj => (y2 (32 + j) (by omega) (by omega)).trans ((r7.1 j hj).2.2.trans (x2 (32 + j) (by omega) (by omega)))
            have e1 := z_up1 t0 (by omega)
            have ek : (C3 71 p + 1).toInt = (C3 71 p).toInt + 1 := z_up1 (by omega) (by omega)
            have R4 := ih (t + 1) F' J4 r.2.2 C4 (by omega) (by omega) (by omega) I4 (by rw [c470, k70]; exact e70) k30 (by rw [c471, ek, k71, e1]; omega) hT4 (by rw [rg p (by omega)]; exact hR) (by rw [c420]; omega)
            have kp1 : z_kp p J P C J4 r.2.2 C4 := ⟨fun j hj => ⟨(r7.1 j (by omega)).1.trans (by rw [p30]), (r7.1 j (by omega)).2.1.trans (pj j hj), rg j (by omega)⟩, c470.trans k70⟩
            rcases R4 with ⟨r1, C', r2, r3, r4⟩ | ⟨r1, C', r2, r3⟩ | ⟨r1, F'', C', ⟨r2, r3, r4, r5⟩, r6, r7⟩
            · exact Or.inl ⟨r1, C', r2, r3, r4.trans (c470.trans k70)⟩
            · exact Or.inr (Or.inl ⟨r1, C', r2, r3⟩)
            · exact Or.inr (Or.inr ⟨r1, F'', C', ⟨r2, r3, r4, r5⟩, r6, kp_t kp1 r7⟩)
      · rw [if_neg full]
        have full' := full
        rw [z_ltI, I.tr, t40] at full'
        have t1' := I.t1
        have e40 : C 45 20 = 40000 := Int32.toInt_inj.mp (by rw [t40]; omega)
        exact Or.inr (Or.inl ⟨rfl, C, sk_C lt34 hk e40, I.tr⟩)
    · rw [if_neg tt]
      rw [z_ltI] at tt
      refine Or.inr (Or.inr ⟨rfl, F1 + 1, C, ⟨rfl, hF, ?_, e30⟩, I, kp_0⟩)
      rw [e71, Int.add_mul, Int.one_mul]
      omega
