/-! Both keep the places that they found. -/
def z_KB (P C B B' : z_A) (i : Nat) : Prop := (∀ p, p ≠ 58 → p ≠ 59 → p ≠ 60 → B' p = B p) ∧ (∀ j, j < i → B' 58 (lS C j) = 1 ∧ B' 59 (lS C j) = P 30 j ∧ B' 60 (lS C j) = P 31 j) ∧ ∀ s, (∀ j, j < i → lS C j ≠ s) → B' 58 s = B 58 s ∧ B' 59 s = B 59 s ∧ B' 60 s = B 60 s
def z_KG (Sq : z_R) (P G G' : z_A) (i : Nat) : Prop := (∀ q k, k ≠ 4 → k ≠ 5 → G' q k = G q k) ∧ (∀ j, j < i → ∀ q, Sq j = some q → G' q 4 = P 30 j ∧ G' q 5 = P 31 j) ∧ ∀ q, (∀ j, j < i → Sq j ≠ some q) → G' q = G q
theorem keep_b {N B0 G : z_A} {Sq : z_R} {P C : z_A} {M : Nat} (m8 : M ≤ 8) (m2 : C 45 34 = Int32.ofNat M) (up : ∀ j j', j < j' → j' < M → lS C j < lS C j') (p53 : ∀ j, j < M → 0 < (B0 53 (lS C j)).toInt) (ky : ∀ j, j < M → z_ky N B0 G Sq P C j) : ∀ (k i : Nat) (B : z_A), i ≤ M → M < i + k → z_KB P C B0 B i → z_KB P C B0 (mKp C 1 k (Int32.ofNat i) B) M := by
  have eM := z_oft (K := M) (by omega)
  intro k
  induction k with
  | zero => intro i B h1 h2; omega
  | succ k ih =>
    intro i B h1 h2 I
    have ei := z_oft (K := i) (by omega)
    have ci := z_ofc (K := i) (by omega)
    rw [mKp_s, m2]
    by_cases c : i < M
    · have ek : Int32.ofNat i + 1 = Int32.ofNat (i + 1) := Int32.toInt_inj.mp (by rw [z_up1 (by omega) (by omega), ei, z_oft (by omega)]; omega)
      rw [if_pos (by rw [z_ltI]; omega), if_pos rfl, ek, ci]
      obtain ⟨y1, y2, y3, y4, y5, -⟩ := ky i c
      have b53 : B 53 = B0 53 := I.1 53 (by decide) (by decide) (by decide)
      have es : (C 70 i).toNatClampNeg = lS C i := rfl
      rw [es, b53]
      obtain ⟨d1, d2⟩ := z_dm (p53 i c) y1 y3 y4 y5
      rw [d2, d1]
      refine ih (i + 1) _ (by omega) (by omega) ?_
      have w58 : ∀ s, mPlB B (C 70 i) (P 30 i) (P 31 i) 58 s = upd (B 58) (lS C i) 1 s := fun s => by
        unfold mPlB
        rw [z_wr1 (by decide), z_wr1 (by decide), z_wr_eq]; rfl
      have w59 : ∀ s, mPlB B (C 70 i) (P 30 i) (P 31 i) 59 s = upd (B 59) (lS C i) (P 30 i) s := fun s => by
        unfold mPlB
        rw [z_wr1 (by decide), z_wr_eq, z_wr_ne (by decide)]; rfl
      have w60 : ∀ s, mPlB B (C 70 i) (P 30 i) (P 31 i) 60 s = upd (B 60) (lS C i) (P 31 i) s := fun s => by
        unfold mPlB
        rw [z_wr_eq, z_wr_ne (by decide), z_wr_ne (by decide)]; rfl
      refine ⟨fun p p1 p2 p3 => ?_, fun j hj => ?_, fun s hs => ?_⟩
      · unfold mPlB
        rw [z_wr_ne p3, z_wr_ne p2, z_wr_ne p1]
        exact I.1 p p1 p2 p3
      · rw [w58, w59, w60]
        unfold upd
        by_cases e : j = i
        · subst e
          exact ⟨if_pos rfl, if_pos rfl, if_pos rfl⟩
        · have ne : ¬ lS C j = lS C i := fun q => by
            have := up j i (by omega) c
            omega
          rw [if_neg ne, if_neg ne, if_neg ne]
          exact I.2.1 j (by omega)
      · rw [w58, w59, w60]
        unfold upd
        have ne : ¬ s = lS C i := fun q => hs i (by omega) q.symm
        rw [if_neg ne, if_neg ne, if_neg ne]
        exact I.2.2 s (fun j hj => hs j (by omega))
    · have e : i = M := by omega
      subst e
      rw [if_neg (by rw [z_ltI]; omega)]
      exact I
theorem keep_g {Sq : z_R} {P G0 : z_A} {M : Nat} (m8 : M ≤ 8) (m1 : P 27 6 = Int32.ofNat M) (hq : ∀ j, j < M → ∃ q, Sq j = some q) (inj : ∀ j j', j < M → j' < M → Sq j = Sq j' → j = j') : ∀ (k i : Nat) (G : z_A), i ≤ M → M < i + k → z_KG Sq P G0 G i → z_KG Sq P G0 (xKp P Sq k (Int32.ofNat i) G) M := by
  have eM := z_oft (K := M) (by omega)
  intro k
  induction k with
  | zero => intro i G h1 h2; omega
  | succ k ih =>
    intro i G h1 h2 I
    have ei := z_oft (K := i) (by omega)
    have ci := z_ofc (K := i) (by omega)
    have st_ : xKp P Sq (k + 1) (Int32.ofNat i) G = if Int32.ofNat i < P 27 6 then xKp P Sq k (Int32.ofNat i + 1) (match Sq (Int32.ofNat i).toNatClampNeg with
      | none => G
      | some q => z_wr (z_wr G q 4 (P 30 (Int32.ofNat i).toNatClampNeg)) q 5 (P 31 (Int32.ofNat i).toNatClampNeg)) else G := rfl
    rw [st_, m1]
    by_cases c : i < M
    · have ek : Int32.ofNat i + 1 = Int32.ofNat (i + 1) := Int32.toInt_inj.mp (by rw [z_up1 (by omega) (by omega), ei, z_oft (by omega)]; omega)
      obtain ⟨q, q1⟩ := hq i c
      rw [if_pos (by rw [z_ltI]; omega), ek, ci, q1]
      refine ih (i + 1) _ (by omega) (by omega) ⟨fun r k' k4 k5 => ?_, fun j hj r hr => ?_, fun r hr => ?_⟩
      · show z_wr (z_wr G q 4 (P 30 i)) q 5 (P 31 i) r k' = _
        rw [z_wrj k5, z_wrj k4]
        exact I.1 r k' k4 k5
      · show z_wr (z_wr G q 4 (P 30 i)) q 5 (P 31 i) r 4 = _ ∧ z_wr (z_wr G q 4 (P 30 i)) q 5 (P 31 i) r 5 = _
        by_cases e : j = i
        · subst e
          rw [q1] at hr
          cases hr
          exact ⟨(z_wrj (by decide)).trans z_wr2, z_wr2⟩
        · have ne : r ≠ q := fun e' => by
            rw [e', ← q1] at hr
            exact e (inj j i (by omega) c hr)
          rw [z_wr_ne ne, z_wr_ne ne]
          exact I.2.1 j (by omega) r hr
      · show z_wr (z_wr G q 4 (P 30 i)) q 5 (P 31 i) r = _
        have ne : r ≠ q := fun e' => by
          rw [e'] at hr
          exact hr i (by omega) q1
        rw [z_wr_ne ne, z_wr_ne ne]
        exact I.2.2 r (fun j hj => hr j (by omega))
    · have e : i = M := by omega
      subst e
      rw [if_neg (by rw [z_ltI]; omega)]
      exact I
/-- so all streams' places are alike afterwards, and no two meet -/
theorem keep_SS {N A B G B' G' : z_A} {T : Int32} {St Sq : z_R} {D : Nat → Nat} {n h M : Nat} {kp : Nat → Prop} {J : z_J} {P C : z_A} (S : z_SS N A B G T St D n h) (I : z_I3 N B G T St Sq h M (fun w u => ∃ s, s < T.toNatClampNeg ∧ kp s ∧ sD N B G St s w u) M J P C) (kb : ∀ s, kp s → ¬ B 58 s = 0) (hB' : z_MB B') (KB : z_KB P C B B' M) (KG : z_KG Sq P G G' M) (up : ∀ j j', j < j' → j' < M → lS C j < lS C j') (nk : ∀ j, j < M → ¬ kp (lS C j)) (al : ∀ s : Nat, (s : Int) < T.toInt → ¬ kp s → ∃ j, j < M ∧ lS C j = s) : z_SS N A B' G' T St D n h := by
  obtain ⟨b1, b2, b3⟩ := KB
  obtain ⟨g1, g2, g3⟩ := KG
  have b52 : B' 52 = B 52 := b1 52 (by decide) (by decide) (by decide)
  have b53 : B' 53 = B 53 := b1 53 (by decide) (by decide) (by decide)
  have b54 : B' 54 = B 54 := b1 54 (by decide) (by decide) (by decide)
  have b55 : B' 55 = B 55 := b1 55 (by decide) (by decide) (by decide)
  have b56 : B' 56 = B 56 := b1 56 (by decide) (by decide) (by decide)
  have b57 : B' 57 = B 57 := b1 57 (by decide) (by decide) (by decide)
  have b45 : B' 45 = B 45 := b1 45 (by decide) (by decide) (by decide)
  have sq : ∀ j, j < M → (lS C j : Int) < T.toInt ∧ ∃ q, Sq j = some q ∧ St (lS C j) = some q := fun j hj => by
    obtain ⟨a, b, c⟩ := I.sq j hj
    have := z_pp a
    unfold lS at *
    exact ⟨by omega, c⟩
  -- a stream's ways stay
  have gw : ∀ s : Nat, (s : Int) < T.toInt → ∀ q, St s = some q → G' (q + 1) = G (q + 1) := fun s hs q hq => by
    obtain ⟨q', e1, kS, -⟩ := S.st s hs
    rw [hq] at e1
    cases e1
    refine g3 (q + 1) (fun j hj e => ?_)
    obtain ⟨c1, q2, c2, c3⟩ := sq j hj
    rw [e] at c2
    cases c2
    obtain ⟨q3, e3, kS3, -⟩ := S.st _ c1
    rw [c3] at e3
    cases e3
    have := kS3.1
    rw [kS.2.1] at this
    exact absurd this (by decide)
  have cw : ∀ s c y L, z_CW N B' s c y L ↔ z_CW N B s c y L := fun s c y L => by unfold z_CW; rw [b55, b56, b57]
  have s1 : ∀ s : Nat, (s : Int) < T.toInt → ∀ q, St s = some q → z_S1 N G' B' h s q := fun s hs q hq => by
    obtain ⟨a0, a1, a3, a4, a5⟩ := S.g3.ss s hs q hq
    refine ⟨by rw [g1 q 0 (by decide) (by decide), b52]; exact a0, by rw [g1 q 1 (by decide) (by decide), b53]; exact a1, by rw [g1 q 3 (by decide) (by decide), b54]; exact a3, by rw [b53]; exact a4, fun c hc => ?_⟩
    rw [b54] at hc
    rw [cw, gw s hs q hq, b55]
    exact a5 c hc
  -- doors of a stream that was sought
  have so : ∀ j, j < M → sD N B' G' St (lS C j) = lD N B G Sq P C j := fun j hj => by
    obtain ⟨c1, q, c2, c3⟩ := sq j hj
    obtain ⟨-, e9, e6⟩ := b2 j hj
    have e : dP N (B' 52 (lS C j)) (B' 53 (lS C j)) (sY B' G' q (lS C j)) (sL B' (lS C j)) (B' 60 (lS C j)).toInt = lD N B G Sq P C j := by
      unfold lD lL lY sY sL
      rw [e9, e6, b52, b53, b55, gw _ c1 q c3, c2]
    funext w u
    refine propext ⟨?_, fun a => ⟨q, c3, by rw [e]; exact a⟩⟩
    rintro ⟨q', a, b⟩
    rw [c3] at a
    cases a
    rw [e] at b
    exact b
  -- and of one that was not
  have sn : ∀ s : Nat, (s : Int) < T.toInt → (∀ j, j < M → lS C j ≠ s) → sD N B' G' St s = sD N B G St s := fun s hs hn => by
    obtain ⟨-, e9, e6⟩ := b3 s hn
    obtain ⟨q, hq, -⟩ := S.st s hs
    have e : ∀ q, St s = some q → dP N (B' 52 s) (B' 53 s) (sY B' G' q s) (sL B' s) (B' 60 s).toInt = dP N (B 52 s) (B 53 s) (sY B G q s) (sL B s) (B 60 s).toInt := fun q hq => by
      unfold sY sL
      rw [e9, e6, b52, b53, b55, gw s hs q hq]
    funext w u
    unfold sD
    exact propext ⟨fun ⟨q, a, b⟩ => ⟨q, a, by rw [← e q a]; exact b⟩, fun ⟨q, a, b⟩ => ⟨q, a, by rw [e q a]; exact b⟩⟩
  have pT : ∀ s : Nat, (s : Int) < T.toInt → s < T.toNatClampNeg := fun s hs => by have := z_pp (p := T) (by omega); omega
  -- a placed one that was not sought was kept
  have kept : ∀ s : Nat, (s : Int) < T.toInt → (∀ j, j < M → lS C j ≠ s) → kp s := fun s hs hn => by
    by_cases q : kp s
    · exact q
    · obtain ⟨j, j1, j2⟩ := al s hs q
      exact absurd j2 (hn j j1)
  refine ⟨⟨S.g3.ha, S.g3.hr, S.g3.hA, hB', S.g3.hN, S.g3.hc, by rw [b45]; exact S.g3.hT, s1⟩, fun s hs => ?_, S.inj, fun s s' hs hs' ne p p' w hw u d d' => ?_⟩
  · obtain ⟨q, hq, kS, s2⟩ := S.st s hs
    refine ⟨q, hq, kS, ?_⟩
    by_cases c : ∃ j, j < M ∧ lS C j = s
    · obtain ⟨j, hj, e⟩ := c
      subst e
      obtain ⟨c1, q', c2, c3⟩ := sq j hj
      rw [hq] at c3
      cases c3
      obtain ⟨e8, e9, e6⟩ := b2 j hj
      obtain ⟨e4, e5⟩ := g2 j hj q c2
      obtain ⟨-, -, -, y4, -, y6⟩ := I.ky j hj
      refine Or.inr ⟨by rw [e8]; decide, by rw [e4, e9], by rw [e5, e6], by rw [e6, b53]; exact y4, fun k hk => ?_⟩
      have a := y6 k (by unfold sL at hk; rw [e9, b55] at hk; exact hk)
      unfold sY
      rw [b52, b53, e9, gw _ hs q hq]
      unfold lY at a
      rw [c2] at a
      exact a
    · have hn : ∀ j, j < M → lS C j ≠ s := fun j hj e => c ⟨j, hj, e⟩
      obtain ⟨e8, e9, e6⟩ := b3 s hn
      have gq : G' q = G q := g3 q (fun j hj e => by
        obtain ⟨c1, q2, c2, c3⟩ := sq j hj
        rw [e] at c2
        cases c2
        exact hn j hj (S.inj _ _ q c1 hs c3 hq))
      unfold z_S2 sY sL at *
      rw [e8, e9, e6, gq, b52, b53, b55, gw s hs q hq]
      exact s2
  · by_cases c : ∃ j, j < M ∧ lS C j = s
    · obtain ⟨j, hj, e⟩ := c
      subst e
      rw [so j hj] at d
      by_cases c' : ∃ j, j < M ∧ lS C j = s'
      · obtain ⟨j', hj', e'⟩ := c'
        subst e'
        rw [so j' hj'] at d'
        rcases Nat.lt_trichotomy j j' with q | q | q
        · exact (I.dj j' hj' w hw u d').2 j q d
        · exact ne (by rw [q])
        · exact (I.dj j hj w hw u d).2 j' q d'
      · have hn : ∀ j, j < M → lS C j ≠ s' := fun j hj e => c' ⟨j, hj, e⟩
        rw [sn s' hs' hn] at d'
        exact (I.dj j hj w hw u d).1 ⟨s', pT s' hs', kept s' hs' hn, d'⟩
    · have hn : ∀ j, j < M → lS C j ≠ s := fun j hj e => c ⟨j, hj, e⟩
      rw [sn s hs hn] at d
      by_cases c' : ∃ j, j < M ∧ lS C j = s'
      · obtain ⟨j', hj', e'⟩ := c'
        subst e'
        rw [so j' hj'] at d'
        exact (I.dj j' hj' w hw u d').1 ⟨s, pT s hs, kept s hs hn, d⟩
      · have hn' : ∀ j, j < M → lS C j ≠ s' := fun j hj e => c' ⟨j, hj, e⟩
        rw [sn s' hs' hn'] at d'
        exact S.pd s s' hs hs' ne (kb s (kept s hs hn)) (kb s' (kept s' hs' hn')) w hw u d d'
