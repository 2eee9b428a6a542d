section Zg
variable {S : ai_S} {d z : Nat} {Q : Option Value → ai_H → Prop} {N G P E : z_A} {W : Nat → Int32} {T Pt : Int32} {J : Nat → Int64 × Int64} {St Sq Lt Hd : z_R} {D : Nat → Nat} {n : Nat} {A B C F U V : z_A} {x : z_X} {m : z_M}
/-- both alike, streams and their places too -/
def z_R3 : z_X → z_M → Prop := fun ⟨N, W, T, G, J, P, St, Sq, Pt, E, Lt, Hd, D, n⟩ ⟨A, B, C, F, U, V⟩ => z_R1 (N, W, T, G, J, P, St, Sq, Pt, E, Lt, Hd, D, n) (A, B, C, F, U, V) ∧ z_WF N ∧ P 27 7 = C 45 20 ∧ ∃ h, z_SS N A B G T St D n h ∧ z_L3 N B G St h (fun s => ¬ B 58 s = 0) T.toNatClampNeg J C
theorem SS_N {N N' A A' B G : z_A} {T : Int32} {St : z_R} {D : Nat → Nat} {n h : Nat} (S : z_SS N A B G T St D n h) (e8 : N' 1 8 = N 1 8) (e7 : N' 1 7 = N 1 7) (eB : ∀ b, xB N b = true → xB N' b = true) (h5 : N' 5 = N 5) (hT : ∀ w z, xT N' w z = xT N w z) (hC : ∀ w z, xC N' w z = xC N w z) (hS : ∀ w, xS N' w = xS N w) (ha : z_RA N') (hr : z_RN N') (hA : z_MA A') (hN : z_NA N' A') : z_SS N' A' B G T St D n h ∧ ∀ (kp : Nat → Prop) (i : Nat) (J : z_J) (C : z_A), z_L3 N B G St h kp i J C → z_L3 N' B G St h kp i J C := by
  have xw : ∀ w, xW N' w = xW N w := fun w => by unfold xW; rw [e7]
  have eT : ∀ z y, dT N' z y = dT N z y := fun z y => by funext k; unfold dT; rw [hT]
  have eO : ∀ z y, oI N' z y = oI N z y := fun z y => by
    funext k
    induction k with
    | zero => rfl
    | succ k ih => unfold oI; rw [ih, hC, hS]
  have eP : ∀ z p y L t, dP N' z p y L t = dP N z p y L t := fun z p y L t => by funext w u; unfold dP; rw [eT, eO]
  have eD : ∀ s, sD N' B G St s = sD N B G St s := fun s => by funext w u; unfold sD; simp only [eP]
  have cw : ∀ s c y L, z_CW N B s c y L → z_CW N' B s c y L := fun s c y L ⟨a1, a2, a3, a4, a5, a6⟩ => by
    refine ⟨a1, a2, a3, fun k hk => ?_, a5, a6⟩
    obtain ⟨b1, b2, b3⟩ := a4 k hk
    rw [xw, h5]
    exact ⟨b1, b2, eB _ b3⟩
  refine ⟨⟨⟨ha, hr, hA, S.g3.hB, hN, ?_, S.g3.hT, fun s hs q hq => ?_⟩, fun s hs => ?_, S.inj, fun s s' hs hs' ne p p' w hw u => ?_⟩, fun kp i J C I => ?_⟩
  · obtain ⟨c1, c2, c3⟩ := S.g3.hc
    exact ⟨by rw [e8]; exact c1, by rw [e8]; exact c2, c3⟩
  · obtain ⟨a0, a1, a3, a4, a5⟩ := S.g3.ss s hs q hq
    exact ⟨a0, a1, a3, a4, fun c hc => cw _ _ _ _ (a5 c hc)⟩
  · obtain ⟨q, hq, kS, s2⟩ := S.st s hs
    refine ⟨q, hq, kS, ?_⟩
    unfold z_S2 at *
    rw [eT]
    exact s2
  · rw [eD, eD]
    exact S.pd s s' hs hs' ne p p' w hw u
  · refine ⟨I.rz, I.rc, fun w hw u => ?_, fun w hw u s hs ks d => ?_, I.zz⟩
    · simp only [eD]
      exact I.cu w hw u
    · rw [eD] at d
      exact I.ow w hw u s hs ks d
/-- no streams: nothing stands in the way of a new net -/
theorem SS_0 {N A B G : z_A} {T : Int32} {St : z_R} {D : Nat → Nat} {n h : Nat} (T0 : T.toInt = 0) (ha : z_RA N) (hr : z_RN N) (hA : z_MA A) (hB : z_MB B) (hN : z_NA N A) (hc : z_Cc N h) (hT : T = B 45 10) : z_SS N A B G T St D n h :=
  ⟨⟨ha, hr, hA, hB, hN, hc, hT, fun s hs => by omega⟩, fun s hs => by omega, fun s s' q hs => by omega, fun s s' hs => by omega⟩
theorem L3_z {N N' B G : z_A} {T : Int32} {St : z_R} {h h' : Nat} {kp : Nat → Prop} {J : z_J} {C : z_A} (T0 : T.toInt = 0) (hc : z_Cc N' h') (L : z_L3 N B G St h kp T.toNatClampNeg J C) : z_L3 N' B G St h' kp T.toNatClampNeg J C := by
  have p := z_pp (p := T) (by omega)
  have e : T.toNatClampNeg = 0 := by omega
  obtain ⟨a, b⟩ := L.zz e
  rw [e]
  exact L3_0 hc.2.2.2 (by have := hc.2.2.1; omega) a b
theorem SS_D {N A B G : z_A} {T : Int32} {St : z_R} {D D' : Nat → Nat} {n n' h : Nat} (S : z_SS N A B G T St D n h) (hk : ∀ q, z_kS D n q → z_kS D' n' q) : z_SS N A B G T St D' n' h :=
  ⟨S.g3, fun s hs => by obtain ⟨q, a, b, c⟩ := S.st s hs; exact ⟨q, a, hk q b, c⟩, S.inj, S.pd⟩
theorem Cc_y {N : z_A} {h : Int32} (e : xCy h = true) : ∃ k, z_Cc (z_wr N 1 8 h) k := by
  have w : z_wr N 1 8 h 1 8 = h := z_wr2
  unfold z_Cc
  rw [w]
  unfold xCy at e
  split at e
  · rename_i q; subst q; exact ⟨6, by decide, by decide, by decide, by decide⟩
  · split at e
    · rename_i q; subst q; exact ⟨12, by decide, by decide, by decide, by decide⟩
    · split at e
      · rename_i q; subst q; exact ⟨24, by decide, by decide, by decide, by decide⟩
      · split at e
        · rename_i q; subst q; exact ⟨30, by decide, by decide, by decide, by decide⟩
        · split at e
          · rename_i q; subst q; exact ⟨60, by decide, by decide, by decide, by decide⟩
          · cases e
theorem Cc_e {N N' : z_A} {h : Nat} (e : N' 1 8 = N 1 8) (hc : z_Cc N h) : z_Cc N' h := by
  unfold z_Cc at *
  rw [e]; exact hc
/-- a place is given back -/
theorem strike_SS {N A B G : z_A} {T : Int32} {St : z_R} {D : Nat → Nat} {n h : Nat} (S : z_SS N A B G T St D n h) {s : Int32} {q : Nat} (s0 : 0 ≤ s.toInt) (s1 : s.toInt < T.toInt) (hq : St s.toNatClampNeg = some q) : z_SS N A (z_wr B 58 s.toNatClampNeg 0) (z_wr G q 4 (-1)) T St D n h := by
  have ps := z_pp s0
  have b : ∀ p, p ≠ 58 → z_wr B 58 s.toNatClampNeg 0 p = B p := fun p hp => z_wr_ne hp
  have g4 : ∀ r k, k ≠ 4 → z_wr G q 4 (-1) r k = G r k := fun r k hk => z_wrj hk
  have b58 : ∀ i, z_wr B 58 s.toNatClampNeg 0 58 i = if i = s.toNatClampNeg then 0 else B 58 i := fun i => by rw [z_wr_eq]; rfl
  obtain ⟨q0, e0, kq, -⟩ := S.st s.toNatClampNeg (by omega)
  rw [hq] at e0
  cases e0
  have gw : ∀ i : Nat, (i : Int) < T.toInt → ∀ r, St i = some r → z_wr G q 4 (-1) (r + 1) = G (r + 1) := fun i hi r hr => by
    obtain ⟨r', e1, kS, -⟩ := S.st i hi
    rw [hr] at e1
    cases e1
    refine z_wr_ne (fun e => ?_)
    have a := kS.2.1
    rw [e, kq.1] at a
    exact absurd a (by decide)
  have cw : ∀ i c y L, z_CW N B i c y L → z_CW N (z_wr B 58 s.toNatClampNeg 0) i c y L := fun i c y L h => z_CW_c (by rw [b 55 (by decide)]) (by rw [b 57 (by decide)]) (fun k _ => by rw [b 56 (by decide)]) h
  have sd : ∀ i : Nat, (i : Int) < T.toInt → sD N (z_wr B 58 s.toNatClampNeg 0) (z_wr G q 4 (-1)) St i = sD N B G St i := fun i hi => by
    have e : ∀ r, St i = some r → dP N (z_wr B 58 s.toNatClampNeg 0 52 i) (z_wr B 58 s.toNatClampNeg 0 53 i) (sY (z_wr B 58 s.toNatClampNeg 0) (z_wr G q 4 (-1)) r i) (sL (z_wr B 58 s.toNatClampNeg 0) i) (z_wr B 58 s.toNatClampNeg 0 60 i).toInt = dP N (B 52 i) (B 53 i) (sY B G r i) (sL B i) (B 60 i).toInt := fun r hr => by
      unfold sY sL
      rw [b 52 (by decide), b 53 (by decide), b 55 (by decide), b 59 (by decide), b 60 (by decide), gw i hi r hr]
    funext w u
    unfold sD
    exact propext ⟨fun ⟨r, x, y⟩ => ⟨r, x, by rw [← e r x]; exact y⟩, fun ⟨r, x, y⟩ => ⟨r, x, by rw [e r x]; exact y⟩⟩
  refine ⟨⟨S.g3.ha, S.g3.hr, S.g3.hA, z_MB_58 S.g3.hB _, S.g3.hN, S.g3.hc, by rw [b 45 (by decide)]; exact S.g3.hT, fun i hi r hr => ?_⟩, fun i hi => ?_, S.inj, fun i i' hi hi' ne p p' w hw u d => ?_⟩
  · obtain ⟨a0, a1, a3, a4, a5⟩ := S.g3.ss i hi r hr
    refine ⟨by rw [g4 r 0 (by decide), b 52 (by decide)]; exact a0, by rw [g4 r 1 (by decide), b 53 (by decide)]; exact a1, by rw [g4 r 3 (by decide), b 54 (by decide)]; exact a3, by rw [b 53 (by decide)]; exact a4, fun c hc => ?_⟩
    rw [b 54 (by decide)] at hc
    rw [gw i hi r hr, b 55 (by decide)]
    exact cw _ _ _ _ (a5 c hc)
  · obtain ⟨r, hr, kS, s2⟩ := S.st i hi
    refine ⟨r, hr, kS, ?_⟩
    by_cases e : i = s.toNatClampNeg
    · subst e
      rw [hq] at hr
      cases hr
      exact Or.inl ⟨by rw [b58, if_pos rfl], z_wr2⟩
    · have ne : r ≠ q := fun e' => by
        rw [e'] at hr
        exact e (S.inj _ _ q hi (by omega) hr hq)
      unfold z_S2 sY sL at *
      rw [b58, if_neg e, b 59 (by decide), b 60 (by decide), b 53 (by decide), b 52 (by decide), b 55 (by decide), z_wr_ne ne, gw i hi r hr]
      exact s2
  · rw [b58] at p p'
    by_cases e : i = s.toNatClampNeg
    · rw [if_pos e] at p; exact absurd rfl p
    · by_cases e' : i' = s.toNatClampNeg
      · rw [if_pos e'] at p'; exact absurd rfl p'
      · rw [if_neg e] at p
        rw [if_neg e'] at p'
        rw [sd i hi] at d
        rw [sd i' hi']
        exact S.pd i i' hi hi' ne p p' w hw u d
theorem wf_n {N : z_A} {a b l s : Int32} (hr : z_RN N) (hF : z_WF N) (ha : xB N a = true) (s1 : 1 ≤ s.toInt) (h12 : (N 1 7).toInt < 12) : z_WF (xMw N a b l s) := by
  have as := xB_s ha
  have e := z_up1 hr.2.2.1 (by omega)
  have p := z_pp hr.2.2.1
  intro k hk
  have hk : (k : Int) < (N 1 7 + 1).toInt := hk
  show (upd (N 4) (N 1 7).toNatClampNeg a k).toInt < (N 1 6).toInt ∧ 1 ≤ (upd (N 7) (N 1 7).toNatClampNeg s k).toInt
  unfold upd
  by_cases c : k = (N 1 7).toNatClampNeg
  · rw [if_pos c, if_pos c]
    exact ⟨as.2, s1⟩
  · rw [if_neg c, if_neg c]
    exact hF k (by omega)
theorem xWi_c {N : z_A} {T Pt a b l s : Int32} (hr : z_RN N) (hF : z_WF N) : (xWi N T Pt a b l s).2 = N ∨ (¬ 0 < T ∧ (xWi N T Pt a b l s).2 1 8 = N 1 8 ∧ z_WF (xWi N T Pt a b l s).2) := by
  unfold xWi
  by_cases c1 : xPr N a b = true
  · rw [if_pos c1]
    by_cases c2 : 0 < T
    · rw [if_pos c2]; exact Or.inl rfl
    · rw [if_neg c2]
      by_cases c3 : 0 < Pt
      · rw [if_pos c3]; exact Or.inl rfl
      · rw [if_neg c3]
        by_cases c4 : xIn l 0 9 = true
        · rw [if_pos c4]
          by_cases c5 : xIn s 1 3 = true
          · rw [if_pos c5]
            by_cases c6 : N 1 7 < 12
            · rw [if_pos c6]
              have i := xIn_s c5
              have t1 : Int32.toInt 1 = 1 := rfl
              have t12 : Int32.toInt 12 = 12 := rfl
              rw [z_ltI] at c6
              exact Or.inr ⟨c2, rfl, wf_n hr hF (xPr_s c1).1 (by omega) (by omega)⟩
            · rw [if_neg c6]; exact Or.inl rfl
          · rw [if_neg c5]; exact Or.inl rfl
        · rw [if_neg c4]; exact Or.inl rfl
  · rw [if_neg c1]; exact Or.inl rfl
set_option maxHeartbeats 8000000 in
set_option maxRecDepth 100000 in
theorem j3_0 {v v' : Int32} {X' : z_X} {M' : z_M} (hX : z_IX (N, W, T, G, J, P, St, Sq, Pt, E, Lt, Hd, D, n)) (hM : z_IM (A, B, C, F, U, V)) (hX' : z_IX X') (hM' : z_IM M') (h : z_R3 (N, W, T, G, J, P, St, Sq, Pt, E, Lt, Hd, D, n) (A, B, C, F, U, V)) (a1 : Int32) (hx : (v, X') = fX0 (N, W, T, G, J, P, St, Sq, Pt, E, Lt, Hd, D, n) a1) (hm : (v', M') = fM0 (A, B, C, F, U, V) a1) : z_R3 X' M' ∧ v = v' := by
  have r1 := j1_0 hX hM h.1 a1 hx hm
  have hX0 := hX
  obtain ⟨hr, ha, hT', -, -, -, hP', -, -, -⟩ := hX
  obtain ⟨hA, hB, hC, hF, hU, hV⟩ := hM
  obtain ⟨⟨hN, hE, hT, hP, h69⟩, hW, tr, hh, S, L⟩ := h
  have e1 := congrArg Prod.fst hx
  have e2 := congrArg Prod.snd hx
  have e3 := congrArg Prod.fst hm
  have e4 := congrArg Prod.snd hm
  dsimp only [fX0, fM0] at e1 e2 e3 e4
  subst e1 e2 e3 e4
  obtain ⟨hr', ha', -⟩ := hX'
  obtain ⟨hA', -⟩ := hM'
  obtain ⟨⟨q1, q2, q3, q4, q5⟩, qv⟩ := r1
  refine ⟨⟨⟨q1, q2, q3, q4, q5⟩, ?_, tr, hh, ?_⟩, qv⟩
  · unfold xBox
    split
    · split
      · rename_i c
        rw [z_ltI] at c
        have t6 : Int32.toInt 6 = 6 := rfl
        have e := z_up1 hr.1 (by omega)
        intro k hk
        have hk : (k : Int) < (N 1 7).toInt := hk
        show (N 4 k).toInt < (N 1 6 + 1).toInt ∧ 1 ≤ (N 7 k).toInt
        have := hW k hk
        omega
      · exact hW
    · exact hW
  · have key := SS_N (N' := (xBox N a1).2) (A' := (mBox A V a1).2.1) S ?_ ?_ ?_ ?_ ?_ ?_ ?_ ha' hr' hA' q1
    · exact ⟨key.1, key.2 _ _ _ _ L⟩
    · unfold xBox
      split
      · split <;> rfl
      · rfl
    · unfold xBox
      split
      · split <;> rfl
      · rfl
    · intro b hb
      have bs := xB_s hb
      unfold xBox
      split
      · split
        · rename_i c
          rw [z_ltI] at c
          have t6 : Int32.toInt 6 = 6 := rfl
          have e := z_up1 hr.1 (by omega)
          have n6 : xMb N a1 1 6 = N 1 6 + 1 := rfl
          show xB (xMb N a1) b = true
          unfold xB
          rw [if_neg (by rw [z_ltI, tI0]; omega), if_pos (by rw [n6, z_ltI]; omega)]
        · exact hb
      · exact hb
    · unfold xBox
      split
      · split <;> rfl
      · rfl
    · intro w z
      unfold xBox
      split
      · split <;> rfl
      · rfl
    · intro w z
      unfold xBox
      split
      · split <;> rfl
      · rfl
    · intro w
      unfold xBox
      split
      · split
        · rename_i c
          rw [z_ltI] at c
          have t6 : Int32.toInt 6 = 6 := rfl
          have e := z_up1 hr.1 (by omega)
          have n6 : xMb N a1 1 6 = N 1 6 + 1 := rfl
          have n7 : xW (xMb N a1) w = xW N w := rfl
          show xS (xMb N a1) w = xS N w
          unfold xS
          rw [n7]
          by_cases hw : xW N w = true
          · rw [if_pos hw, if_pos hw]
            have ws := xW_s hw
            have pw := z_pp ws.1
            have e5 : xMb N a1 5 = N 5 := rfl
            have e19 : xMb N a1 1 9 = N 1 9 := rfl
            have l5 := hE w.toNatClampNeg (by omega)
            have l50 := (ha.2.2.2.1 w.toNatClampNeg).1
            have p5 := z_pp l50
            have p6 := z_pp hr.1
            have b1 : xB N (N 5 w.toNatClampNeg) = true := by
              unfold xB
              rw [if_neg (by rw [z_ltI, tI0]; omega), if_pos (by rw [z_ltI]; exact l5)]
            have b2 : xB (xMb N a1) (N 5 w.toNatClampNeg) = true := by
              unfold xB
              rw [if_neg (by rw [z_ltI, tI0]; omega), if_pos (by rw [n6, z_ltI]; omega)]
            have e2 : xMb N a1 2 (N 5 w.toNatClampNeg).toNatClampNeg = N 2 (N 5 w.toNatClampNeg).toNatClampNeg := by
              show upd (N 2) (N 1 6).toNatClampNeg a1 (N 5 w.toNatClampNeg).toNatClampNeg = _
              unfold upd
              exact if_neg (by omega)
            rw [e5, if_pos b1, if_pos b2, e2, e19]
          · rw [if_neg hw, if_neg hw]
        · rfl
      · rfl
set_option maxHeartbeats 8000000 in
set_option maxRecDepth 100000 in
theorem j3_1 {v v' : Int32} {X' : z_X} {M' : z_M} (hX : z_IX (N, W, T, G, J, P, St, Sq, Pt, E, Lt, Hd, D, n)) (hM : z_IM (A, B, C, F, U, V)) (hX' : z_IX X') (hM' : z_IM M') (h : z_R3 (N, W, T, G, J, P, St, Sq, Pt, E, Lt, Hd, D, n) (A, B, C, F, U, V)) (a1 a2 a3 a4 : Int32) (hx : (v, X') = fX1 (N, W, T, G, J, P, St, Sq, Pt, E, Lt, Hd, D, n) a1 a2 a3 a4) (hm : (v', M') = fM1 (A, B, C, F, U, V) a1 a2 a3 a4) : z_R3 X' M' ∧ v = v' := by
  have r1 := j1_1 hX hM h.1 a1 a2 a3 a4 hx hm
  have hX0 := hX
  obtain ⟨hr, ha, hT', -, -, -, hP', -, -, -⟩ := hX
  obtain ⟨hA, hB, hC, hF, hU, hV⟩ := hM
  obtain ⟨⟨hN, hE, hT, hP, h69⟩, hW, tr, hh, S, L⟩ := h
  have e1 := congrArg Prod.fst hx
  have e2 := congrArg Prod.snd hx
  have e3 := congrArg Prod.fst hm
  have e4 := congrArg Prod.snd hm
  dsimp only [fX1, fM1] at e1 e2 e3 e4
  subst e1 e2 e3 e4
  obtain ⟨hr', ha', -⟩ := hX'
  obtain ⟨hA', -⟩ := hM'
  obtain ⟨⟨q1, q2, q3, q4, q5⟩, qv⟩ := r1
  refine ⟨⟨⟨q1, q2, q3, q4, q5⟩, ?_, tr, hh, ?_⟩, qv⟩
  · rcases xWi_c (T := T) (Pt := Pt) (a := a1) (b := a2) (l := a3) (s := a4) hr hW with e | ⟨-, -, e⟩
    · rw [e]; exact hW
    · exact e
  · rcases xWi_c (T := T) (Pt := Pt) (a := a1) (b := a2) (l := a3) (s := a4) hr hW with e | ⟨e0, e8, -⟩
    · rw [e] at q1 ⊢
      have key := SS_N (N' := N) S rfl rfl (fun _ h => h) rfl (fun _ _ => rfl) (fun _ _ => rfl) (fun _ => rfl) ha hr hA' q1
      exact ⟨key.1, L⟩
    · rw [z_ltI, tI0] at e0
      have T0 : T.toInt = 0 := by have := hT'.1; omega
      have hc := Cc_e (N' := (xWi N T Pt a1 a2 a3 a4).2) e8 S.g3.hc
      exact ⟨SS_0 T0 ha' hr' hA' hB q1 hc hT, L3_z T0 hc L⟩
set_option maxHeartbeats 8000000 in
set_option maxRecDepth 100000 in
theorem j3_2 {v v' : Int32} {X' : z_X} {M' : z_M} (hX : z_IX (N, W, T, G, J, P, St, Sq, Pt, E, Lt, Hd, D, n)) (hM : z_IM (A, B, C, F, U, V)) (hX' : z_IX X') (hM' : z_IM M') (h : z_R3 (N, W, T, G, J, P, St, Sq, Pt, E, Lt, Hd, D, n) (A, B, C, F, U, V)) (a1 : Int32) (hx : (v, X') = fX2 (N, W, T, G, J, P, St, Sq, Pt, E, Lt, Hd, D, n) a1) (hm : (v', M') = fM2 (A, B, C, F, U, V) a1) : z_R3 X' M' ∧ v = v' := by
  have r1 := j1_2 hX hM h.1 a1 hx hm
  have hX0 := hX
  obtain ⟨hr, ha, hT', -, -, -, hP', -, -, -⟩ := hX
  obtain ⟨hA, hB, hC, hF, hU, hV⟩ := hM
  obtain ⟨⟨hN, hE, hT, hP, h69⟩, hW, tr, hh, S, L⟩ := h
  have e1 := congrArg Prod.fst hx
  have e2 := congrArg Prod.snd hx
  have e3 := congrArg Prod.fst hm
  have e4 := congrArg Prod.snd hm
  dsimp only [fX2, fM2] at e1 e2 e3 e4
  subst e1 e2 e3 e4
  obtain ⟨hr', ha', -⟩ := hX'
  obtain ⟨hA', -⟩ := hM'
  obtain ⟨⟨q1, q2, q3, q4, q5⟩, qv⟩ := r1
  have wf : z_WF (xCyc N T a1).2 := by
    unfold xCyc
    split
    · exact hW
    · split <;> exact hW
  refine ⟨⟨⟨q1, q2, q3, q4, q5⟩, wf, tr, ?_⟩, qv⟩
  by_cases c1 : 0 < T
  · have e : (xCyc N T a1).2 = N := by unfold xCyc; rw [if_pos c1]
    rw [e] at q1 ⊢
    have key := SS_N (N' := N) S rfl rfl (fun _ h => h) rfl (fun _ _ => rfl) (fun _ _ => rfl) (fun _ => rfl) ha hr hA' q1
    exact ⟨hh, key.1, L⟩
  · by_cases c2 : xCy a1 = true
    · have e : (xCyc N T a1).2 = z_wr N 1 8 a1 := by unfold xCyc; rw [if_neg c1, if_pos c2]
      rw [e] at q1 ha' hr' ⊢
      rw [z_ltI, tI0] at c1
      have T0 : T.toInt = 0 := by have := hT'.1; omega
      obtain ⟨k, hc⟩ := Cc_y (N := N) c2
      exact ⟨k, SS_0 T0 ha' hr' hA' hB q1 hc hT, L3_z T0 hc L⟩
    · have e : (xCyc N T a1).2 = N := by unfold xCyc; rw [if_neg c1, if_neg c2]
      rw [e] at q1 ⊢
      have key := SS_N (N' := N) S rfl rfl (fun _ h => h) rfl (fun _ _ => rfl) (fun _ _ => rfl) (fun _ => rfl) ha hr hA' q1
      exact ⟨hh, key.1, L⟩
set_option maxHeartbeats 8000000 in
set_option maxRecDepth 100000 in
theorem j3_3 {v v' : Int32} {X' : z_X} {M' : z_M} (hX : z_IX (N, W, T, G, J, P, St, Sq, Pt, E, Lt, Hd, D, n)) (hM : z_IM (A, B, C, F, U, V)) (hX' : z_IX X') (hM' : z_IM M') (h : z_R3 (N, W, T, G, J, P, St, Sq, Pt, E, Lt, Hd, D, n) (A, B, C, F, U, V)) (a1 : Int32) (hx : (v, X') = fX3 (N, W, T, G, J, P, St, Sq, Pt, E, Lt, Hd, D, n) a1) (hm : (v', M') = fM3 (A, B, C, F, U, V) a1) : z_R3 X' M' ∧ v = v' := by
  have r1 := j1_3 hX hM h.1 a1 hx hm
  have hX0 := hX
  obtain ⟨hr, ha, hT', -, -, -, hP', -, -, -⟩ := hX
  obtain ⟨hA, hB, hC, hF, hU, hV⟩ := hM
  obtain ⟨⟨hN, hE, hT, hP, h69⟩, hW, tr, hh, S, L⟩ := h
  have e1 := congrArg Prod.fst hx
  have e2 := congrArg Prod.snd hx
  have e3 := congrArg Prod.fst hm
  have e4 := congrArg Prod.snd hm
  dsimp only [fX3, fM3] at e1 e2 e3 e4
  subst e1 e2 e3 e4
  obtain ⟨hr', ha', -⟩ := hX'
  obtain ⟨hA', -⟩ := hM'
  obtain ⟨⟨q1, q2, q3, q4, q5⟩, qv⟩ := r1
  have wf : z_WF (xDr N E T a1).2.1 := by
    unfold xDr
    split
    · exact hW
    · split <;> exact hW
  refine ⟨⟨⟨q1, q2, q3, q4, q5⟩, wf, tr, hh, ?_⟩, qv⟩
  by_cases c1 : 0 < T
  · have e : (xDr N E T a1).2.1 = N := by unfold xDr; rw [if_pos c1]
    rw [e] at q1 ⊢
    have key := SS_N (N' := N) S rfl rfl (fun _ h => h) rfl (fun _ _ => rfl) (fun _ _ => rfl) (fun _ => rfl) ha hr hA' q1
    exact ⟨key.1, L⟩
  · rw [z_ltI, tI0] at c1
    have T0 : T.toInt = 0 := by have := hT'.1; omega
    have e8 : (xDr N E T a1).2.1 1 8 = N 1 8 := by
      unfold xDr
      split
      · rfl
      · split <;> rfl
    have hc := Cc_e (N' := (xDr N E T a1).2.1) e8 S.g3.hc
    exact ⟨SS_0 T0 ha' hr' hA' hB q1 hc hT, L3_z T0 hc L⟩
set_option maxHeartbeats 8000000 in
set_option maxRecDepth 100000 in
theorem j3_15 {v v' : Int32} {X' : z_X} {M' : z_M} (hX : z_IX (N, W, T, G, J, P, St, Sq, Pt, E, Lt, Hd, D, n)) (hM : z_IM (A, B, C, F, U, V)) (hX' : z_IX X') (hM' : z_IM M') (h : z_R3 (N, W, T, G, J, P, St, Sq, Pt, E, Lt, Hd, D, n) (A, B, C, F, U, V)) (a1 a2 : Int32) (hx : (v, X') = fX15 (N, W, T, G, J, P, St, Sq, Pt, E, Lt, Hd, D, n) a1 a2) (hm : (v', M') = fM15 (A, B, C, F, U, V) a1 a2) : z_R3 X' M' ∧ v = v' := by
  have r1 := j1_15 hX hM h.1 a1 a2 hx hm
  have hX0 := hX
  obtain ⟨hr, ha, hT', -, -, -, hP', -, -, -⟩ := hX
  obtain ⟨hA, hB, hC, hF, hU, hV⟩ := hM
  obtain ⟨⟨hN, hE, hT, hP, h69⟩, hW, tr, hh, S, L⟩ := h
  have e1 := congrArg Prod.fst hx
  have e2 := congrArg Prod.snd hx
  have e3 := congrArg Prod.fst hm
  have e4 := congrArg Prod.snd hm
  dsimp only [fX15, fM15] at e1 e2 e3 e4
  subst e1 e2 e3 e4
  obtain ⟨hr', ha', -⟩ := hX'
  obtain ⟨hA', -⟩ := hM'
  obtain ⟨⟨q1, q2, q3, q4, q5⟩, qv⟩ := r1
  have alike : (xClk N E a1 a2).2.1 = N ∨ (xClk N E a1 a2).2.1 = z_wr N 3 a1.toNatClampNeg a2 := by
    unfold xClk
    split
    · split
      · exact Or.inr rfl
      · exact Or.inl rfl
    · exact Or.inl rfl
  rcases alike with e | e
  · rw [e] at q1 q2 ⊢
    have key := SS_N (N' := N) S rfl rfl (fun _ h => h) rfl (fun _ _ => rfl) (fun _ _ => rfl) (fun _ => rfl) ha hr hA' q1
    exact ⟨⟨⟨q1, q2, q3, q4, q5⟩, hW, tr, hh, key.1, L⟩, qv⟩
  · rw [e] at q1 q2 ha' hr' ⊢
    have key := SS_N (N' := z_wr N 3 a1.toNatClampNeg a2) S rfl rfl (fun _ h => h) rfl (fun _ _ => rfl) (fun _ _ => rfl) (fun _ => rfl) ha' hr' hA' q1
    exact ⟨⟨⟨q1, q2, q3, q4, q5⟩, hW, tr, hh, key.1, key.2 _ _ _ _ L⟩, qv⟩
set_option maxHeartbeats 8000000 in
set_option maxRecDepth 100000 in
theorem j3_4 {v v' : Int32} {X' : z_X} {M' : z_M} (hX : z_IX (N, W, T, G, J, P, St, Sq, Pt, E, Lt, Hd, D, n)) (hM : z_IM (A, B, C, F, U, V)) (hX' : z_IX X') (hM' : z_IM M') (h : z_R3 (N, W, T, G, J, P, St, Sq, Pt, E, Lt, Hd, D, n) (A, B, C, F, U, V)) (a1 a2 a3 a4 a5 : Int32) (hx : (v, X') = fX4 (N, W, T, G, J, P, St, Sq, Pt, E, Lt, Hd, D, n) a1 a2 a3 a4 a5) (hm : (v', M') = fM4 (A, B, C, F, U, V) a1 a2 a3 a4 a5) : z_R3 X' M' ∧ v = v' := by
  have r1 := j1_4 hX hM h.1 a1 a2 a3 a4 a5 hx hm
  have hX0 := hX
  obtain ⟨hr, ha, hT', -, -, -, hP', -, -, -⟩ := hX
  obtain ⟨hA, hB, hC, hF, hU, hV⟩ := hM
  obtain ⟨⟨hN, hE, hT, hP, h69⟩, hW, tr, hh, S, L⟩ := h
  have e1 := congrArg Prod.fst hx
  have e2 := congrArg Prod.snd hx
  have e3 := congrArg Prod.fst hm
  have e4 := congrArg Prod.snd hm
  dsimp only [fX4, fM4] at e1 e2 e3 e4
  subst e1 e2 e3 e4
  obtain ⟨q1, q2, q3, q4, q5⟩ := r1
  exact ⟨⟨⟨q1, q2, q3, q4, q5⟩, hW, tr, hh, S, L⟩, wy_al hA hF hN hr ha hE h69⟩
set_option maxHeartbeats 8000000 in
set_option maxRecDepth 100000 in
theorem j3_5 {v v' : Int32} {X' : z_X} {M' : z_M} (hX : z_IX (N, W, T, G, J, P, St, Sq, Pt, E, Lt, Hd, D, n)) (hM : z_IM (A, B, C, F, U, V)) (hX' : z_IX X') (hM' : z_IM M') (h : z_R3 (N, W, T, G, J, P, St, Sq, Pt, E, Lt, Hd, D, n) (A, B, C, F, U, V)) (a1 a2 a3 a4 a5 : Int32) (hx : (v, X') = fX5 (N, W, T, G, J, P, St, Sq, Pt, E, Lt, Hd, D, n) a1 a2 a3 a4 a5) (hm : (v', M') = fM5 (A, B, C, F, U, V) a1 a2 a3 a4 a5) : z_R3 X' M' ∧ v = v' := by
  have r1 := j1_5 hX hM h.1 a1 a2 a3 a4 a5 hx hm
  have hX0 := hX
  obtain ⟨hr, ha, hT', -, -, -, hP', -, -, -⟩ := hX
  obtain ⟨hA, hB, hC, hF, hU, hV⟩ := hM
  obtain ⟨⟨hN, hE, hT, hP, h69⟩, hW, tr, hh, S, L⟩ := h
  obtain ⟨⟨N', W', T'', G', J', P', St', Sq', Pt', E', Lt', Hd', D', n'⟩, rfl⟩ : ∃ Y, Y = X' := ⟨X', rfl⟩
  obtain ⟨⟨A', B', C', F', U', V'⟩, rfl⟩ : ∃ Y, Y = M' := ⟨M', rfl⟩
  obtain ⟨r1, rv⟩ := r1
  obtain ⟨-, hB', -⟩ := hM'
  refine ⟨⟨r1, ?_⟩, rv⟩
  have es := sg_al (a := a1) (b := a2) (c := a3) (p := a4) (l := a5) hr hN hT hT'.2
  dsimp only [fX5, fM5] at hx hm
  rw [← es] at hm
  rcases z_bc (xSg N T a1 a2 a3 a4 a5) with hg | hg
  · rw [if_pos hg] at hx hm
    obtain ⟨hK, hF1, hw, hn⟩ := z_fd (b := a2) hA hF hN hr ha hE h69 (z_wg_s hr hg)
    have l1 := z_lt1 (l := a5) hF1 hK hw (hn (-1) W)
    have l2 := mH2_z (F := mFind A F a1 a2 a3) (B := B) (l := a5)
    rcases z_bc (xLt (xNb N a1 a2 a3 (-1) W 4) a5) with h2 | h2
    · rw [if_pos h2] at hx
      rw [if_neg (fun q => l2.mp q (l1.mp h2))] at hm
      obtain ⟨-, hx⟩ := Prod.mk.inj hx
      obtain ⟨-, hm⟩ := Prod.mk.inj hm
      simp only [Prod.mk.injEq] at hx hm
      obtain ⟨x1, x2, x3, x4, x5, x6, x7, x8, x9, x10, x11, x12, x13, x14⟩ := hx
      obtain ⟨m1, m2, m3, m4, m5, m6⟩ := hm
      replace x1 := x1.symm
      replace x2 := x2.symm
      replace x3 := x3.symm
      replace x4 := x4.symm
      replace x5 := x5.symm
      replace x6 := x6.symm
      replace x7 := x7.symm
      replace x8 := x8.symm
      replace x9 := x9.symm
      replace x10 := x10.symm
      replace x11 := x11.symm
      replace x12 := x12.symm
      replace x13 := x13.symm
      replace x14 := x14.symm
      replace m1 := m1.symm
      replace m2 := m2.symm
      replace m3 := m3.symm
      replace m4 := m4.symm
      replace m5 := m5.symm
      replace m6 := m6.symm
      subst x1 x2 x3 x4 x5 x6 x7 x8 x9 x10 x11 x12 x13 x14 m1 m2 m3 m4 m5 m6
      -- what stream has asked
      have ask : T < 8 ∧ xPe N a4 = true := by
        unfold xSg at hg
        split at hg
        · rename_i t8
          split at hg
          · split at hg
            · split at hg
              · rename_i p; exact ⟨t8, p⟩
              · cases hg
            · cases hg
          · cases hg
        · cases hg
      have t8 := z_8 (eq_true ask.1)
      have pe := xPe_s hr ask.2
      have rem : N 1 8 - N 1 8 / a4 * a4 = 0 := by
        have q := ask.2
        unfold xPe at q
        split at q
        · cases q
        · split at q
          · assumption
          · cases q
      have T0 := hT'.1
      have pT := z_pp T0
      have eT : B 45 10 = Int32.ofNat T.toNatClampNeg := by rw [← hT]; exact z_ofn T0
      have r45 : (mH2 (mFind A F a1 a2 a3) a5 4 0 B).2 45 10 = T := by rw [mH2_r (by decide) (by decide) (by decide), hT]
      have Z0 : z_Z N a3 T.toNatClampNeg (78 + n) (z_nwG G n a3 (xMx a4 2)) B 0 (z_nwG G n a3 (xMx a4 2)) B := by
        refine ⟨?_, ?_, fun _ _ => rfl, fun _ _ _ => rfl, fun _ _ _ _ => rfl, fun _ _ => ⟨rfl, rfl⟩, fun _ _ => rfl, fun i hi => by omega⟩
        · unfold z_nwG
          rw [if_pos rfl]; rfl
        · unfold z_nwG
          rw [if_pos rfl]; rfl
      have q0 : z_nwG G n a3 (xMx a4 2) (78 + n) 0 = a3 := Z0.g0
      obtain ⟨m, m3', em, Z⟩ := fch_I (lat := a5) hr ha hE hF1 hK hw hn (s := T.toNatClampNeg) (q := 78 + n) (G0 := z_nwG G n a3 (xMx a4 2)) (B0 := B) (by omega) eT 4 0 (xNb N a1 a2 a3 (-1) (xNb N a1 a2 a3 (-1) W) 4) (z_nwG G n a3 (xMx a4 2)) B (xNb N a1 a2 a3 (-1) (xNb N a1 a2 a3 (-1) W)) (by omega) (by omega) (z_rw0 hK hw (hn (-1) _)) Z0
      have z0 : Int32.ofNat 0 = 0 := rfl
      rw [z0] at em Z
      have eG : (xSG N n W G a1 a2 a3 a4 a5).1 = (xFch N (78 + n) a1 a2 a5 4 0 (xNb N a1 a2 a3 (-1) (xNb N a1 a2 a3 (-1) W) 4) (z_nwG G n a3 (xMx a4 2)) (xNb N a1 a2 a3 (-1) (xNb N a1 a2 a3 (-1) W))).1 := by
        unfold xSG
        rw [q0]
      rw [← eG] at Z
      generalize mH2 (mFind A F a1 a2 a3) a5 4 0 B = rr at *
      have key := told_SS (B' := mSB rr a3 a4) (T' := T + 1) S T0 t8 rfl pe.1 pe.2 rem m3' hB' Z (fun q h1 h2 h3 h4 h5 => by unfold mSB; rw [z_wr_ne h1, z_wr_ne h5, z_wr_ne h4, z_wr_ne h3, z_wr_ne h2]) (by rw [mSB_n, r45]) (by unfold mSB; rw [r45, z_wr_ne (by decide), z_wr_ne (by decide), z_wr_ne (by decide), z_wr_ne (by decide), z_wr_eq]) (by unfold mSB; rw [r45, z_wr_ne (by decide), z_wr_ne (by decide), z_wr_ne (by decide), z_wr_eq, z_wr_ne (by decide)]) (by unfold mSB; rw [r45, z_wr_ne (by decide), z_wr_ne (by decide), z_wr_eq, z_wr_ne (by decide), z_wr_ne (by decide), em]) (by unfold mSB; rw [r45, z_wr_ne (by decide), z_wr_eq, z_wr_ne (by decide), z_wr_ne (by decide), z_wr_ne (by decide)])
      exact ⟨hW, tr, hh, key.1, key.2 _ _ L⟩
    · have n2 := z_nf h2
      have e0 := l2.mpr (fun q => n2 (l1.mpr q))
      rw [if_neg n2] at hx
      rw [if_pos e0, mH2_0 e0] at hm
      obtain ⟨-, hx⟩ := Prod.mk.inj hx
      obtain ⟨-, hm⟩ := Prod.mk.inj hm
      simp only [Prod.mk.injEq] at hx hm
      obtain ⟨x1, x2, x3, x4, x5, x6, x7, x8, x9, x10, x11, x12, x13, x14⟩ := hx
      obtain ⟨m1, m2, m3, m4, m5, m6⟩ := hm
      replace x1 := x1.symm
      replace x2 := x2.symm
      replace x3 := x3.symm
      replace x4 := x4.symm
      replace x5 := x5.symm
      replace x6 := x6.symm
      replace x7 := x7.symm
      replace x8 := x8.symm
      replace x9 := x9.symm
      replace x10 := x10.symm
      replace x11 := x11.symm
      replace x12 := x12.symm
      replace x13 := x13.symm
      replace x14 := x14.symm
      replace m1 := m1.symm
      replace m2 := m2.symm
      replace m3 := m3.symm
      replace m4 := m4.symm
      replace m5 := m5.symm
      replace m6 := m6.symm
      subst x1 x2 x3 x4 x5 x6 x7 x8 x9 x10 x11 x12 x13 x14 m1 m2 m3 m4 m5 m6
      exact ⟨hW, tr, hh, S, L⟩
  · rw [if_neg (z_nf hg)] at hx hm
    obtain ⟨-, hx⟩ := Prod.mk.inj hx
    obtain ⟨-, hm⟩ := Prod.mk.inj hm
    simp only [Prod.mk.injEq] at hx hm
    obtain ⟨x1, x2, x3, x4, x5, x6, x7, x8, x9, x10, x11, x12, x13, x14⟩ := hx
    obtain ⟨m1, m2, m3, m4, m5, m6⟩ := hm
    replace x1 := x1.symm
    replace x2 := x2.symm
    replace x3 := x3.symm
    replace x4 := x4.symm
    replace x5 := x5.symm
    replace x6 := x6.symm
    replace x7 := x7.symm
    replace x8 := x8.symm
    replace x9 := x9.symm
    replace x10 := x10.symm
    replace x11 := x11.symm
    replace x12 := x12.symm
    replace x13 := x13.symm
    replace x14 := x14.symm
    replace m1 := m1.symm
    replace m2 := m2.symm
    replace m3 := m3.symm
    replace m4 := m4.symm
    replace m5 := m5.symm
    replace m6 := m6.symm
    subst x1 x2 x3 x4 x5 x6 x7 x8 x9 x10 x11 x12 x13 x14 m1 m2 m3 m4 m5 m6
    exact ⟨hW, tr, hh, S, L⟩
set_option maxHeartbeats 8000000 in
set_option maxRecDepth 100000 in
theorem j3_6 {v v' : Int32} {X' : z_X} {M' : z_M} (hX : z_IX (N, W, T, G, J, P, St, Sq, Pt, E, Lt, Hd, D, n)) (hM : z_IM (A, B, C, F, U, V)) (hX' : z_IX X') (hM' : z_IM M') (h : z_R3 (N, W, T, G, J, P, St, Sq, Pt, E, Lt, Hd, D, n) (A, B, C, F, U, V)) (a1 : Int32) (hx : (v, X') = fX6 (N, W, T, G, J, P, St, Sq, Pt, E, Lt, Hd, D, n) a1) (hm : (v', M') = fM6 (A, B, C, F, U, V) a1) : z_R3 X' M' ∧ v = v' := by
  have r1 := j1_6 hX hM h.1 a1 hx hm
  have hX0 := hX
  obtain ⟨hr, ha, hT', -, -, -, hP', -, -, -⟩ := hX
  obtain ⟨hA, hB, hC, hF, hU, hV⟩ := hM
  obtain ⟨⟨hN, hE, hT, hP, h69⟩, hW, tr, hh, S, L⟩ := h
  have e1 := congrArg Prod.fst hx
  have e2 := congrArg Prod.snd hx
  have e3 := congrArg Prod.fst hm
  have e4 := congrArg Prod.snd hm
  dsimp only [fX6, fM6] at e1 e2 e3 e4
  subst e1 e2 e3 e4
  have T0 := hT'.1
  obtain ⟨q1, q2, q3, q4, q5⟩ := r1
  rcases pl_I S a1 with ⟨p, m⟩ | ⟨q, p, m, s0, s1, hq, hp⟩
  · have ex : xSk N T St G J E a1 = (false, G, J, E) := by unfold xSk; rw [p]
    have em : mStk A B C V a1 = (false, B, C, V) := by unfold mStk; rw [m, if_neg (by decide)]
    rw [em] at q3
    rw [ex, em]
    exact ⟨⟨⟨q1, q2, q3, q4, q5⟩, hW, tr, hh, S, L⟩, rfl⟩
  · have ex : xSk N T St G J E a1 = (true, z_wr G q 4 (-1), xSD N T St (z_wr G q 4 (-1)) J, z_wr E 40 8 1) := by unfold xSk; rw [p]
    have em : mStk A B C V a1 = (true, z_wr B 58 a1.toNatClampNeg 0, mLay A (z_wr B 58 a1.toNatClampNeg 0) C, z_wr V 45 35 1) := by unfold mStk; rw [m, if_pos rfl]
    rw [em] at q3
    rw [ex, em]
    have S' := strike_SS S s0 s1 hq
    exact ⟨⟨⟨q1, q2, q3, q4, q5⟩, hW, by show P 27 7 = mLay A _ C 45 20; rw [mLay_q (by decide)]; exact tr, hh, S', lay_I S' T0 J C⟩, rfl⟩
set_option maxHeartbeats 8000000 in
set_option maxRecDepth 100000 in
theorem j3_7 {v v' : Int32} {X' : z_X} {M' : z_M} (hX : z_IX (N, W, T, G, J, P, St, Sq, Pt, E, Lt, Hd, D, n)) (hM : z_IM (A, B, C, F, U, V)) (hX' : z_IX X') (hM' : z_IM M') (h : z_R3 (N, W, T, G, J, P, St, Sq, Pt, E, Lt, Hd, D, n) (A, B, C, F, U, V)) (hx : (v, X') = fX7 (N, W, T, G, J, P, St, Sq, Pt, E, Lt, Hd, D, n) ) (hm : (v', M') = fM7 (A, B, C, F, U, V) ) : z_R3 X' M' ∧ v = v' := by
  have r1 := j1_7 hX hM h.1  hx hm
  have hX0 := hX
  obtain ⟨hr, ha, hT', -, -, -, hP', -, -, -⟩ := hX
  obtain ⟨hA, hB, hC, hF, hU, hV⟩ := hM
  obtain ⟨⟨hN, hE, hT, hP, h69⟩, hW, tr, hh, S, L⟩ := h
  have e1 := congrArg Prod.fst hx
  have e2 := congrArg Prod.snd hx
  have e3 := congrArg Prod.fst hm
  have e4 := congrArg Prod.snd hm
  dsimp only [fX7, fM7] at e1 e2 e3 e4
  subst e1 e2 e3 e4
  have T0 := hT'.1
  obtain ⟨q1, q2, q3, q4, q5⟩ := r1
  have K := fit_I S T0 (hs_plan S T0) (J := J) (P := z_wr P 27 7 0) (Sq := Sq) (C := z_wr C 45 20 0) (V := V) z_TR0 (by rw [z_wr2, z_wr2])
  obtain ⟨f1, f2, f3, f4, -, -⟩ := K
  exact ⟨⟨⟨q1, q2, q3, q4, q5⟩, hW, f4, hh, f2, f3⟩, f1⟩
set_option maxHeartbeats 8000000 in
set_option maxRecDepth 100000 in
theorem j3_8 {v v' : Int32} {X' : z_X} {M' : z_M} (hX : z_IX (N, W, T, G, J, P, St, Sq, Pt, E, Lt, Hd, D, n)) (hM : z_IM (A, B, C, F, U, V)) (hX' : z_IX X') (hM' : z_IM M') (h : z_R3 (N, W, T, G, J, P, St, Sq, Pt, E, Lt, Hd, D, n) (A, B, C, F, U, V)) (hx : (v, X') = fX8 (N, W, T, G, J, P, St, Sq, Pt, E, Lt, Hd, D, n) ) (hm : (v', M') = fM8 (A, B, C, F, U, V) ) : z_R3 X' M' ∧ v = v' := by
  have r1 := j1_8 hX hM h.1  hx hm
  have hX0 := hX
  obtain ⟨hr, ha, hT', -, -, -, hP', -, -, -⟩ := hX
  obtain ⟨hA, hB, hC, hF, hU, hV⟩ := hM
  obtain ⟨⟨hN, hE, hT, hP, h69⟩, hW, tr, hh, S, L⟩ := h
  have e1 := congrArg Prod.fst hx
  have e2 := congrArg Prod.snd hx
  have e3 := congrArg Prod.fst hm
  have e4 := congrArg Prod.snd hm
  dsimp only [fX8, fM8] at e1 e2 e3 e4
  subst e1 e2 e3 e4
  have T0 := hT'.1
  obtain ⟨q1, q2, q3, q4, q5⟩ := r1
  have K := fit_I S T0 (hs_add S T0) (J := J) (P := z_wr P 27 7 0) (Sq := Sq) (C := z_wr C 45 20 0) (V := V) z_TR0 (by rw [z_wr2, z_wr2])
  obtain ⟨f1, f2, f3, f4, -, -⟩ := K
  exact ⟨⟨⟨q1, q2, q3, q4, q5⟩, hW, f4, hh, f2, f3⟩, f1⟩
set_option maxHeartbeats 8000000 in
set_option maxRecDepth 100000 in
theorem j3_9 {v v' : Int32} {X' : z_X} {M' : z_M} (hX : z_IX (N, W, T, G, J, P, St, Sq, Pt, E, Lt, Hd, D, n)) (hM : z_IM (A, B, C, F, U, V)) (hX' : z_IX X') (hM' : z_IM M') (h : z_R3 (N, W, T, G, J, P, St, Sq, Pt, E, Lt, Hd, D, n) (A, B, C, F, U, V)) (hx : (v, X') = fX9 (N, W, T, G, J, P, St, Sq, Pt, E, Lt, Hd, D, n) ) (hm : (v', M') = fM9 (A, B, C, F, U, V) ) : z_R3 X' M' ∧ v = v' := by
  have r1 := j1_9 hX hM h.1  hx hm
  have hX0 := hX
  obtain ⟨hr, ha, hT', -, -, -, hP', -, -, -⟩ := hX
  obtain ⟨hA, hB, hC, hF, hU, hV⟩ := hM
  obtain ⟨⟨hN, hE, hT, hP, h69⟩, hW, tr, hh, S, L⟩ := h
  have e1 := congrArg Prod.fst hx
  have e2 := congrArg Prod.snd hx
  have e3 := congrArg Prod.fst hm
  have e4 := congrArg Prod.snd hm
  dsimp only [fX9, fM9] at e1 e2 e3 e4
  subst e1 e2 e3 e4
  have T0 := hT'.1
  obtain ⟨q1, q2, q3, q4, q5⟩ := r1
  obtain ⟨f1, f2⟩ := stir_I (P := P) (Sq := Sq) (V := V) S T0 L
  exact ⟨⟨⟨q1, q2, q3, q4, q5⟩, hW, f2.tr, hh, f2.ss, f2.l3⟩, f1⟩
set_option maxHeartbeats 8000000 in
set_option maxRecDepth 100000 in
theorem j3_10 {v v' : Int32} {X' : z_X} {M' : z_M} (hX : z_IX (N, W, T, G, J, P, St, Sq, Pt, E, Lt, Hd, D, n)) (hM : z_IM (A, B, C, F, U, V)) (hX' : z_IX X') (hM' : z_IM M') (h : z_R3 (N, W, T, G, J, P, St, Sq, Pt, E, Lt, Hd, D, n) (A, B, C, F, U, V)) (a1 a2 : Int32) (hx : (v, X') = fX10 (N, W, T, G, J, P, St, Sq, Pt, E, Lt, Hd, D, n) a1 a2) (hm : (v', M') = fM10 (A, B, C, F, U, V) a1 a2) : z_R3 X' M' ∧ v = v' := by
  have h0 := h
  obtain ⟨hr, ha, hT', -, -, -, hP', -, -, -⟩ := hX
  obtain ⟨hA, hB, hC, hF, hU, hV⟩ := hM
  obtain ⟨⟨hN, hE, hT, hP, h69⟩, hW, tr, hh, S, L⟩ := h
  have e1 := congrArg Prod.fst hx
  have e2 := congrArg Prod.snd hx
  have e3 := congrArg Prod.fst hm
  have e4 := congrArg Prod.snd hm
  dsimp only [fX10, fM10] at e1 e2 e3 e4
  subst e1 e2 e3 e4
  exact ⟨h0, place_I S a1 a2⟩
set_option maxHeartbeats 8000000 in
set_option maxRecDepth 100000 in
theorem j3_11 {v v' : Int32} {X' : z_X} {M' : z_M} (hX : z_IX (N, W, T, G, J, P, St, Sq, Pt, E, Lt, Hd, D, n)) (hM : z_IM (A, B, C, F, U, V)) (hX' : z_IX X') (hM' : z_IM M') (h : z_R3 (N, W, T, G, J, P, St, Sq, Pt, E, Lt, Hd, D, n) (A, B, C, F, U, V)) (hx : (v, X') = fX11 (N, W, T, G, J, P, St, Sq, Pt, E, Lt, Hd, D, n) ) (hm : (v', M') = fM11 (A, B, C, F, U, V) ) : z_R3 X' M' ∧ v = v' := by
  have h0 := h
  obtain ⟨hr, ha, hT', -, -, -, hP', -, -, -⟩ := hX
  obtain ⟨hA, hB, hC, hF, hU, hV⟩ := hM
  obtain ⟨⟨hN, hE, hT, hP, h69⟩, hW, tr, hh, S, L⟩ := h
  have e1 := congrArg Prod.fst hx
  have e2 := congrArg Prod.snd hx
  have e3 := congrArg Prod.fst hm
  have e4 := congrArg Prod.snd hm
  dsimp only [fX11, fM11] at e1 e2 e3 e4
  subst e1 e2 e3 e4
  exact ⟨h0, tr⟩
set_option maxHeartbeats 8000000 in
set_option maxRecDepth 100000 in
theorem j3_12 {v v' : Int32} {X' : z_X} {M' : z_M} (hX : z_IX (N, W, T, G, J, P, St, Sq, Pt, E, Lt, Hd, D, n)) (hM : z_IM (A, B, C, F, U, V)) (hX' : z_IX X') (hM' : z_IM M') (h : z_R3 (N, W, T, G, J, P, St, Sq, Pt, E, Lt, Hd, D, n) (A, B, C, F, U, V)) (a1 a2 : Int32) (hx : (v, X') = fX12 (N, W, T, G, J, P, St, Sq, Pt, E, Lt, Hd, D, n) a1 a2) (hm : (v', M') = fM12 (A, B, C, F, U, V) a1 a2) : z_R3 X' M' ∧ v = v' := by
  have h0 := h
  obtain ⟨hr, ha, hT', -, -, -, hP', -, -, -⟩ := hX
  obtain ⟨hA, hB, hC, hF, hU, hV⟩ := hM
  obtain ⟨⟨hN, hE, hT, hP, h69⟩, hW, tr, hh, S, L⟩ := h
  have e1 := congrArg Prod.fst hx
  have e2 := congrArg Prod.snd hx
  have e3 := congrArg Prod.fst hm
  have e4 := congrArg Prod.snd hm
  dsimp only [fX12, fM12] at e1 e2 e3 e4
  subst e1 e2 e3 e4
  exact ⟨h0, door_I S hT'.1 L a1 a2⟩
set_option maxHeartbeats 8000000 in
set_option maxRecDepth 100000 in
theorem j3_13 {v v' : Int32} {X' : z_X} {M' : z_M} (hX : z_IX (N, W, T, G, J, P, St, Sq, Pt, E, Lt, Hd, D, n)) (hM : z_IM (A, B, C, F, U, V)) (hX' : z_IX X') (hM' : z_IM M') (h : z_R3 (N, W, T, G, J, P, St, Sq, Pt, E, Lt, Hd, D, n) (A, B, C, F, U, V)) (a1 a2 a3 : Int32) (hx : (v, X') = fX13 (N, W, T, G, J, P, St, Sq, Pt, E, Lt, Hd, D, n) a1 a2 a3) (hm : (v', M') = fM13 (A, B, C, F, U, V) a1 a2 a3) : z_R3 X' M' ∧ v = v' := by
  have h0 := h
  obtain ⟨hr, ha, hT', -, -, -, hP', -, -, -⟩ := hX
  obtain ⟨hA, hB, hC, hF, hU, hV⟩ := hM
  obtain ⟨⟨hN, hE, hT, hP, h69⟩, hW, tr, hh, S, L⟩ := h
  have e1 := congrArg Prod.fst hx
  have e2 := congrArg Prod.snd hx
  have e3 := congrArg Prod.fst hm
  have e4 := congrArg Prod.snd hm
  dsimp only [fX13, fM13] at e1 e2 e3 e4
  subst e1 e2 e3 e4
  exact ⟨h0, waits_I S hW L a1 a2 a3⟩
set_option maxHeartbeats 8000000 in
set_option maxRecDepth 100000 in
theorem j3_14 {v v' : Int32} {X' : z_X} {M' : z_M} (hX : z_IX (N, W, T, G, J, P, St, Sq, Pt, E, Lt, Hd, D, n)) (hM : z_IM (A, B, C, F, U, V)) (hX' : z_IX X') (hM' : z_IM M') (h : z_R3 (N, W, T, G, J, P, St, Sq, Pt, E, Lt, Hd, D, n) (A, B, C, F, U, V)) (a1 a2 : Int32) (hx : (v, X') = fX14 (N, W, T, G, J, P, St, Sq, Pt, E, Lt, Hd, D, n) a1 a2) (hm : (v', M') = fM14 (A, B, C, F, U, V) a1 a2) : z_R3 X' M' ∧ v = v' := by
  have h0 := h
  obtain ⟨hr, ha, hT', -, -, -, hP', -, -, -⟩ := hX
  obtain ⟨hA, hB, hC, hF, hU, hV⟩ := hM
  obtain ⟨⟨hN, hE, hT, hP, h69⟩, hW, tr, hh, S, L⟩ := h
  have e1 := congrArg Prod.fst hx
  have e2 := congrArg Prod.snd hx
  have e3 := congrArg Prod.fst hm
  have e4 := congrArg Prod.snd hm
  dsimp only [fX14, fM14] at e1 e2 e3 e4
  subst e1 e2 e3 e4
  exact ⟨h0, worst_I S hW L a1 a2⟩
set_option maxHeartbeats 8000000 in
set_option maxRecDepth 100000 in
theorem j3_17 {v v' : Int32} {X' : z_X} {M' : z_M} (hX : z_IX (N, W, T, G, J, P, St, Sq, Pt, E, Lt, Hd, D, n)) (hM : z_IM (A, B, C, F, U, V)) (hX' : z_IX X') (hM' : z_IM M') (h : z_R3 (N, W, T, G, J, P, St, Sq, Pt, E, Lt, Hd, D, n) (A, B, C, F, U, V)) (a1 a2 a3 : Int32) (hx : (v, X') = fX17 (N, W, T, G, J, P, St, Sq, Pt, E, Lt, Hd, D, n) a1 a2 a3) (hm : (v', M') = fM17 (A, B, C, F, U, V) a1 a2 a3) : z_R3 X' M' ∧ v = v' := by
  have h0 := h
  obtain ⟨hr, ha, hT', -, -, -, hP', -, -, -⟩ := hX
  obtain ⟨hA, hB, hC, hF, hU, hV⟩ := hM
  obtain ⟨⟨hN, hE, hT, hP, h69⟩, hW, tr, hh, S, L⟩ := h
  have e1 := congrArg Prod.fst hx
  have e2 := congrArg Prod.snd hx
  have e3 := congrArg Prod.fst hm
  have e4 := congrArg Prod.snd hm
  dsimp only [fX17, fM17] at e1 e2 e3 e4
  subst e1 e2 e3 e4
  exact ⟨h0, leaves_I S hW a1 a2 a3⟩
set_option maxHeartbeats 8000000 in
set_option maxRecDepth 100000 in
theorem j3_18 {v v' : Int32} {X' : z_X} {M' : z_M} (hX : z_IX (N, W, T, G, J, P, St, Sq, Pt, E, Lt, Hd, D, n)) (hM : z_IM (A, B, C, F, U, V)) (hX' : z_IX X') (hM' : z_IM M') (h : z_R3 (N, W, T, G, J, P, St, Sq, Pt, E, Lt, Hd, D, n) (A, B, C, F, U, V)) (a1 a2 a3 : Int32) (hx : (v, X') = fX18 (N, W, T, G, J, P, St, Sq, Pt, E, Lt, Hd, D, n) a1 a2 a3) (hm : (v', M') = fM18 (A, B, C, F, U, V) a1 a2 a3) : z_R3 X' M' ∧ v = v' := by
  have h0 := h
  obtain ⟨hr, ha, hT', -, -, -, hP', -, -, -⟩ := hX
  obtain ⟨hA, hB, hC, hF, hU, hV⟩ := hM
  obtain ⟨⟨hN, hE, hT, hP, h69⟩, hW, tr, hh, S, L⟩ := h
  have e1 := congrArg Prod.fst hx
  have e2 := congrArg Prod.snd hx
  have e3 := congrArg Prod.fst hm
  have e4 := congrArg Prod.snd hm
  dsimp only [fX18, fM18] at e1 e2 e3 e4
  subst e1 e2 e3 e4
  exact ⟨h0, room_I S hW a1 a2 a3⟩
set_option maxHeartbeats 8000000 in
set_option maxRecDepth 100000 in
theorem j3_16 {v v' : Int32} {X' : z_X} {M' : z_M} (hX : z_IX (N, W, T, G, J, P, St, Sq, Pt, E, Lt, Hd, D, n)) (hM : z_IM (A, B, C, F, U, V)) (hX' : z_IX X') (hM' : z_IM M') (h : z_R3 (N, W, T, G, J, P, St, Sq, Pt, E, Lt, Hd, D, n) (A, B, C, F, U, V)) (a1 a2 a3 a4 : Int32) (hx : (v, X') = fX16 (N, W, T, G, J, P, St, Sq, Pt, E, Lt, Hd, D, n) a1 a2 a3 a4) (hm : (v', M') = fM16 (A, B, C, F, U, V) a1 a2 a3 a4) : z_R3 X' M' ∧ v = v' := by
  have r1 := j1_16 hX hM h.1 a1 a2 a3 a4 hx hm
  have hX0 := hX
  obtain ⟨hr, ha, hT', -, -, -, hP', -, -, -⟩ := hX
  obtain ⟨hA, hB, hC, hF, hU, hV⟩ := hM
  obtain ⟨⟨hN, hE, hT, hP, h69⟩, hW, tr, hh, S, L⟩ := h
  obtain ⟨⟨N', W', T'', G', J', P', St', Sq', Pt', E', Lt', Hd', D', n'⟩, rfl⟩ : ∃ Y, Y = X' := ⟨X', rfl⟩
  obtain ⟨⟨A', B', C', F', U', V'⟩, rfl⟩ : ∃ Y, Y = M' := ⟨M', rfl⟩
  obtain ⟨r1, rv⟩ := r1
  refine ⟨⟨r1, ?_⟩, rv⟩
  dsimp only [fX16, fM16] at hx hm
  have kx : N' = N ∧ T'' = T ∧ G' = G ∧ J' = J ∧ P' = P ∧ St' = St ∧ ((D' = D ∧ n' = n) ∨ (D' = z_nwL D n ∧ n' = n + 3)) := by
    split at hx
    · split at hx
      · obtain ⟨-, hx⟩ := Prod.mk.inj hx
        simp only [Prod.mk.injEq] at hx
        obtain ⟨x1, x2, x3, x4, x5, x6, x7, x8, x9, x10, x11, x12, x13, x14⟩ := hx
        exact ⟨x1, x3, x4, x5, x6, x7, Or.inl ⟨x13, x14⟩⟩
      · obtain ⟨-, hx⟩ := Prod.mk.inj hx
        simp only [Prod.mk.injEq] at hx
        obtain ⟨x1, x2, x3, x4, x5, x6, x7, x8, x9, x10, x11, x12, x13, x14⟩ := hx
        exact ⟨x1, x3, x4, x5, x6, x7, Or.inr ⟨x13, x14⟩⟩
    · obtain ⟨-, hx⟩ := Prod.mk.inj hx
      simp only [Prod.mk.injEq] at hx
      obtain ⟨x1, x2, x3, x4, x5, x6, x7, x8, x9, x10, x11, x12, x13, x14⟩ := hx
      exact ⟨x1, x3, x4, x5, x6, x7, Or.inl ⟨x13, x14⟩⟩
  have km : A' = A ∧ B' = B ∧ C' = C := by
    split at hm
    · split at hm
      · obtain ⟨-, hm⟩ := Prod.mk.inj hm
        simp only [Prod.mk.injEq] at hm
        exact ⟨hm.1, hm.2.1, hm.2.2.1⟩
      · obtain ⟨-, hm⟩ := Prod.mk.inj hm
        simp only [Prod.mk.injEq] at hm
        exact ⟨hm.1, hm.2.1, hm.2.2.1⟩
    · obtain ⟨-, hm⟩ := Prod.mk.inj hm
      simp only [Prod.mk.injEq] at hm
      exact ⟨hm.1, hm.2.1, hm.2.2.1⟩
  obtain ⟨x1, x3, x4, x5, x6, x7, xd⟩ := kx
  obtain ⟨m1, m2, m3⟩ := km
  subst x1 x3 x4 x5 x6 x7 m1 m2 m3
  refine ⟨hW, tr, hh, ?_, L⟩
  rcases xd with ⟨d1, d2⟩ | ⟨d1, d2⟩
  · rw [d1, d2]; exact S
  · rw [d1, d2]; exact SS_D S (fun q hq => z_kS_monoL hq)
set_option maxHeartbeats 8000000 in
set_option maxRecDepth 100000 in
theorem j3_19 {X' : z_X} {M' : z_M} (h : z_R3 (N, W, T, G, J, P, St, Sq, Pt, E, Lt, Hd, D, n) (A, B, C, F, U, V)) (hx : ∃ W1 E1 Hd1, X' = (N, W1, T, G, J, P, St, Sq, Pt, E1, Lt, Hd1, D, n)) (hm : ∃ V1, M' = (A, B, C, F, U, V1)) : z_R3 X' M' := by
  obtain ⟨W1, E1, Hd1, rfl⟩ := hx
  obtain ⟨V1, rfl⟩ := hm
  exact h
set_option maxHeartbeats 8000000 in
set_option maxRecDepth 100000 in
theorem j3_20 {X' : z_X} {M' : z_M} (h : z_R3 (N, W, T, G, J, P, St, Sq, Pt, E, Lt, Hd, D, n) (A, B, C, F, U, V)) (hx : ∃ W1 E1 Hd1, X' = (N, W1, T, G, J, P, St, Sq, Pt, E1, Lt, Hd1, D, n)) (hm : ∃ V1, M' = (A, B, C, F, U, V1)) : z_R3 X' M' := by
  obtain ⟨W1, E1, Hd1, rfl⟩ := hx
  obtain ⟨V1, rfl⟩ := hm
  exact h
set_option maxHeartbeats 8000000 in
set_option maxRecDepth 100000 in
theorem j3_21 {X' : z_X} {M' : z_M} (h : z_R3 (N, W, T, G, J, P, St, Sq, Pt, E, Lt, Hd, D, n) (A, B, C, F, U, V)) (hx : ∃ W1 E1 Hd1, X' = (N, W1, T, G, J, P, St, Sq, Pt, E1, Lt, Hd1, D, n)) (hm : ∃ V1, M' = (A, B, C, F, U, V1)) : z_R3 X' M' := by
  obtain ⟨W1, E1, Hd1, rfl⟩ := hx
  obtain ⟨V1, rfl⟩ := hm
  exact h
end Zg
