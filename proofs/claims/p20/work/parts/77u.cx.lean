section Zg
variable {S : ai_S} {d z : Nat} {Q : Option Value → ai_H → Prop} {N G P E : z_A} {W : Nat → Int32} {T Pt : Int32} {J : Nat → Int64 × Int64} {St Sq Lt Hd : z_R} {D : Nat → Nat} {n : Nat} {A B C F U V : z_A} {x : z_X} {m : z_M}
/-- the state in range -/
def z_IX : z_X → Prop := fun ⟨N, _, T, G, _, _, St, Sq, Pt, E, Lt, Hd, D, n⟩ => z_RN N ∧ z_RA N ∧ z_RT T ∧ z_rS D n St ∧ z_rS D n Sq ∧ z_IS G D n ∧ z_RP Pt ∧ z_rL D n Lt ∧ z_rL D n Hd ∧ z_IL E D n
/-- what a call may add -/
def z_PX : z_X → Nat → z_X → Nat → Prop := fun ⟨_, _, _, _, _, _, _, _, _, _, _, _, _, n⟩ z ⟨_, _, _, _, _, _, _, _, _, _, _, _, _, n'⟩ z' => n' ≤ n + 3 ∧ z' ≤ z + 17
theorem z_uR {f : Nat → Int32} {k : Nat} {v : Int32} {a b : Int} (h : ∀ j, a ≤ (f j).toInt ∧ (f j).toInt ≤ b) (h0 : a ≤ v.toInt) (h1 : v.toInt ≤ b) : ∀ j, a ≤ (upd f k v j).toInt ∧ (upd f k v j).toInt ≤ b := fun j => z_upd (fun v => a ≤ v.toInt ∧ v.toInt ≤ b) h ⟨h0, h1⟩
theorem xIn_r {x a b : Int32} (h : xIn x a b = true) : a.toInt ≤ x.toInt ∧ x.toInt ≤ b.toInt := xIn_s h
theorem xBox_k {N : z_A} {h : Int32} (hr : z_RN N) (ha : z_RA N) : z_RN (xBox N h).2 ∧ z_RA (xBox N h).2 := by
  unfold xBox
  split
  · rename_i a0
    have i := xIn_s a0
    have t0 : Int32.toInt 0 = 0 := rfl
    have t5 : Int32.toInt 5 = 5 := rfl
    split
    · rename_i a1
      rw [z_ltI] at a1
      have t6 : Int32.toInt 6 = 6 := rfl
      have e := z_up1 hr.1 (by omega)
      obtain ⟨r1, r2, r3, r4, r5, r6⟩ := hr
      obtain ⟨g1, g2, g3, g4, g5, g6, g7⟩ := ha
      refine ⟨⟨?_, ?_, r3, r4, r5, r6⟩, z_uR g1 (by omega) (by omega), g2, g3, g4, g5, g6, g7⟩
      · show 0 ≤ (N 1 6 + 1).toInt
        omega
      · show (N 1 6 + 1).toInt ≤ 6
        omega
    · exact ⟨hr, ha⟩
  · exact ⟨hr, ha⟩
theorem xPr_s {N : z_A} {a b : Int32} (h : xPr N a b = true) : xB N a = true ∧ xB N b = true := by
  unfold xPr at h
  split at h
  · rename_i h1
    split at h
    · rename_i h2; exact ⟨h1, h2⟩
    · cases h
  · cases h
theorem xWi_k {N : z_A} {T Pt a b l s : Int32} (hr : z_RN N) (ha : z_RA N) : z_RN (xWi N T Pt a b l s).2 ∧ z_RA (xWi N T Pt a b l s).2 ∧ (xWi N T Pt a b l s).2 1 6 = N 1 6 := by
  unfold xWi
  split
  · rename_i p0
    have hp := xPr_s p0
    have ha1 := xB_s hp.1
    have hb1 := xB_s hp.2
    split
    · exact ⟨hr, ha, rfl⟩
    · split
      · exact ⟨hr, ha, rfl⟩
      · split
        · rename_i a3
          have i3 := xIn_s a3
          split
          · rename_i a4
            have i4 := xIn_s a4
            have t0 : Int32.toInt 0 = 0 := rfl
            have t1 : Int32.toInt 1 = 1 := rfl
            have t9 : Int32.toInt 9 = 9 := rfl
            have t3 : Int32.toInt 3 = 3 := rfl
            split
            · rename_i a5
              rw [z_ltI] at a5
              have t12 : Int32.toInt 12 = 12 := rfl
              obtain ⟨r1, r2, r3, r4, r5, r6⟩ := hr
              have e := z_up1 r3 (by omega)
              obtain ⟨g1, g2, g3, g4, g5, g6, g7⟩ := ha
              refine ⟨⟨r1, r2, ?_, ?_, r5, r6⟩, ⟨g1, g2, z_uR g3 (by omega) (by omega), z_uR g4 (by omega) (by omega), z_uR g5 (by omega) (by omega), z_uR g6 (by omega) (by omega), g7⟩, rfl⟩
              · show 0 ≤ (N 1 7 + 1).toInt
                omega
              · show (N 1 7 + 1).toInt ≤ 12
                omega
            · exact ⟨hr, ha, rfl⟩
          · exact ⟨hr, ha, rfl⟩
        · exact ⟨hr, ha, rfl⟩
  · exact ⟨hr, ha, rfl⟩
theorem xCy_s {h : Int32} (e : xCy h = true) : 12 ≤ h.toInt ∧ h.toInt ≤ 120 := by
  unfold xCy at e
  split at e
  · rename_i q; rw [← q]; decide
  · split at e
    · rename_i q; rw [← q]; decide
    · split at e
      · rename_i q; rw [← q]; decide
      · split at e
        · rename_i q; rw [← q]; decide
        · split at e
          · rename_i q; rw [← q]; decide
          · cases e
theorem xCyc_k {N : z_A} {T h : Int32} (hr : z_RN N) (ha : z_RA N) : z_RN (xCyc N T h).2 ∧ z_RA (xCyc N T h).2 ∧ (xCyc N T h).2 1 6 = N 1 6 := by
  unfold xCyc
  split
  · exact ⟨hr, ha, rfl⟩
  · split
    · rename_i q
      have := xCy_s q
      obtain ⟨r1, r2, r3, r4, r5, r6⟩ := hr
      exact ⟨⟨r1, r2, r3, r4, this.1, this.2⟩, ha, rfl⟩
    · exact ⟨hr, ha, rfl⟩
theorem xRc_a {N : z_A} (ha : z_RA N) : z_RA (xRc N) := by
  obtain ⟨g1, g2, g3⟩ := ha
  have t0 : Int32.toInt 0 = 0 := rfl
  exact ⟨g1, z_uR (z_uR (z_uR (z_uR (z_uR (z_uR g2 (by omega) (by omega)) (by omega) (by omega)) (by omega) (by omega)) (by omega) (by omega)) (by omega) (by omega)) (by omega) (by omega), g3⟩
theorem xDr_k {N E : z_A} {T k : Int32} {D : Nat → Nat} {n : Nat} (hr : z_RN N) (ha : z_RA N) (hE : z_IL E D n) : z_RN (xDr N E T k).2.1 ∧ z_RA (xDr N E T k).2.1 ∧ (xDr N E T k).2.1 1 6 = N 1 6 ∧ z_IL (xDr N E T k).2.2 D n := by
  unfold xDr
  split
  · exact ⟨hr, ha, rfl, hE⟩
  · split
    · rename_i q
      have i := xIn_s q
      have t0 : Int32.toInt 0 = 0 := rfl
      have t3 : Int32.toInt 3 = 3 := rfl
      refine ⟨hr, xRc_a ?_, rfl, z_IL_p hE (fun q hq => z_pL (by decide) hq)⟩
      obtain ⟨g1, g2, g3, g4, g5, g6, g7, g8⟩ := ha
      refine ⟨g1, g2, g3, g4, g5, g6, ?_, ?_⟩
      · show 0 ≤ k.toInt
        omega
      · show k.toInt ≤ 3
        omega
    · exact ⟨hr, ha, rfl, hE⟩
theorem xClk_k {N E : z_A} {b e : Int32} {D : Nat → Nat} {n : Nat} (hr : z_RN N) (ha : z_RA N) (hE : z_IL E D n) : z_RN (xClk N E b e).2.1 ∧ z_RA (xClk N E b e).2.1 ∧ (xClk N E b e).2.1 1 6 = N 1 6 ∧ z_IL (xClk N E b e).2.2 D n := by
  unfold xClk
  split
  · split
    · rename_i q
      have i := xIn_s q
      obtain ⟨g1, g2, g3, g4, g5, g6, g7, g8⟩ := ha
      have e1 : (-(N 1 9)).toInt = -(N 1 9).toInt := by
        rw [Int32.toInt_neg, bm32]; split <;> omega
      exact ⟨hr, ⟨g1, z_uR g2 (by omega) (by omega), g3, g4, g5, g6, g7, g8⟩, rfl, z_IL_p hE (fun q hq => z_pL (by decide) hq)⟩
    · exact ⟨hr, ha, rfl, hE⟩
  · exact ⟨hr, ha, rfl, hE⟩
theorem xSk_k {N : z_A} {T : Int32} {St : z_R} {G : z_A} {J : z_J} {E : z_A} {s : Int32} {D : Nat → Nat} {n : Nat} (hi : z_IS G D n) (hE : z_IL E D n) : z_IS (xSk N T St G J E s).2.1 D n ∧ z_IL (xSk N T St G J E s).2.2.2 D n := by
  unfold xSk
  split
  · exact ⟨hi, hE⟩
  · exact ⟨z_IS_w hi (by decide) (by decide), z_IL_p hE (fun q hq => z_pL (by decide) hq)⟩
theorem z_nf {b : Bool} (h : b = false) : ¬ b = true := by rw [h]; decide
theorem z_E8 {E : z_A} {D : Nat → Nat} {n : Nat} {v : Int32} (hE : z_IL E D n) : z_IL (z_wr E 40 8 v) D n := z_IL_p hE (fun q hq => z_pL (by decide) hq)
def fX0 : z_X → Int32 → Int32 × z_X := fun ⟨N, W, T, G, J, P, St, Sq, Pt, E, Lt, Hd, D, n⟩ a1 => ((xBox N a1).1, ((xBox N a1).2, W, T, G, J, P, St, Sq, Pt, E, Lt, Hd, D, n))
set_option maxHeartbeats 8000000 in
set_option maxRecDepth 100000 in
theorem cx0 (hI : z_IX (N, W, T, G, J, P, St, Sq, Pt, E, Lt, Hd, D, n)) (a1 : Int32) : ∃ (v : Int32) (X' : z_X) (z' : Nat), z_IX X' ∧ z_PX (N, W, T, G, J, P, St, Sq, Pt, E, Lt, Hd, D, n) z X' z' ∧ ((v, X') = fX0 (N, W, T, G, J, P, St, Sq, Pt, E, Lt, Hd, D, n) a1) ∧ ∀ Q : Option Value → ai_H → Prop, RR S (d + 24) 83 0 [(0, .ref 0), (1, .int a1)] [] (z_hp (N, W, T, G, J, P, St, Sq, Pt, E, Lt, Hd, D, n) m, z) Q = Q (some (.int v)) (z_hp X' m, z') := by
  obtain ⟨hr, ha, hT, hS, hQ, hi, hP, hL, hH, hE⟩ := hI
  have k := xBox_k (h := a1) hr ha
  exact ⟨_, ((xBox N a1).2, W, T, G, J, P, St, Sq, Pt, E, Lt, Hd, D, n), z, ⟨k.1, k.2, hT, hS, hQ, hi, hP, hL, hH, hE⟩, ⟨by omega, by omega⟩, rfl, fun Q => y83 (d := d + 23) hr a1⟩
def fX1 : z_X → Int32 → Int32 → Int32 → Int32 → Int32 × z_X := fun ⟨N, W, T, G, J, P, St, Sq, Pt, E, Lt, Hd, D, n⟩ a1 a2 a3 a4 => ((xWi N T Pt a1 a2 a3 a4).1, ((xWi N T Pt a1 a2 a3 a4).2, W, T, G, J, P, St, Sq, Pt, E, Lt, Hd, D, n))
set_option maxHeartbeats 8000000 in
set_option maxRecDepth 100000 in
theorem cx1 (hI : z_IX (N, W, T, G, J, P, St, Sq, Pt, E, Lt, Hd, D, n)) (a1 a2 a3 a4 : Int32) : ∃ (v : Int32) (X' : z_X) (z' : Nat), z_IX X' ∧ z_PX (N, W, T, G, J, P, St, Sq, Pt, E, Lt, Hd, D, n) z X' z' ∧ ((v, X') = fX1 (N, W, T, G, J, P, St, Sq, Pt, E, Lt, Hd, D, n) a1 a2 a3 a4) ∧ ∀ Q : Option Value → ai_H → Prop, RR S (d + 24) 84 0 [(0, .ref 0), (1, .int a1), (2, .int a2), (3, .int a3), (4, .int a4)] [] (z_hp (N, W, T, G, J, P, St, Sq, Pt, E, Lt, Hd, D, n) m, z) Q = Q (some (.int v)) (z_hp X' m, z') := by
  obtain ⟨hr, ha, hT, hS, hQ, hi, hP, hL, hH, hE⟩ := hI
  have k := xWi_k (T := T) (Pt := Pt) (a := a1) (b := a2) (l := a3) (s := a4) hr ha
  exact ⟨_, ((xWi N T Pt a1 a2 a3 a4).2, W, T, G, J, P, St, Sq, Pt, E, Lt, Hd, D, n), z, ⟨k.1, k.2.1, hT, hS, hQ, hi, hP, hL, hH, hE⟩, ⟨by omega, by omega⟩, rfl, fun Q => y84 (d := d + 22) hr a1 a2 a3 a4⟩
def fX2 : z_X → Int32 → Int32 × z_X := fun ⟨N, W, T, G, J, P, St, Sq, Pt, E, Lt, Hd, D, n⟩ a1 => (z_b (xCyc N T a1).1, ((xCyc N T a1).2, W, T, G, J, P, St, Sq, Pt, E, Lt, Hd, D, n))
set_option maxHeartbeats 8000000 in
set_option maxRecDepth 100000 in
theorem cx2 (hI : z_IX (N, W, T, G, J, P, St, Sq, Pt, E, Lt, Hd, D, n)) (a1 : Int32) : ∃ (v : Int32) (X' : z_X) (z' : Nat), z_IX X' ∧ z_PX (N, W, T, G, J, P, St, Sq, Pt, E, Lt, Hd, D, n) z X' z' ∧ ((v, X') = fX2 (N, W, T, G, J, P, St, Sq, Pt, E, Lt, Hd, D, n) a1) ∧ ∀ Q : Option Value → ai_H → Prop, RR S (d + 24) 85 0 [(0, .ref 0), (1, .int a1)] [] (z_hp (N, W, T, G, J, P, St, Sq, Pt, E, Lt, Hd, D, n) m, z) Q = Q (some (.int v)) (z_hp X' m, z') := by
  obtain ⟨hr, ha, hT, hS, hQ, hi, hP, hL, hH, hE⟩ := hI
  have k := xCyc_k (T := T) (h := a1) hr ha
  exact ⟨_, ((xCyc N T a1).2, W, T, G, J, P, St, Sq, Pt, E, Lt, Hd, D, n), z, ⟨k.1, k.2.1, hT, hS, hQ, hi, hP, hL, hH, hE⟩, ⟨by omega, by omega⟩, rfl, fun Q => y85 (d := d + 23) a1⟩
def fX3 : z_X → Int32 → Int32 × z_X := fun ⟨N, W, T, G, J, P, St, Sq, Pt, E, Lt, Hd, D, n⟩ a1 => (z_b (xDr N E T a1).1, ((xDr N E T a1).2.1, W, T, G, J, P, St, Sq, Pt, (xDr N E T a1).2.2, Lt, Hd, D, n))
set_option maxHeartbeats 8000000 in
set_option maxRecDepth 100000 in
theorem cx3 (hI : z_IX (N, W, T, G, J, P, St, Sq, Pt, E, Lt, Hd, D, n)) (a1 : Int32) : ∃ (v : Int32) (X' : z_X) (z' : Nat), z_IX X' ∧ z_PX (N, W, T, G, J, P, St, Sq, Pt, E, Lt, Hd, D, n) z X' z' ∧ ((v, X') = fX3 (N, W, T, G, J, P, St, Sq, Pt, E, Lt, Hd, D, n) a1) ∧ ∀ Q : Option Value → ai_H → Prop, RR S (d + 24) 86 0 [(0, .ref 0), (1, .int a1)] [] (z_hp (N, W, T, G, J, P, St, Sq, Pt, E, Lt, Hd, D, n) m, z) Q = Q (some (.int v)) (z_hp X' m, z') := by
  obtain ⟨hr, ha, hT, hS, hQ, hi, hP, hL, hH, hE⟩ := hI
  have k := xDr_k (T := T) (k := a1) hr ha hE
  exact ⟨_, ((xDr N E T a1).2.1, W, T, G, J, P, St, Sq, Pt, (xDr N E T a1).2.2, Lt, Hd, D, n), z, ⟨k.1, k.2.1, hT, hS, hQ, hi, hP, hL, hH, k.2.2.2⟩, ⟨by omega, by omega⟩, rfl, fun Q => y86 (d := d + 23) a1⟩
def fX4 : z_X → Int32 → Int32 → Int32 → Int32 → Int32 → Int32 × z_X := fun ⟨N, W, T, G, J, P, St, Sq, Pt, E, Lt, Hd, D, n⟩ a1 a2 a3 a4 a5 => ((xWy N W a1 a2 a3 a4 a5).1, (N, (xWy N W a1 a2 a3 a4 a5).2, T, G, J, P, St, Sq, Pt, E, Lt, Hd, D, n))
set_option maxHeartbeats 8000000 in
set_option maxRecDepth 100000 in
theorem cx4 (hI : z_IX (N, W, T, G, J, P, St, Sq, Pt, E, Lt, Hd, D, n)) (a1 a2 a3 a4 a5 : Int32) : ∃ (v : Int32) (X' : z_X) (z' : Nat), z_IX X' ∧ z_PX (N, W, T, G, J, P, St, Sq, Pt, E, Lt, Hd, D, n) z X' z' ∧ ((v, X') = fX4 (N, W, T, G, J, P, St, Sq, Pt, E, Lt, Hd, D, n) a1 a2 a3 a4 a5) ∧ ∀ Q : Option Value → ai_H → Prop, RR S (d + 24) 87 0 [(0, .ref 0), (1, .int a1), (2, .int a2), (3, .int a3), (4, .int a4), (5, .int a5)] [] (z_hp (N, W, T, G, J, P, St, Sq, Pt, E, Lt, Hd, D, n) m, z) Q = Q (some (.int v)) (z_hp X' m, z') := by
  obtain ⟨hr, ha, hT, hS, hQ, hi, hP, hL, hH, hE⟩ := hI
  exact ⟨_, (N, (xWy N W a1 a2 a3 a4 a5).2, T, G, J, P, St, Sq, Pt, E, Lt, Hd, D, n), z, ⟨hr, ha, hT, hS, hQ, hi, hP, hL, hH, hE⟩, ⟨by omega, by omega⟩, rfl, fun Q => y87 (d := d + 14) hr a1 a2 a3 a4 a5⟩
def fX5 : z_X → Int32 → Int32 → Int32 → Int32 → Int32 → Int32 × z_X := fun ⟨N, W, T, G, J, P, St, Sq, Pt, E, Lt, Hd, D, n⟩ a1 a2 a3 a4 a5 => if xSg N T a1 a2 a3 a4 a5 = true then if xLt (xNb N a1 a2 a3 (-1) W 4) a5 = true then (T + 1 - 1, (N, (xSG N n W G a1 a2 a3 a4 a5).2, (T + 1), (xSG N n W G a1 a2 a3 a4 a5).1, J, P, va_up St T.toNatClampNeg (some (78 + n)), Sq, Pt, E, Lt, Hd, z_nwD D n, n + 2)) else (-2, (N, xNb N a1 a2 a3 (-1) W, T, G, J, P, St, Sq, Pt, E, Lt, Hd, D, n)) else (-1, (N, W, T, G, J, P, St, Sq, Pt, E, Lt, Hd, D, n))
set_option maxHeartbeats 8000000 in
set_option maxRecDepth 100000 in
theorem cx5 (hI : z_IX (N, W, T, G, J, P, St, Sq, Pt, E, Lt, Hd, D, n)) (a1 a2 a3 a4 a5 : Int32) : ∃ (v : Int32) (X' : z_X) (z' : Nat), z_IX X' ∧ z_PX (N, W, T, G, J, P, St, Sq, Pt, E, Lt, Hd, D, n) z X' z' ∧ ((v, X') = fX5 (N, W, T, G, J, P, St, Sq, Pt, E, Lt, Hd, D, n) a1 a2 a3 a4 a5) ∧ ∀ Q : Option Value → ai_H → Prop, RR S (d + 24) 88 0 [(0, .ref 0), (1, .int a1), (2, .int a2), (3, .int a3), (4, .int a4), (5, .int a5)] [] (z_hp (N, W, T, G, J, P, St, Sq, Pt, E, Lt, Hd, D, n) m, z) Q = Q (some (.int v)) (z_hp X' m, z') := by
  obtain ⟨hr, ha, hT, hS, hQ, hi, hP, hL, hH, hE⟩ := hI
  rcases z_bc (xSg N T a1 a2 a3 a4 a5) with h | h
  · rcases z_bc (xLt (xNb N a1 a2 a3 (-1) W 4) a5) with h2 | h2
    · have hT8 : T.toInt < 8 := by
        unfold xSg at h
        split at h
        · rename_i q; exact z_8 (eq_true q)
        · cases h
      have hT0 := hT.1
      have e := z_up1 hT.1 (by omega)
      have hp : xPe N a4 = true := by
        unfold xSg at h
        split at h
        · split at h
          · split at h
            · split at h
              · assumption
              · cases h
            · cases h
          · cases h
        · cases h
      have hI2 := z_IS_new (c := a3) hi (xPe_s hr hp)
      have hI3 := xFch_IS (N := N) (a := a1) (b := a2) (lat := a5) z_kn 4 0 (xNb N a1 a2 (z_nwG G n a3 (xMx a4 2) (78 + n) 0) (-1) (xNb N a1 a2 a3 (-1) W) 4) _ (xNb N a1 a2 (z_nwG G n a3 (xMx a4 2) (78 + n) 0) (-1) (xNb N a1 a2 a3 (-1) W)) hI2
      refine ⟨_, (N, (xSG N n W G a1 a2 a3 a4 a5).2, (T + 1), (xSG N n W G a1 a2 a3 a4 a5).1, J, P, va_up St T.toNatClampNeg (some (78 + n)), Sq, Pt, E, Lt, Hd, z_nwD D n, n + 2), z + 6 + 3, ⟨hr, ha, ⟨by omega, by omega⟩, z_rS_up (z_rS_mono hS) (fun q e => by cases e; exact z_kn), z_rS_mono hQ, hI3, hP, z_rL_monoS hL, z_rL_monoS hH, fun q hq => hE q (z_kL_oldS hq)⟩, ⟨by omega, by omega⟩, ?_, fun Q => y88c (d := d + 13) hr hT hi a1 a2 a3 a4 a5 h h2⟩
      show _ = ite _ _ _
      rw [if_pos h, if_pos h2]
    · refine ⟨_, (N, xNb N a1 a2 a3 (-1) W, T, G, J, P, St, Sq, Pt, E, Lt, Hd, D, n), z, ⟨hr, ha, hT, hS, hQ, hi, hP, hL, hH, hE⟩, ⟨by omega, by omega⟩, ?_, fun Q => y88b (d := d + 13) hr a1 a2 a3 a4 a5 h h2⟩
      show _ = ite _ _ _
      rw [if_pos h, if_neg (z_nf h2)]
  · refine ⟨_, (N, W, T, G, J, P, St, Sq, Pt, E, Lt, Hd, D, n), z, ⟨hr, ha, hT, hS, hQ, hi, hP, hL, hH, hE⟩, ⟨by omega, by omega⟩, ?_, fun Q => y88a (d := d + 13) a1 a2 a3 a4 a5 h⟩
    show _ = ite _ _ _
    rw [if_neg (z_nf h)]
def fX6 : z_X → Int32 → Int32 × z_X := fun ⟨N, W, T, G, J, P, St, Sq, Pt, E, Lt, Hd, D, n⟩ a1 => (z_b (xSk N T St G J E a1).1, (N, W, T, (xSk N T St G J E a1).2.1, (xSk N T St G J E a1).2.2.1, P, St, Sq, Pt, (xSk N T St G J E a1).2.2.2, Lt, Hd, D, n))
set_option maxHeartbeats 8000000 in
set_option maxRecDepth 100000 in
theorem cx6 (hI : z_IX (N, W, T, G, J, P, St, Sq, Pt, E, Lt, Hd, D, n)) (a1 : Int32) : ∃ (v : Int32) (X' : z_X) (z' : Nat), z_IX X' ∧ z_PX (N, W, T, G, J, P, St, Sq, Pt, E, Lt, Hd, D, n) z X' z' ∧ ((v, X') = fX6 (N, W, T, G, J, P, St, Sq, Pt, E, Lt, Hd, D, n) a1) ∧ ∀ Q : Option Value → ai_H → Prop, RR S (d + 24) 89 0 [(0, .ref 0), (1, .int a1)] [] (z_hp (N, W, T, G, J, P, St, Sq, Pt, E, Lt, Hd, D, n) m, z) Q = Q (some (.int v)) (z_hp X' m, z') := by
  obtain ⟨hr, ha, hT, hS, hQ, hi, hP, hL, hH, hE⟩ := hI
  have k := xSk_k (N := N) (T := T) (St := St) (J := J) (s := a1) hi hE
  exact ⟨_, (N, W, T, (xSk N T St G J E a1).2.1, (xSk N T St G J E a1).2.2.1, P, St, Sq, Pt, (xSk N T St G J E a1).2.2.2, Lt, Hd, D, n), z, ⟨hr, ha, hT, hS, hQ, k.1, hP, hL, hH, k.2⟩, ⟨by omega, by omega⟩, rfl, fun Q => y89 (d := d + 19) hr hT hS hi a1⟩
def fX7 : z_X → Int32 × z_X := fun ⟨N, W, T, G, J, P, St, Sq, Pt, E, Lt, Hd, D, n⟩ => ((xPlan N T St G J P Sq).1, (N, W, T, (xPlan N T St G J P Sq).2.1, (xPlan N T St G J P Sq).2.2.1, (xPlan N T St G J P Sq).2.2.2.1, St, (xPlan N T St G J P Sq).2.2.2.2, Pt, z_wr E 40 8 1, Lt, Hd, D, n))
set_option maxHeartbeats 8000000 in
set_option maxRecDepth 100000 in
theorem cx7 (hI : z_IX (N, W, T, G, J, P, St, Sq, Pt, E, Lt, Hd, D, n))  : ∃ (v : Int32) (X' : z_X) (z' : Nat), z_IX X' ∧ z_PX (N, W, T, G, J, P, St, Sq, Pt, E, Lt, Hd, D, n) z X' z' ∧ ((v, X') = fX7 (N, W, T, G, J, P, St, Sq, Pt, E, Lt, Hd, D, n) ) ∧ ∀ Q : Option Value → ai_H → Prop, RR S (d + 24) 90 0 [(0, .ref 0)] [] (z_hp (N, W, T, G, J, P, St, Sq, Pt, E, Lt, Hd, D, n) m, z) Q = Q (some (.int v)) (z_hp X' m, z') := by
  obtain ⟨hr, ha, hT, hS, hQ, hi, hP, hL, hH, hE⟩ := hI
  have k := xFit_k (N := N) (T := T) (set := ((1 : Int32) <<< (T &&& 31)) - 1) (J := J) (P := z_wr P 27 7 0) hS hi hQ
  exact ⟨_, (N, W, T, (xPlan N T St G J P Sq).2.1, (xPlan N T St G J P Sq).2.2.1, (xPlan N T St G J P Sq).2.2.2.1, St, (xPlan N T St G J P Sq).2.2.2.2, Pt, z_wr E 40 8 1, Lt, Hd, D, n), z, ⟨hr, ha, hT, hS, k.2, k.1, hP, hL, hH, z_E8 hE⟩, ⟨by omega, by omega⟩, rfl, fun Q => y90 (d := d + 1) hr hT hS hi hQ⟩
def fX8 : z_X → Int32 × z_X := fun ⟨N, W, T, G, J, P, St, Sq, Pt, E, Lt, Hd, D, n⟩ => ((xAdd N T St G J P Sq).1, (N, W, T, (xAdd N T St G J P Sq).2.1, (xAdd N T St G J P Sq).2.2.1, (xAdd N T St G J P Sq).2.2.2.1, St, (xAdd N T St G J P Sq).2.2.2.2, Pt, z_wr E 40 8 1, Lt, Hd, D, n))
set_option maxHeartbeats 8000000 in
set_option maxRecDepth 100000 in
theorem cx8 (hI : z_IX (N, W, T, G, J, P, St, Sq, Pt, E, Lt, Hd, D, n))  : ∃ (v : Int32) (X' : z_X) (z' : Nat), z_IX X' ∧ z_PX (N, W, T, G, J, P, St, Sq, Pt, E, Lt, Hd, D, n) z X' z' ∧ ((v, X') = fX8 (N, W, T, G, J, P, St, Sq, Pt, E, Lt, Hd, D, n) ) ∧ ∀ Q : Option Value → ai_H → Prop, RR S (d + 24) 91 0 [(0, .ref 0)] [] (z_hp (N, W, T, G, J, P, St, Sq, Pt, E, Lt, Hd, D, n) m, z) Q = Q (some (.int v)) (z_hp X' m, z') := by
  obtain ⟨hr, ha, hT, hS, hQ, hi, hP, hL, hH, hE⟩ := hI
  have k := xFit_k (N := N) (T := T) (set := (((1 : Int32) <<< (T &&& 31)) - 1) &&& (xWp T St G 9 0 0 ^^^ -1)) (J := J) (P := z_wr P 27 7 0) hS hi hQ
  exact ⟨_, (N, W, T, (xAdd N T St G J P Sq).2.1, (xAdd N T St G J P Sq).2.2.1, (xAdd N T St G J P Sq).2.2.2.1, St, (xAdd N T St G J P Sq).2.2.2.2, Pt, z_wr E 40 8 1, Lt, Hd, D, n), z, ⟨hr, ha, hT, hS, k.2, k.1, hP, hL, hH, z_E8 hE⟩, ⟨by omega, by omega⟩, rfl, fun Q => y91 (d := d + 1) hr hT hS hi hQ⟩
def fX9 : z_X → Int32 × z_X := fun ⟨N, W, T, G, J, P, St, Sq, Pt, E, Lt, Hd, D, n⟩ => ((xStir N T St G J P Sq).1, (N, W, T, (xStir N T St G J P Sq).2.1, (xStir N T St G J P Sq).2.2.1, (xStir N T St G J P Sq).2.2.2.1, St, (xStir N T St G J P Sq).2.2.2.2, Pt, z_wr E 40 8 1, Lt, Hd, D, n))
set_option maxHeartbeats 8000000 in
set_option maxRecDepth 100000 in
theorem cx9 (hI : z_IX (N, W, T, G, J, P, St, Sq, Pt, E, Lt, Hd, D, n))  : ∃ (v : Int32) (X' : z_X) (z' : Nat), z_IX X' ∧ z_PX (N, W, T, G, J, P, St, Sq, Pt, E, Lt, Hd, D, n) z X' z' ∧ ((v, X') = fX9 (N, W, T, G, J, P, St, Sq, Pt, E, Lt, Hd, D, n) ) ∧ ∀ Q : Option Value → ai_H → Prop, RR S (d + 24) 92 0 [(0, .ref 0)] [] (z_hp (N, W, T, G, J, P, St, Sq, Pt, E, Lt, Hd, D, n) m, z) Q = Q (some (.int v)) (z_hp X' m, z') := by
  obtain ⟨hr, ha, hT, hS, hQ, hi, hP, hL, hH, hE⟩ := hI
  have k := xOu_k (N := N) (T := T) (wi := xWp T St G 9 0 0) (wo := (((1 : Int32) <<< (T &&& 31)) - 1) &&& (xWp T St G 9 0 0 ^^^ -1)) hS 5 0 (G, J, z_wr P 27 7 0, Sq) ⟨hi, hQ⟩
  exact ⟨_, (N, W, T, (xStir N T St G J P Sq).2.1, (xStir N T St G J P Sq).2.2.1, (xStir N T St G J P Sq).2.2.2.1, St, (xStir N T St G J P Sq).2.2.2.2, Pt, z_wr E 40 8 1, Lt, Hd, D, n), z, ⟨hr, ha, hT, hS, k.2, k.1, hP, hL, hH, z_E8 hE⟩, ⟨by omega, by omega⟩, rfl, fun Q => y92 (d := d) hr hT hS hi hQ⟩
def fX10 : z_X → Int32 → Int32 → Int32 × z_X := fun ⟨N, W, T, G, J, P, St, Sq, Pt, E, Lt, Hd, D, n⟩ a1 a2 => (xPlc N T St G a1 a2, (N, W, T, G, J, P, St, Sq, Pt, E, Lt, Hd, D, n))
set_option maxHeartbeats 8000000 in
set_option maxRecDepth 100000 in
theorem cx10 (hI : z_IX (N, W, T, G, J, P, St, Sq, Pt, E, Lt, Hd, D, n)) (a1 a2 : Int32) : ∃ (v : Int32) (X' : z_X) (z' : Nat), z_IX X' ∧ z_PX (N, W, T, G, J, P, St, Sq, Pt, E, Lt, Hd, D, n) z X' z' ∧ ((v, X') = fX10 (N, W, T, G, J, P, St, Sq, Pt, E, Lt, Hd, D, n) a1 a2) ∧ ∀ Q : Option Value → ai_H → Prop, RR S (d + 24) 93 0 [(0, .ref 0), (1, .int a1), (2, .int a2)] [] (z_hp (N, W, T, G, J, P, St, Sq, Pt, E, Lt, Hd, D, n) m, z) Q = Q (some (.int v)) (z_hp X' m, z') := by
  obtain ⟨hr, ha, hT, hS, hQ, hi, hP, hL, hH, hE⟩ := hI
  exact ⟨_, (N, W, T, G, J, P, St, Sq, Pt, E, Lt, Hd, D, n), z, ⟨hr, ha, hT, hS, hQ, hi, hP, hL, hH, hE⟩, ⟨by omega, by omega⟩, rfl, fun Q => y93 (d := d + 19) hr hT hS hi a1 a2⟩
def fX11 : z_X → Int32 × z_X := fun ⟨N, W, T, G, J, P, St, Sq, Pt, E, Lt, Hd, D, n⟩ => (P 27 7, (N, W, T, G, J, P, St, Sq, Pt, E, Lt, Hd, D, n))
set_option maxHeartbeats 8000000 in
set_option maxRecDepth 100000 in
theorem cx11 (hI : z_IX (N, W, T, G, J, P, St, Sq, Pt, E, Lt, Hd, D, n))  : ∃ (v : Int32) (X' : z_X) (z' : Nat), z_IX X' ∧ z_PX (N, W, T, G, J, P, St, Sq, Pt, E, Lt, Hd, D, n) z X' z' ∧ ((v, X') = fX11 (N, W, T, G, J, P, St, Sq, Pt, E, Lt, Hd, D, n) ) ∧ ∀ Q : Option Value → ai_H → Prop, RR S (d + 24) 94 0 [(0, .ref 0)] [] (z_hp (N, W, T, G, J, P, St, Sq, Pt, E, Lt, Hd, D, n) m, z) Q = Q (some (.int v)) (z_hp X' m, z') := by
  obtain ⟨hr, ha, hT, hS, hQ, hi, hP, hL, hH, hE⟩ := hI
  exact ⟨_, (N, W, T, G, J, P, St, Sq, Pt, E, Lt, Hd, D, n), z, ⟨hr, ha, hT, hS, hQ, hi, hP, hL, hH, hE⟩, ⟨by omega, by omega⟩, rfl, fun Q => y94 (d := d + 24)⟩
def fX12 : z_X → Int32 → Int32 → Int32 × z_X := fun ⟨N, W, T, G, J, P, St, Sq, Pt, E, Lt, Hd, D, n⟩ a1 a2 => (xDoor N T St G a1 a2, (N, W, T, G, J, P, St, Sq, Pt, E, Lt, Hd, D, n))
set_option maxHeartbeats 8000000 in
set_option maxRecDepth 100000 in
theorem cx12 (hI : z_IX (N, W, T, G, J, P, St, Sq, Pt, E, Lt, Hd, D, n)) (a1 a2 : Int32) : ∃ (v : Int32) (X' : z_X) (z' : Nat), z_IX X' ∧ z_PX (N, W, T, G, J, P, St, Sq, Pt, E, Lt, Hd, D, n) z X' z' ∧ ((v, X') = fX12 (N, W, T, G, J, P, St, Sq, Pt, E, Lt, Hd, D, n) a1 a2) ∧ ∀ Q : Option Value → ai_H → Prop, RR S (d + 24) 95 0 [(0, .ref 0), (1, .int a1), (2, .int a2)] [] (z_hp (N, W, T, G, J, P, St, Sq, Pt, E, Lt, Hd, D, n) m, z) Q = Q (some (.int v)) (z_hp X' m, z') := by
  obtain ⟨hr, ha, hT, hS, hQ, hi, hP, hL, hH, hE⟩ := hI
  exact ⟨_, (N, W, T, G, J, P, St, Sq, Pt, E, Lt, Hd, D, n), z, ⟨hr, ha, hT, hS, hQ, hi, hP, hL, hH, hE⟩, ⟨by omega, by omega⟩, rfl, fun Q => y95 (d := d + 19) hr hT hS hi a1 a2⟩
def fX13 : z_X → Int32 → Int32 → Int32 → Int32 × z_X := fun ⟨N, W, T, G, J, P, St, Sq, Pt, E, Lt, Hd, D, n⟩ a1 a2 a3 => (xWt N J a1 a2 a3, (N, W, T, G, J, P, St, Sq, Pt, E, Lt, Hd, D, n))
set_option maxHeartbeats 8000000 in
set_option maxRecDepth 100000 in
theorem cx13 (hI : z_IX (N, W, T, G, J, P, St, Sq, Pt, E, Lt, Hd, D, n)) (a1 a2 a3 : Int32) : ∃ (v : Int32) (X' : z_X) (z' : Nat), z_IX X' ∧ z_PX (N, W, T, G, J, P, St, Sq, Pt, E, Lt, Hd, D, n) z X' z' ∧ ((v, X') = fX13 (N, W, T, G, J, P, St, Sq, Pt, E, Lt, Hd, D, n) a1 a2 a3) ∧ ∀ Q : Option Value → ai_H → Prop, RR S (d + 24) 96 0 [(0, .ref 0), (1, .int a1), (2, .int a2), (3, .int a3)] [] (z_hp (N, W, T, G, J, P, St, Sq, Pt, E, Lt, Hd, D, n) m, z) Q = Q (some (.int v)) (z_hp X' m, z') := by
  obtain ⟨hr, ha, hT, hS, hQ, hi, hP, hL, hH, hE⟩ := hI
  exact ⟨_, (N, W, T, G, J, P, St, Sq, Pt, E, Lt, Hd, D, n), z, ⟨hr, ha, hT, hS, hQ, hi, hP, hL, hH, hE⟩, ⟨by omega, by omega⟩, rfl, fun Q => y96 (d := d + 22) hr ha a1 a2 a3⟩
def fX14 : z_X → Int32 → Int32 → Int32 × z_X := fun ⟨N, W, T, G, J, P, St, Sq, Pt, E, Lt, Hd, D, n⟩ a1 a2 => (xWst N J a1 a2, (N, W, T, G, J, P, St, Sq, Pt, E, Lt, Hd, D, n))
set_option maxHeartbeats 8000000 in
set_option maxRecDepth 100000 in
theorem cx14 (hI : z_IX (N, W, T, G, J, P, St, Sq, Pt, E, Lt, Hd, D, n)) (a1 a2 : Int32) : ∃ (v : Int32) (X' : z_X) (z' : Nat), z_IX X' ∧ z_PX (N, W, T, G, J, P, St, Sq, Pt, E, Lt, Hd, D, n) z X' z' ∧ ((v, X') = fX14 (N, W, T, G, J, P, St, Sq, Pt, E, Lt, Hd, D, n) a1 a2) ∧ ∀ Q : Option Value → ai_H → Prop, RR S (d + 24) 97 0 [(0, .ref 0), (1, .int a1), (2, .int a2)] [] (z_hp (N, W, T, G, J, P, St, Sq, Pt, E, Lt, Hd, D, n) m, z) Q = Q (some (.int v)) (z_hp X' m, z') := by
  obtain ⟨hr, ha, hT, hS, hQ, hi, hP, hL, hH, hE⟩ := hI
  exact ⟨_, (N, W, T, G, J, P, St, Sq, Pt, E, Lt, Hd, D, n), z, ⟨hr, ha, hT, hS, hQ, hi, hP, hL, hH, hE⟩, ⟨by omega, by omega⟩, rfl, fun Q => y97 (d := d + 22) hr ha a1 a2⟩
def fX15 : z_X → Int32 → Int32 → Int32 × z_X := fun ⟨N, W, T, G, J, P, St, Sq, Pt, E, Lt, Hd, D, n⟩ a1 a2 => (z_b (xClk N E a1 a2).1, ((xClk N E a1 a2).2.1, W, T, G, J, P, St, Sq, Pt, (xClk N E a1 a2).2.2, Lt, Hd, D, n))
set_option maxHeartbeats 8000000 in
set_option maxRecDepth 100000 in
theorem cx15 (hI : z_IX (N, W, T, G, J, P, St, Sq, Pt, E, Lt, Hd, D, n)) (a1 a2 : Int32) : ∃ (v : Int32) (X' : z_X) (z' : Nat), z_IX X' ∧ z_PX (N, W, T, G, J, P, St, Sq, Pt, E, Lt, Hd, D, n) z X' z' ∧ ((v, X') = fX15 (N, W, T, G, J, P, St, Sq, Pt, E, Lt, Hd, D, n) a1 a2) ∧ ∀ Q : Option Value → ai_H → Prop, RR S (d + 24) 98 0 [(0, .ref 0), (1, .int a1), (2, .int a2)] [] (z_hp (N, W, T, G, J, P, St, Sq, Pt, E, Lt, Hd, D, n) m, z) Q = Q (some (.int v)) (z_hp X' m, z') := by
  obtain ⟨hr, ha, hT, hS, hQ, hi, hP, hL, hH, hE⟩ := hI
  have k := xClk_k (b := a1) (e := a2) hr ha hE
  exact ⟨_, ((xClk N E a1 a2).2.1, W, T, G, J, P, St, Sq, Pt, (xClk N E a1 a2).2.2, Lt, Hd, D, n), z, ⟨k.1, k.2.1, hT, hS, hQ, hi, hP, hL, hH, k.2.2.2⟩, ⟨by omega, by omega⟩, rfl, fun Q => y98 (d := d + 23) hr a1 a2⟩
def fX16 : z_X → Int32 → Int32 → Int32 → Int32 → Int32 × z_X := fun ⟨N, W, T, G, J, P, St, Sq, Pt, E, Lt, Hd, D, n⟩ a1 a2 a3 a4 => if xSn N Pt a1 a2 a3 a4 = true then if xNb N a2 a3 a4 (-1) W 4 = -1 then (-2, (N, xNb N a2 a3 a4 (-1) W, T, G, J, P, St, Sq, Pt, E, Lt, Hd, D, n)) else (Pt + 1 - 1, (N, xNb N a2 a3 a4 (-1) W, T, G, J, P, St, Sq, (Pt + 1), z_wr (z_nwE E n a1 a2 a3 a4) 40 8 1, va_up Lt Pt.toNatClampNeg (some (78 + n)), Hd, z_nwL D n, n + 3)) else (-1, (N, W, T, G, J, P, St, Sq, Pt, E, Lt, Hd, D, n))
set_option maxHeartbeats 8000000 in
set_option maxRecDepth 100000 in
theorem cx16 (hI : z_IX (N, W, T, G, J, P, St, Sq, Pt, E, Lt, Hd, D, n)) (a1 a2 a3 a4 : Int32) : ∃ (v : Int32) (X' : z_X) (z' : Nat), z_IX X' ∧ z_PX (N, W, T, G, J, P, St, Sq, Pt, E, Lt, Hd, D, n) z X' z' ∧ ((v, X') = fX16 (N, W, T, G, J, P, St, Sq, Pt, E, Lt, Hd, D, n) a1 a2 a3 a4) ∧ ∀ Q : Option Value → ai_H → Prop, RR S (d + 24) 99 0 [(0, .ref 0), (1, .int a1), (2, .int a2), (3, .int a3), (4, .int a4)] [] (z_hp (N, W, T, G, J, P, St, Sq, Pt, E, Lt, Hd, D, n) m, z) Q = Q (some (.int v)) (z_hp X' m, z') := by
  obtain ⟨hr, ha, hT, hS, hQ, hi, hP, hL, hH, hE⟩ := hI
  rcases z_bc (xSn N Pt a1 a2 a3 a4) with h | h
  · rcases z_eqc (xNb N a2 a3 a4 (-1) W 4) (-1) with h2 | h2
    · refine ⟨_, (N, xNb N a2 a3 a4 (-1) W, T, G, J, P, St, Sq, Pt, E, Lt, Hd, D, n), z, ⟨hr, ha, hT, hS, hQ, hi, hP, hL, hH, hE⟩, ⟨by omega, by omega⟩, ?_, fun Q => y99b (d := d + 15) hr a1 a2 a3 a4 h h2⟩
      show _ = ite _ _ _
      rw [if_pos h, if_pos (of_eq_true h2)]
    · have hc : xIn a4 1 8 = true ∧ Pt.toInt < 60 := by
        unfold xSn at h
        split at h
        · rename_i q
          split at h
          · split at h
            · split at h
              · rename_i q2; exact ⟨q2, z_60 (eq_true q)⟩
              · cases h
            · cases h
          · cases h
        · cases h
      have i := xIn_s hc.1
      have t1 : Int32.toInt 1 = 1 := rfl
      have t8 : Int32.toInt 8 = 8 := rfl
      have hp0 := hP.1
      have e := z_up1 hP.1 (by omega)
      refine ⟨_, (N, xNb N a2 a3 a4 (-1) W, T, G, J, P, St, Sq, (Pt + 1), z_wr (z_nwE E n a1 a2 a3 a4) 40 8 1, va_up Lt Pt.toNatClampNeg (some (78 + n)), Hd, z_nwL D n, n + 3), z + 9 + 4 + 4, ⟨hr, ha, hT, z_rS_monoL hS, z_rS_monoL hQ, fun q hq => hi q (z_kS_oldL hq), ⟨by omega, by omega⟩, z_rL_up (z_rL_mono hL) (fun q e => by cases e; exact z_kl), z_rL_mono hH, z_E8 (z_IL_new hE ⟨by omega, by omega⟩)⟩, ⟨by omega, by omega⟩, ?_, fun Q => y99c (d := d + 15) hr hP a1 a2 a3 a4 h h2⟩
      show _ = ite _ _ _
      rw [if_pos h, if_neg (of_eq_false h2)]
  · refine ⟨_, (N, W, T, G, J, P, St, Sq, Pt, E, Lt, Hd, D, n), z, ⟨hr, ha, hT, hS, hQ, hi, hP, hL, hH, hE⟩, ⟨by omega, by omega⟩, ?_, fun Q => y99a (d := d + 15) a1 a2 a3 a4 h⟩
    show _ = ite _ _ _
    rw [if_neg (z_nf h)]
def fX17 : z_X → Int32 → Int32 → Int32 → Int32 × z_X := fun ⟨N, W, T, G, J, P, St, Sq, Pt, E, Lt, Hd, D, n⟩ a1 a2 a3 => (xLv N T St G a1 a2 a3, (N, W, T, G, J, P, St, Sq, Pt, E, Lt, Hd, D, n))
set_option maxHeartbeats 8000000 in
set_option maxRecDepth 100000 in
theorem cx17 (hI : z_IX (N, W, T, G, J, P, St, Sq, Pt, E, Lt, Hd, D, n)) (a1 a2 a3 : Int32) : ∃ (v : Int32) (X' : z_X) (z' : Nat), z_IX X' ∧ z_PX (N, W, T, G, J, P, St, Sq, Pt, E, Lt, Hd, D, n) z X' z' ∧ ((v, X') = fX17 (N, W, T, G, J, P, St, Sq, Pt, E, Lt, Hd, D, n) a1 a2 a3) ∧ ∀ Q : Option Value → ai_H → Prop, RR S (d + 24) 100 0 [(0, .ref 0), (1, .int a1), (2, .int a2), (3, .int a3)] [] (z_hp (N, W, T, G, J, P, St, Sq, Pt, E, Lt, Hd, D, n) m, z) Q = Q (some (.int v)) (z_hp X' m, z') := by
  obtain ⟨hr, ha, hT, hS, hQ, hi, hP, hL, hH, hE⟩ := hI
  exact ⟨_, (N, W, T, G, J, P, St, Sq, Pt, E, Lt, Hd, D, n), z, ⟨hr, ha, hT, hS, hQ, hi, hP, hL, hH, hE⟩, ⟨by omega, by omega⟩, rfl, fun Q => y100 (d := d + 19) hr hT hS hi a1 a2 a3⟩
def fX18 : z_X → Int32 → Int32 → Int32 → Int32 × z_X := fun ⟨N, W, T, G, J, P, St, Sq, Pt, E, Lt, Hd, D, n⟩ a1 a2 a3 => (xRm N T St G a1 a2 a3, (N, W, T, G, J, P, St, Sq, Pt, E, Lt, Hd, D, n))
set_option maxHeartbeats 8000000 in
set_option maxRecDepth 100000 in
theorem cx18 (hI : z_IX (N, W, T, G, J, P, St, Sq, Pt, E, Lt, Hd, D, n)) (a1 a2 a3 : Int32) : ∃ (v : Int32) (X' : z_X) (z' : Nat), z_IX X' ∧ z_PX (N, W, T, G, J, P, St, Sq, Pt, E, Lt, Hd, D, n) z X' z' ∧ ((v, X') = fX18 (N, W, T, G, J, P, St, Sq, Pt, E, Lt, Hd, D, n) a1 a2 a3) ∧ ∀ Q : Option Value → ai_H → Prop, RR S (d + 24) 101 0 [(0, .ref 0), (1, .int a1), (2, .int a2), (3, .int a3)] [] (z_hp (N, W, T, G, J, P, St, Sq, Pt, E, Lt, Hd, D, n) m, z) Q = Q (some (.int v)) (z_hp X' m, z') := by
  obtain ⟨hr, ha, hT, hS, hQ, hi, hP, hL, hH, hE⟩ := hI
  exact ⟨_, (N, W, T, G, J, P, St, Sq, Pt, E, Lt, Hd, D, n), z, ⟨hr, ha, hT, hS, hQ, hi, hP, hL, hH, hE⟩, ⟨by omega, by omega⟩, rfl, fun Q => y101 (d := d + 19) hr hT hS hi a1 a2 a3⟩
set_option maxHeartbeats 8000000 in
set_option maxRecDepth 100000 in
theorem cx19 (hI : z_IX (N, W, T, G, J, P, St, Sq, Pt, E, Lt, Hd, D, n)) (a1 a2 : Int32) : ∃ (v : Int32) (X' : z_X) (z' : Nat), z_IX X' ∧ z_PX (N, W, T, G, J, P, St, Sq, Pt, E, Lt, Hd, D, n) z X' z' ∧ (∃ W1 E1 Hd1, X' = (N, W1, T, G, J, P, St, Sq, Pt, E1, Lt, Hd1, D, n)) ∧ ∀ Q : Option Value → ai_H → Prop, RR S (d + 24) 102 0 [(0, .ref 0), (1, .int a1), (2, .int a2)] [] (z_hp (N, W, T, G, J, P, St, Sq, Pt, E, Lt, Hd, D, n) m, z) Q = Q (some (.int v)) (z_hp X' m, z') := by
  obtain ⟨hr, ha, hT, hS, hQ, hi, hP, hL, hH, hE⟩ := hI
  obtain ⟨v, W', E', Hd', ⟨k1, k2⟩, e⟩ := y102 (S := S) (d := d + 13) (N := N) (W := W) (T := T) (G := G) (P := P) (J := J) (St := St) (Sq := Sq) (m := m) (z := z) hr ha hP hL hE hH a1 a2
  exact ⟨v, (N, W', T, G, J, P, St, Sq, Pt, E', Lt, Hd', D, n), z, ⟨hr, ha, hT, hS, hQ, hi, hP, hL, k2, k1⟩, ⟨by omega, by omega⟩, ⟨W', E', Hd', rfl⟩, e⟩
set_option maxHeartbeats 8000000 in
set_option maxRecDepth 100000 in
theorem cx20 (hI : z_IX (N, W, T, G, J, P, St, Sq, Pt, E, Lt, Hd, D, n)) (a1 : Int32) : ∃ (v : Int32) (X' : z_X) (z' : Nat), z_IX X' ∧ z_PX (N, W, T, G, J, P, St, Sq, Pt, E, Lt, Hd, D, n) z X' z' ∧ (∃ W1 E1 Hd1, X' = (N, W1, T, G, J, P, St, Sq, Pt, E1, Lt, Hd1, D, n)) ∧ ∀ Q : Option Value → ai_H → Prop, RR S (d + 24) 103 0 [(0, .ref 0), (1, .int a1)] [] (z_hp (N, W, T, G, J, P, St, Sq, Pt, E, Lt, Hd, D, n) m, z) Q = Q (some (.int v)) (z_hp X' m, z') := by
  obtain ⟨hr, ha, hT, hS, hQ, hi, hP, hL, hH, hE⟩ := hI
  obtain ⟨v, W', E', Hd', ⟨k1, k2⟩, e⟩ := y103 (S := S) (d := d + 13) (N := N) (W := W) (T := T) (G := G) (P := P) (J := J) (St := St) (Sq := Sq) (m := m) (z := z) hr ha hP hL hE hH a1
  exact ⟨v, (N, W', T, G, J, P, St, Sq, Pt, E', Lt, Hd', D, n), z, ⟨hr, ha, hT, hS, hQ, hi, hP, hL, k2, k1⟩, ⟨by omega, by omega⟩, ⟨W', E', Hd', rfl⟩, e⟩
set_option maxHeartbeats 8000000 in
set_option maxRecDepth 100000 in
theorem cx21 (hI : z_IX (N, W, T, G, J, P, St, Sq, Pt, E, Lt, Hd, D, n)) (a1 : Int32) : ∃ (v : Int32) (X' : z_X) (z' : Nat), z_IX X' ∧ z_PX (N, W, T, G, J, P, St, Sq, Pt, E, Lt, Hd, D, n) z X' z' ∧ (∃ W1 E1 Hd1, X' = (N, W1, T, G, J, P, St, Sq, Pt, E1, Lt, Hd1, D, n)) ∧ ∀ Q : Option Value → ai_H → Prop, RR S (d + 24) 104 0 [(0, .ref 0), (1, .int a1)] [] (z_hp (N, W, T, G, J, P, St, Sq, Pt, E, Lt, Hd, D, n) m, z) Q = Q (some (.int v)) (z_hp X' m, z') := by
  obtain ⟨hr, ha, hT, hS, hQ, hi, hP, hL, hH, hE⟩ := hI
  obtain ⟨v, W', E', Hd', ⟨k1, k2⟩, e⟩ := y104 (S := S) (d := d + 13) (N := N) (W := W) (T := T) (G := G) (P := P) (J := J) (St := St) (Sq := Sq) (m := m) (z := z) hr ha hP hL hT hS hE hH a1
  exact ⟨v, (N, W', T, G, J, P, St, Sq, Pt, E', Lt, Hd', D, n), z, ⟨hr, ha, hT, hS, hQ, hi, hP, hL, k2, k1⟩, ⟨by omega, by omega⟩, ⟨W', E', Hd', rfl⟩, e⟩
end Zg
