theorem z_s5 {N A : z_A} {a b c n : Int32} {F : z_A} (hA : z_MA A) (hN : z_NA N A) (ha : z_RA N) (a0 : 0 ≤ a.toInt) (a1 : a.toInt ≤ 5) (hI : z_FI A a b n F) (lt : (F 69 n.toNatClampNeg).toInt < (A 45 3).toInt) (h3 : ¬ A 49 (F 69 n.toNatClampNeg).toNatClampNeg = b) (n3 : ¬ n.toInt < 3) (h : z_WI N a b c n F) : z_WI N a b c n (mIc F n) := by
  have n4 := hI.1.2
  have p := z_pp hI.1.1
  refine z_WIp hA hN hI lt h ?_
  split
  · split
    · rfl
    · rw [if_neg (by rw [hN.2.2.2.2.2.2.2.1]; exact h3)]
      have d := cX_d (N := N) (c := c) (a := a) (g := F 69) (n.toNatClampNeg + 1) (by omega)
      rw [show 4 - n.toNatClampNeg = 0 + 1 by omega, eK_s, if_neg]
      rw [z_ltI, d]
      have : (4 : Int32).toInt = 4 := rfl
      omega
  · rfl
theorem z_s7 {N A : z_A} {a b c n m : Int32} {F : z_A} (hA : z_MA A) (hN : z_NA N A) (hI : z_FI A a b n F) (lt : ¬ (F 69 n.toNatClampNeg).toInt < (A 45 3).toInt) (e : m.toInt = n.toInt - 1) (m0 : 0 ≤ m.toInt) (h : z_WI N a b c n F) : z_WI N a b c m (mIc F m) := by
  obtain ⟨⟨n0, n1⟩, hl, -, -, -⟩ := hI
  have h12 := hA.2.1.2
  have p := z_pp n0
  have q := z_pp m0
  have g := hl m.toNatClampNeg (by omega)
  obtain ⟨m1, m2, m3, m4⟩ := z_mic g.1 (by omega) h.2.2.2
  refine z_WIm m1 m4 ?_ h
  have en : n.toNatClampNeg = m.toNatClampNeg + 1 := by omega
  rw [en] at lt ⊢
  exact eM_o (by rw [hN.2.1, z_ltI]; exact lt) m2 m3 g.1 (by omega)
theorem z_s4 {N A : z_A} {a b c n : Int32} {F : z_A} (hA : z_MA A) (hN : z_NA N A) (ha : z_RA N) (a0 : 0 ≤ a.toInt) (a1 : a.toInt ≤ 5) (hI : z_FI A a b n F) (lt : (F 69 n.toNatClampNeg).toInt < (A 45 3).toInt) (h1 : A 48 (F 69 n.toNatClampNeg).toNatClampNeg = mAt A F a n) (h2 : mSeen A F a n (A 49 (F 69 n.toNatClampNeg).toNatClampNeg) = false) (h3 : ¬ A 49 (F 69 n.toNatClampNeg).toNatClampNeg = b) (n3 : n.toInt < 3) (h : z_WI N a b c n F) : z_WI N a b c (n + 1) (z_wr F 69 (n + 1).toNatClampNeg 0) := by
  have n0 := hI.1.1
  have w0 := hI.2.2.1.1
  have h12 := hA.2.1.2
  have p := z_pp n0
  have e := z_i1 n0 (by omega)
  obtain ⟨m1, m2, m3, m4⟩ := z_mic w0 (by omega) h.2.2.2
  have r := ha.2.2.2.1 (F 69 n.toNatClampNeg).toNatClampNeg
  have d := cX_d (N := N) (c := c) (a := a) (g := F 69) (n.toNatClampNeg + 1) (by omega)
  rw [e.2]
  refine z_WIm (fun q j hq => z_wr1 hq) (fun j => ?_) ?_ h
  · by_cases q : j = n.toNatClampNeg + 1
    · rw [q, z_wr2]; decide
    · rw [z_wrj q]; exact h.2.2.2 j
  · rw [e.2, eM_s (by rw [hN.2.1, z_ltI]; exact lt) m2 m3 w0 (by omega), eM_i m2 m3 w0 (by omega)]
    rw [if_pos (by rw [z_at hN.2.2.2.2.2.2.2.1 n0 (by omega), hN.2.2.2.2.2.2.1]; exact h1), if_neg (by rw [z_see ha hN.2.2.2.2.2.2.2.1 a0 a1 r.1 r.2 n0 (by omega), hN.2.2.2.2.2.2.2.1, h2]; decide), if_neg (by rw [hN.2.2.2.2.2.2.2.1]; exact h3)]
    exact (eM_d (n := n.toNatClampNeg) (g := F 69) (h := z_wr F 69 (n.toNatClampNeg + 1) 0 69) (show n.toNatClampNeg < 3 by omega) (by rw [z_ltI, d]; show _ < (4 : Int); omega) (fun i hi => (z_wrj (by omega)).symm) z_wr2).symm
