theorem z_s3 {N A : z_A} {a b c n : Int32} {F : z_A} (hA : z_MA A) (hN : z_NA N A) (hr : z_RN N) (ha : z_RA N) (hE : z_WE N) (a0 : 0 ≤ a.toInt) (a1 : a.toInt ≤ 5) (c0 : 0 ≤ c.toInt) (c1 : c.toInt ≤ 8) (hI : z_FI A a b n F) (lt : (F 69 n.toNatClampNeg).toInt < (A 45 3).toInt) (h1 : A 48 (F 69 n.toNatClampNeg).toNatClampNeg = mAt A F a n) (h2 : mSeen A F a n (A 49 (F 69 n.toNatClampNeg).toNatClampNeg) = false) (h3 : A 49 (F 69 n.toNatClampNeg).toNatClampNeg = b) (f1 : (F 45 27).toInt ≤ 510) (h : z_WI N a b c n F) : z_WI N a b c n (mIc (mKe A F (n + 1) c) n) := by
  obtain ⟨⟨n0, n1⟩, hl, ⟨w0, -⟩, hF, -⟩ := hI
  have h12 := hA.2.1.2
  have p := z_pp n0
  have e := z_i1 n0 (by omega)
  have r := ha.2.2.2.1 (F 69 n.toNatClampNeg).toNatClampNeg
  have h69 := h.2.2.2
  have hG : z_GW F (n + 1) := fun j hj => by
    by_cases q : j = n.toNatClampNeg
    · rw [q]; exact ⟨w0, by omega⟩
    · have := hl j (by omega); exact ⟨this.1, by omega⟩
  have hW : ∀ j, j ≤ n.toNatClampNeg → 0 ≤ (F 69 j).toInt ∧ (F 69 j).toInt < (N 1 7).toInt := fun j hj => by
    rw [hN.2.1]
    by_cases q : j = n.toNatClampNeg
    · rw [q]; exact ⟨w0, lt⟩
    · have := hl j (by omega); exact ⟨this.1, this.2.1⟩
  have hx : ∀ j, j ≤ n.toNatClampNeg → xW N (F 69 j) = true := fun j hj => by
    have := hW j hj
    unfold xW
    rw [if_neg (by rw [z_ltI, tI0]; omega), if_pos (by rw [z_ltI]; omega)]
  have hb : ∀ j, j < n.toNatClampNeg → xB N (N 5 (F 69 j).toNatClampNeg) = true := fun j hj => by
    have w := hW j (by omega)
    have pw := z_pp w.1
    have g := hE (F 69 j).toNatClampNeg (by omega)
    have g0 := (ha.2.2.2.1 (F 69 j).toNatClampNeg).1
    unfold xB
    rw [if_neg (by rw [z_ltI, tI0]; omega), if_pos (by rw [z_ltI]; omega)]
  obtain ⟨cg, l0⟩ := eC_g ha (a := a) (c := c) (v := n + 1) (n := n.toNatClampNeg) (A := A) (F := F) (by omega) (by omega) c0 c1 hN.2.2.2.2.1 hN.2.2.2.2.2.2.2.1 hN.2.2.2.2.2.2.2.2.1 hN.2.2.2.2.2.2.2.2.2 hN.2.2.2.1 hx hb h69
  obtain ⟨k69, k27, kF⟩ := mKe_f (A := A) (c := c) (n := n + 1) (by omega) (by omega) hG hF (by omega)
  obtain ⟨⟨l, g1, g2⟩, hu, h68, -⟩ := h
  obtain ⟨P, p1, q1, q2, ⟨q3, q4, -, q5⟩, q6, q7⟩ := mKe_i (A := A) (F := F) (n := n + 1) (c := c) (by omega) (by omega) l0 hF.2.2.2 (by omega) h68 hF.1 hF.2.2.1 h69
  obtain ⟨m1, m2, m3, m4⟩ := z_mic (F := mKe A F (n + 1) c) (n := n) (by rw [k69]; exact w0) (by rw [k69]; omega) (by rw [k69]; exact h69)
  rw [k69] at m2 m3
  rw [eM_s (by rw [hN.2.1, z_ltI]; exact lt) m2 m3 w0 (by omega), if_pos (by rw [z_at hN.2.2.2.2.2.2.2.1 n0 (by omega), hN.2.2.2.2.2.2.1]; exact h1), if_neg (by rw [z_see ha hN.2.2.2.2.2.2.2.1 a0 a1 r.1 r.2 n0 (by omega), hN.2.2.2.2.2.2.2.1, h2]; decide), if_pos (by rw [hN.2.2.2.2.2.2.2.1]; exact h3)] at g1
  generalize eC N c (cX N c a (F 69) n.toNatClampNeg).2.2.1 (cX N c a (F 69) n.toNatClampNeg).2.2.2.1 (cX N c a (F 69) n.toNatClampNeg).2.2.2.2 (F 69 n.toNatClampNeg) = y at *
  have pf := z_pp hF.2.2.2
  have pk := z_pp kF.2.2.2
  have ni : ¬ z_in_ F (cG F (mLt A F (n + 1) c 5 0 0) (n + 1)) := fun hi => by
    obtain ⟨x, x1, x2⟩ := (g2 _).mp hi
    have pw := (eW_r hr ha (a := a) (b := b) c0 c1).2
    rw [g1] at pw
    have := (List.pairwise_append.mp pw).2.2 x x1 y (by simp)
    rw [x2, cg] at this
    omega
  obtain ⟨u1, u2⟩ := mKe_u (by omega) p1 q1 q2 q5 q6 q7 hu ni
  have k := z_in_c m1
  refine ⟨⟨l ++ [y], by rw [g1]; simp, fun v => (k.1 v).trans ((u2 v).trans ?_)⟩, k.2 u1, fun j hj => ?_, m4⟩
  · rw [g2]
    constructor
    · rintro (hv | ⟨x, x1, x2⟩)
      · exact ⟨y, by simp, by rw [cg, hv]⟩
      · exact ⟨x, by simp [x1], x2⟩
    · rintro ⟨x, x1, x2⟩
      rcases List.mem_append.mp x1 with q | q
      · exact Or.inr ⟨x, q, x2⟩
      · rw [List.mem_singleton.mp q, cg] at x2; exact Or.inl (by omega)
  · rw [m1 68 j (by decide)]
    rw [m1 45 27 (by decide)] at hj
    rcases (by omega : j < P ∨ j = P ∨ P < j) with q | q | q
    · rw [(q1 j q).2.1]; exact h68 j (by omega)
    · rw [q, q4]; exact l0
    · rw [(q2 j q (by omega)).2.1]; exact h68 (j - 1) (by omega)
