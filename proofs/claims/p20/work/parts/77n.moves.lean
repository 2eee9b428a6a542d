theorem z_mic {F : z_A} {n : Int32} (w0 : 0 ≤ (F 69 n.toNatClampNeg).toInt) (w1 : (F 69 n.toNatClampNeg).toInt ≤ 11) (h : ∀ j, 0 ≤ (F 69 j).toInt ∧ (F 69 j).toInt ≤ 12) : (∀ q j, q ≠ 69 → mIc F n q j = F q j) ∧ (∀ i, i < n.toNatClampNeg → F 69 i = mIc F n 69 i) ∧ mIc F n 69 n.toNatClampNeg = F 69 n.toNatClampNeg + 1 ∧ (∀ j, 0 ≤ (mIc F n 69 j).toInt ∧ (mIc F n 69 j).toInt ≤ 12) := by
  have e1 : mIc F n 69 n.toNatClampNeg = F 69 n.toNatClampNeg + 1 := z_wr2
  have e2 : ∀ i, i ≠ n.toNatClampNeg → mIc F n 69 i = F 69 i := fun i hi => z_wrj hi
  refine ⟨fun q j hq => by unfold mIc; rw [z_wr1 hq], fun i hi => (e2 i (by omega)).symm, e1, fun j => ?_⟩
  by_cases q : j = n.toNatClampNeg
  · rw [q, e1, (z_i1 w0 (by omega)).1]; omega
  · rw [e2 j q]; exact h j
/-- a wire that is passed over -/
theorem z_WIp {N A : z_A} {a b c n : Int32} {F : z_A} (hA : z_MA A) (hN : z_NA N A) (hI : z_FI A a b n F) (lt : (F 69 n.toNatClampNeg).toInt < (A 45 3).toInt) (h : z_WI N a b c n F) (he : (if N 4 (F 69 n.toNatClampNeg).toNatClampNeg = (cX N c a (F 69) n.toNatClampNeg).1 then if ((cX N c a (F 69) n.toNatClampNeg).2.1 >>> (N 5 (F 69 n.toNatClampNeg).toNatClampNeg &&& 31)) &&& 1 = 1 then [] else if N 5 (F 69 n.toNatClampNeg).toNatClampNeg = b then [eC N c (cX N c a (F 69) n.toNatClampNeg).2.2.1 (cX N c a (F 69) n.toNatClampNeg).2.2.2.1 (cX N c a (F 69) n.toNatClampNeg).2.2.2.2 (F 69 n.toNatClampNeg)] else eK N b c (4 - n.toNatClampNeg) (cX N c a (F 69) (n.toNatClampNeg + 1)).1 (cX N c a (F 69) (n.toNatClampNeg + 1)).2.1 (cX N c a (F 69) (n.toNatClampNeg + 1)).2.2.1 (cX N c a (F 69) (n.toNatClampNeg + 1)).2.2.2.1 (cX N c a (F 69) (n.toNatClampNeg + 1)).2.2.2.2 else []) = []) : z_WI N a b c n (mIc F n) := by
  obtain ⟨-, -, ⟨w0, -⟩, -, -⟩ := hI
  have h12 := hA.2.1.2
  obtain ⟨m1, m2, m3, m4⟩ := z_mic w0 (by omega) h.2.2.2
  refine z_WIm m1 m4 ?_ h
  rw [eM_s (by rw [hN.2.1, z_ltI]; exact lt) m2 m3 w0 (by omega), he]
  rfl
theorem z_s1 {N A : z_A} {a b c n : Int32} {F : z_A} (hA : z_MA A) (hN : z_NA N A) (hI : z_FI A a b n F) (lt : (F 69 n.toNatClampNeg).toInt < (A 45 3).toInt) (h1 : ¬ A 48 (F 69 n.toNatClampNeg).toNatClampNeg = mAt A F a n) (h : z_WI N a b c n F) : z_WI N a b c n (mIc F n) := by
  refine z_WIp hA hN hI lt h (if_neg ?_)
  rw [z_at hN.2.2.2.2.2.2.2.1 hI.1.1 (by have := hI.1.2; omega), hN.2.2.2.2.2.2.1]
  exact h1
theorem z_s2 {N A : z_A} {a b c n : Int32} {F : z_A} (hA : z_MA A) (hN : z_NA N A) (ha : z_RA N) (a0 : 0 ≤ a.toInt) (a1 : a.toInt ≤ 5) (hI : z_FI A a b n F) (lt : (F 69 n.toNatClampNeg).toInt < (A 45 3).toInt) (h1 : A 48 (F 69 n.toNatClampNeg).toNatClampNeg = mAt A F a n) (h2 : mSeen A F a n (A 49 (F 69 n.toNatClampNeg).toNatClampNeg) = true) (h : z_WI N a b c n F) : z_WI N a b c n (mIc F n) := by
  have n4 : n.toInt ≤ 4 := by have := hI.1.2; omega
  refine z_WIp hA hN hI lt h ?_
  rw [if_pos (by rw [z_at hN.2.2.2.2.2.2.2.1 hI.1.1 n4, hN.2.2.2.2.2.2.1]; exact h1), if_pos]
  have r := ha.2.2.2.1 (F 69 n.toNatClampNeg).toNatClampNeg
  rw [z_see ha hN.2.2.2.2.2.2.2.1 a0 a1 r.1 r.2 hI.1.1 n4, hN.2.2.2.2.2.2.2.1]
  exact h2
