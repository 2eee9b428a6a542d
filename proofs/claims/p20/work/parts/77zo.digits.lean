/-! The wires of a way: those of the net, no one twice. -/
def dg (y : Int32) (i : Nat) : Int32 := (y >>> ((12 - 4 * Int32.ofNat i) &&& 31)) &&& 15
theorem xA_dg {y : Int32} {i : Nat} (h : i < 4) : xA y (Int32.ofNat i) = dg y i - 1 := by
  have e := z_oft (K := i) (by omega)
  have t4 : Int32.toInt 4 = 4 := rfl
  unfold xA dg
  rw [if_neg (by rw [z_ltI, tI0]; omega), if_pos (by rw [z_ltI]; omega)]
theorem dg_or {a b : Int32} {i : Nat} : dg (a ||| b) i = dg a i ||| dg b i := by
  unfold dg
  refine Int32.toBitVec_inj.mp ?_
  rw [Int32.toBitVec_or, Int32.toBitVec_and, Int32.toBitVec_and, Int32.toBitVec_and, Int32.toBitVec_shiftRight, Int32.toBitVec_shiftRight, Int32.toBitVec_shiftRight, Int32.toBitVec_or]
  apply BitVec.eq_of_getLsbD_eq
  intro j hj
  rw [BitVec.getLsbD_or, BitVec.getLsbD_and, BitVec.getLsbD_and, BitVec.getLsbD_and, BitVec.getLsbD_sshiftRight', BitVec.getLsbD_sshiftRight', BitVec.getLsbD_sshiftRight', BitVec.getLsbD_or, BitVec.msb_or]
  generalize (!decide (32 ≤ j)) = r
  generalize (Int32.toBitVec 15).getLsbD j = t
  split
  · generalize a.toBitVec.getLsbD _ = p
    generalize b.toBitVec.getLsbD _ = q
    cases p <;> cases q <;> cases r <;> cases t <;> rfl
  · generalize a.toBitVec.msb = p
    generalize b.toBitVec.msb = q
    cases p <;> cases q <;> cases r <;> cases t <;> rfl
theorem l_sh : ∀ i : Fin 4, (((12 - 4 * Int32.ofNat i.val) &&& 31).toBitVec.smod 32).toNat = 12 - 4 * i.val := by decide +kernel
theorem l_15 : ∀ j : Fin 32, (Int32.toBitVec 15).getLsbD j.val = decide (j.val < 4) := by decide +kernel
theorem dg_hi {x : Int32} {i : Nat} (h : i < 4) : dg (x <<< ((16 : Int32) &&& 31)) i = 0 := by
  unfold dg
  have e : (((12 - 4 * Int32.ofNat i) &&& 31).toBitVec.smod 32).toNat = 12 - 4 * i := l_sh ⟨i, h⟩
  have e16 : (((16 : Int32) &&& 31).toBitVec.smod 32).toNat = 16 := by decide
  refine Int32.toBitVec_inj.mp ?_
  have e0 : (0 : Int32).toBitVec = 0#32 := by decide
  rw [Int32.toBitVec_and, Int32.toBitVec_shiftRight, Int32.toBitVec_shiftLeft, e0]
  apply BitVec.eq_of_getLsbD_eq
  intro j hj
  have e15 : (Int32.toBitVec 15).getLsbD j = decide (j < 4) := l_15 ⟨j, hj⟩
  rw [BitVec.getLsbD_and, e15, BitVec.getLsbD_zero]
  by_cases c : j < 4
  · rw [BitVec.getLsbD_sshiftRight', e, if_pos (by omega), BitVec.getLsbD_shiftLeft', e16, decide_eq_true (show 12 - 4 * i + j < 16 by omega)]
    simp
  · rw [decide_eq_false c, Bool.and_false]
theorem l_dw : ∀ (w : Fin 12) (d i : Fin 4), dg ((Int32.ofNat w.val + 1) <<< ((12 - 4 * Int32.ofNat d.val) &&& 31)) i.val = if i.val = d.val then Int32.ofNat w.val + 1 else 0 := by decide +kernel
theorem dg_w {w : Int32} {d i : Nat} (w0 : 0 ≤ w.toInt) (w1 : w.toInt < 12) (hd : d < 4) (hi : i < 4) : dg ((w + 1) <<< ((12 - 4 * Int32.ofNat d) &&& 31)) i = if i = d then w + 1 else 0 := by
  have p := z_pp w0
  have e := l_dw ⟨w.toNatClampNeg, by omega⟩ ⟨d, hd⟩ ⟨i, hi⟩
  dsimp only at e
  rw [← z_ofn w0] at e
  exact e
theorem dg_0 {i : Nat} : dg 0 i = 0 := by
  unfold dg
  refine Int32.toBitVec_inj.mp ?_
  have e0 : (0 : Int32).toBitVec = 0#32 := by decide
  rw [Int32.toBitVec_and, Int32.toBitVec_shiftRight, e0]
  apply BitVec.eq_of_getLsbD_eq
  intro j hj
  rw [BitVec.getLsbD_and, BitVec.getLsbD_sshiftRight', BitVec.getLsbD_zero]
  split
  · rw [BitVec.getLsbD_zero]; simp
  · rw [BitVec.msb_zero]; simp
theorem or_z {x : Int32} : x ||| 0 = x := by
  refine Int32.toBitVec_inj.mp ?_
  rw [Int32.toBitVec_or]
  have e0 : (0 : Int32).toBitVec = 0#32 := by decide
  rw [e0, BitVec.or_zero]
theorem z_or {x : Int32} : 0 ||| x = x := by
  refine Int32.toBitVec_inj.mp ?_
  rw [Int32.toBitVec_or]
  have e0 : (0 : Int32).toBitVec = 0#32 := by decide
  rw [e0, BitVec.zero_or]
theorem z_w1 {a b : Int32} (h : a + 1 = b + 1) : a = b := by
  have e : ∀ x : Int32, x + 1 - 1 = x := fun x => Int32.add_sub_cancel x 1
  rw [← e a, ← e b, h]
/-- d hops stand in row, and their boxes in seen -/
def dR2 (N : z_A) (seen row : Int32) (d : Nat) : Prop := (∀ i, d ≤ i → i < 4 → dg row i = 0) ∧ (∀ i, i < d → ∃ w, xW N w = true ∧ dg row i = w + 1 ∧ b5 seen (N 5 w.toNatClampNeg).toNatClampNeg = true) ∧ ∀ i j, i < j → j < d → ¬ dg row i = dg row j
def dQ (N : z_A) (y : Int32) : Prop := ∃ L, 1 ≤ L ∧ L ≤ 4 ∧ (∀ i, L ≤ i → i < 4 → dg y i = 0) ∧ (∀ i, i < L → ∃ w, xW N w = true ∧ dg y i = w + 1) ∧ ∀ i j, i < j → j < L → ¬ dg y i = dg y j
theorem dR_n {N : z_A} (hr : z_RN N) (ha : z_RA N) {seen row w : Int32} {d : Nat} (hd : d < 4) (hw : xW N w = true) (hs : ¬ (seen >>> (N 5 w.toNatClampNeg &&& 31)) &&& 1 = 1) (h : dR2 N seen row d) : dR2 N (seen ||| ((1 : Int32) <<< (N 5 w.toNatClampNeg &&& 31))) (row ||| ((w + 1) <<< ((12 - 4 * Int32.ofNat d) &&& 31))) (d + 1) := by
  have w2 := xW_s hw
  have wb := hr.2.2.2.1
  have bb := ha.2.2.2.1
  obtain ⟨h1, h2, h3⟩ := h
  have ed : ∀ i, i < 4 → dg (row ||| ((w + 1) <<< ((12 - 4 * Int32.ofNat d) &&& 31))) i = dg row i ||| (if i = d then w + 1 else 0) := fun i hi => by
    rw [dg_or, dg_w w2.1 (by omega) hd hi]
  have eo : ∀ i, i < d → dg (row ||| ((w + 1) <<< ((12 - 4 * Int32.ofNat d) &&& 31))) i = dg row i := fun i hi => by
    rw [ed i (by omega), if_neg (by omega), or_z]
  have en : dg (row ||| ((w + 1) <<< ((12 - 4 * Int32.ofNat d) &&& 31))) d = w + 1 := by
    rw [ed d hd, if_pos rfl, h1 d (Nat.le_refl _) hd, z_or]
  have cb : ∀ v : Int32, (N 5 v.toNatClampNeg).toNatClampNeg < 9 := fun v => by
    have a := bb v.toNatClampNeg
    have := z_pp a.1
    omega
  have es : N 5 w.toNatClampNeg = Int32.ofNat (N 5 w.toNatClampNeg).toNatClampNeg := z_ofn (bb w.toNatClampNeg).1
  have bs : ∀ v : Int32, b5 (seen ||| ((1 : Int32) <<< (N 5 w.toNatClampNeg &&& 31))) (N 5 v.toNatClampNeg).toNatClampNeg = (b5 seen (N 5 v.toNatClampNeg).toNatClampNeg || decide ((N 5 v.toNatClampNeg).toNatClampNeg = (N 5 w.toNatClampNeg).toNatClampNeg)) := fun v => by
    rw [b5_or]
    congr 1
    rw [es]
    exact (b5_o (cb w) (cb v)).trans (by rw [← es])
  have ns : ¬ b5 seen (N 5 w.toNatClampNeg).toNatClampNeg = true := fun q => by
    rw [es] at hs
    exact hs ((bit_1 (by have := cb w; omega)).mpr q)
  refine ⟨fun i i1 i2 => ?_, fun i hi => ?_, fun i j hij hj => ?_⟩
  · rw [ed i i2, if_neg (by omega), h1 i (by omega) i2, or_z]
  · by_cases e : i = d
    · subst e
      exact ⟨w, hw, en, by rw [bs, decide_eq_true rfl, Bool.or_true]⟩
    · obtain ⟨v, v1, v2, v3⟩ := h2 i (by omega)
      exact ⟨v, v1, (eo i (by omega)).trans v2, by rw [bs, v3, Bool.true_or]⟩
  · by_cases e : j = d
    · subst e
      rw [en, eo i hij]
      obtain ⟨v, v1, v2, v3⟩ := h2 i hij
      rw [v2]
      intro q
      rw [z_w1 q] at v3
      exact ns v3
    · rw [eo i (by omega), eo j (by omega)]
      exact h3 i j hij (by omega)
theorem dQ_n {N : z_A} {sz late row w : Int32} {d : Nat} (hd : d < 4) {seen : Int32} (h : dR2 N seen (row ||| ((w + 1) <<< ((12 - 4 * Int32.ofNat d) &&& 31))) (d + 1)) : dQ N (eC N sz late row (Int32.ofNat d) w) := by
  obtain ⟨h1, h2, h3⟩ := h
  have e : ∀ i, i < 4 → dg (eC N sz late row (Int32.ofNat d) w) i = dg (row ||| ((w + 1) <<< ((12 - 4 * Int32.ofNat d) &&& 31))) i := fun i hi => by
    unfold eC
    rw [dg_or, dg_hi hi, z_or]
  refine ⟨d + 1, by omega, by omega, fun i i1 i2 => (e i i2).trans (h1 i i1 i2), fun i hi => ?_, fun i j hij hj => by rw [e i (by omega), e j (by omega)]; exact h3 i j hij hj⟩
  obtain ⟨v, v1, v2, -⟩ := h2 i hi
  exact ⟨v, v1, (e i (by omega)).trans v2⟩
theorem eL_p {N : z_A} (hr : z_RN N) {goal sz at_ seen late row depth : Int32} {rec : Int32 → Int32 → Int32 → Int32 → List Int32} {Q : Int32 → Prop} (h1 : ∀ w, xW N w = true → ¬ (seen >>> (N 5 w.toNatClampNeg &&& 31)) &&& 1 = 1 → Q (eC N sz late row depth w)) (h2 : ∀ w, xW N w = true → ¬ (seen >>> (N 5 w.toNatClampNeg &&& 31)) &&& 1 = 1 → ∀ y, y ∈ rec (N 5 w.toNatClampNeg) (seen ||| ((1 : Int32) <<< (N 5 w.toNatClampNeg &&& 31))) (late + xC N w sz + xS N w) (row ||| ((w + 1) <<< ((12 - 4 * depth) &&& 31))) → Q y) : ∀ (k : Nat) (w : Int32), 0 ≤ w.toInt → ∀ y, y ∈ eL N goal sz at_ seen late row depth rec k w → Q y := by
  have wb := hr.2.2.2.1
  intro k
  induction k with
  | zero => intro w w0 y hy; exact absurd hy List.not_mem_nil
  | succ k ih =>
    intro w w0 y hy
    rw [eL_s] at hy
    by_cases c : w < N 1 7
    · rw [if_pos c] at hy
      have hw : xW N w = true := by
        unfold xW
        rw [if_neg (by rw [z_ltI, tI0]; omega), if_pos c]
      rw [z_ltI] at c
      have e := z_up1 w0 (by omega)
      rcases List.mem_append.mp hy with q | q
      · by_cases c1 : N 4 w.toNatClampNeg = at_
        · rw [if_pos c1] at q
          by_cases c2 : (seen >>> (N 5 w.toNatClampNeg &&& 31)) &&& 1 = 1
          · rw [if_pos c2] at q; exact absurd q List.not_mem_nil
          · rw [if_neg c2] at q
            by_cases c3 : N 5 w.toNatClampNeg = goal
            · rw [if_pos c3] at q
              rw [List.mem_singleton.mp q]
              exact h1 w hw c2
            · rw [if_neg c3] at q
              exact h2 w hw c2 y q
        · rw [if_neg c1] at q; exact absurd q List.not_mem_nil
      · exact ih (w + 1) (by omega) y q
    · rw [if_neg c] at hy
      exact absurd hy List.not_mem_nil
theorem eK_p {N : z_A} (hr : z_RN N) (ha : z_RA N) {goal sz : Int32} : ∀ (f : Nat) (at_ seen late row : Int32) (d : Nat), d ≤ 4 → dR2 N seen row d → ∀ y, y ∈ eK N goal sz f at_ seen late row (Int32.ofNat d) → dQ N y := by
  intro f
  induction f with
  | zero => intro at_ seen late row d hd h y hy; exact absurd hy List.not_mem_nil
  | succ f ih =>
    intro at_ seen late row d hd h y hy
    rw [eK_s] at hy
    have ed := z_oft (K := d) (by omega)
    have t4 : Int32.toInt 4 = 4 := rfl
    by_cases c : Int32.ofNat d < 4
    · rw [if_pos c] at hy
      rw [z_ltI] at c
      have ek : Int32.ofNat d + 1 = Int32.ofNat (d + 1) := Int32.toInt_inj.mp (by rw [z_up1 (by omega) (by omega), ed, z_oft (by omega)]; omega)
      refine eL_p hr (fun w hw hs => dQ_n (by omega) (dR_n hr ha (by omega) hw hs h)) (fun w hw hs z hz => ?_) 13 0 (by decide) y hy
      rw [ek] at hz
      exact ih _ _ _ _ (d + 1) (by omega) (dR_n hr ha (by omega) hw hs h) z hz
    · rw [if_neg c] at hy
      exact absurd hy List.not_mem_nil
theorem eW_p {N : z_A} (hr : z_RN N) (ha : z_RA N) {a b c y : Int32} (hy : y ∈ eW N a b c) : dQ N y := by
  unfold eW at hy
  exact eK_p hr ha 5 a _ 0 0 0 (by omega) ⟨fun i _ _ => dg_0, fun i hi => by omega, fun i j _ hj => by omega⟩ y hy
/-- so for a row of the reference -/
theorem row_W {N F : z_A} {a b c y : Int32} {j : Nat} (hr : z_RN N) (ha : z_RA N) (hE : z_WE N) (hF : z_MF F) (hK : z_WK N a b c F) (hj : j < (F 45 27).toNatClampNeg) (hy : y.toInt = (cR F j : Int)) : (∀ k : Nat, (k : Int) < (F 66 j).toInt → xA y (Int32.ofNat k) = F 67 (4 * j + k) ∧ xW N (xA y (Int32.ofNat k)) = true ∧ xB N (N 5 (xA y (Int32.ofNat k)).toNatClampNeg) = true) ∧ (∀ k : Nat, (F 66 j).toInt ≤ (k : Int) → k < 4 → xA y (Int32.ofNat k) = -1) ∧ y >>> ((16 : Int32) &&& 31) = F 68 j ∧ ∀ i k : Nat, i < k → (k : Int) < (F 66 j).toInt → ¬ xA y (Int32.ofNat i) = xA y (Int32.ofNat k) := by
  have f66 := hF.1 j
  have pw := z_pp hF.2.2.2
  obtain ⟨y', h1, h2⟩ := (hK.1 (cR F j)).mp ⟨j, hj, rfl⟩
  have e : y = y' := Int32.toInt_inj.mp (by rw [hy, h2])
  rw [← e] at h1
  obtain ⟨L, L1, L4, q1, q2, q3⟩ := eW_p hr ha h1
  have xa : ∀ k : Nat, k < 4 → xA y (Int32.ofNat k) = if (k : Int) < (F 66 j).toInt then F 67 (4 * j + k) else -1 := fun k hk => by
    have ek := z_oft (K := k) (by omega)
    have ck := z_ofc (K := k) (by omega)
    have x := xA_r hF hy (i := Int32.ofNat k) (by omega) (by omega)
    rw [ek, ck] at x
    exact x
  have lt : ∀ k : Nat, k < 4 → (k : Int) < (F 66 j).toInt → k < L := fun k h4 hk => by
    by_cases c : k < L
    · exact c
    · exfalso
      have x := xa k h4
      rw [if_pos hk, xA_dg h4, q1 k (by omega) h4] at x
      have := (hF.2.2.1 (4 * j + k)).1
      rw [← x] at this
      exact absurd this (by decide)
  have sub1 : ∀ v : Int32, v + 1 - 1 = v := fun v => Int32.add_sub_cancel v 1
  refine ⟨fun k hk => ?_, fun k hk h4 => ?_, z_l16 hF (hK.2.2.1 j (by omega)) hy, fun i k hik hk => ?_⟩
  · have h4 : k < 4 := by omega
    obtain ⟨w, w1, w2⟩ := q2 k (lt k h4 hk)
    have xw : xA y (Int32.ofNat k) = w := by rw [xA_dg h4, w2, sub1]
    refine ⟨by rw [xa k h4, if_pos hk], by rw [xw]; exact w1, ?_⟩
    rw [xw]
    have ws := xW_s w1
    have pp := z_pp ws.1
    have n5 := hE w.toNatClampNeg (by omega)
    have n50 := (ha.2.2.2.1 w.toNatClampNeg).1
    unfold xB
    rw [if_neg (by rw [z_ltI, tI0]; omega), if_pos (by rw [z_ltI]; exact n5)]
  · rw [xa k h4, if_neg (by omega)]
  · have k4 : k < 4 := by omega
    have i4 : i < 4 := by omega
    obtain ⟨w, -, w2⟩ := q2 k (lt k k4 hk)
    obtain ⟨v, -, v2⟩ := q2 i (lt i i4 (by omega))
    have n := q3 i k hik (lt k k4 hk)
    rw [xA_dg k4, xA_dg i4, w2, v2, sub1, sub1]
    intro q
    rw [v2, w2, q] at n
    exact n rfl
