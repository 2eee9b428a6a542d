/-! way: both answer alike. -/
theorem z_dg {F : z_A} {k j : Nat} {x : Int32} (hF : z_MF F) (hx : x.toInt = ((nb (F 66 k).toInt (rWs F k) j : Nat) : Int)) : x - 1 = if (j : Int) < (F 66 k).toInt then F 67 (4 * k + j) else -1 := by
  have w := hF.2.2.1 (4 * k + j)
  have p := z_pp w.1
  have t1 : Int32.toInt 1 = 1 := rfl
  have tm : Int32.toInt (-1) = -1 := rfl
  unfold nb rWs at hx
  by_cases c : (j : Int) < (F 66 k).toInt
  · rw [if_pos c] at hx ⊢
    refine Int32.toInt_inj.mp ?_
    rw [Int32.toInt_sub, bm32]
    split <;> omega
  · rw [if_neg c] at hx ⊢
    refine Int32.toInt_inj.mp ?_
    rw [Int32.toInt_sub, bm32]
    split <;> omega
theorem xA_r {F : z_A} {y : Int32} {k : Nat} (hF : z_MF F) (hy : y.toInt = (cR F k : Int)) {i : Int32} (i0 : 0 ≤ i.toInt) (i3 : i.toInt ≤ 3) : xA y i = if i.toInt < (F 66 k).toInt then F 67 (4 * k + i.toNatClampNeg) else -1 := by
  have b := fun j => nb_b (n := (F 66 k).toInt) (f := rWs F k) (fun i => by unfold rWs; have := hF.2.2.1 (4 * k + i); omega) j
  have b0 := b 0
  have b1 := b 1
  have b2 := b 2
  have b3 := b 3
  have e : cR F k = (F 68 k).toNatClampNeg * 65536 + (nb (F 66 k).toInt (rWs F k) 0 * 4096 + (nb (F 66 k).toInt (rWs F k) 1 * 256 + (nb (F 66 k).toInt (rWs F k) 2 * 16 + (nb (F 66 k).toInt (rWs F k) 3 * 1 + 0)))) := rfl
  have p12 : 2 ^ 12 = 4096 := rfl
  have p8 : 2 ^ 8 = 256 := rfl
  have p4 : 2 ^ 4 = 16 := rfl
  have p0 : 2 ^ 0 = 1 := rfl
  rcases (by omega : i.toInt = 0 ∨ i.toInt = 1 ∨ i.toInt = 2 ∨ i.toInt = 3) with q | q | q | q
  · have q' : i = 0 := Int32.toInt_inj.mp (q.trans (by decide))
    subst q'
    have s := i_15 (i_shr (c := 12 - 4 * 0) (k := 12) hy (by decide) (by decide))
    exact z_dg (j := 0) hF (s.trans (by rw [p12]; omega))
  · have q' : i = 1 := Int32.toInt_inj.mp (q.trans (by decide))
    subst q'
    have s := i_15 (i_shr (c := 12 - 4 * 1) (k := 8) hy (by decide) (by decide))
    exact z_dg (j := 1) hF (s.trans (by rw [p8]; omega))
  · have q' : i = 2 := Int32.toInt_inj.mp (q.trans (by decide))
    subst q'
    have s := i_15 (i_shr (c := 12 - 4 * 2) (k := 4) hy (by decide) (by decide))
    exact z_dg (j := 2) hF (s.trans (by rw [p4]; omega))
  · have q' : i = 3 := Int32.toInt_inj.mp (q.trans (by decide))
    subst q'
    have s := i_15 (i_shr (c := 12 - 4 * 3) (k := 0) hy (by decide) (by decide))
    exact z_dg (j := 3) hF (s.trans (by rw [p0]; omega))
/-- y is the code of row m, or -1 where there is none -/
def z_rw (F : z_A) (m : Nat) (y : Int32) : Prop := (m < (F 45 27).toNatClampNeg → y.toInt = (cR F m : Int)) ∧ (¬ m < (F 45 27).toNatClampNeg → y = -1)
theorem z_rw0 {N F : z_A} {a b c r : Int32} (hK : z_WK N a b c F) (hw : ∀ y, y ∈ eW N a b c → 0 ≤ y.toInt) (hn : z_nx (eW N a b c) (-1) r) : z_rw F 0 r := by
  have m1 : (-1 : Int32).toInt = -1 := rfl
  exact z_nxt hK hw hn (m := 0) (fun j hj => absurd hj (Nat.not_lt_zero _)) (fun _ => by omega)
theorem z_rws {N F : z_A} {a b c y r : Int32} {m : Nat} (hK : z_WK N a b c F) (hw : ∀ y, y ∈ eW N a b c → 0 ≤ y.toInt) (h : z_rw F m y) (hy : ¬ y = -1) (hn : z_nx (eW N a b c) y r) : z_rw F (m + 1) r := by
  have hm : m < (F 45 27).toNatClampNeg := by
    by_cases q : m < (F 45 27).toNatClampNeg
    · exact q
    · exact absurd (h.2 q) hy
  have e := h.1 hm
  refine z_nxt hK hw hn (m := m + 1) (fun j hj => ?_) (fun q => ?_)
  · by_cases q : j = m
    · rw [q, e]; exact Int.le_refl _
    · have := hK.2.1 j m (by omega) hm
      omega
  · have := hK.2.1 m (m + 1) (by omega) q
    omega
theorem xRk_n {N F : z_A} {a b c k : Int32} (hK : z_WK N a b c F) (hw : ∀ y, y ∈ eW N a b c → 0 ≤ y.toInt) (hn : ∀ o W, z_nx (eW N a b c) o (xNb N a b c o W 4)) (k7 : k.toInt ≤ 792) : ∀ (f : Nat) (j y : Int32) (W : z_W), 0 ≤ j.toInt → j.toInt ≤ k.toInt → k.toInt < j.toInt + (f : Int) → z_rw F j.toNatClampNeg y → z_rw F k.toNatClampNeg (xRk N a b c k f j y W).1 := by
  intro f
  induction f with
  | zero => intro j y W j0 j1 j2 h; exfalso; omega
  | succ f ih =>
    intro j y W j0 j1 j2 h
    rw [xRk_s]
    have pj := z_pp j0
    have pk := z_pp (p := k) (by omega)
    by_cases c1 : j < k
    · rw [if_pos c1]
      have c1' := Int32.lt_iff_toInt_lt.mp c1
      by_cases c2 : y = -1
      · rw [if_pos c2]
        have hm : ¬ j.toNatClampNeg < (F 45 27).toNatClampNeg := fun q => by
          have := h.1 q
          rw [c2] at this
          have m1 : (-1 : Int32).toInt = -1 := rfl
          omega
        exact ⟨fun q => absurd q (by omega), fun _ => c2⟩
      · rw [if_neg c2]
        have e := z_up1 j0 (by omega)
        have pe := z_pp (p := j + 1) (by omega)
        have en : (j + 1).toNatClampNeg = j.toNatClampNeg + 1 := by omega
        refine ih (j + 1) _ _ (by omega) (by omega) (by omega) ?_
        rw [en]
        exact z_rws hK hw h c2 (hn y W)
    · rw [if_neg c1]
      have c1' : ¬ j.toInt < k.toInt := fun q => c1 (Int32.lt_iff_toInt_lt.mpr q)
      have ek : k.toNatClampNeg = j.toNatClampNeg := by omega
      rw [ek]; exact h
theorem wy_al {N A F : z_A} {W : z_W} {a b c k i : Int32} (hA : z_MA A) (hF : z_MF F) (hN : z_NA N A) (hr : z_RN N) (ha : z_RA N) (hE : z_WE N) (h69 : ∀ j, 0 ≤ (F 69 j).toInt ∧ (F 69 j).toInt ≤ 12) : (xWy N W a b c k i).1 = (mWy A F a b c k i).1 := by
  unfold xWy mWy
  have eg : mWg A a b c k i = if xB N a = true then if xB N b = true then if xIn c 1 8 = true then if k < 0 then false else if i < 0 then false else if 4 < i then false else true else false else false else false := by
    unfold mWg; rw [z_bb hN.1, z_bb hN.1]
  rw [eg]
  by_cases c1 : xB N a = true
  · by_cases c2 : xB N b = true
    · by_cases c3 : xIn c 1 8 = true
      · obtain ⟨hK, hF1, hw, hn⟩ := z_fd (b := b) hA hF hN hr ha hE h69 (z_wg_i hr c1 c3)
        have h511 := (mFind_k (a := a) (b := b) (c := c) hA hF).2
        simp only [if_pos c1, if_pos c2, if_pos c3]
        generalize mFind A F a b c = F1 at hK hF1 h511 ⊢
        have t0 : Int32.toInt 0 = 0 := rfl
        have t792 : Int32.toInt 792 = 792 := rfl
        have t4 : Int32.toInt 4 = 4 := rfl
        have pw := z_pp hF1.2.2.2
        by_cases ck : xIn k 0 792 = true
        · simp only [if_pos ck]
          have ck' := xIn_s ck
          have pk := z_pp (p := k) (by omega)
          have R := xRk_n (k := k) hK hw hn (by omega) 793 0 (xNb N a b c (-1) W 4) (xNb N a b c (-1) W) (by decide) (by omega) (by omega) (z_rw0 hK hw (hn (-1) W))
          generalize xRk N a b c k 793 0 (xNb N a b c (-1) W 4) (xNb N a b c (-1) W) = r at R ⊢
          have k0 : ¬ k < 0 := fun q => by rw [z_ltI] at q; omega
          rw [if_neg k0]
          by_cases cw : k.toNatClampNeg < (F1 45 27).toNatClampNeg
          · have hy := R.1 cw
            have ny : ¬ r.1 = -1 := fun q => by
              rw [q] at hy
              have m1 : (-1 : Int32).toInt = -1 := rfl
              omega
            have kw : k < F1 45 27 := by rw [z_ltI]; omega
            rw [if_neg ny]
            by_cases i4 : i = 4
            · subst i4
              have v : mWv F1 k 4 = F1 68 k.toNatClampNeg := by unfold mWv; rw [if_pos kw, if_pos rfl]
              show (if (4 : Int32) = 4 then r.1 >>> ((16 : Int32) &&& 31) else xA r.1 4) = mWv F1 k 4
              rw [if_pos rfl, v]
              exact z_l16 hF1 (hK.2.2.1 _ (by omega)) hy
            · show (if i = 4 then r.1 >>> ((16 : Int32) &&& 31) else xA r.1 i) = _
              rw [if_neg i4]
              by_cases i0 : i < 0
              · rw [if_pos i0]
                unfold xA
                rw [if_pos i0]; rfl
              · rw [if_neg i0]
                by_cases i5 : 4 < i
                · rw [if_pos i5]
                  have n4 : ¬ i < 4 := fun q => by rw [z_ltI] at i5 q; omega
                  unfold xA
                  rw [if_neg i0, if_neg n4]; rfl
                · rw [if_neg i5]
                  have n4 : ¬ i.toInt = 4 := fun q => i4 (Int32.toInt_inj.mp (q.trans (by decide)))
                  rw [z_ltI] at i5 i0
                  have x := xA_r hF1 hy (i := i) (by omega) (by omega)
                  have ix := z_ix (y := k) (i := i) (by omega) (by omega) (by omega) (by omega)
                  have v : mWv F1 k i = if i.toInt < (F1 66 k.toNatClampNeg).toInt then F1 67 (4 * k.toNatClampNeg + i.toNatClampNeg) else -1 := by
                    unfold mWv
                    rw [if_pos kw, if_neg i4, ix]
                    simp only [z_ltI]
                  show xA r.1 i = mWv F1 k i
                  rw [x, v]
          · rw [if_pos (R.2 cw)]
            have kw : ¬ k < F1 45 27 := fun q => by rw [z_ltI] at q; omega
            have v : mWv F1 k i = -1 := by unfold mWv; rw [if_neg kw]
            repeat' split
            all_goals first | rfl | exact v.symm
        · simp only [if_neg ck]
          have v : ¬ k < 0 → mWv F1 k i = -1 := fun k0 => by
            have kw : ¬ k < F1 45 27 := fun q => by
              unfold xIn at ck
              rw [if_neg k0] at ck
              by_cases k9 : 792 < k
              · rw [z_ltI] at q k9; omega
              · rw [if_neg k9] at ck; exact ck rfl
            unfold mWv; rw [if_neg kw]
          by_cases k0 : k < 0
          · rw [if_pos k0]; rfl
          · rw [if_neg k0]
            have v := v k0
            repeat' split
            all_goals first | rfl | exact v.symm
      · simp only [if_pos c1, if_pos c2, if_neg c3]; rfl
    · simp only [if_pos c1, if_neg c2]; rfl
  · simp only [if_neg c1]; rfl
