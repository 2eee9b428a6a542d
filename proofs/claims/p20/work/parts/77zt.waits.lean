/-! waits and worst: both answer alike. -/
/-- the wire stays open for tm ticks from a on -/
def oW (f : Int → Prop) (tm a : Int) : Prop := ∀ j : Int, 0 ≤ j → j < tm → ¬ f (a + j)
/-- the least wait -/
def oR (f : Int → Prop) (c tm t : Int) (r : Int32) : Prop := (r = -1 ∧ ∀ d : Int, 0 ≤ d → d < c → ¬ oW f tm (t + d)) ∨ (0 ≤ r.toInt ∧ r.toInt < c ∧ oW f tm (t + r.toInt) ∧ ∀ d : Int, 0 ≤ d → d < r.toInt → ¬ oW f tm (t + d))
theorem oR_u {f : Int → Prop} {c tm t : Int} {r r' : Int32} (h : oR f c tm t r) (h' : oR f c tm t r') : r = r' := by
  rcases h with ⟨a, b⟩ | ⟨a, b, d, e⟩
  · rcases h' with ⟨a', b'⟩ | ⟨a', b', d', e'⟩
    · rw [a, a']
    · exact absurd d' (b _ a' b')
  · rcases h' with ⟨a', b'⟩ | ⟨a', b', d', e'⟩
    · exact absurd d (b' _ a b)
    · refine Int32.toInt_inj.mp ?_
      rcases Int.lt_trichotomy r.toInt r'.toInt with q | q | q
      · exact absurd d (e' _ a q)
      · exact q
      · exact absurd d' (e _ a' q)
theorem oR_c {f g : Int → Prop} {c tm t : Int} {r : Int32} (h : ∀ u, f u ↔ g u) (k : oR f c tm t r) : oR g c tm t r := by
  have e : f = g := funext fun u => propext (h u)
  rw [← e]; exact k
theorem oW_p {f : Int → Prop} {c tm a b : Int} (hp : ∀ u v, u % c = v % c → (f u ↔ f v)) (e : a % c = b % c) (h : oW f tm a) : oW f tm b := fun j j0 j1 q => by
  refine h j j0 j1 ((hp (a + j) (b + j) ?_).mpr q)
  rw [Int.add_emod, e, ← Int.add_emod]
/-- windows longer than the cycle -/
theorem oW_m {f : Int → Prop} {c tm a : Int} (c0 : 0 < c) (hp : ∀ u v, u % c = v % c → (f u ↔ f v)) : oW f tm a ↔ ∀ j : Int, 0 ≤ j → j < tm → j < c → ¬ f (a + j) := by
  constructor
  · intro h j j0 j1 _; exact h j j0 j1
  · intro h j j0 j1 q
    have r0 := Int.emod_nonneg j (show c ≠ 0 by omega)
    have r1 := Int.emod_lt_of_pos j c0
    have le : j % c ≤ j := by
      have e := Int.mul_ediv_add_emod j c
      have := Int.mul_nonneg (show 0 ≤ c by omega) (Int.ediv_nonneg j0 (show 0 ≤ c by omega))
      omega
    refine h (j % c) r0 (by omega) r1 ((hp (a + j) (a + j % c) ?_).mp q)
    rw [Int.add_emod_emod]
theorem xWf_I {N : z_A} {q : Int64 × Int64} {t tm : Int32} {h : Nat} (hc : z_Cc N h) (t0 : 0 ≤ t.toInt) (t1 : t.toInt < 2 * (h : Int)) (m0 : 1 ≤ tm.toInt) (m1 : tm.toInt ≤ 100) : ∀ (k : Nat) (i o : Int32), 0 ≤ o.toInt → o.toInt ≤ i.toInt → o.toInt < tm.toInt → i.toInt ≤ 2 * (h : Int) + tm.toInt → 2 * (h : Int) + tm.toInt < i.toInt + (k : Int) → (∀ d : Int, 0 ≤ d → d < i.toInt - o.toInt → ¬ oW (fun u => rI h q u = true) tm.toInt (t.toInt + d)) → (∀ j : Int, i.toInt - o.toInt ≤ j → j < i.toInt → ¬ rI h q (t.toInt + j) = true) → oR (fun u => rI h q u = true) (2 * (h : Int)) tm.toInt t.toInt (xWf N q t tm k i o) := by
  have c6 := hc.2.2
  have cN : (N 1 8).toInt = 2 * (h : Int) := by rw [hc.1, z_oft (by omega)]; omega
  have per : ∀ u v : Int, u % (2 * (h : Int)) = v % (2 * (h : Int)) → (rI h q u = true ↔ rI h q v = true) := fun u v e => by rw [rI_p e]
  have t00 : Int32.toInt 0 = 0 := rfl
  have t01 : Int32.toInt 1 = 1 := rfl
  intro k
  induction k with
  | zero => intro i o o0 o1 o2 i1 i2; omega
  | succ k ih =>
    intro i o o0 o1 o2 i1 i2 I1 I2
    have st_ : xWf N q t tm (k + 1) i o = if i < N 1 8 + tm then if (if xHs N q (t + i - (t + i) / N 1 8 * N 1 8) = true then 0 else o + 1) < tm then xWf N q t tm k (i + 1) (if xHs N q (t + i - (t + i) / N 1 8 * N 1 8) = true then 0 else o + 1) else i + 1 - tm else -1 := rfl
    rw [st_]
    have en : (N 1 8 + tm).toInt = 2 * (h : Int) + tm.toInt := by rw [z_sum (by omega) (by omega) (by omega) (by omega), cN]
    by_cases c : i.toInt < 2 * (h : Int) + tm.toInt
    · rw [if_pos (by rw [z_ltI]; omega)]
      have ei := z_up1 (p := i) (by omega) (by omega)
      have eo := z_up1 (p := o) (by omega) (by omega)
      have es : (t + i).toInt = t.toInt + i.toInt := z_sum (by omega) (by omega) (by omega) (by omega)
      have er := z_rem (y := t + i) (c := N 1 8) (by omega) (by omega)
      rw [es, cN] at er
      have d0 := Int.emod_nonneg (t.toInt + i.toInt) (show 2 * (h : Int) ≠ 0 by omega)
      have d1 := Int.emod_lt_of_pos (t.toInt + i.toInt) (show 0 < 2 * (h : Int) by omega)
      have hx : xHs N q (t + i - (t + i) / N 1 8 * N 1 8) = rI h q (t.toInt + i.toInt) := by
        rw [xHs_b hc (by omega) (by omega)]
        unfold rI
        congr 1
        have := z_pp (p := t + i - (t + i) / N 1 8 * N 1 8) (by omega)
        omega
      rw [hx]
      by_cases tk : rI h q (t.toInt + i.toInt) = true
      · rw [if_pos tk, if_pos (by rw [z_ltI]; omega)]
        refine ih (i + 1) 0 (by omega) (by omega) (by omega) (by omega) (by omega) (fun d dd0 dd1 => ?_) (fun j j0 j1 => by omega)
        by_cases dd : d < i.toInt - o.toInt
        · exact I1 d dd0 dd
        · intro w
          have := w (i.toInt - d) (by omega) (by omega)
          rw [show t.toInt + d + (i.toInt - d) = t.toInt + i.toInt by omega] at this
          exact this tk
      · rw [if_neg tk]
        have I2' : ∀ j : Int, i.toInt - o.toInt ≤ j → j < i.toInt + 1 → ¬ rI h q (t.toInt + j) = true := fun j j0 j1 => by
          by_cases e : j = i.toInt
          · rw [e]; exact tk
          · exact I2 j j0 (by omega)
        by_cases go : o + 1 < tm
        · rw [if_pos go]
          rw [z_ltI] at go
          refine ih (i + 1) (o + 1) (by omega) (by omega) (by omega) (by omega) (by omega) (fun d dd0 dd1 => I1 d dd0 (by omega)) (fun j j0 j1 => I2' j (by omega) (by omega))
        · rw [if_neg go]
          rw [z_ltI] at go
          have ed : (i + 1 - tm).toInt = i.toInt + 1 - tm.toInt := by rw [z_dif (by omega) (by omega) (by omega) (by omega), ei]
          have W : oW (fun u => rI h q u = true) tm.toInt (t.toInt + (i.toInt + 1 - tm.toInt)) := fun j j0 j1 => by
            have := I2' (i.toInt + 1 - tm.toInt + j) (by omega) (by omega)
            rw [show t.toInt + (i.toInt + 1 - tm.toInt) + j = t.toInt + (i.toInt + 1 - tm.toInt + j) by omega]
            exact this
          refine Or.inr ⟨by omega, ?_, by rw [ed]; exact W, fun d dd0 dd1 => I1 d dd0 (by omega)⟩
          by_cases e : i.toInt + 1 - tm.toInt < 2 * (h : Int)
          · omega
          · exfalso
            have e' : i.toInt + 1 - tm.toInt = 2 * (h : Int) := by omega
            rw [e'] at W
            refine I1 0 (Int.le_refl _) (by omega) (oW_p per ?_ W)
            rw [Int.add_zero, Int.add_emod_right]
    · rw [if_neg (by rw [z_ltI]; omega)]
      exact Or.inl ⟨rfl, fun d dd0 dd1 => I1 d dd0 (by omega)⟩
theorem mRe_n {A : z_A} (hA : z_MA A) {t : Int32} (t0 : 0 ≤ t.toInt) : (mRe A t).toInt = t.toInt % (A 45 8).toInt := by
  have hc := hA.2.2.1
  have e := z_rem (y := t) (c := A 45 8) t0 (by omega)
  have d0 := Int.emod_nonneg t.toInt (show (A 45 8).toInt ≠ 0 by omega)
  unfold mRe
  rw [if_neg (by rw [z_ltI, tI0]; omega)]
  exact e
theorem mOp_I {A C : z_A} (hA : z_MA A) {w t tm : Int32} (w0 : 0 ≤ w.toInt) (w1 : w.toInt ≤ 11) (t0 : 0 ≤ t.toInt) (t1 : t.toInt ≤ 1000) : ∀ (k : Nat) (j : Int32), 0 ≤ j.toInt → j.toInt ≤ (A 45 8).toInt → (A 45 8).toInt < j.toInt + (k : Int) → (mOp A C w t tm k j = true ↔ ∀ i : Int, j.toInt ≤ i → i < tm.toInt → i < (A 45 8).toInt → ¬ hC C (A 45 8).toInt w.toNatClampNeg (t.toInt + i)) := by
  have hc := hA.2.2.1
  intro k
  induction k with
  | zero => intro j j0 j1 j2; omega
  | succ k ih =>
    intro j j0 j1 j2
    have st_ : mOp A C w t tm (k + 1) j = if j < tm then if j < A 45 8 then if C 61 (120 * w + mRe A (t + j)).toNatClampNeg = 0 then mOp A C w t tm k (j + 1) else false else true else true := rfl
    rw [st_]
    by_cases c1 : j < tm
    · rw [if_pos c1]
      rw [z_ltI] at c1
      by_cases c2 : j < A 45 8
      · rw [if_pos c2]
        rw [z_ltI] at c2
        have es : (t + j).toInt = t.toInt + j.toInt := z_sum (by omega) (by omega) (by omega) (by omega)
        have er := mRe_n hA (t := t + j) (by omega)
        have d0 := Int.emod_nonneg (t + j).toInt (show (A 45 8).toInt ≠ 0 by omega)
        have d1 := Int.emod_lt_of_pos (t + j).toInt (show 0 < (A 45 8).toInt by omega)
        have ix := z_ix12 (w := w) (t := mRe A (t + j)) w0 w1 (by omega) (by omega)
        have pr := z_pp (p := mRe A (t + j)) (by omega)
        have ix2 : (120 * w + mRe A (t + j)).toNatClampNeg = 120 * w.toNatClampNeg + ((t.toInt + j.toInt) % (A 45 8).toInt).toNat := by
          rw [← es]; omega
        have ej := z_up1 j0 (by omega)
        rw [ix2]
        by_cases c3 : C 61 (120 * w.toNatClampNeg + ((t.toInt + j.toInt) % (A 45 8).toInt).toNat) = 0
        · rw [if_pos c3, ih (j + 1) (by omega) (by omega) (by omega), ej]
          constructor
          · intro h i i0 i1 i2
            by_cases e : i = j.toInt
            · rw [e]
              exact fun q => q c3
            · exact h i (by omega) i1 i2
          · intro h i i0 i1 i2
            exact h i (by omega) i1 i2
        · rw [if_neg c3]
          refine ⟨fun h => (by cases h), fun h => ?_⟩
          exact absurd c3 (h j.toInt (Int.le_refl _) c1 c2)
      · rw [if_neg c2]
        rw [z_ltI] at c2
        exact ⟨fun _ i i0 i1 i2 => by omega, fun _ => rfl⟩
    · rw [if_neg c1]
      rw [z_ltI] at c1
      exact ⟨fun _ i i0 i1 i2 => by omega, fun _ => rfl⟩
theorem mWa_I {A C : z_A} (hA : z_MA A) {w t tm : Int32} (w0 : 0 ≤ w.toInt) (w1 : w.toInt ≤ 11) (t0 : 0 ≤ t.toInt) (t1 : t.toInt ≤ 200) : ∀ (k : Nat) (i : Int32), 0 ≤ i.toInt → i.toInt ≤ (A 45 8).toInt → (A 45 8).toInt < i.toInt + (k : Int) → (∀ d : Int, 0 ≤ d → d < i.toInt → ¬ oW (hC C (A 45 8).toInt w.toNatClampNeg) tm.toInt (t.toInt + d)) → oR (hC C (A 45 8).toInt w.toNatClampNeg) (A 45 8).toInt tm.toInt t.toInt (mWa A C w t tm k i) := by
  have hc := hA.2.2.1
  have t00 : Int32.toInt 0 = 0 := rfl
  intro k
  induction k with
  | zero => intro i i0 i1 i2; omega
  | succ k ih =>
    intro i i0 i1 i2 I
    have st_ : mWa A C w t tm (k + 1) i = if i < A 45 8 then if mOpen A C w (t + i) tm = true then i else mWa A C w t tm k (i + 1) else -1 := rfl
    rw [st_]
    by_cases c : i < A 45 8
    · rw [if_pos c]
      rw [z_ltI] at c
      have es : (t + i).toInt = t.toInt + i.toInt := z_sum (by omega) (by omega) (by omega) (by omega)
      have ei := z_up1 i0 (by omega)
      have o : mOpen A C w (t + i) tm = true ↔ oW (hC C (A 45 8).toInt w.toNatClampNeg) tm.toInt (t.toInt + i.toInt) := by
        rw [oW_m (c := (A 45 8).toInt) (by omega) (fun u v e => hC_p e), ← es]
        exact mOp_I hA w0 w1 (by omega) (by omega) 121 0 (by decide) (by rw [t00]; omega) (by rw [t00]; omega)
      by_cases g : mOpen A C w (t + i) tm = true
      · rw [if_pos g]
        exact Or.inr ⟨i0, c, o.mp g, I⟩
      · rw [if_neg g]
        refine ih (i + 1) (by omega) (by omega) (by omega) (fun d dd0 dd1 => ?_)
        by_cases e : d = i.toInt
        · rw [e]; exact fun q => g (o.mpr q)
        · exact I d dd0 (by omega)
    · rw [if_neg c]
      rw [z_ltI] at c
      exact Or.inl ⟨rfl, fun d dd0 dd1 => I d dd0 (by omega)⟩
theorem wait_I {N A B G : z_A} {T : Int32} {St : z_R} {D : Nat → Nat} {n h : Nat} (S : z_SS N A B G T St D n h) (hF : z_WF N) {J : z_J} {C : z_A} (L : z_L3 N B G St h (fun s => ¬ B 58 s = 0) T.toNatClampNeg J C) {w t c : Int32} (hw : xW N w = true) (t0 : 0 ≤ t.toInt) (t1 : t.toInt < 2 * (h : Int)) (hc : xIn c 1 8 = true) : xWF N J w t (xT N w c) = mWa A C w t (c * A 51 w.toNatClampNeg) 121 0 := by
  obtain ⟨cA, cN⟩ := SS_c S
  have c6 := S.g3.hc.2.2
  have wb := S.g3.hr.2.2.2.1
  have ws := xW_s hw
  have pw := z_pp ws.1
  have cs := xIn_s hc
  have e1 : Int32.toInt 1 = 1 := rfl
  have e8 : Int32.toInt 8 = 8 := rfl
  have e0 : Int32.toInt 0 = 0 := rfl
  have s1 := (hF w.toNatClampNeg (by omega)).2
  have s3 := (S.g3.ha.2.2.2.2.2.1 w.toNatClampNeg).2
  have mu := z_mul3 (c := c) (s := N 7 w.toNatClampNeg) (by omega) (by omega) (by omega) (by omega)
  have ge : c.toInt ≤ c.toInt * (N 7 w.toNatClampNeg).toInt := by
    have := Int.mul_le_mul_of_nonneg_left s1 (show 0 ≤ c.toInt by omega)
    rw [Int.mul_one] at this
    exact this
  have et : xT N w c = c * A 51 w.toNatClampNeg := by
    unfold xT
    rw [if_pos hw, S.g3.hN.2.2.2.2.2.2.2.2.2]
  have et2 : xT N w c = c * N 7 w.toNatClampNeg := by unfold xT; rw [if_pos hw]
  rw [← et]
  have b1 : 1 ≤ (xT N w c).toInt := by rw [et2]; omega
  have b2 : (xT N w c).toInt ≤ 24 := by rw [et2]; omega
  generalize xT N w c = tm at b1 b2 ⊢
  unfold xWF
  rw [if_pos hw]
  have X := xWf_I (q := J (15 + w.toNatClampNeg)) S.g3.hc t0 t1 b1 (by omega) 1121 0 0 (by decide) (by decide) (by rw [e0]; omega) (by rw [e0]; omega) (by rw [e0]; omega) (fun d dd0 dd1 => by rw [e0] at dd1; omega) (fun j j0 j1 => by rw [e0] at j0 j1; omega)
  have M := mWa_I (C := C) (w := w) (t := t) (tm := tm) S.g3.hA ws.1 (by omega) t0 (by omega) 121 0 (by decide) (by rw [e0]; omega) (by rw [e0]; omega) (fun d dd0 dd1 => by rw [e0] at dd1; omega)
  rw [cA] at M
  exact oR_u (oR_c (fun u => L.rc w.toNatClampNeg (by omega) u) X) M
theorem waits_I {N A B G : z_A} {T : Int32} {St : z_R} {D : Nat → Nat} {n h : Nat} (S : z_SS N A B G T St D n h) (hF : z_WF N) {J : z_J} {C : z_A} (L : z_L3 N B G St h (fun s => ¬ B 58 s = 0) T.toNatClampNeg J C) (w t c : Int32) : xWt N J w t c = mWt A C w t c := by
  obtain ⟨cA, cN⟩ := SS_c S
  unfold xWt mWt
  rw [mW_x S.g3.hN]
  by_cases hw : xW N w = true
  · rw [if_pos hw, if_pos hw]
    unfold xK
    by_cases t0 : t < 0
    · rw [if_pos t0, if_pos t0]; rfl
    · rw [if_neg t0, if_neg t0, S.g3.hN.2.2.1]
      rw [z_ltI, tI0] at t0
      by_cases t1 : t < A 45 8
      · rw [if_pos t1, if_pos t1, if_pos rfl]
        rw [z_ltI] at t1
        by_cases hc : xIn c 1 8 = true
        · rw [if_pos hc, if_pos hc]
          exact wait_I S hF L hw (by omega) (by omega) hc
        · rw [if_neg hc, if_neg hc]
      · rw [if_neg t1, if_neg t1]; rfl
  · rw [if_neg hw, if_neg hw]
theorem worst_I {N A B G : z_A} {T : Int32} {St : z_R} {D : Nat → Nat} {n h : Nat} (S : z_SS N A B G T St D n h) (hF : z_WF N) {J : z_J} {C : z_A} (L : z_L3 N B G St h (fun s => ¬ B 58 s = 0) T.toNatClampNeg J C) (w c : Int32) : xWst N J w c = mWst A C w c := by
  obtain ⟨cA, cN⟩ := SS_c S
  have c6 := S.g3.hc.2.2
  unfold xWst mWst
  rw [mW_x S.g3.hN]
  by_cases hw : xW N w = true
  · rw [if_pos hw, if_pos hw]
    by_cases hc : xIn c 1 8 = true
    · rw [if_pos hc, if_pos hc]
      have e0 : Int32.toInt 0 = 0 := rfl
      have step : ∀ i : Int32, 0 ≤ i.toInt → i.toInt < 2 * (h : Int) → mWt A C w i c = xWF N J w i (xT N w c) := fun i i0 i1 => by
        unfold mWt
        rw [mW_x S.g3.hN, if_pos hw, if_neg (by rw [z_ltI, tI0]; omega), if_pos (by rw [z_ltI]; omega), if_pos hc]
        exact (wait_I S hF L hw i0 i1 hc).symm
      have val : ∀ i : Int32, 0 ≤ i.toInt → i.toInt < 2 * (h : Int) → (xWF N J w i (xT N w c) = -1 ∨ 0 ≤ (xWF N J w i (xT N w c)).toInt) := fun i i0 i1 => by
        have ws := xW_s hw
        have wb := S.g3.hr.2.2.2.1
        have M := mWa_I (C := C) (w := w) (t := i) (tm := c * A 51 w.toNatClampNeg) S.g3.hA ws.1 (by omega) i0 (by omega) 121 0 (by decide) (by rw [e0]; omega) (by rw [e0]; omega) (fun d dd0 dd1 => by rw [e0] at dd1; omega)
        rw [wait_I S hF L hw i0 i1 hc]
        rcases M with ⟨a, -⟩ | ⟨a, -⟩
        · exact Or.inl a
        · exact Or.inr a
      have loop : ∀ (k : Nat) (i a : Int32), 0 ≤ i.toInt → i.toInt ≤ 2 * (h : Int) → 2 * (h : Int) < i.toInt + (k : Int) → 0 ≤ a.toInt → xWs N J w (xT N w c) k i a = mWs A C w c k i a := by
        intro k
        induction k with
        | zero => intro i a i0 i1 i2; omega
        | succ k ih =>
          intro i a i0 i1 i2 a0
          have sx : xWs N J w (xT N w c) (k + 1) i a = if i < N 1 8 then if xWF N J w i (xT N w c) = -1 then -1 else xWs N J w (xT N w c) k (i + 1) (xMx a (xWF N J w i (xT N w c))) else a := rfl
          have sm : mWs A C w c (k + 1) i a = if i < A 45 8 then if a < 0 then a else mWs A C w c k (i + 1) (if mWt A C w i c < 0 then -1 else if a < mWt A C w i c then mWt A C w i c else a) else a := rfl
          rw [sx, sm, S.g3.hN.2.2.1]
          by_cases g : i < A 45 8
          · rw [if_pos g, if_pos g, if_neg (show ¬ a < 0 by rw [z_ltI, tI0]; omega)]
            rw [z_ltI] at g
            have ei := z_up1 i0 (by omega)
            rw [step i i0 (by omega)]
            rcases val i i0 (by omega) with v | v
            · rw [if_pos v, v, if_pos (by decide)]
              -- the reference ends with -1
              have fin : ∀ (k : Nat) (i : Int32), mWs A C w c k i (-1) = -1 := by
                intro k i
                cases k with
                | zero => rfl
                | succ k =>
                  have sm : mWs A C w c (k + 1) i (-1) = if i < A 45 8 then if (-1 : Int32) < 0 then -1 else mWs A C w c k (i + 1) (if mWt A C w i c < 0 then -1 else if (-1 : Int32) < mWt A C w i c then mWt A C w i c else -1) else -1 := rfl
                  rw [sm, if_pos (show (-1 : Int32) < 0 by decide)]
                  split <;> rfl
              rw [fin]
            · have nv : ¬ xWF N J w i (xT N w c) = -1 := fun e => by rw [e] at v; exact absurd v (by decide)
              rw [if_neg nv, if_neg (show ¬ xWF N J w i (xT N w c) < 0 by rw [z_ltI, tI0]; omega)]
              generalize xWF N J w i (xT N w c) = x at v ⊢
              have em : xMx a x = if a < x then x else a := rfl
              rw [em]
              refine ih (i + 1) _ (by omega) (by omega) (by omega) ?_
              split
              · exact v
              · exact a0
          · rw [if_neg g, if_neg g]
      exact loop 121 0 0 (by decide) (by rw [e0]; omega) (by rw [e0]; omega) (by decide)
    · rw [if_neg hc, if_neg hc]
  · rw [if_neg hw, if_neg hw]
