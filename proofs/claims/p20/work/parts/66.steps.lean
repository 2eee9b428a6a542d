section Zg
variable {S : ai_S} {d z : Nat} {Q : Option Value → ai_H → Prop} {N G P E : z_A} {W : Nat → Int32} {T Pt : Int32} {J : Nat → Int64 × Int64} {St Sq Lt Hd : z_R} {D : Nat → Nat} {n : Nat} {A B C F U V : z_A} {x : z_X} {m : z_M}
theorem zG_n {F : z_A} {n : Nat} {v : Int32} : zG (z_wr F 69 n v) n = v.toNatClampNeg := by unfold zG; rw [z_wr2]
theorem zG_o {F : z_A} {n j : Nat} {v : Int32} (h : j ≠ n) : zG (z_wr F 69 n v) j = zG F j := by unfold zG; rw [z_wrj h]
theorem sM_w {f : Nat → Nat → Nat} {F : z_A} {n m : Nat} {v : Int32} (h : m ≤ n) : sM f (zG (z_wr F 69 n v)) m = sM f (zG F) m := sM_c m (fun j hj => zG_o (by omega))
theorem z_MF_9 {F : z_A} {n : Nat} {v : Int32} (h : z_MF F) : z_MF (z_wr F 69 n v) := h
/-- one wire on -/
theorem z_FIi {A F : z_A} {a b n : Int32} (hA : z_MA A) (n0 : 0 ≤ n.toInt) (n1 : n.toInt ≤ 3) (hl : ∀ j : Nat, (j : Int) < n.toInt → 0 ≤ (F 69 j).toInt ∧ (F 69 j).toInt < (A 45 3).toInt ∧ ¬ A 49 (F 69 j).toNatClampNeg = a) (w0 : 0 ≤ (F 69 n.toNatClampNeg).toInt) (w1 : (F 69 n.toNatClampNeg).toInt < (A 45 3).toInt) (hF : z_MF F) (hw : (F 45 27).toInt + ((sM (zR A a b) (zG F) n.toNatClampNeg + zR A a b n.toNatClampNeg (zG F n.toNatClampNeg + 1) : Nat) : Int) ≤ 511) : z_FI A a b n (mIc F n) ∧ zMe (mIc F n) n < zMe F n := by
  have h12 := hA.2.1.2
  have e := z_up1 w0 (by omega)
  have pn := z_pp n0
  have eN : (F 69 n.toNatClampNeg + 1).toNatClampNeg = zG F n.toNatClampNeg + 1 := by
    have h1 := z_pp (p := F 69 n.toNatClampNeg + 1) (by omega)
    have h2 := z_pp w0
    unfold zG
    omega
  have eg : zG (mIc F n) n.toNatClampNeg = zG F n.toNatClampNeg + 1 := by unfold mIc; rw [zG_n, eN]
  refine ⟨⟨⟨n0, n1⟩, fun j hj => ?_, ?_, z_MF_9 hF, ?_⟩, ?_⟩
  · have ej : mIc F n 69 j = F 69 j := z_wrj (by omega)
    rw [ej]; exact hl j hj
  · have ej : mIc F n 69 n.toNatClampNeg = F 69 n.toNatClampNeg + 1 := z_wr2
    rw [ej]; omega
  · rw [eg]
    have es : sM (zR A a b) (zG (mIc F n)) n.toNatClampNeg = sM (zR A a b) (zG F) n.toNatClampNeg := sM_w (Nat.le_refl _)
    rw [es]
    exact hw
  · have es : sM cC (zG (mIc F n)) n.toNatClampNeg = sM cC (zG F) n.toNatClampNeg := sM_w (Nat.le_refl _)
    have ec := cC_i (n := n.toNatClampNeg) (w := zG F n.toNatClampNeg) (by have := z_pp w0; unfold zG; omega)
    unfold zMe
    rw [eg, es]
    omega
/-- a level on -/
theorem z_FIp {A F : z_A} {a b n : Int32} (hA : z_MA A) (h : z_FI A a b n F) (n3 : n.toInt < 3) (w1 : (F 69 n.toNatClampNeg).toInt < (A 45 3).toInt) (h0 : n.toNatClampNeg = 0 → A 48 (F 69 n.toNatClampNeg).toNatClampNeg = a) (h1 : ¬ n.toNatClampNeg = 0 → ¬ A 48 (F 69 n.toNatClampNeg).toNatClampNeg = a) (hb : ¬ A 49 (F 69 n.toNatClampNeg).toNatClampNeg = b) (ha : ¬ A 49 (F 69 n.toNatClampNeg).toNatClampNeg = a) : z_FI A a b (n + 1) (z_wr F 69 (n + 1).toNatClampNeg 0) ∧ zMe (z_wr F 69 (n + 1).toNatClampNeg 0) (n + 1) < zMe F n := by
  obtain ⟨⟨n0, n1⟩, hl, ⟨w0, -⟩, hF, hw⟩ := h
  have h12 := hA.2.1.2
  have hN := z_pp hA.2.1.1
  have e := z_up1 n0 (by omega)
  have pn := z_pp n0
  have pn1 := z_pp (p := n + 1) (by omega)
  have en : (n + 1).toNatClampNeg = n.toNatClampNeg + 1 := by omega
  have pw := z_pp w0
  have hW : zG F n.toNatClampNeg < (A 45 3).toNatClampNeg := by unfold zG; omega
  have e0 : (0 : Int32).toNatClampNeg = 0 := rfl
  have er := rW_p (fr := A 48) (to := A 49) (a := a) (b := b) (N := (A 45 3).toNatClampNeg) (n := n.toNatClampNeg) (w := zG F n.toNatClampNeg) hW h0 h1 hb (by omega)
  have ec := cC_p (n := n.toNatClampNeg) (w := zG F n.toNatClampNeg) (by omega) (by omega)
  have es : ∀ f : Nat → Nat → Nat, sM f (zG (z_wr F 69 (n + 1).toNatClampNeg 0)) (n + 1).toNatClampNeg = sM f (zG F) n.toNatClampNeg + f n.toNatClampNeg (zG F n.toNatClampNeg + 1) := fun f => by
    rw [sM_w (Nat.le_refl _), en, sM_s]
  refine ⟨⟨⟨by omega, by omega⟩, fun j hj => ?_, ?_, z_MF_9 hF, ?_⟩, ?_⟩
  · rw [z_wrj (by omega)]
    by_cases ej : j = n.toNatClampNeg
    · subst ej; exact ⟨w0, w1, ha⟩
    · exact hl j (by omega)
  · rw [z_wr2]; have t : Int32.toInt 0 = 0 := rfl; omega
  · rw [es, zG_n, e0, en]
    have e5 : z_wr F 69 (n + 1).toNatClampNeg 0 45 27 = F 45 27 := rfl
    rw [← en, e5]
    unfold zR at *
    rw [en]
    omega
  · unfold zMe
    rw [es, zG_n, e0, en]
    omega
/-- a level back -/
theorem z_FIo {A F : z_A} {a b n m : Int32} (hA : z_MA A) (h : z_FI A a b n F) (m0 : 0 ≤ m.toInt) (hm : m.toInt = n.toInt - 1) : z_FI A a b m (mIc F m) ∧ zMe (mIc F m) m < zMe F n := by
  obtain ⟨⟨n0, n1⟩, hl, -, hF, hw⟩ := h
  have pn := z_pp n0
  have pm := z_pp m0
  have en : n.toNatClampNeg = m.toNatClampNeg + 1 := by omega
  have hm1 := hl m.toNatClampNeg (by omega)
  have er : sM (zR A a b) (zG F) n.toNatClampNeg = sM (zR A a b) (zG F) m.toNatClampNeg + zR A a b m.toNatClampNeg (zG F m.toNatClampNeg + 1) := by rw [en, sM_s]
  have ec : sM cC (zG F) n.toNatClampNeg = sM cC (zG F) m.toNatClampNeg + cC m.toNatClampNeg (zG F m.toNatClampNeg + 1) := by rw [en, sM_s]
  have h12 := hA.2.1.2
  have key := z_FIi (F := F) (b := b) hA m0 (by omega) (fun j hj => hl j (by omega)) hm1.1 hm1.2.1 hF (by rw [er] at hw; omega)
  refine ⟨key.1, ?_⟩
  have e := z_up1 hm1.1 (by omega)
  have eN : (F 69 m.toNatClampNeg + 1).toNatClampNeg = zG F m.toNatClampNeg + 1 := by
    have h1 := z_pp (p := F 69 m.toNatClampNeg + 1) (by omega)
    have h2 := z_pp hm1.1
    unfold zG
    omega
  have eg : zG (mIc F m) m.toNatClampNeg = zG F m.toNatClampNeg + 1 := by unfold mIc; rw [zG_n, eN]
  have es : sM cC (zG (mIc F m)) m.toNatClampNeg = sM cC (zG F) m.toNatClampNeg := sM_w (Nat.le_refl _)
  have h1 := cC_1 (n := n.toNatClampNeg) (w := zG F n.toNatClampNeg)
  unfold zMe
  rw [eg, es, ec]
  omega
end Zg
