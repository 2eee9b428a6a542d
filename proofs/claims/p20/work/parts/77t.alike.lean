/-! What both do to their nets. -/
theorem z_bb {N A : z_A} (e : N 1 6 = A 45 0) {b : Int32} : mB A b = xB N b := by unfold mB xB; rw [e]
theorem z_lt12 {x : Int32} (h : x.toInt ≤ 12) : x < 12 ↔ ¬ x = 12 := by
  rw [z_ltI]
  have t : Int32.toInt 12 = 12 := rfl
  refine ⟨fun h e => by rw [e] at h; omega, fun h' => ?_⟩
  have : ¬ x.toInt = 12 := fun q => h' (Int32.toInt_inj.mp (q.trans t.symm))
  omega
theorem z_ua {f g : Nat → Int32} {k : Nat} {v : Int32} (h : ∀ j, f j = g j) : ∀ j, upd f k v j = upd g k v j := fun j => by
  rw [show f = g from funext h]
theorem wi_eq {N A B U : z_A} {T Pt a b l s : Int32} (hr : z_RN N) (hN : z_NA N A) (hE : z_WE N) (hT : T = B 45 10) (hP : Pt = U 45 22) : (xWi N T Pt a b l s).1 = (mWi A B U a b l s).1 ∧ z_NA (xWi N T Pt a b l s).2 (mWi A B U a b l s).2 ∧ z_WE (xWi N T Pt a b l s).2 := by
  have no : (((-1 : Int32), N)).1 = ((-1 : Int32), A).1 ∧ z_NA ((-1 : Int32), N).2 ((-1 : Int32), A).2 ∧ z_WE ((-1 : Int32), N).2 := ⟨rfl, hN, hE⟩
  have h12 := z_lt12 hr.2.2.2.1
  rw [hN.2.1] at h12
  unfold xWi mWi xPr xIn
  rw [z_bb hN.1, z_bb hN.1, ← hT, ← hP, hN.2.1]
  by_cases c0 : A 45 3 = 12
  · rw [if_pos c0]
    have n12 : ¬ A 45 3 < 12 := fun h => h12.mp h c0
    rw [if_neg n12]
    repeat' split
    all_goals exact no
  · rw [if_neg c0, if_pos (h12.mpr c0)]
    by_cases c1 : xB N a = true
    · rw [if_pos c1, if_pos c1]
      by_cases c2 : xB N b = true
      · rw [if_pos c2, if_pos c2]
        by_cases c3 : a = b
        · rw [if_pos c3, if_pos c3]; exact no
        · rw [if_neg c3, if_neg c3, if_pos rfl]
          by_cases c4 : 0 < T
          · rw [if_pos c4]
            repeat' split
            all_goals exact no
          · rw [if_neg c4]
            by_cases c5 : 0 < Pt
            · rw [if_pos c5]
              repeat' split
              all_goals exact no
            · rw [if_neg c5]
              by_cases c6 : l < 0
              · rw [if_pos c6, if_pos c6]; exact no
              · rw [if_neg c6, if_neg c6]
                by_cases c7 : 9 < l
                · rw [if_pos c7, if_pos c7]; exact no
                · rw [if_neg c7, if_neg c7, if_pos rfl]
                  by_cases c8 : s < 1
                  · rw [if_pos c8, if_pos c8]; exact no
                  · rw [if_neg c8, if_neg c8]
                    by_cases c9 : 3 < s
                    · rw [if_pos c9, if_pos c9]; exact no
                    · rw [if_neg c9, if_neg c9, if_pos rfl, if_neg c4, if_neg c5]
                      obtain ⟨n1, n2, n3, n4, n5, n6, n7, n8, n9, n10⟩ := hN
                      have hb := xB_s c2
                      have e := z_i1 (w := N 1 7) hr.2.2.1 (by have := hr.2.2.2.1; omega)
                      have p7 := z_pp hr.2.2.1
                      refine ⟨?_, ⟨n1, ?_, n3, n4, n5, n6, fun k => ?_, fun k => ?_, fun k => ?_, fun k => ?_⟩, fun k hk => ?_⟩
                      · show N 1 7 + 1 - 1 = A 45 3 + 1 - 1
                        rw [n2]
                      · show N 1 7 + 1 = A 45 3 + 1
                        rw [n2]
                      · show upd (N 4) (N 1 7).toNatClampNeg a k = upd (A 48) (A 45 3).toNatClampNeg a k
                        rw [n2]; exact z_ua n7 k
                      · show upd (N 5) (N 1 7).toNatClampNeg b k = upd (A 49) (A 45 3).toNatClampNeg b k
                        rw [n2]; exact z_ua n8 k
                      · show upd (N 6) (N 1 7).toNatClampNeg l k = upd (A 50) (A 45 3).toNatClampNeg l k
                        rw [n2]; exact z_ua n9 k
                      · show upd (N 7) (N 1 7).toNatClampNeg s k = upd (A 51) (A 45 3).toNatClampNeg s k
                        rw [n2]; exact z_ua n10 k
                      · have hk : (k : Int) < (N 1 7 + 1).toInt := hk
                        show (upd (N 5) (N 1 7).toNatClampNeg b k).toInt < (N 1 6).toInt
                        unfold upd
                        split
                        · exact hb.2
                        · rename_i q; exact hE k (by omega)
      · rw [if_neg c2, if_neg c2]; exact no
    · rw [if_neg c1, if_neg c1]; exact no
theorem box_al {N A V : z_A} {a : Int32} (hr : z_RN N) (hA : z_MA A) (hN : z_NA N A) (hE : z_WE N) : (xBox N a).1 = (mBox A V a).1 ∧ z_NA (xBox N a).2 (mBox A V a).2.1 ∧ z_WE (xBox N a).2 := by
  have no : (((-1 : Int32), N)).1 = ((-1 : Int32), A, V).1 ∧ z_NA ((-1 : Int32), N).2 ((-1 : Int32), A, V).2.1 ∧ z_WE ((-1 : Int32), N).2 := ⟨rfl, hN, hE⟩
  have h6 : N 1 6 < 6 ↔ ¬ N 1 6 = 6 := by
    rw [z_ltI]
    have t : Int32.toInt 6 = 6 := rfl
    refine ⟨fun h e => by rw [e] at h; omega, fun h' => ?_⟩
    have : ¬ (N 1 6).toInt = 6 := fun q => h' (Int32.toInt_inj.mp (q.trans t.symm))
    have := hr.2.1
    omega
  unfold xBox mBox xIn
  rw [← hN.1]
  by_cases c0 : N 1 6 = 6
  · rw [if_pos c0, if_neg (fun h => h6.mp h c0)]
    repeat' split
    all_goals exact no
  · rw [if_neg c0, if_pos (h6.mpr c0)]
    by_cases c1 : a < 0
    · rw [if_pos c1, if_pos c1]; exact no
    · rw [if_neg c1, if_neg c1]
      by_cases c2 : 5 < a
      · rw [if_pos c2, if_pos c2]; exact no
      · rw [if_neg c2, if_neg c2, if_pos rfl]
        obtain ⟨n1, n2, n3, n4, n5, n6, n7, n8, n9, n10⟩ := hN
        have e := z_i1 (w := N 1 6) hr.1 (by have := hr.2.1; omega)
        refine ⟨rfl, ⟨rfl, n2, n3, n4, fun k => ?_, n6, n7, n8, n9, n10⟩, fun k hk => ?_⟩
        · show upd (N 2) (N 1 6).toNatClampNeg a k = upd (A 46) (N 1 6).toNatClampNeg a k
          exact z_ua n5 k
        · have hk : (k : Int) < (N 1 7).toInt := hk
          show (N 5 k).toInt < (N 1 6 + 1).toInt
          have := hE k hk
          omega
theorem z_cy {h : Int32} : mCy h = xCy h := by
  unfold mCy xCy
  have e : ∀ k : Int32, (h = k) = (k = h) := fun k => propext eq_comm
  simp only [e]
theorem cyc_al {N A B V : z_A} {T h : Int32} (hN : z_NA N A) (hE : z_WE N) (hT : T = B 45 10) : (xCyc N T h).1 = (mCyc A B V h).1 ∧ z_NA (xCyc N T h).2 (mCyc A B V h).2.1 ∧ z_WE (xCyc N T h).2 := by
  unfold xCyc mCyc
  rw [← hT, z_cy]
  split
  · exact ⟨rfl, hN, hE⟩
  · split
    · obtain ⟨n1, n2, n3, n4⟩ := hN
      exact ⟨rfl, ⟨n1, n2, rfl, n4⟩, hE⟩
    · exact ⟨rfl, hN, hE⟩
theorem dr_al {N A B V E : z_A} {T k : Int32} (hN : z_NA N A) (hE : z_WE N) (hT : T = B 45 10) : (xDr N E T k).1 = (mDr A B V k).1 ∧ z_NA (xDr N E T k).2.1 (mDr A B V k).2.1 ∧ z_WE (xDr N E T k).2.1 := by
  unfold xDr mDr xIn
  rw [← hT]
  by_cases c0 : 0 < T
  · rw [if_pos c0, if_pos c0]; exact ⟨rfl, hN, hE⟩
  · rw [if_neg c0, if_neg c0]
    by_cases c1 : k < 0
    · rw [if_pos c1, if_pos c1]; exact ⟨rfl, hN, hE⟩
    · rw [if_neg c1, if_neg c1]
      by_cases c2 : 3 < k
      · rw [if_pos c2, if_pos c2]; exact ⟨rfl, hN, hE⟩
      · rw [if_neg c2, if_neg c2, if_pos rfl]
        obtain ⟨n1, n2, n3, n4, n5, n6, n7⟩ := hN
        refine ⟨rfl, ⟨n1, n2, n3, rfl, n5, fun j => ?_, n7⟩, hE⟩
        exact z_ua (z_ua (z_ua (z_ua (z_ua (z_ua n6))))) j
theorem clk_al {N A V E : z_A} {b e : Int32} (hN : z_NA N A) (hE : z_WE N) : (xClk N E b e).1 = (mClk A V b e).1 ∧ z_NA (xClk N E b e).2.1 (mClk A V b e).2.1 ∧ z_WE (xClk N E b e).2.1 := by
  unfold xClk mClk xIn
  rw [z_bb hN.1, ← hN.2.2.2.1]
  by_cases c0 : xB N b = true
  · rw [if_pos c0, if_pos c0]
    by_cases c1 : e < -(N 1 9)
    · rw [if_pos c1, if_pos c1]; exact ⟨rfl, hN, hE⟩
    · rw [if_neg c1, if_neg c1]
      by_cases c2 : N 1 9 < e
      · rw [if_pos c2, if_pos c2]; exact ⟨rfl, hN, hE⟩
      · rw [if_neg c2, if_neg c2, if_pos rfl]
        obtain ⟨n1, n2, n3, n4, n5, n6, n7⟩ := hN
        exact ⟨rfl, ⟨n1, n2, n3, n4, n5, fun j => z_ua n6 j, n7⟩, hE⟩
  · rw [if_neg c0, if_neg c0]; exact ⟨rfl, hN, hE⟩
