/-! Both take the same streams and letters. -/
theorem xPe_c {N : z_A} (hr : z_RN N) {p : Int32} (h : N 1 8 < p) : xPe N p = false := by
  rw [z_ltI] at h
  have h8 := hr.2.2.2.2
  unfold xPe
  split
  · rfl
  · have e : N 1 8 / p = 0 := Int32.toInt_inj.mp (by rw [Int32.toInt_div, Int.tdiv_eq_zero_of_lt (by omega) (by omega)]; rfl)
    rw [e, Int32.zero_mul, Int32.sub_zero, if_neg]
    intro q
    have : (N 1 8).toInt = 0 := by rw [q]; rfl
    omega
theorem z_lt8 {x : Int32} (h : x.toInt ≤ 8) : x < 8 ↔ ¬ x = 8 := by
  rw [z_ltI]
  have t : Int32.toInt 8 = 8 := rfl
  refine ⟨fun h e => by rw [e] at h; omega, fun h' => ?_⟩
  have : ¬ x.toInt = 8 := fun q => h' (Int32.toInt_inj.mp (q.trans t.symm))
  omega
theorem z_lt60 {x : Int32} (h : x.toInt ≤ 60) : x < 60 ↔ ¬ x = 60 := by
  rw [z_ltI]
  have t : Int32.toInt 60 = 60 := rfl
  refine ⟨fun h e => by rw [e] at h; omega, fun h' => ?_⟩
  have : ¬ x.toInt = 60 := fun q => h' (Int32.toInt_inj.mp (q.trans t.symm))
  omega
theorem sg_al {N A B : z_A} {T a b c p l : Int32} (hr : z_RN N) (hN : z_NA N A) (hT : T = B 45 10) (h8 : T.toInt ≤ 8) : xSg N T a b c p l = mSg A B a b c p l := by
  have l8 := z_lt8 h8
  unfold xSg mSg xPr
  rw [z_bb hN.1, z_bb hN.1, ← hT, ← hN.2.2.1]
  by_cases c0 : T = 8
  · rw [if_pos c0, if_neg (fun h => l8.mp h c0)]
  · rw [if_neg c0, if_pos (l8.mpr c0)]
    by_cases c1 : xB N a = true
    · rw [if_pos c1, if_pos c1]
      by_cases c2 : xB N b = true
      · rw [if_pos c2, if_pos c2]
        by_cases c3 : a = b
        · rw [if_pos c3, if_pos c3]; rfl
        · rw [if_neg c3, if_neg c3, if_pos rfl]
          by_cases c4 : xIn c 1 8 = true
          · rw [if_pos c4, if_pos c4]
            by_cases c6 : N 1 8 < p
            · rw [xPe_c hr c6, if_pos c6, if_neg (by decide)]
              split <;> rfl
            · rw [if_neg c6]
              unfold xPe xIn
              by_cases c5 : p < 2
              · rw [if_pos c5, if_pos c5]; rfl
              · rw [if_neg c5, if_neg c5]
                by_cases c7 : N 1 8 - N 1 8 / p * p = 0
                · rw [if_pos c7, if_pos c7, if_pos rfl]
                  by_cases c8 : l < 1
                  · simp only [if_pos c8]; rfl
                  · simp only [if_neg c8]
                    by_cases c9 : 200 < l
                    · simp only [if_pos c9]; rfl
                    · simp only [if_neg c9]; rfl
                · rw [if_neg c7, if_neg c7]; rfl
          · rw [if_neg c4, if_neg c4]
      · rw [if_neg c2, if_neg c2]; rfl
    · rw [if_neg c1, if_neg c1]; rfl
theorem sn_al {N A U : z_A} {Pt t a b c : Int32} (hN : z_NA N A) (hP : Pt = U 45 22) (h60 : Pt.toInt ≤ 60) : xSn N Pt t a b c = mSn A U t a b c := by
  have l8 := z_lt60 h60
  unfold xSn mSn xPr
  rw [z_bb hN.1, z_bb hN.1, ← hP]
  by_cases c0 : Pt = 60
  · rw [if_pos c0, if_neg (fun h => l8.mp h c0)]
  · rw [if_neg c0, if_pos (l8.mpr c0)]
    have e : ∀ x y : Bool, (if xIn t 0 999 = true then x else false) = if t < 0 then false else if 999 < t then false else x := fun x y => by
      unfold xIn
      by_cases c1 : t < 0
      · rw [if_pos c1, if_pos c1]; rfl
      · rw [if_neg c1, if_neg c1]
        by_cases c2 : 999 < t
        · rw [if_pos c2, if_pos c2]; rfl
        · rw [if_neg c2, if_neg c2]; rfl
    rw [e _ true]
    by_cases c1 : xB N a = true
    · rw [if_pos c1, if_pos c1]
      by_cases c2 : xB N b = true
      · rw [if_pos c2, if_pos c2]
        by_cases c3 : a = b
        · rw [if_pos c3, if_pos c3]; rfl
        · rw [if_neg c3, if_neg c3, if_pos rfl]
      · rw [if_neg c2, if_neg c2]; rfl
    · rw [if_neg c1, if_neg c1]; rfl
theorem mH2_z {F B : z_A} {l : Int32} : (mH2 F l 4 0 B).1 = 0 ↔ ¬ (0 < (F 45 27).toInt ∧ ¬ l < F 68 0) := by
  rw [mH2_s, if_pos (by decide)]
  have t : (0 < F 45 27) = (0 < (F 45 27).toInt) := by rw [z_ltI, tI0]
  by_cases c0 : 0 < F 45 27
  · rw [if_pos c0]
    rw [t] at c0
    show (if l < F 68 0 then ((0 : Int32), B) else mH2 F l 3 (0 + 1) (mH0 F B 0)).1 = 0 ↔ _
    by_cases c1 : l < F 68 0
    · rw [if_pos c1]; exact ⟨fun _ h => h.2 c1, fun _ => rfl⟩
    · rw [if_neg c1]
      have e : (0 + 1 : Int32) = 1 := by decide
      rw [e]
      refine ⟨fun h => ?_, fun h => absurd ⟨c0, c1⟩ h⟩
      have := mH2_m (F := F) (l := l) 3 1 (mH0 F B 0) (by decide)
      rw [h] at this
      exact absurd this (by decide)
  · rw [if_neg c0]
    rw [t] at c0
    exact ⟨fun _ h => c0 h.1, fun _ => rfl⟩
