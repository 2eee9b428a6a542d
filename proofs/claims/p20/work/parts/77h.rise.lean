/-! The codes rise, apart from the lateness, in the order in which they are come upon. -/
def z_rs (lo hi : Nat) (l : List Int32) : Prop := (∀ y, y ∈ l → 0 ≤ y.toInt ∧ (lo : Int) ≤ y.toInt % 65536 ∧ y.toInt % 65536 < (hi : Int)) ∧ l.Pairwise (fun x y => x.toInt % 65536 < y.toInt % 65536)
theorem z_rs0 {lo hi : Nat} : z_rs lo hi [] := ⟨fun _ h => absurd h List.not_mem_nil, List.Pairwise.nil⟩
theorem z_rsa {lo m m' hi : Nat} {l r : List Int32} (h1 : z_rs lo m l) (h2 : z_rs m' hi r) (a : lo ≤ m') (b : m ≤ hi) (c : m ≤ m') : z_rs lo hi (l ++ r) := by
  refine ⟨fun y hy => ?_, List.pairwise_append.mpr ⟨h1.2, h2.2, fun x hx y hy => ?_⟩⟩
  · rcases List.mem_append.mp hy with q | q
    · have := h1.1 y q; omega
    · have := h2.1 y q; omega
  · have := h1.1 x hx
    have := h2.1 y hy
    omega
theorem xC_b {N : z_A} (ha : z_RA N) {w c : Int32} (h0 : 0 ≤ c.toInt) (h1 : c.toInt ≤ 8) : 0 ≤ (xC N w c).toInt ∧ (xC N w c).toInt ≤ 33 := by
  unfold xC
  split
  · have m := z_mul3 (c := c) (s := N 7 w.toNatClampNeg) h0 h1 (ha.2.2.2.2.2.1 _).1 (ha.2.2.2.2.2.1 _).2
    have l := ha.2.2.2.2.1 w.toNatClampNeg
    rw [Int32.toInt_add, bm32]
    split <;> omega
  · exact ⟨by decide, by decide⟩
theorem xS_b {N : z_A} (ha : z_RA N) {w : Int32} : 0 ≤ (xS N w).toInt ∧ (xS N w).toInt ≤ 11 := by
  unfold xS
  split
  · split
    · have l := ha.1 (N 5 w.toNatClampNeg).toNatClampNeg
      have s1 := ha.2.2.2.2.2.2.1
      have s2 := ha.2.2.2.2.2.2.2
      have e : (2 * N 1 9).toInt = 2 * (N 1 9).toInt := by
        rw [Int32.toInt_mul, bm32]
        have : (2 : Int32).toInt = 2 := rfl
        rw [this]
        split <;> omega
      rw [Int32.toInt_add, e, bm32]
      split <;> omega
    · exact ⟨by decide, by decide⟩
  · exact ⟨by decide, by decide⟩
theorem eL_r {N : z_A} (hr : z_RN N) (ha : z_RA N) {goal sz at_ seen late row depth : Int32} {k R b : Nat} (z0 : 0 ≤ sz.toInt) (z1 : sz.toInt ≤ 8) (hk : ((12 - 4 * depth) &&& 31).toBitVec.toNat = k) (k12 : k ≤ 12) (hR : row.toInt = ((R * 2 ^ (k + 4) : Nat) : Int)) (hb : R * 2 ^ (k + 4) + 2 ^ (k + 4) ≤ 65536) (l0 : 0 ≤ late.toInt) (l1 : late.toInt ≤ (b : Int)) (b1 : b ≤ 1000) {rec : Int32 → Int32 → Int32 → Int32 → List Int32} (h : ∀ (a s l r : Int32) (u : Nat), u ≤ 12 → 0 ≤ l.toInt → l.toInt ≤ (b + 44 : Nat) → r.toInt = (((R * 16 + (u + 1)) * 2 ^ k : Nat) : Int) → z_rs ((R * 16 + (u + 1)) * 2 ^ k) ((R * 16 + (u + 2)) * 2 ^ k) (rec a s l r)) : ∀ (f : Nat) (w : Int32) (u : Nat), w.toInt = (u : Int) → u ≤ 13 → z_rs ((R * 16 + (u + 1)) * 2 ^ k) ((R * 16 + 16) * 2 ^ k) (eL N goal sz at_ seen late row depth rec f w) := by
  intro f
  induction f with
  | zero => intro w u hw hu; exact z_rs0
  | succ f ih =>
    intro w u hw hu
    rw [eL_s]
    split
    · rename_i c1
      have c2 := Int32.lt_iff_toInt_lt.mp c1
      have c3 := hr.2.2.2.1
      have hw1 : (w + 1).toInt = ((u + 1 : Nat) : Int) := by
        rw [Int32.toInt_add, bm32]
        have : (1 : Int32).toInt = 1 := rfl
        split <;> omega
      have m1 : (R * 16 + (u + 1)) * 2 ^ k ≤ (R * 16 + (u + 2)) * 2 ^ k := Nat.mul_le_mul_right _ (by omega)
      have m2 : (R * 16 + (u + 2)) * 2 ^ k ≤ (R * 16 + 16) * 2 ^ k := Nat.mul_le_mul_right _ (by omega)
      have xc := xC_b ha (w := w) z0 z1
      have xs := xS_b ha (w := w)
      have e1 : (late + xC N w sz).toInt = late.toInt + (xC N w sz).toInt := by
        rw [Int32.toInt_add, bm32]
        split <;> omega
      have e2 : (late + xC N w sz + xS N w).toInt = late.toInt + (xC N w sz).toInt + (xS N w).toInt := by
        rw [Int32.toInt_add, e1, bm32]
        split <;> omega
      refine z_rsa (m := (R * 16 + (u + 2)) * 2 ^ k) (m' := (R * 16 + (u + 2)) * 2 ^ k) ?_ (ih (w + 1) (u + 1) hw1 (by omega)) m1 m2 (Nat.le_refl _)
      obtain ⟨r1, r2⟩ := eR_n hk k12 hR hb hw (by omega)
      split
      · split
        · exact z_rs0
        · split
          · have en := eC_n (N := N) (sz := sz) (late := late) (l := (late + xC N w sz).toInt.toNat) hk k12 hR hb hw (by omega) (by omega) (by omega)
            have p0 : 0 < 2 ^ k := Nat.pow_pos (by decide)
            have m3 : (R * 16 + (u + 1)) * 2 ^ k < (R * 16 + (u + 2)) * 2 ^ k := Nat.mul_lt_mul_of_pos_right (by omega) p0
            generalize (R * 16 + (u + 1)) * 2 ^ k = X at *
            generalize (R * 16 + (u + 2)) * 2 ^ k = Y at *
            refine ⟨fun y hy => ?_, List.pairwise_singleton _ _⟩
            rw [List.mem_singleton.mp hy, en]
            omega
          · exact h _ _ _ _ u (by omega) (by omega) (by omega) r1
      · exact z_rs0
    · exact z_rs0
theorem z_rsw {lo lo' hi hi' : Nat} {l : List Int32} (h : z_rs lo hi l) (a : lo' ≤ lo) (b : hi ≤ hi') : z_rs lo' hi' l := ⟨fun y hy => by have := h.1 y hy; omega, h.2⟩
theorem z_dk {depth : Int32} {d : Nat} (h : depth.toInt = (d : Int)) (hd : d ≤ 3) : ((12 - 4 * depth) &&& 31).toBitVec.toNat = 12 - 4 * d := by
  rcases (by omega : d = 0 ∨ d = 1 ∨ d = 2 ∨ d = 3) with e | e | e | e <;> subst e
  · rw [show depth = 0 from Int32.toInt_inj.mp h]; decide
  · rw [show depth = 1 from Int32.toInt_inj.mp h]; decide
  · rw [show depth = 2 from Int32.toInt_inj.mp h]; decide
  · rw [show depth = 3 from Int32.toInt_inj.mp h]; decide
theorem eK_r {N : z_A} (hr : z_RN N) (ha : z_RA N) {goal sz : Int32} (z0 : 0 ≤ sz.toInt) (z1 : sz.toInt ≤ 8) : ∀ (f : Nat) (at_ seen late row depth : Int32) (d R : Nat), depth.toInt = (d : Int) → d ≤ 4 → row.toInt = ((R * 2 ^ (16 - 4 * d) : Nat) : Int) → (R + 1) * 2 ^ (16 - 4 * d) ≤ 65536 → 0 ≤ late.toInt → late.toInt ≤ ((44 * d : Nat) : Int) → z_rs (R * 2 ^ (16 - 4 * d)) ((R + 1) * 2 ^ (16 - 4 * d)) (eK N goal sz f at_ seen late row depth) := by
  intro f
  induction f with
  | zero => intro at_ seen late row depth d R _ _ _ _ _ _; exact z_rs0
  | succ f ih =>
    intro at_ seen late row depth d R hd d4 hR hb l0 l1
    rw [eK_s]
    split
    · rename_i c1
      have c2 := Int32.lt_iff_toInt_lt.mp c1
      have c3 : (4 : Int32).toInt = 4 := rfl
      have d3 : d ≤ 3 := by omega
      have ek : 16 - 4 * d = (12 - 4 * d) + 4 := by omega
      have hk := z_dk hd d3
      have ed : (depth + 1).toInt = ((d + 1 : Nat) : Int) := by
        rw [Int32.toInt_add, bm32]
        have : (1 : Int32).toInt = 1 := rfl
        split <;> omega
      rw [ek] at hR hb ⊢
      have e1 : 16 - 4 * (d + 1) = 12 - 4 * d := by omega
      have k12 : 12 - 4 * d ≤ 12 := by omega
      have ih' := fun a s l r (u : Nat) => ih a s l r (depth + 1) (d + 1) (R * 16 + (u + 1)) ed (by omega)
      rw [e1] at ih'
      generalize 12 - 4 * d = k at *
      have e4 : ∀ X, X * 2 ^ (k + 4) = (X * 16) * 2 ^ k := fun X => by rw [Nat.pow_add, Nat.mul_assoc, Nat.mul_comm (2 ^ k)]
      have hb2 : R * 2 ^ (k + 4) + 2 ^ (k + 4) ≤ 65536 := by rw [Nat.add_mul, Nat.one_mul] at hb; exact hb
      have g := eL_r hr ha (goal := goal) (at_ := at_) (seen := seen) (b := 44 * d) z0 z1 hk k12 hR hb2 l0 l1 (by omega) (rec := fun a s l r => eK N goal sz f a s l r (depth + 1)) (fun a s l r u hu h0 h1 h2 => by
        refine ih' a s l r u h2 ?_ h0 (by omega)
        have : (R * 16 + (u + 1) + 1) * 2 ^ k ≤ ((R + 1) * 16) * 2 ^ k := Nat.mul_le_mul_right _ (by omega)
        rw [e4] at hb
        omega) 13 0 0 rfl (by decide)
      refine z_rsw g ?_ ?_
      · rw [e4]; exact Nat.mul_le_mul_right _ (by omega)
      · rw [e4]; exact Nat.mul_le_mul_right _ (by omega)
    · exact z_rs0
/-- no code comes twice, and none is below 0 -/
theorem eW_r {N : z_A} (hr : z_RN N) (ha : z_RA N) {a b c : Int32} (z0 : 0 ≤ c.toInt) (z1 : c.toInt ≤ 8) : (∀ y, y ∈ eW N a b c → 0 ≤ y.toInt) ∧ (eW N a b c).Pairwise (fun x y => x.toInt % 65536 < y.toInt % 65536) := by
  have g := eK_r hr ha (goal := b) z0 z1 5 a ((1 : Int32) <<< (a &&& 31)) 0 0 0 0 0 rfl (by decide) rfl (by decide) (by decide) (by decide)
  exact ⟨fun y hy => (g.1 y hy).1, g.2⟩
