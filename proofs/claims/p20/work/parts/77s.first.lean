/-- a row's lateness from its number -/
theorem z_l16 {F : z_A} {y : Int32} {k : Nat} (hF : z_MF F) (h8 : 0 ≤ (F 68 k).toInt) (hy : y.toInt = (cR F k : Int)) : y >>> ((16 : Int32) &&& 31) = F 68 k := by
  have s := i_shr (c := 16) (k := 16) hy (by decide) (by decide)
  have p := z_pp h8
  have b : tl (nb (F 66 k).toInt (rWs F k)) 4 0 < 16 ^ 4 := tl_b (fun i => nb_b (fun i => by unfold rWs; have := hF.2.2.1 (4 * k + i); omega) i) 4 0
  refine Int32.toInt_inj.mp ?_
  rw [s]
  unfold cR
  have e : (16 : Nat) ^ 4 = 65536 := rfl
  have e' : (2 : Nat) ^ 16 = 65536 := rfl
  rw [e] at b
  rw [e']
  omega
/-- so both say alike whether a first way is in time -/
theorem z_lt1 {N F : z_A} {a b c l r : Int32} (hF : z_MF F) (hK : z_WK N a b c F) (hw_r : ∀ y, y ∈ eW N a b c → 0 ≤ y.toInt) (hn : z_nx (eW N a b c) (-1) r) : xLt r l = true ↔ (0 < (F 45 27).toInt ∧ ¬ l < F 68 0) := by
  have p := z_pp hF.2.2.2
  have m1 : (-1 : Int32).toInt = -1 := rfl
  have g := z_nxt hK hw_r hn (m := 0) (fun j hj => absurd hj (Nat.not_lt_zero _)) (fun _ => by omega)
  unfold xLt
  by_cases q : 0 < (F 45 27).toNatClampNeg
  · have e := g.1 q
    rw [if_neg (fun e' => by rw [e', m1] at e; omega), z_l16 hF (hK.2.2.1 0 (by omega)) e]
    split
    · rename_i h; exact ⟨fun h => absurd h (by decide), fun h' => absurd h h'.2⟩
    · rename_i h; exact ⟨fun _ => ⟨by omega, h⟩, fun _ => rfl⟩
  · rw [if_pos (g.2 q)]
    exact ⟨fun h => absurd h (by decide), fun h => by omega⟩
