/-! What a search that stands at level n, with the wires g, has yet to come upon. -/
/-- box, boxes seen, lateness, row and depth at level j -/
def cX (N : z_A) (c a : Int32) (g : Nat → Int32) : Nat → Int32 × Int32 × Int32 × Int32 × Int32
  | 0 => (a, (1 : Int32) <<< (a &&& 31), 0, 0, 0)
  | j + 1 => (N 5 (g j).toNatClampNeg, (cX N c a g j).2.1 ||| ((1 : Int32) <<< (N 5 (g j).toNatClampNeg &&& 31)), (cX N c a g j).2.2.1 + xC N (g j) c + xS N (g j), (cX N c a g j).2.2.2.1 ||| ((g j + 1) <<< ((12 - 4 * (cX N c a g j).2.2.2.2) &&& 31)), (cX N c a g j).2.2.2.2 + 1)
theorem cX_s {N : z_A} {c a : Int32} {g : Nat → Int32} {j : Nat} : cX N c a g (j + 1) = (N 5 (g j).toNatClampNeg, (cX N c a g j).2.1 ||| ((1 : Int32) <<< (N 5 (g j).toNatClampNeg &&& 31)), (cX N c a g j).2.2.1 + xC N (g j) c + xS N (g j), (cX N c a g j).2.2.2.1 ||| ((g j + 1) <<< ((12 - 4 * (cX N c a g j).2.2.2.2) &&& 31)), (cX N c a g j).2.2.2.2 + 1) := rfl
def eV (N : z_A) (b c a : Int32) (g : Nat → Int32) (j f : Nat) (w : Int32) : List Int32 := eL N b c (cX N c a g j).1 (cX N c a g j).2.1 (cX N c a g j).2.2.1 (cX N c a g j).2.2.2.1 (cX N c a g j).2.2.2.2 (fun x s l r => eK N b c (4 - j) x s l r ((cX N c a g j).2.2.2.2 + 1)) f w
def eB (N : z_A) (b c a : Int32) (g : Nat → Int32) : Nat → List Int32
  | 0 => []
  | j + 1 => eV N b c a g j (12 - (g j).toNatClampNeg) (g j + 1) ++ eB N b c a g j
theorem eB_s {N : z_A} {b c a : Int32} {g : Nat → Int32} {j : Nat} : eB N b c a g (j + 1) = eV N b c a g j (12 - (g j).toNatClampNeg) (g j + 1) ++ eB N b c a g j := rfl
def eM (N : z_A) (b c a : Int32) (g : Nat → Int32) (n : Nat) : List Int32 := eV N b c a g n (13 - (g n).toNatClampNeg) (g n) ++ eB N b c a g n
theorem cX_c {N : z_A} {c a : Int32} {g h : Nat → Int32} : ∀ n : Nat, (∀ i, i < n → g i = h i) → cX N c a g n = cX N c a h n := by
  intro n
  induction n with
  | zero => intro _; rfl
  | succ n ih =>
    intro e
    rw [cX_s, cX_s, ih (fun i hi => e i (by omega)), e n (by omega)]
theorem eV_c {N : z_A} {b c a : Int32} {g h : Nat → Int32} {n f : Nat} {w : Int32} (e : ∀ i, i < n → g i = h i) : eV N b c a g n f w = eV N b c a h n f w := by
  unfold eV
  rw [cX_c n e]
theorem eB_c {N : z_A} {b c a : Int32} {g h : Nat → Int32} : ∀ n : Nat, (∀ i, i < n → g i = h i) → eB N b c a g n = eB N b c a h n := by
  intro n
  induction n with
  | zero => intro _; rfl
  | succ n ih =>
    intro e
    rw [eB_s, eB_s, ih (fun i hi => e i (by omega)), e n (by omega), eV_c (fun i hi => e i (by omega))]
theorem eL_e {N : z_A} {goal sz at_ seen late row depth w : Int32} {rec : Int32 → Int32 → Int32 → Int32 → List Int32} {k : Nat} (h : ¬ w < N 1 7) : eL N goal sz at_ seen late row depth rec k w = [] := by
  cases k with
  | zero => rfl
  | succ k => rw [eL_s, if_neg h]
theorem z_i1 {w : Int32} (h0 : 0 ≤ w.toInt) (h1 : w.toInt ≤ 100) : (w + 1).toInt = w.toInt + 1 ∧ (w + 1).toNatClampNeg = w.toNatClampNeg + 1 := by
  have e : (w + 1).toInt = w.toInt + 1 := by
    rw [Int32.toInt_add, bm32]
    have : (1 : Int32).toInt = 1 := rfl
    split <;> omega
  have p := z_pp h0
  have p1 := z_pp (p := w + 1) (by omega)
  generalize w + 1 = v at *
  exact ⟨e, by omega⟩
/-- at the start -/
theorem eM_0 {N : z_A} {b c a : Int32} {g : Nat → Int32} (h : g 0 = 0) : eM N b c a g 0 = eW N a b c := by
  unfold eM eW
  rw [h, eK_s, if_pos (by decide)]
  exact List.append_nil _
/-- one wire on -/
theorem eM_i {N : z_A} {b c a : Int32} {g h : Nat → Int32} {n : Nat} (e : ∀ i, i < n → g i = h i) (e1 : h n = g n + 1) (g0 : 0 ≤ (g n).toInt) (g1 : (g n).toInt ≤ 11) : eM N b c a h n = eV N b c a g n (12 - (g n).toNatClampNeg) (g n + 1) ++ eB N b c a g n := by
  unfold eM
  rw [e1, (z_i1 g0 (by omega)).2, ← eV_c e, ← eB_c n e]
  rw [show 13 - ((g n).toNatClampNeg + 1) = 12 - (g n).toNatClampNeg by omega]
/-- at the end of a level -/
theorem eM_o {N : z_A} {b c a : Int32} {g h : Nat → Int32} {n : Nat} (c0 : ¬ g (n + 1) < N 1 7) (e : ∀ i, i < n → g i = h i) (e1 : h n = g n + 1) (g0 : 0 ≤ (g n).toInt) (g1 : (g n).toInt ≤ 11) : eM N b c a g (n + 1) = eM N b c a h n := by
  rw [eM_i e e1 g0 g1, ← eB_s]
  unfold eM eV
  rw [eL_e c0]
  rfl
theorem eM_z {N : z_A} {b c a : Int32} {g : Nat → Int32} (c0 : ¬ g 0 < N 1 7) : eM N b c a g 0 = [] := by
  unfold eM eV
  rw [eL_e c0]
  rfl
/-- a wire -/
theorem eM_s {N : z_A} {b c a : Int32} {g h : Nat → Int32} {n : Nat} (c0 : g n < N 1 7) (e : ∀ i, i < n → g i = h i) (e1 : h n = g n + 1) (g0 : 0 ≤ (g n).toInt) (g1 : (g n).toInt ≤ 11) : eM N b c a g n = (if N 4 (g n).toNatClampNeg = (cX N c a g n).1 then if ((cX N c a g n).2.1 >>> (N 5 (g n).toNatClampNeg &&& 31)) &&& 1 = 1 then [] else if N 5 (g n).toNatClampNeg = b then [eC N c (cX N c a g n).2.2.1 (cX N c a g n).2.2.2.1 (cX N c a g n).2.2.2.2 (g n)] else eK N b c (4 - n) (cX N c a g (n + 1)).1 (cX N c a g (n + 1)).2.1 (cX N c a g (n + 1)).2.2.1 (cX N c a g (n + 1)).2.2.2.1 (cX N c a g (n + 1)).2.2.2.2 else []) ++ eM N b c a h n := by
  have p := z_pp g0
  rw [eM_i e e1 g0 g1]
  unfold eM
  rw [show 13 - (g n).toNatClampNeg = (12 - (g n).toNatClampNeg) + 1 by omega, ← List.append_assoc]
  congr 1
  unfold eV
  rw [eL_s, if_pos c0]
  rfl
/-- a level on -/
theorem eM_d {N : z_A} {b c a : Int32} {g h : Nat → Int32} {n : Nat} (n3 : n < 3) (d4 : (cX N c a g (n + 1)).2.2.2.2 < 4) (e : ∀ i, i < n + 1 → g i = h i) (e1 : h (n + 1) = 0) : eM N b c a h (n + 1) = eK N b c (4 - n) (cX N c a g (n + 1)).1 (cX N c a g (n + 1)).2.1 (cX N c a g (n + 1)).2.2.1 (cX N c a g (n + 1)).2.2.2.1 (cX N c a g (n + 1)).2.2.2.2 ++ (eV N b c a g n (12 - (g n).toNatClampNeg) (g n + 1) ++ eB N b c a g n) := by
  unfold eM
  rw [e1, ← eV_c e, ← eB_c (n + 1) e, eB_s, show 4 - n = (4 - (n + 1)) + 1 by omega, eK_s, if_pos d4]
  rfl
