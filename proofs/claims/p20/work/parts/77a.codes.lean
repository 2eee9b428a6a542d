/-! The ways of the class as a list of codes, in the order in which they are come upon. -/
def eC (N : z_A) (sz late row depth w : Int32) : Int32 := ((late + xC N w sz) <<< ((16 : Int32) &&& 31)) ||| (row ||| ((w + 1) <<< ((12 - 4 * depth) &&& 31)))
def eL (N : z_A) (goal sz at_ seen late row depth : Int32) (rec : Int32 → Int32 → Int32 → Int32 → List Int32) : Nat → Int32 → List Int32
  | 0, _ => []
  | k + 1, w => if w < N 1 7 then (if N 4 w.toNatClampNeg = at_ then if (seen >>> (N 5 w.toNatClampNeg &&& 31)) &&& 1 = 1 then [] else if N 5 w.toNatClampNeg = goal then [eC N sz late row depth w] else rec (N 5 w.toNatClampNeg) (seen ||| ((1 : Int32) <<< (N 5 w.toNatClampNeg &&& 31))) (late + xC N w sz + xS N w) (row ||| ((w + 1) <<< ((12 - 4 * depth) &&& 31))) else []) ++ eL N goal sz at_ seen late row depth rec k (w + 1) else []
theorem eL_s {N : z_A} {goal sz at_ seen late row depth w : Int32} {rec : Int32 → Int32 → Int32 → Int32 → List Int32} {k : Nat} : eL N goal sz at_ seen late row depth rec (k + 1) w = if w < N 1 7 then (if N 4 w.toNatClampNeg = at_ then if (seen >>> (N 5 w.toNatClampNeg &&& 31)) &&& 1 = 1 then [] else if N 5 w.toNatClampNeg = goal then [eC N sz late row depth w] else rec (N 5 w.toNatClampNeg) (seen ||| ((1 : Int32) <<< (N 5 w.toNatClampNeg &&& 31))) (late + xC N w sz + xS N w) (row ||| ((w + 1) <<< ((12 - 4 * depth) &&& 31))) else []) ++ eL N goal sz at_ seen late row depth rec k (w + 1) else [] := rfl
def eK (N : z_A) (goal sz : Int32) : Nat → Int32 → Int32 → Int32 → Int32 → Int32 → List Int32
  | 0, _, _, _, _, _ => []
  | f + 1, at_, seen, late, row, depth => if depth < 4 then eL N goal sz at_ seen late row depth (fun a s l r => eK N goal sz f a s l r (depth + 1)) 13 0 else []
theorem eK_s {N : z_A} {goal sz at_ seen late row depth : Int32} {f : Nat} : eK N goal sz (f + 1) at_ seen late row depth = if depth < 4 then eL N goal sz at_ seen late row depth (fun a s l r => eK N goal sz f a s l r (depth + 1)) 13 0 else [] := rfl
theorem xOf_12 {W : z_W} {y : Int32} : xOf W y 1 = W 1 ∧ xOf W y 2 = W 2 ∧ xOf W y 3 = W 3 := by
  unfold xOf
  split
  · split
    · exact ⟨rfl, rfl, rfl⟩
    · split
      · exact ⟨rfl, rfl, rfl⟩
      · exact ⟨rfl, rfl, rfl⟩
  · exact ⟨rfl, rfl, rfl⟩
theorem fO_12 : ∀ (l : List Int32) (W : z_W), l.foldl xOf W 1 = W 1 ∧ l.foldl xOf W 2 = W 2 ∧ l.foldl xOf W 3 = W 3 := by
  intro l
  induction l with
  | nil => intro W; exact ⟨rfl, rfl, rfl⟩
  | cons y t ih =>
    intro W
    have h := ih (xOf W y)
    have k := xOf_12 (W := W) (y := y)
    exact ⟨h.1.trans k.1, h.2.1.trans k.2.1, h.2.2.trans k.2.2⟩
theorem xWl_f {N : z_A} {goal sz at_ seen late row depth : Int32} {rec : Int32 → Int32 → Int32 → Int32 → z_W → z_W} {rl : Int32 → Int32 → Int32 → Int32 → List Int32} (h : ∀ (a s l r : Int32) (W : z_W), W 1 = goal → W 2 = sz → rec a s l r W = (rl a s l r).foldl xOf W) : ∀ (k : Nat) (w : Int32) (W : z_W), W 1 = goal → W 2 = sz → xWl N at_ seen late row depth rec k w W = (eL N goal sz at_ seen late row depth rl k w).foldl xOf W := by
  intro k
  induction k with
  | zero => intro w W h1 h2; rfl
  | succ k ih =>
    intro w W h1 h2
    rw [xWl_s, eL_s]
    split
    · rw [List.foldl_append]
      split
      · split
        · rw [ih _ _ h1 h2]; rfl
        · rw [h1]
          split
          · have k := xOf_12 (W := W) (y := eC N sz late row depth w)
            rw [h2]
            exact ih _ _ (k.1.trans h1) (k.2.1.trans h2)
          · rw [h2, h _ _ _ _ W h1 h2]
            have k := fO_12 (rl (N 5 w.toNatClampNeg) (seen ||| ((1 : Int32) <<< (N 5 w.toNatClampNeg &&& 31))) (late + xC N w sz + xS N w) (row ||| ((w + 1) <<< ((12 - 4 * depth) &&& 31)))) W
            rw [ih _ _ (k.1.trans h1) (k.2.1.trans h2)]
      · rw [ih _ _ h1 h2]; rfl
    · rfl
theorem xWk_f {N : z_A} {goal sz : Int32} : ∀ (f : Nat) (at_ seen late row depth : Int32) (W : z_W), W 1 = goal → W 2 = sz → xWk N f at_ seen late row depth W = (eK N goal sz f at_ seen late row depth).foldl xOf W := by
  intro f
  induction f with
  | zero => intro at_ seen late row depth W h1 h2; rfl
  | succ f ih =>
    intro at_ seen late row depth W h1 h2
    rw [xWk_s, eK_s]
    split
    · exact xWl_f (fun a s l r W h1 h2 => ih a s l r (depth + 1) W h1 h2) 13 0 W h1 h2
    · rfl
/-- all codes of ways from a to b -/
def eW (N : z_A) (a b c : Int32) : List Int32 := eK N b c 5 a ((1 : Int32) <<< (a &&& 31)) 0 0 0
theorem xNb_f {N : z_A} {a b c o : Int32} {W : z_W} : xNb N a b c o W = (eW N a b c).foldl xOf (upd (upd (upd (upd W 1 b) 2 c) 3 o) 4 (-1)) := xWk_f 5 _ _ _ _ _ _ rfl rfl
/-- the least of a list's numbers that are greater than o; -1: there is none -/
def z_nx (l : List Int32) (o r : Int32) : Prop := (r = -1 ∧ ∀ y, y ∈ l → ¬ o < y) ∨ (r ∈ l ∧ o < r ∧ ∀ y, y ∈ l → o < y → r ≤ y)
theorem fO_nx {o : Int32} : ∀ (l m : List Int32) (W : z_W), (∀ y, y ∈ l → ¬ y = -1) → W 3 = o → (∀ y, y ∈ m → ¬ y = -1) → z_nx m o (W 4) → z_nx (m ++ l) o (l.foldl xOf W 4) := by
  intro l
  induction l with
  | nil => intro m W _ _ _ h; rw [List.append_nil]; exact h
  | cons y t ih =>
    intro m W hl h3 hm h
    have hy : ¬ y = -1 := hl y (List.mem_cons_self ..)
    rw [show m ++ y :: t = (m ++ [y]) ++ t by simp]
    refine ih (m ++ [y]) (xOf W y) (fun z hz => hl z (List.mem_cons_of_mem _ hz)) (xOf_12.2.2.trans h3) (fun z hz => ?_) ?_
    · rcases List.mem_append.mp hz with q | q
      · exact hm z q
      · rw [List.mem_singleton.mp q]; exact hy
    · have e : xOf W y 4 = if o < y then if W 4 = -1 then y else if y < W 4 then y else W 4 else W 4 := by
        unfold xOf
        rw [h3]
        split
        · split
          · rfl
          · split
            · rfl
            · rfl
        · rfl
      rw [e]
      by_cases c1 : o < y
      · rw [if_pos c1]
        by_cases c2 : W 4 = -1
        · rw [if_pos c2]
          right
          refine ⟨by simp, c1, fun z hz ho => ?_⟩
          rcases List.mem_append.mp hz with q | q
          · rcases h with ⟨-, h⟩ | ⟨h, -⟩
            · exact absurd ho (h z q)
            · rw [c2] at h; exact absurd rfl (hm _ h)
          · rw [List.mem_singleton.mp q]; exact Int32.le_refl _
        · rw [if_neg c2]
          rcases h with ⟨h, -⟩ | ⟨g1, g2, g3⟩
          · exact absurd h c2
          · by_cases c3 : y < W 4
            · rw [if_pos c3]
              right
              refine ⟨by simp, c1, fun z hz ho => ?_⟩
              rcases List.mem_append.mp hz with q | q
              · exact Int32.le_of_lt (Int32.lt_of_lt_of_le c3 (g3 z q ho))
              · rw [List.mem_singleton.mp q]; exact Int32.le_refl _
            · rw [if_neg c3]
              right
              refine ⟨List.mem_append.mpr (Or.inl g1), g2, fun z hz ho => ?_⟩
              rcases List.mem_append.mp hz with q | q
              · exact g3 z q ho
              · rw [List.mem_singleton.mp q]; exact Int32.not_lt.mp c3
      · rw [if_neg c1]
        rcases h with ⟨g1, g2⟩ | ⟨g1, g2, g3⟩
        · left
          refine ⟨g1, fun z hz => ?_⟩
          rcases List.mem_append.mp hz with q | q
          · exact g2 z q
          · rw [List.mem_singleton.mp q]; exact c1
        · right
          refine ⟨List.mem_append.mpr (Or.inl g1), g2, fun z hz ho => ?_⟩
          rcases List.mem_append.mp hz with q | q
          · exact g3 z q ho
          · rw [List.mem_singleton.mp q] at ho; exact absurd ho c1
theorem xNb_nx {N : z_A} {a b c o : Int32} {W : z_W} (h : ∀ y, y ∈ eW N a b c → ¬ y = -1) : z_nx (eW N a b c) o (xNb N a b c o W 4) := by
  rw [xNb_f]
  have := fO_nx (o := o) (eW N a b c) [] (upd (upd (upd (upd W 1 b) 2 c) 3 o) 4 (-1)) h rfl (fun y hy => by cases hy) (Or.inl ⟨rfl, fun y hy => by cases hy⟩)
  exact this
