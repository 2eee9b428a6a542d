/-- the places of the rings -/
def ai_fT (j : Nat) : Option Nat := if j < 12 then some (15 + j) else none
def ai_fM (j : Nat) : Option Nat := if j < 8 then some (32 + j) else none
def ai_hX : List ai_C := [.inr (9, [.ref 1, .ref 8, .ref 9, .ref 11, .ref 27, .ref 40]), .inr (2, [.ref 2, .ref 3, .ref 4, .ref 5, .ref 6, .ref 7, .int 0, .int 0, .int 12, .int 0]), .inl (0, 6, .inl (fun _ => 0)), .inl (0, 6, .inl (fun _ => 0)), .inl (0, 12, .inl (fun _ => 0)), .inl (0, 12, .inl (fun _ => 0)), .inl (0, 12, .inl (fun _ => 0)), .inl (0, 12, .inl (fun _ => 0)), .inr (8, [.ref 1, .int 0, .int 1, .int (-1), .int (-1)]), .inr (7, [.ref 10, .int 0]), .inl (3, 8, .inr (fun _ => none)), .inr (0, [.ref 1, .ref 12, .ref 13, .ref 14]), .inl (2, 12, .inr ai_fT), .inr (5, [.ref 1, .long 0, .long 0]), .inr (5, [.ref 1, .long 0, .long 0]), .inr (5, [.ref 1, .long 0, .long 0]), .inr (5, [.ref 1, .long 0, .long 0]), .inr (5, [.ref 1, .long 0, .long 0]), .inr (5, [.ref 1, .long 0, .long 0]), .inr (5, [.ref 1, .long 0, .long 0]), .inr (5, [.ref 1, .long 0, .long 0]), .inr (5, [.ref 1, .long 0, .long 0]), .inr (5, [.ref 1, .long 0, .long 0]), .inr (5, [.ref 1, .long 0, .long 0]), .inr (5, [.ref 1, .long 0, .long 0]), .inr (5, [.ref 1, .long 0, .long 0]), .inr (5, [.ref 1, .long 0, .long 0]), .inr (3, [.ref 9, .ref 11, .ref 28, .ref 29, .ref 30, .ref 31, .int 0, .int 0]), .inl (3, 8, .inr (fun _ => none)), .inl (2, 8, .inr ai_fM), .inl (0, 8, .inl (fun _ => 0)), .inl (0, 8, .inl (fun _ => 0)), .inr (5, [.ref 1, .long 0, .long 0]), .inr (5, [.ref 1, .long 0, .long 0]), .inr (5, [.ref 1, .long 0, .long 0]), .inr (5, [.ref 1, .long 0, .long 0]), .inr (5, [.ref 1, .long 0, .long 0]), .inr (5, [.ref 1, .long 0, .long 0]), .inr (5, [.ref 1, .long 0, .long 0]), .inr (5, [.ref 1, .long 0, .long 0]), .inr (4, [.ref 1, .ref 8, .ref 11, .ref 41, .ref 42, .ref 43, .ref 44, .int 0, .int 0]), .inl (4, 60, .inr (fun _ => none)), .inl (4, 12, .inr (fun _ => none)), .inl (0, 12, .inl (fun _ => 0)), .inl (0, 12, .inl (fun _ => 0))]
def ai_hM : List ai_C := [.inr (10, [.int 0, .ref 46, .ref 47, .int 0, .ref 48, .ref 49, .ref 50, .ref 51, .int 12, .int 0, .int 0, .ref 52, .ref 53, .ref 54, .ref 55, .ref 56, .ref 57, .ref 58, .ref 59, .ref 60, .int 0, .ref 61, .int 0, .ref 62, .ref 63, .ref 64, .ref 65, .int 0, .ref 66, .ref 67, .ref 68, .ref 69, .ref 70, .ref 71, .int 0, .int 1, .ref 72, .ref 73, .ref 74, .ref 75, .ref 76, .ref 77]), .inl (0, 6, .inl (fun _ => 0)), .inl (0, 6, .inl (fun _ => 0)), .inl (0, 12, .inl (fun _ => 0)), .inl (0, 12, .inl (fun _ => 0)), .inl (0, 12, .inl (fun _ => 0)), .inl (0, 12, .inl (fun _ => 0)), .inl (0, 8, .inl (fun _ => 0)), .inl (0, 8, .inl (fun _ => 0)), .inl (0, 8, .inl (fun _ => 0)), .inl (0, 24, .inl (fun _ => 0)), .inl (0, 96, .inl (fun _ => 0)), .inl (0, 24, .inl (fun _ => 0)), .inl (1, 8, .inl (fun _ => 0)), .inl (0, 8, .inl (fun _ => 0)), .inl (0, 8, .inl (fun _ => 0)), .inl (0, 1440, .inl (fun _ => 0)), .inl (0, 60, .inl (fun _ => 0)), .inl (0, 60, .inl (fun _ => 0)), .inl (0, 60, .inl (fun _ => 0)), .inl (0, 240, .inl (fun _ => 0)), .inl (0, 512, .inl (fun _ => 0)), .inl (0, 2048, .inl (fun _ => 0)), .inl (0, 512, .inl (fun _ => 0)), .inl (0, 5, .inl (fun _ => 0)), .inl (0, 8, .inl (fun _ => 0)), .inl (0, 9, .inl (fun _ => 0)), .inl (0, 240, .inl (fun _ => 0)), .inl (0, 240, .inl (fun _ => 0)), .inl (0, 60, .inl (fun _ => 0)), .inl (0, 60, .inl (fun _ => 0)), .inl (0, 12, .inl (fun _ => 0)), .inl (0, 12, .inl (fun _ => 0))]
def FX (h : List ai_C) : Prop := ∀ i : Nat, i < 45 → h[i]? = ai_hX[i]?
def FM (h : List ai_C) : Prop := ∀ i : Nat, 45 ≤ i → i < 78 → h[i]? = ai_hM[i - 45]?
theorem c10 : ((1 : Int32) = 0) = False := by decide
theorem c01 : ((0 : Int32) = 1) = False := by decide
theorem cm10 : ((-1 : Int32) = 0) = False := by decide
theorem c0m : ((0 : Int32) = -1) = False := by decide
theorem c06 : ((0 : Int32) = 6) = False := by decide
theorem c0c : ((0 : Int32) = 12) = False := by decide
theorem c08 : ((0 : Int32) = 8) = False := by decide
theorem c060 : ((0 : Int32) = 60) = False := by decide
theorem ext0 (S : ai_S) : ai_ext S 0 = S := rfl
theorem ext1 (S : ai_S) : ai_ext S 1 = (5, ai_cyc) := if_neg (by decide)
theorem cyc0 : ai_cyc 0 = 12 := rfl
theorem cyc1 : ai_cyc 1 = 24 := rfl
theorem cyc2 : ai_cyc 2 = 48 := rfl
theorem cyc3 : ai_cyc 3 = 60 := rfl
theorem cyc4 : ai_cyc 4 = 120 := rfl
theorem of5 : Int32.ofNat 5 = 5 := rfl
theorem nI_lt0 {j : Nat} (h : j < 2 ^ 31) : (nI j < 0) = False := eq_false (nI_pos h)
theorem nI_cl {j : Nat} (h : j < 2 ^ 31) : (nI j).toNatClampNeg = j := nI_clamp h
