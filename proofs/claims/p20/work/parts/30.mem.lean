/-! The heap out of components. Class: N net, W ways, T how many streams, G streams, J rings, P planner, St the streams' places, Sq those sought, Pt how many letters, E post and letters, Lt letters' places, Hd heads, D kinds of the cells from 78 on, n how many. Reference: A net, B streams, C planner, F ways, U plain, V what they do. -/
abbrev z_A : Type := Nat → Nat → Int32
abbrev z_R : Type := Nat → Option Nat
abbrev z_X : Type := z_A × (Nat → Int32) × Int32 × z_A × (Nat → Int64 × Int64) × z_A × z_R × z_R × Int32 × z_A × z_R × z_R × (Nat → Nat) × Nat
abbrev z_M : Type := z_A × z_A × z_A × z_A × z_A × z_A
def z_wr (f : z_A) (p k : Nat) (v : Int32) : z_A := fun q => if q = p then upd (f p) k v else f q
def z_wj (f : Nat → Int64 × Int64) (p : Nat) (a b : Int64) : Nat → Int64 × Int64 := fun q => if q = p then (a, b) else f q
def z_fx (N : z_A) (W : Nat → Int32) (T : Int32) (J : Nat → Int64 × Int64) (P : z_A) (St Sq : z_R) (Pt : Int32) (E : z_A) (Lt Hd : z_R) : List ai_C := [.inr (9, [.ref 1, .ref 8, .ref 9, .ref 11, .ref 27, .ref 40]), .inr (2, [.ref 2, .ref 3, .ref 4, .ref 5, .ref 6, .ref 7, .int (N 1 6), .int (N 1 7), .int (N 1 8), .int (N 1 9)]), .inl (0, 6, .inl (N 2)), .inl (0, 6, .inl (N 3)), .inl (0, 12, .inl (N 4)), .inl (0, 12, .inl (N 5)), .inl (0, 12, .inl (N 6)), .inl (0, 12, .inl (N 7)), .inr (8, [.ref 1, .int (W 1), .int (W 2), .int (W 3), .int (W 4)]), .inr (7, [.ref 10, .int T]), .inl (3, 8, .inr St), .inr (0, [.ref 1, .ref 12, .ref 13, .ref 14]), .inl (2, 12, .inr ai_fT), .inr (5, [.ref 1, .long (J 13).1, .long (J 13).2]), .inr (5, [.ref 1, .long (J 14).1, .long (J 14).2]), .inr (5, [.ref 1, .long (J 15).1, .long (J 15).2]), .inr (5, [.ref 1, .long (J 16).1, .long (J 16).2]), .inr (5, [.ref 1, .long (J 17).1, .long (J 17).2]), .inr (5, [.ref 1, .long (J 18).1, .long (J 18).2]), .inr (5, [.ref 1, .long (J 19).1, .long (J 19).2]), .inr (5, [.ref 1, .long (J 20).1, .long (J 20).2]), .inr (5, [.ref 1, .long (J 21).1, .long (J 21).2]), .inr (5, [.ref 1, .long (J 22).1, .long (J 22).2]), .inr (5, [.ref 1, .long (J 23).1, .long (J 23).2]), .inr (5, [.ref 1, .long (J 24).1, .long (J 24).2]), .inr (5, [.ref 1, .long (J 25).1, .long (J 25).2]), .inr (5, [.ref 1, .long (J 26).1, .long (J 26).2]), .inr (3, [.ref 9, .ref 11, .ref 28, .ref 29, .ref 30, .ref 31, .int (P 27 6), .int (P 27 7)]), .inl (3, 8, .inr Sq), .inl (2, 8, .inr ai_fM), .inl (0, 8, .inl (P 30)), .inl (0, 8, .inl (P 31)), .inr (5, [.ref 1, .long (J 32).1, .long (J 32).2]), .inr (5, [.ref 1, .long (J 33).1, .long (J 33).2]), .inr (5, [.ref 1, .long (J 34).1, .long (J 34).2]), .inr (5, [.ref 1, .long (J 35).1, .long (J 35).2]), .inr (5, [.ref 1, .long (J 36).1, .long (J 36).2]), .inr (5, [.ref 1, .long (J 37).1, .long (J 37).2]), .inr (5, [.ref 1, .long (J 38).1, .long (J 38).2]), .inr (5, [.ref 1, .long (J 39).1, .long (J 39).2]), .inr (4, [.ref 1, .ref 8, .ref 11, .ref 41, .ref 42, .ref 43, .ref 44, .int Pt, .int (E 40 8)]), .inl (4, 60, .inr Lt), .inl (4, 12, .inr Hd), .inl (0, 12, .inl (E 43)), .inl (0, 12, .inl (E 44))]
def z_fm (A B C F U V : z_A) : List ai_C := [.inr (10, [.int (A 45 0), .ref 46, .ref 47, .int (A 45 3), .ref 48, .ref 49, .ref 50, .ref 51, .int (A 45 8), .int (A 45 9), .int (B 45 10), .ref 52, .ref 53, .ref 54, .ref 55, .ref 56, .ref 57, .ref 58, .ref 59, .ref 60, .int (C 45 20), .ref 61, .int (U 45 22), .ref 62, .ref 63, .ref 64, .ref 65, .int (F 45 27), .ref 66, .ref 67, .ref 68, .ref 69, .ref 70, .ref 71, .int (C 45 34), .int (V 45 35), .ref 72, .ref 73, .ref 74, .ref 75, .ref 76, .ref 77]), .inl (0, 6, .inl (A 46)), .inl (0, 6, .inl (A 47)), .inl (0, 12, .inl (A 48)), .inl (0, 12, .inl (A 49)), .inl (0, 12, .inl (A 50)), .inl (0, 12, .inl (A 51)), .inl (0, 8, .inl (B 52)), .inl (0, 8, .inl (B 53)), .inl (0, 8, .inl (B 54)), .inl (0, 24, .inl (B 55)), .inl (0, 96, .inl (B 56)), .inl (0, 24, .inl (B 57)), .inl (1, 8, .inl (B 58)), .inl (0, 8, .inl (B 59)), .inl (0, 8, .inl (B 60)), .inl (0, 1440, .inl (C 61)), .inl (0, 60, .inl (U 62)), .inl (0, 60, .inl (U 63)), .inl (0, 60, .inl (U 64)), .inl (0, 240, .inl (U 65)), .inl (0, 512, .inl (F 66)), .inl (0, 2048, .inl (F 67)), .inl (0, 512, .inl (F 68)), .inl (0, 5, .inl (F 69)), .inl (0, 8, .inl (C 70)), .inl (0, 9, .inl (C 71)), .inl (0, 240, .inl (V 72)), .inl (0, 240, .inl (V 73)), .inl (0, 60, .inl (V 74)), .inl (0, 60, .inl (V 75)), .inl (0, 12, .inl (V 76)), .inl (0, 12, .inl (V 77))]
def z_dc (G E : z_A) (D : Nat → Nat) (p : Nat) : ai_C := if D p = 100 then .inr (6, [.int (G p 0), .int (G p 1), .ref (p + 1), .int (G p 3), .int (G p 4), .int (G p 5)]) else if D p = 101 then .inl (0, 3, .inl (G p)) else if D p = 102 then .inr (1, [.int (E p 0), .int (E p 1), .int (E p 2), .int (E p 3), .ref (p + 1), .ref (p + 2), .int (E p 6), .int (E p 7), .int (E p 8)]) else .inl (0, 4, .inl (E p))
def z_dy (G E : z_A) (D : Nat → Nat) (n : Nat) : List ai_C := (List.range n).map fun i => z_dc G E D (78 + i)
/-- the heap -/
def z_hp : z_X → z_M → List ai_C := fun ⟨N, W, T, G, J, P, St, Sq, Pt, E, Lt, Hd, D, n⟩ ⟨A, B, C, F, U, V⟩ => z_fx N W T J P St Sq Pt E Lt Hd ++ (z_fm A B C F U V ++ z_dy G E D n)
section Zm
variable {N G P E : z_A} {W : Nat → Int32} {T Pt : Int32} {J : Nat → Int64 × Int64} {St Sq Lt Hd : z_R} {D : Nat → Nat} {n : Nat} {A B C F U V : z_A} {x : z_X} {m : z_M}
theorem z_len : (z_hp (N, W, T, G, J, P, St, Sq, Pt, E, Lt, Hd, D, n) m).length = 78 + n := by
  obtain ⟨A, B, C, F, U, V⟩ := m
  show (z_fx N W T J P St Sq Pt E Lt Hd ++ (z_fm A B C F U V ++ z_dy G E D n)).length = _
  rw [List.length_append, List.length_append]
  have h1 : (z_fx N W T J P St Sq Pt E Lt Hd).length = 45 := rfl
  have h2 : (z_fm A B C F U V).length = 33 := rfl
  have h3 : (z_dy G E D n).length = n := by unfold z_dy; rw [List.length_map, List.length_range]
  omega
theorem z_dyg {i : Nat} (h : i < n) : (z_dy G E D n)[i]? = some (z_dc G E D (78 + i)) := by
  unfold z_dy; rw [List.getElem?_map, List.getElem?_range h]; rfl
/-- a cell from 78 on -/
theorem z_get {q : Nat} (h1 : 78 ≤ q) (h2 : q < 78 + n) : (z_hp (N, W, T, G, J, P, St, Sq, Pt, E, Lt, Hd, D, n) m)[q]? = some (z_dc G E D q) := by
  obtain ⟨A, B, C, F, U, V⟩ := m
  show (z_fx N W T J P St Sq Pt E Lt Hd ++ (z_fm A B C F U V ++ z_dy G E D n))[q]? = _
  have h3 : (z_fx N W T J P St Sq Pt E Lt Hd).length = 45 := rfl
  have h4 : (z_fm A B C F U V).length = 33 := rfl
  rw [List.getElem?_append_right (by omega), List.getElem?_append_right (by omega), z_dyg (by omega)]
  rw [h3, h4, show 78 + (q - 45 - 33) = q by omega]
theorem z_set {q : Nat} {c : ai_C} {G' E' : z_A} (h1 : 78 ≤ q) (hf : z_fx N W T J P St Sq Pt E' Lt Hd = z_fx N W T J P St Sq Pt E Lt Hd) (hc : z_dc G' E' D q = c) (hn : ∀ p, p ≠ q → z_dc G' E' D p = z_dc G E D p) : (z_hp (N, W, T, G, J, P, St, Sq, Pt, E, Lt, Hd, D, n) m).set q c = z_hp (N, W, T, G', J, P, St, Sq, Pt, E', Lt, Hd, D, n) m := by
  obtain ⟨A, B, C, F, U, V⟩ := m
  show (z_fx N W T J P St Sq Pt E Lt Hd ++ (z_fm A B C F U V ++ z_dy G E D n)).set q c = z_fx N W T J P St Sq Pt E' Lt Hd ++ (z_fm A B C F U V ++ z_dy G' E' D n)
  have h3 : (z_fx N W T J P St Sq Pt E Lt Hd).length = 45 := rfl
  have h4 : (z_fm A B C F U V).length = 33 := rfl
  rw [hf, List.set_append_right _ _ (by omega), List.set_append_right _ _ (by omega), h3, h4]
  congr 2
  apply List.ext_getElem?
  intro i
  by_cases hi : i < n
  · rw [z_dyg hi, List.getElem?_set, z_dyg hi]
    split
    · rename_i e
      rw [if_pos (by unfold z_dy; rw [List.length_map, List.length_range]; omega), ← hc]
      congr 2; omega
    · rename_i e
      rw [hn _ (by omega)]
  · rw [List.getElem?_eq_none (by rw [List.length_set]; unfold z_dy; rw [List.length_map, List.length_range]; omega), List.getElem?_eq_none (by unfold z_dy; rw [List.length_map, List.length_range]; omega)]
theorem z_e0 : (z_hp (N, W, T, G, J, P, St, Sq, Pt, E, Lt, Hd, D, n) m)[0]? = some (.inr (9, [.ref 1, .ref 8, .ref 9, .ref 11, .ref 27, .ref 40])) := rfl
theorem z_e1 : (z_hp (N, W, T, G, J, P, St, Sq, Pt, E, Lt, Hd, D, n) m)[1]? = some (.inr (2, [.ref 2, .ref 3, .ref 4, .ref 5, .ref 6, .ref 7, .int (N 1 6), .int (N 1 7), .int (N 1 8), .int (N 1 9)])) := rfl
theorem z_e2 : (z_hp (N, W, T, G, J, P, St, Sq, Pt, E, Lt, Hd, D, n) m)[2]? = some (.inl (0, 6, .inl (N 2))) := rfl
theorem z_e3 : (z_hp (N, W, T, G, J, P, St, Sq, Pt, E, Lt, Hd, D, n) m)[3]? = some (.inl (0, 6, .inl (N 3))) := rfl
theorem z_e4 : (z_hp (N, W, T, G, J, P, St, Sq, Pt, E, Lt, Hd, D, n) m)[4]? = some (.inl (0, 12, .inl (N 4))) := rfl
theorem z_e5 : (z_hp (N, W, T, G, J, P, St, Sq, Pt, E, Lt, Hd, D, n) m)[5]? = some (.inl (0, 12, .inl (N 5))) := rfl
theorem z_e6 : (z_hp (N, W, T, G, J, P, St, Sq, Pt, E, Lt, Hd, D, n) m)[6]? = some (.inl (0, 12, .inl (N 6))) := rfl
theorem z_e7 : (z_hp (N, W, T, G, J, P, St, Sq, Pt, E, Lt, Hd, D, n) m)[7]? = some (.inl (0, 12, .inl (N 7))) := rfl
theorem z_e8 : (z_hp (N, W, T, G, J, P, St, Sq, Pt, E, Lt, Hd, D, n) m)[8]? = some (.inr (8, [.ref 1, .int (W 1), .int (W 2), .int (W 3), .int (W 4)])) := rfl
theorem z_e9 : (z_hp (N, W, T, G, J, P, St, Sq, Pt, E, Lt, Hd, D, n) m)[9]? = some (.inr (7, [.ref 10, .int T])) := rfl
theorem z_e10 : (z_hp (N, W, T, G, J, P, St, Sq, Pt, E, Lt, Hd, D, n) m)[10]? = some (.inl (3, 8, .inr St)) := rfl
theorem z_e11 : (z_hp (N, W, T, G, J, P, St, Sq, Pt, E, Lt, Hd, D, n) m)[11]? = some (.inr (0, [.ref 1, .ref 12, .ref 13, .ref 14])) := rfl
theorem z_e12 : (z_hp (N, W, T, G, J, P, St, Sq, Pt, E, Lt, Hd, D, n) m)[12]? = some (.inl (2, 12, .inr ai_fT)) := rfl
theorem z_e13 : (z_hp (N, W, T, G, J, P, St, Sq, Pt, E, Lt, Hd, D, n) m)[13]? = some (.inr (5, [.ref 1, .long (J 13).1, .long (J 13).2])) := rfl
theorem z_e14 : (z_hp (N, W, T, G, J, P, St, Sq, Pt, E, Lt, Hd, D, n) m)[14]? = some (.inr (5, [.ref 1, .long (J 14).1, .long (J 14).2])) := rfl
theorem z_e15 : (z_hp (N, W, T, G, J, P, St, Sq, Pt, E, Lt, Hd, D, n) m)[15]? = some (.inr (5, [.ref 1, .long (J 15).1, .long (J 15).2])) := rfl
theorem z_e16 : (z_hp (N, W, T, G, J, P, St, Sq, Pt, E, Lt, Hd, D, n) m)[16]? = some (.inr (5, [.ref 1, .long (J 16).1, .long (J 16).2])) := rfl
theorem z_e17 : (z_hp (N, W, T, G, J, P, St, Sq, Pt, E, Lt, Hd, D, n) m)[17]? = some (.inr (5, [.ref 1, .long (J 17).1, .long (J 17).2])) := rfl
theorem z_e18 : (z_hp (N, W, T, G, J, P, St, Sq, Pt, E, Lt, Hd, D, n) m)[18]? = some (.inr (5, [.ref 1, .long (J 18).1, .long (J 18).2])) := rfl
theorem z_e19 : (z_hp (N, W, T, G, J, P, St, Sq, Pt, E, Lt, Hd, D, n) m)[19]? = some (.inr (5, [.ref 1, .long (J 19).1, .long (J 19).2])) := rfl
theorem z_e20 : (z_hp (N, W, T, G, J, P, St, Sq, Pt, E, Lt, Hd, D, n) m)[20]? = some (.inr (5, [.ref 1, .long (J 20).1, .long (J 20).2])) := rfl
theorem z_e21 : (z_hp (N, W, T, G, J, P, St, Sq, Pt, E, Lt, Hd, D, n) m)[21]? = some (.inr (5, [.ref 1, .long (J 21).1, .long (J 21).2])) := rfl
theorem z_e22 : (z_hp (N, W, T, G, J, P, St, Sq, Pt, E, Lt, Hd, D, n) m)[22]? = some (.inr (5, [.ref 1, .long (J 22).1, .long (J 22).2])) := rfl
theorem z_e23 : (z_hp (N, W, T, G, J, P, St, Sq, Pt, E, Lt, Hd, D, n) m)[23]? = some (.inr (5, [.ref 1, .long (J 23).1, .long (J 23).2])) := rfl
theorem z_e24 : (z_hp (N, W, T, G, J, P, St, Sq, Pt, E, Lt, Hd, D, n) m)[24]? = some (.inr (5, [.ref 1, .long (J 24).1, .long (J 24).2])) := rfl
theorem z_e25 : (z_hp (N, W, T, G, J, P, St, Sq, Pt, E, Lt, Hd, D, n) m)[25]? = some (.inr (5, [.ref 1, .long (J 25).1, .long (J 25).2])) := rfl
theorem z_e26 : (z_hp (N, W, T, G, J, P, St, Sq, Pt, E, Lt, Hd, D, n) m)[26]? = some (.inr (5, [.ref 1, .long (J 26).1, .long (J 26).2])) := rfl
theorem z_e27 : (z_hp (N, W, T, G, J, P, St, Sq, Pt, E, Lt, Hd, D, n) m)[27]? = some (.inr (3, [.ref 9, .ref 11, .ref 28, .ref 29, .ref 30, .ref 31, .int (P 27 6), .int (P 27 7)])) := rfl
theorem z_e28 : (z_hp (N, W, T, G, J, P, St, Sq, Pt, E, Lt, Hd, D, n) m)[28]? = some (.inl (3, 8, .inr Sq)) := rfl
theorem z_e29 : (z_hp (N, W, T, G, J, P, St, Sq, Pt, E, Lt, Hd, D, n) m)[29]? = some (.inl (2, 8, .inr ai_fM)) := rfl
theorem z_e30 : (z_hp (N, W, T, G, J, P, St, Sq, Pt, E, Lt, Hd, D, n) m)[30]? = some (.inl (0, 8, .inl (P 30))) := rfl
theorem z_e31 : (z_hp (N, W, T, G, J, P, St, Sq, Pt, E, Lt, Hd, D, n) m)[31]? = some (.inl (0, 8, .inl (P 31))) := rfl
theorem z_e32 : (z_hp (N, W, T, G, J, P, St, Sq, Pt, E, Lt, Hd, D, n) m)[32]? = some (.inr (5, [.ref 1, .long (J 32).1, .long (J 32).2])) := rfl
theorem z_e33 : (z_hp (N, W, T, G, J, P, St, Sq, Pt, E, Lt, Hd, D, n) m)[33]? = some (.inr (5, [.ref 1, .long (J 33).1, .long (J 33).2])) := rfl
theorem z_e34 : (z_hp (N, W, T, G, J, P, St, Sq, Pt, E, Lt, Hd, D, n) m)[34]? = some (.inr (5, [.ref 1, .long (J 34).1, .long (J 34).2])) := rfl
theorem z_e35 : (z_hp (N, W, T, G, J, P, St, Sq, Pt, E, Lt, Hd, D, n) m)[35]? = some (.inr (5, [.ref 1, .long (J 35).1, .long (J 35).2])) := rfl
theorem z_e36 : (z_hp (N, W, T, G, J, P, St, Sq, Pt, E, Lt, Hd, D, n) m)[36]? = some (.inr (5, [.ref 1, .long (J 36).1, .long (J 36).2])) := rfl
theorem z_e37 : (z_hp (N, W, T, G, J, P, St, Sq, Pt, E, Lt, Hd, D, n) m)[37]? = some (.inr (5, [.ref 1, .long (J 37).1, .long (J 37).2])) := rfl
theorem z_e38 : (z_hp (N, W, T, G, J, P, St, Sq, Pt, E, Lt, Hd, D, n) m)[38]? = some (.inr (5, [.ref 1, .long (J 38).1, .long (J 38).2])) := rfl
theorem z_e39 : (z_hp (N, W, T, G, J, P, St, Sq, Pt, E, Lt, Hd, D, n) m)[39]? = some (.inr (5, [.ref 1, .long (J 39).1, .long (J 39).2])) := rfl
theorem z_e40 : (z_hp (N, W, T, G, J, P, St, Sq, Pt, E, Lt, Hd, D, n) m)[40]? = some (.inr (4, [.ref 1, .ref 8, .ref 11, .ref 41, .ref 42, .ref 43, .ref 44, .int Pt, .int (E 40 8)])) := rfl
theorem z_e41 : (z_hp (N, W, T, G, J, P, St, Sq, Pt, E, Lt, Hd, D, n) m)[41]? = some (.inl (4, 60, .inr Lt)) := rfl
theorem z_e42 : (z_hp (N, W, T, G, J, P, St, Sq, Pt, E, Lt, Hd, D, n) m)[42]? = some (.inl (4, 12, .inr Hd)) := rfl
theorem z_e43 : (z_hp (N, W, T, G, J, P, St, Sq, Pt, E, Lt, Hd, D, n) m)[43]? = some (.inl (0, 12, .inl (E 43))) := rfl
theorem z_e44 : (z_hp (N, W, T, G, J, P, St, Sq, Pt, E, Lt, Hd, D, n) m)[44]? = some (.inl (0, 12, .inl (E 44))) := rfl
theorem z_e45 : (z_hp x (A, B, C, F, U, V))[45]? = some (.inr (10, [.int (A 45 0), .ref 46, .ref 47, .int (A 45 3), .ref 48, .ref 49, .ref 50, .ref 51, .int (A 45 8), .int (A 45 9), .int (B 45 10), .ref 52, .ref 53, .ref 54, .ref 55, .ref 56, .ref 57, .ref 58, .ref 59, .ref 60, .int (C 45 20), .ref 61, .int (U 45 22), .ref 62, .ref 63, .ref 64, .ref 65, .int (F 45 27), .ref 66, .ref 67, .ref 68, .ref 69, .ref 70, .ref 71, .int (C 45 34), .int (V 45 35), .ref 72, .ref 73, .ref 74, .ref 75, .ref 76, .ref 77])) := rfl
theorem z_e46 : (z_hp x (A, B, C, F, U, V))[46]? = some (.inl (0, 6, .inl (A 46))) := rfl
theorem z_e47 : (z_hp x (A, B, C, F, U, V))[47]? = some (.inl (0, 6, .inl (A 47))) := rfl
theorem z_e48 : (z_hp x (A, B, C, F, U, V))[48]? = some (.inl (0, 12, .inl (A 48))) := rfl
theorem z_e49 : (z_hp x (A, B, C, F, U, V))[49]? = some (.inl (0, 12, .inl (A 49))) := rfl
theorem z_e50 : (z_hp x (A, B, C, F, U, V))[50]? = some (.inl (0, 12, .inl (A 50))) := rfl
theorem z_e51 : (z_hp x (A, B, C, F, U, V))[51]? = some (.inl (0, 12, .inl (A 51))) := rfl
theorem z_e52 : (z_hp x (A, B, C, F, U, V))[52]? = some (.inl (0, 8, .inl (B 52))) := rfl
theorem z_e53 : (z_hp x (A, B, C, F, U, V))[53]? = some (.inl (0, 8, .inl (B 53))) := rfl
theorem z_e54 : (z_hp x (A, B, C, F, U, V))[54]? = some (.inl (0, 8, .inl (B 54))) := rfl
theorem z_e55 : (z_hp x (A, B, C, F, U, V))[55]? = some (.inl (0, 24, .inl (B 55))) := rfl
theorem z_e56 : (z_hp x (A, B, C, F, U, V))[56]? = some (.inl (0, 96, .inl (B 56))) := rfl
theorem z_e57 : (z_hp x (A, B, C, F, U, V))[57]? = some (.inl (0, 24, .inl (B 57))) := rfl
theorem z_e58 : (z_hp x (A, B, C, F, U, V))[58]? = some (.inl (1, 8, .inl (B 58))) := rfl
theorem z_e59 : (z_hp x (A, B, C, F, U, V))[59]? = some (.inl (0, 8, .inl (B 59))) := rfl
theorem z_e60 : (z_hp x (A, B, C, F, U, V))[60]? = some (.inl (0, 8, .inl (B 60))) := rfl
theorem z_e61 : (z_hp x (A, B, C, F, U, V))[61]? = some (.inl (0, 1440, .inl (C 61))) := rfl
theorem z_e62 : (z_hp x (A, B, C, F, U, V))[62]? = some (.inl (0, 60, .inl (U 62))) := rfl
theorem z_e63 : (z_hp x (A, B, C, F, U, V))[63]? = some (.inl (0, 60, .inl (U 63))) := rfl
theorem z_e64 : (z_hp x (A, B, C, F, U, V))[64]? = some (.inl (0, 60, .inl (U 64))) := rfl
theorem z_e65 : (z_hp x (A, B, C, F, U, V))[65]? = some (.inl (0, 240, .inl (U 65))) := rfl
theorem z_e66 : (z_hp x (A, B, C, F, U, V))[66]? = some (.inl (0, 512, .inl (F 66))) := rfl
theorem z_e67 : (z_hp x (A, B, C, F, U, V))[67]? = some (.inl (0, 2048, .inl (F 67))) := rfl
theorem z_e68 : (z_hp x (A, B, C, F, U, V))[68]? = some (.inl (0, 512, .inl (F 68))) := rfl
theorem z_e69 : (z_hp x (A, B, C, F, U, V))[69]? = some (.inl (0, 5, .inl (F 69))) := rfl
theorem z_e70 : (z_hp x (A, B, C, F, U, V))[70]? = some (.inl (0, 8, .inl (C 70))) := rfl
theorem z_e71 : (z_hp x (A, B, C, F, U, V))[71]? = some (.inl (0, 9, .inl (C 71))) := rfl
theorem z_e72 : (z_hp x (A, B, C, F, U, V))[72]? = some (.inl (0, 240, .inl (V 72))) := rfl
theorem z_e73 : (z_hp x (A, B, C, F, U, V))[73]? = some (.inl (0, 240, .inl (V 73))) := rfl
theorem z_e74 : (z_hp x (A, B, C, F, U, V))[74]? = some (.inl (0, 60, .inl (V 74))) := rfl
theorem z_e75 : (z_hp x (A, B, C, F, U, V))[75]? = some (.inl (0, 60, .inl (V 75))) := rfl
theorem z_e76 : (z_hp x (A, B, C, F, U, V))[76]? = some (.inl (0, 12, .inl (V 76))) := rfl
theorem z_e77 : (z_hp x (A, B, C, F, U, V))[77]? = some (.inl (0, 12, .inl (V 77))) := rfl
theorem z_w1_6 {v u0 u1 u2 : Int32} (h0 : N 1 7 = u0) (h1 : N 1 8 = u1) (h2 : N 1 9 = u2) : (z_hp (N, W, T, G, J, P, St, Sq, Pt, E, Lt, Hd, D, n) m).set 1 (.inr (2, [.ref 2, .ref 3, .ref 4, .ref 5, .ref 6, .ref 7, .int v, .int u0, .int u1, .int u2])) = z_hp (z_wr N 1 6 v, W, T, G, J, P, St, Sq, Pt, E, Lt, Hd, D, n) m := by
  subst h0; subst h1; subst h2; rfl
theorem z_w1_7 {v u0 u1 u2 : Int32} (h0 : N 1 6 = u0) (h1 : N 1 8 = u1) (h2 : N 1 9 = u2) : (z_hp (N, W, T, G, J, P, St, Sq, Pt, E, Lt, Hd, D, n) m).set 1 (.inr (2, [.ref 2, .ref 3, .ref 4, .ref 5, .ref 6, .ref 7, .int u0, .int v, .int u1, .int u2])) = z_hp (z_wr N 1 7 v, W, T, G, J, P, St, Sq, Pt, E, Lt, Hd, D, n) m := by
  subst h0; subst h1; subst h2; rfl
theorem z_w1_8 {v u0 u1 u2 : Int32} (h0 : N 1 6 = u0) (h1 : N 1 7 = u1) (h2 : N 1 9 = u2) : (z_hp (N, W, T, G, J, P, St, Sq, Pt, E, Lt, Hd, D, n) m).set 1 (.inr (2, [.ref 2, .ref 3, .ref 4, .ref 5, .ref 6, .ref 7, .int u0, .int u1, .int v, .int u2])) = z_hp (z_wr N 1 8 v, W, T, G, J, P, St, Sq, Pt, E, Lt, Hd, D, n) m := by
  subst h0; subst h1; subst h2; rfl
theorem z_w1_9 {v u0 u1 u2 : Int32} (h0 : N 1 6 = u0) (h1 : N 1 7 = u1) (h2 : N 1 8 = u2) : (z_hp (N, W, T, G, J, P, St, Sq, Pt, E, Lt, Hd, D, n) m).set 1 (.inr (2, [.ref 2, .ref 3, .ref 4, .ref 5, .ref 6, .ref 7, .int u0, .int u1, .int u2, .int v])) = z_hp (z_wr N 1 9 v, W, T, G, J, P, St, Sq, Pt, E, Lt, Hd, D, n) m := by
  subst h0; subst h1; subst h2; rfl
theorem z_w2 {i : Nat} {v : Int32} : (z_hp (N, W, T, G, J, P, St, Sq, Pt, E, Lt, Hd, D, n) m).set 2 (.inl (0, 6, .inl (upd (N 2) i v))) = z_hp (z_wr N 2 i v, W, T, G, J, P, St, Sq, Pt, E, Lt, Hd, D, n) m := rfl
theorem z_w3 {i : Nat} {v : Int32} : (z_hp (N, W, T, G, J, P, St, Sq, Pt, E, Lt, Hd, D, n) m).set 3 (.inl (0, 6, .inl (upd (N 3) i v))) = z_hp (z_wr N 3 i v, W, T, G, J, P, St, Sq, Pt, E, Lt, Hd, D, n) m := rfl
theorem z_w4 {i : Nat} {v : Int32} : (z_hp (N, W, T, G, J, P, St, Sq, Pt, E, Lt, Hd, D, n) m).set 4 (.inl (0, 12, .inl (upd (N 4) i v))) = z_hp (z_wr N 4 i v, W, T, G, J, P, St, Sq, Pt, E, Lt, Hd, D, n) m := rfl
theorem z_w5 {i : Nat} {v : Int32} : (z_hp (N, W, T, G, J, P, St, Sq, Pt, E, Lt, Hd, D, n) m).set 5 (.inl (0, 12, .inl (upd (N 5) i v))) = z_hp (z_wr N 5 i v, W, T, G, J, P, St, Sq, Pt, E, Lt, Hd, D, n) m := rfl
theorem z_w6 {i : Nat} {v : Int32} : (z_hp (N, W, T, G, J, P, St, Sq, Pt, E, Lt, Hd, D, n) m).set 6 (.inl (0, 12, .inl (upd (N 6) i v))) = z_hp (z_wr N 6 i v, W, T, G, J, P, St, Sq, Pt, E, Lt, Hd, D, n) m := rfl
theorem z_w7 {i : Nat} {v : Int32} : (z_hp (N, W, T, G, J, P, St, Sq, Pt, E, Lt, Hd, D, n) m).set 7 (.inl (0, 12, .inl (upd (N 7) i v))) = z_hp (z_wr N 7 i v, W, T, G, J, P, St, Sq, Pt, E, Lt, Hd, D, n) m := rfl
theorem z_w8_1 {v u0 u1 u2 : Int32} (h0 : W 2 = u0) (h1 : W 3 = u1) (h2 : W 4 = u2) : (z_hp (N, W, T, G, J, P, St, Sq, Pt, E, Lt, Hd, D, n) m).set 8 (.inr (8, [.ref 1, .int v, .int u0, .int u1, .int u2])) = z_hp (N, upd W 1 v, T, G, J, P, St, Sq, Pt, E, Lt, Hd, D, n) m := by
  subst h0; subst h1; subst h2; rfl
theorem z_w8_2 {v u0 u1 u2 : Int32} (h0 : W 1 = u0) (h1 : W 3 = u1) (h2 : W 4 = u2) : (z_hp (N, W, T, G, J, P, St, Sq, Pt, E, Lt, Hd, D, n) m).set 8 (.inr (8, [.ref 1, .int u0, .int v, .int u1, .int u2])) = z_hp (N, upd W 2 v, T, G, J, P, St, Sq, Pt, E, Lt, Hd, D, n) m := by
  subst h0; subst h1; subst h2; rfl
theorem z_w8_3 {v u0 u1 u2 : Int32} (h0 : W 1 = u0) (h1 : W 2 = u1) (h2 : W 4 = u2) : (z_hp (N, W, T, G, J, P, St, Sq, Pt, E, Lt, Hd, D, n) m).set 8 (.inr (8, [.ref 1, .int u0, .int u1, .int v, .int u2])) = z_hp (N, upd W 3 v, T, G, J, P, St, Sq, Pt, E, Lt, Hd, D, n) m := by
  subst h0; subst h1; subst h2; rfl
theorem z_w8_4 {v u0 u1 u2 : Int32} (h0 : W 1 = u0) (h1 : W 2 = u1) (h2 : W 3 = u2) : (z_hp (N, W, T, G, J, P, St, Sq, Pt, E, Lt, Hd, D, n) m).set 8 (.inr (8, [.ref 1, .int u0, .int u1, .int u2, .int v])) = z_hp (N, upd W 4 v, T, G, J, P, St, Sq, Pt, E, Lt, Hd, D, n) m := by
  subst h0; subst h1; subst h2; rfl
theorem z_w9_1 {v : Int32} : (z_hp (N, W, T, G, J, P, St, Sq, Pt, E, Lt, Hd, D, n) m).set 9 (.inr (7, [.ref 10, .int v])) = z_hp (N, W, v, G, J, P, St, Sq, Pt, E, Lt, Hd, D, n) m := rfl
theorem z_w10 {v : z_R} : (z_hp (N, W, T, G, J, P, St, Sq, Pt, E, Lt, Hd, D, n) m).set 10 (.inl (3, 8, .inr v)) = z_hp (N, W, T, G, J, P, v, Sq, Pt, E, Lt, Hd, D, n) m := rfl
theorem z_w27_6 {v u0 : Int32} (h0 : P 27 7 = u0) : (z_hp (N, W, T, G, J, P, St, Sq, Pt, E, Lt, Hd, D, n) m).set 27 (.inr (3, [.ref 9, .ref 11, .ref 28, .ref 29, .ref 30, .ref 31, .int v, .int u0])) = z_hp (N, W, T, G, J, z_wr P 27 6 v, St, Sq, Pt, E, Lt, Hd, D, n) m := by
  subst h0; rfl
theorem z_w27_7 {v u0 : Int32} (h0 : P 27 6 = u0) : (z_hp (N, W, T, G, J, P, St, Sq, Pt, E, Lt, Hd, D, n) m).set 27 (.inr (3, [.ref 9, .ref 11, .ref 28, .ref 29, .ref 30, .ref 31, .int u0, .int v])) = z_hp (N, W, T, G, J, z_wr P 27 7 v, St, Sq, Pt, E, Lt, Hd, D, n) m := by
  subst h0; rfl
theorem z_w28 {v : z_R} : (z_hp (N, W, T, G, J, P, St, Sq, Pt, E, Lt, Hd, D, n) m).set 28 (.inl (3, 8, .inr v)) = z_hp (N, W, T, G, J, P, St, v, Pt, E, Lt, Hd, D, n) m := rfl
theorem z_w30 {i : Nat} {v : Int32} : (z_hp (N, W, T, G, J, P, St, Sq, Pt, E, Lt, Hd, D, n) m).set 30 (.inl (0, 8, .inl (upd (P 30) i v))) = z_hp (N, W, T, G, J, z_wr P 30 i v, St, Sq, Pt, E, Lt, Hd, D, n) m := rfl
theorem z_w31 {i : Nat} {v : Int32} : (z_hp (N, W, T, G, J, P, St, Sq, Pt, E, Lt, Hd, D, n) m).set 31 (.inl (0, 8, .inl (upd (P 31) i v))) = z_hp (N, W, T, G, J, z_wr P 31 i v, St, Sq, Pt, E, Lt, Hd, D, n) m := rfl
theorem z_w40_7 {v u0 : Int32} (h0 : E 40 8 = u0) : (z_hp (N, W, T, G, J, P, St, Sq, Pt, E, Lt, Hd, D, n) m).set 40 (.inr (4, [.ref 1, .ref 8, .ref 11, .ref 41, .ref 42, .ref 43, .ref 44, .int v, .int u0])) = z_hp (N, W, T, G, J, P, St, Sq, v, E, Lt, Hd, D, n) m := by
  subst h0; rfl
theorem z_dcE {p k : Nat} {v : Int32} (hp : p < 78) (q : Nat) (hq : 78 ≤ q) : z_dc G (z_wr E p k v) D q = z_dc G E D q := by
  have e : z_wr E p k v q = E q := by unfold z_wr; rw [if_neg (by omega)]
  unfold z_dc; rw [e]
theorem z_dyE {p k : Nat} {v : Int32} (hp : p < 78) : z_dy G (z_wr E p k v) D n = z_dy G E D n := by
  unfold z_dy
  apply List.map_congr_left
  intro i _
  exact z_dcE hp _ (by omega)
theorem z_w40_8 {v u0 : Int32} (h0 : Pt = u0) : (z_hp (N, W, T, G, J, P, St, Sq, Pt, E, Lt, Hd, D, n) m).set 40 (.inr (4, [.ref 1, .ref 8, .ref 11, .ref 41, .ref 42, .ref 43, .ref 44, .int u0, .int v])) = z_hp (N, W, T, G, J, P, St, Sq, Pt, z_wr E 40 8 v, Lt, Hd, D, n) m := by
  subst h0; obtain ⟨A, B, C, F, U, V⟩ := m
  show _ = z_fx N W T J P St Sq Pt (z_wr E 40 8 v) Lt Hd ++ (z_fm A B C F U V ++ z_dy G (z_wr E 40 8 v) D n)
  rw [z_dyE (by decide)]
  rfl
theorem z_w43 {i : Nat} {v : Int32} : (z_hp (N, W, T, G, J, P, St, Sq, Pt, E, Lt, Hd, D, n) m).set 43 (.inl (0, 12, .inl (upd (E 43) i v))) = z_hp (N, W, T, G, J, P, St, Sq, Pt, z_wr E 43 i v, Lt, Hd, D, n) m := by
  obtain ⟨A, B, C, F, U, V⟩ := m
  show _ = z_fx N W T J P St Sq Pt (z_wr E 43 i v) Lt Hd ++ (z_fm A B C F U V ++ z_dy G (z_wr E 43 i v) D n)
  rw [z_dyE (by decide)]
  rfl
theorem z_w44 {i : Nat} {v : Int32} : (z_hp (N, W, T, G, J, P, St, Sq, Pt, E, Lt, Hd, D, n) m).set 44 (.inl (0, 12, .inl (upd (E 44) i v))) = z_hp (N, W, T, G, J, P, St, Sq, Pt, z_wr E 44 i v, Lt, Hd, D, n) m := by
  obtain ⟨A, B, C, F, U, V⟩ := m
  show _ = z_fx N W T J P St Sq Pt (z_wr E 44 i v) Lt Hd ++ (z_fm A B C F U V ++ z_dy G (z_wr E 44 i v) D n)
  rw [z_dyE (by decide)]
  rfl
theorem z_w41 {v : z_R} : (z_hp (N, W, T, G, J, P, St, Sq, Pt, E, Lt, Hd, D, n) m).set 41 (.inl (4, 60, .inr v)) = z_hp (N, W, T, G, J, P, St, Sq, Pt, E, v, Hd, D, n) m := rfl
theorem z_w42 {v : z_R} : (z_hp (N, W, T, G, J, P, St, Sq, Pt, E, Lt, Hd, D, n) m).set 42 (.inl (4, 12, .inr v)) = z_hp (N, W, T, G, J, P, St, Sq, Pt, E, Lt, v, D, n) m := rfl
theorem z_w45_0 {v u0 u1 u2 u3 u4 u5 u6 u7 u8 : Int32} (h0 : A 45 3 = u0) (h1 : A 45 8 = u1) (h2 : A 45 9 = u2) (h3 : B 45 10 = u3) (h4 : C 45 20 = u4) (h5 : U 45 22 = u5) (h6 : F 45 27 = u6) (h7 : C 45 34 = u7) (h8 : V 45 35 = u8) : (z_hp x (A, B, C, F, U, V)).set 45 (.inr (10, [.int v, .ref 46, .ref 47, .int u0, .ref 48, .ref 49, .ref 50, .ref 51, .int u1, .int u2, .int u3, .ref 52, .ref 53, .ref 54, .ref 55, .ref 56, .ref 57, .ref 58, .ref 59, .ref 60, .int u4, .ref 61, .int u5, .ref 62, .ref 63, .ref 64, .ref 65, .int u6, .ref 66, .ref 67, .ref 68, .ref 69, .ref 70, .ref 71, .int u7, .int u8, .ref 72, .ref 73, .ref 74, .ref 75, .ref 76, .ref 77])) = z_hp x (z_wr A 45 0 v, B, C, F, U, V) := by
  subst h0; subst h1; subst h2; subst h3; subst h4; subst h5; subst h6; subst h7; subst h8; rfl
theorem z_w45_3 {v u0 u1 u2 u3 u4 u5 u6 u7 u8 : Int32} (h0 : A 45 0 = u0) (h1 : A 45 8 = u1) (h2 : A 45 9 = u2) (h3 : B 45 10 = u3) (h4 : C 45 20 = u4) (h5 : U 45 22 = u5) (h6 : F 45 27 = u6) (h7 : C 45 34 = u7) (h8 : V 45 35 = u8) : (z_hp x (A, B, C, F, U, V)).set 45 (.inr (10, [.int u0, .ref 46, .ref 47, .int v, .ref 48, .ref 49, .ref 50, .ref 51, .int u1, .int u2, .int u3, .ref 52, .ref 53, .ref 54, .ref 55, .ref 56, .ref 57, .ref 58, .ref 59, .ref 60, .int u4, .ref 61, .int u5, .ref 62, .ref 63, .ref 64, .ref 65, .int u6, .ref 66, .ref 67, .ref 68, .ref 69, .ref 70, .ref 71, .int u7, .int u8, .ref 72, .ref 73, .ref 74, .ref 75, .ref 76, .ref 77])) = z_hp x (z_wr A 45 3 v, B, C, F, U, V) := by
  subst h0; subst h1; subst h2; subst h3; subst h4; subst h5; subst h6; subst h7; subst h8; rfl
theorem z_w45_8 {v u0 u1 u2 u3 u4 u5 u6 u7 u8 : Int32} (h0 : A 45 0 = u0) (h1 : A 45 3 = u1) (h2 : A 45 9 = u2) (h3 : B 45 10 = u3) (h4 : C 45 20 = u4) (h5 : U 45 22 = u5) (h6 : F 45 27 = u6) (h7 : C 45 34 = u7) (h8 : V 45 35 = u8) : (z_hp x (A, B, C, F, U, V)).set 45 (.inr (10, [.int u0, .ref 46, .ref 47, .int u1, .ref 48, .ref 49, .ref 50, .ref 51, .int v, .int u2, .int u3, .ref 52, .ref 53, .ref 54, .ref 55, .ref 56, .ref 57, .ref 58, .ref 59, .ref 60, .int u4, .ref 61, .int u5, .ref 62, .ref 63, .ref 64, .ref 65, .int u6, .ref 66, .ref 67, .ref 68, .ref 69, .ref 70, .ref 71, .int u7, .int u8, .ref 72, .ref 73, .ref 74, .ref 75, .ref 76, .ref 77])) = z_hp x (z_wr A 45 8 v, B, C, F, U, V) := by
  subst h0; subst h1; subst h2; subst h3; subst h4; subst h5; subst h6; subst h7; subst h8; rfl
theorem z_w45_9 {v u0 u1 u2 u3 u4 u5 u6 u7 u8 : Int32} (h0 : A 45 0 = u0) (h1 : A 45 3 = u1) (h2 : A 45 8 = u2) (h3 : B 45 10 = u3) (h4 : C 45 20 = u4) (h5 : U 45 22 = u5) (h6 : F 45 27 = u6) (h7 : C 45 34 = u7) (h8 : V 45 35 = u8) : (z_hp x (A, B, C, F, U, V)).set 45 (.inr (10, [.int u0, .ref 46, .ref 47, .int u1, .ref 48, .ref 49, .ref 50, .ref 51, .int u2, .int v, .int u3, .ref 52, .ref 53, .ref 54, .ref 55, .ref 56, .ref 57, .ref 58, .ref 59, .ref 60, .int u4, .ref 61, .int u5, .ref 62, .ref 63, .ref 64, .ref 65, .int u6, .ref 66, .ref 67, .ref 68, .ref 69, .ref 70, .ref 71, .int u7, .int u8, .ref 72, .ref 73, .ref 74, .ref 75, .ref 76, .ref 77])) = z_hp x (z_wr A 45 9 v, B, C, F, U, V) := by
  subst h0; subst h1; subst h2; subst h3; subst h4; subst h5; subst h6; subst h7; subst h8; rfl
theorem z_w45_10 {v u0 u1 u2 u3 u4 u5 u6 u7 u8 : Int32} (h0 : A 45 0 = u0) (h1 : A 45 3 = u1) (h2 : A 45 8 = u2) (h3 : A 45 9 = u3) (h4 : C 45 20 = u4) (h5 : U 45 22 = u5) (h6 : F 45 27 = u6) (h7 : C 45 34 = u7) (h8 : V 45 35 = u8) : (z_hp x (A, B, C, F, U, V)).set 45 (.inr (10, [.int u0, .ref 46, .ref 47, .int u1, .ref 48, .ref 49, .ref 50, .ref 51, .int u2, .int u3, .int v, .ref 52, .ref 53, .ref 54, .ref 55, .ref 56, .ref 57, .ref 58, .ref 59, .ref 60, .int u4, .ref 61, .int u5, .ref 62, .ref 63, .ref 64, .ref 65, .int u6, .ref 66, .ref 67, .ref 68, .ref 69, .ref 70, .ref 71, .int u7, .int u8, .ref 72, .ref 73, .ref 74, .ref 75, .ref 76, .ref 77])) = z_hp x (A, z_wr B 45 10 v, C, F, U, V) := by
  subst h0; subst h1; subst h2; subst h3; subst h4; subst h5; subst h6; subst h7; subst h8; rfl
theorem z_w45_20 {v u0 u1 u2 u3 u4 u5 u6 u7 u8 : Int32} (h0 : A 45 0 = u0) (h1 : A 45 3 = u1) (h2 : A 45 8 = u2) (h3 : A 45 9 = u3) (h4 : B 45 10 = u4) (h5 : U 45 22 = u5) (h6 : F 45 27 = u6) (h7 : C 45 34 = u7) (h8 : V 45 35 = u8) : (z_hp x (A, B, C, F, U, V)).set 45 (.inr (10, [.int u0, .ref 46, .ref 47, .int u1, .ref 48, .ref 49, .ref 50, .ref 51, .int u2, .int u3, .int u4, .ref 52, .ref 53, .ref 54, .ref 55, .ref 56, .ref 57, .ref 58, .ref 59, .ref 60, .int v, .ref 61, .int u5, .ref 62, .ref 63, .ref 64, .ref 65, .int u6, .ref 66, .ref 67, .ref 68, .ref 69, .ref 70, .ref 71, .int u7, .int u8, .ref 72, .ref 73, .ref 74, .ref 75, .ref 76, .ref 77])) = z_hp x (A, B, z_wr C 45 20 v, F, U, V) := by
  subst h0; subst h1; subst h2; subst h3; subst h4; subst h5; subst h6; subst h7; subst h8; rfl
theorem z_w45_22 {v u0 u1 u2 u3 u4 u5 u6 u7 u8 : Int32} (h0 : A 45 0 = u0) (h1 : A 45 3 = u1) (h2 : A 45 8 = u2) (h3 : A 45 9 = u3) (h4 : B 45 10 = u4) (h5 : C 45 20 = u5) (h6 : F 45 27 = u6) (h7 : C 45 34 = u7) (h8 : V 45 35 = u8) : (z_hp x (A, B, C, F, U, V)).set 45 (.inr (10, [.int u0, .ref 46, .ref 47, .int u1, .ref 48, .ref 49, .ref 50, .ref 51, .int u2, .int u3, .int u4, .ref 52, .ref 53, .ref 54, .ref 55, .ref 56, .ref 57, .ref 58, .ref 59, .ref 60, .int u5, .ref 61, .int v, .ref 62, .ref 63, .ref 64, .ref 65, .int u6, .ref 66, .ref 67, .ref 68, .ref 69, .ref 70, .ref 71, .int u7, .int u8, .ref 72, .ref 73, .ref 74, .ref 75, .ref 76, .ref 77])) = z_hp x (A, B, C, F, z_wr U 45 22 v, V) := by
  subst h0; subst h1; subst h2; subst h3; subst h4; subst h5; subst h6; subst h7; subst h8; rfl
theorem z_w45_27 {v u0 u1 u2 u3 u4 u5 u6 u7 u8 : Int32} (h0 : A 45 0 = u0) (h1 : A 45 3 = u1) (h2 : A 45 8 = u2) (h3 : A 45 9 = u3) (h4 : B 45 10 = u4) (h5 : C 45 20 = u5) (h6 : U 45 22 = u6) (h7 : C 45 34 = u7) (h8 : V 45 35 = u8) : (z_hp x (A, B, C, F, U, V)).set 45 (.inr (10, [.int u0, .ref 46, .ref 47, .int u1, .ref 48, .ref 49, .ref 50, .ref 51, .int u2, .int u3, .int u4, .ref 52, .ref 53, .ref 54, .ref 55, .ref 56, .ref 57, .ref 58, .ref 59, .ref 60, .int u5, .ref 61, .int u6, .ref 62, .ref 63, .ref 64, .ref 65, .int v, .ref 66, .ref 67, .ref 68, .ref 69, .ref 70, .ref 71, .int u7, .int u8, .ref 72, .ref 73, .ref 74, .ref 75, .ref 76, .ref 77])) = z_hp x (A, B, C, z_wr F 45 27 v, U, V) := by
  subst h0; subst h1; subst h2; subst h3; subst h4; subst h5; subst h6; subst h7; subst h8; rfl
theorem z_w45_34 {v u0 u1 u2 u3 u4 u5 u6 u7 u8 : Int32} (h0 : A 45 0 = u0) (h1 : A 45 3 = u1) (h2 : A 45 8 = u2) (h3 : A 45 9 = u3) (h4 : B 45 10 = u4) (h5 : C 45 20 = u5) (h6 : U 45 22 = u6) (h7 : F 45 27 = u7) (h8 : V 45 35 = u8) : (z_hp x (A, B, C, F, U, V)).set 45 (.inr (10, [.int u0, .ref 46, .ref 47, .int u1, .ref 48, .ref 49, .ref 50, .ref 51, .int u2, .int u3, .int u4, .ref 52, .ref 53, .ref 54, .ref 55, .ref 56, .ref 57, .ref 58, .ref 59, .ref 60, .int u5, .ref 61, .int u6, .ref 62, .ref 63, .ref 64, .ref 65, .int u7, .ref 66, .ref 67, .ref 68, .ref 69, .ref 70, .ref 71, .int v, .int u8, .ref 72, .ref 73, .ref 74, .ref 75, .ref 76, .ref 77])) = z_hp x (A, B, z_wr C 45 34 v, F, U, V) := by
  subst h0; subst h1; subst h2; subst h3; subst h4; subst h5; subst h6; subst h7; subst h8; rfl
theorem z_w45_35 {v u0 u1 u2 u3 u4 u5 u6 u7 u8 : Int32} (h0 : A 45 0 = u0) (h1 : A 45 3 = u1) (h2 : A 45 8 = u2) (h3 : A 45 9 = u3) (h4 : B 45 10 = u4) (h5 : C 45 20 = u5) (h6 : U 45 22 = u6) (h7 : F 45 27 = u7) (h8 : C 45 34 = u8) : (z_hp x (A, B, C, F, U, V)).set 45 (.inr (10, [.int u0, .ref 46, .ref 47, .int u1, .ref 48, .ref 49, .ref 50, .ref 51, .int u2, .int u3, .int u4, .ref 52, .ref 53, .ref 54, .ref 55, .ref 56, .ref 57, .ref 58, .ref 59, .ref 60, .int u5, .ref 61, .int u6, .ref 62, .ref 63, .ref 64, .ref 65, .int u7, .ref 66, .ref 67, .ref 68, .ref 69, .ref 70, .ref 71, .int u8, .int v, .ref 72, .ref 73, .ref 74, .ref 75, .ref 76, .ref 77])) = z_hp x (A, B, C, F, U, z_wr V 45 35 v) := by
  subst h0; subst h1; subst h2; subst h3; subst h4; subst h5; subst h6; subst h7; subst h8; rfl
theorem z_w46 {i : Nat} {v : Int32} : (z_hp x (A, B, C, F, U, V)).set 46 (.inl (0, 6, .inl (upd (A 46) i v))) = z_hp x (z_wr A 46 i v, B, C, F, U, V) := rfl
theorem z_w47 {i : Nat} {v : Int32} : (z_hp x (A, B, C, F, U, V)).set 47 (.inl (0, 6, .inl (upd (A 47) i v))) = z_hp x (z_wr A 47 i v, B, C, F, U, V) := rfl
theorem z_w48 {i : Nat} {v : Int32} : (z_hp x (A, B, C, F, U, V)).set 48 (.inl (0, 12, .inl (upd (A 48) i v))) = z_hp x (z_wr A 48 i v, B, C, F, U, V) := rfl
theorem z_w49 {i : Nat} {v : Int32} : (z_hp x (A, B, C, F, U, V)).set 49 (.inl (0, 12, .inl (upd (A 49) i v))) = z_hp x (z_wr A 49 i v, B, C, F, U, V) := rfl
theorem z_w50 {i : Nat} {v : Int32} : (z_hp x (A, B, C, F, U, V)).set 50 (.inl (0, 12, .inl (upd (A 50) i v))) = z_hp x (z_wr A 50 i v, B, C, F, U, V) := rfl
theorem z_w51 {i : Nat} {v : Int32} : (z_hp x (A, B, C, F, U, V)).set 51 (.inl (0, 12, .inl (upd (A 51) i v))) = z_hp x (z_wr A 51 i v, B, C, F, U, V) := rfl
theorem z_w52 {i : Nat} {v : Int32} : (z_hp x (A, B, C, F, U, V)).set 52 (.inl (0, 8, .inl (upd (B 52) i v))) = z_hp x (A, z_wr B 52 i v, C, F, U, V) := rfl
theorem z_w53 {i : Nat} {v : Int32} : (z_hp x (A, B, C, F, U, V)).set 53 (.inl (0, 8, .inl (upd (B 53) i v))) = z_hp x (A, z_wr B 53 i v, C, F, U, V) := rfl
theorem z_w54 {i : Nat} {v : Int32} : (z_hp x (A, B, C, F, U, V)).set 54 (.inl (0, 8, .inl (upd (B 54) i v))) = z_hp x (A, z_wr B 54 i v, C, F, U, V) := rfl
theorem z_w55 {i : Nat} {v : Int32} : (z_hp x (A, B, C, F, U, V)).set 55 (.inl (0, 24, .inl (upd (B 55) i v))) = z_hp x (A, z_wr B 55 i v, C, F, U, V) := rfl
theorem z_w56 {i : Nat} {v : Int32} : (z_hp x (A, B, C, F, U, V)).set 56 (.inl (0, 96, .inl (upd (B 56) i v))) = z_hp x (A, z_wr B 56 i v, C, F, U, V) := rfl
theorem z_w57 {i : Nat} {v : Int32} : (z_hp x (A, B, C, F, U, V)).set 57 (.inl (0, 24, .inl (upd (B 57) i v))) = z_hp x (A, z_wr B 57 i v, C, F, U, V) := rfl
theorem z_w58 {i : Nat} {v : Int32} : (z_hp x (A, B, C, F, U, V)).set 58 (.inl (1, 8, .inl (upd (B 58) i v))) = z_hp x (A, z_wr B 58 i v, C, F, U, V) := rfl
theorem z_w59 {i : Nat} {v : Int32} : (z_hp x (A, B, C, F, U, V)).set 59 (.inl (0, 8, .inl (upd (B 59) i v))) = z_hp x (A, z_wr B 59 i v, C, F, U, V) := rfl
theorem z_w60 {i : Nat} {v : Int32} : (z_hp x (A, B, C, F, U, V)).set 60 (.inl (0, 8, .inl (upd (B 60) i v))) = z_hp x (A, z_wr B 60 i v, C, F, U, V) := rfl
theorem z_w61 {i : Nat} {v : Int32} : (z_hp x (A, B, C, F, U, V)).set 61 (.inl (0, 1440, .inl (upd (C 61) i v))) = z_hp x (A, B, z_wr C 61 i v, F, U, V) := rfl
theorem z_w62 {i : Nat} {v : Int32} : (z_hp x (A, B, C, F, U, V)).set 62 (.inl (0, 60, .inl (upd (U 62) i v))) = z_hp x (A, B, C, F, z_wr U 62 i v, V) := rfl
theorem z_w63 {i : Nat} {v : Int32} : (z_hp x (A, B, C, F, U, V)).set 63 (.inl (0, 60, .inl (upd (U 63) i v))) = z_hp x (A, B, C, F, z_wr U 63 i v, V) := rfl
theorem z_w64 {i : Nat} {v : Int32} : (z_hp x (A, B, C, F, U, V)).set 64 (.inl (0, 60, .inl (upd (U 64) i v))) = z_hp x (A, B, C, F, z_wr U 64 i v, V) := rfl
theorem z_w65 {i : Nat} {v : Int32} : (z_hp x (A, B, C, F, U, V)).set 65 (.inl (0, 240, .inl (upd (U 65) i v))) = z_hp x (A, B, C, F, z_wr U 65 i v, V) := rfl
theorem z_w66 {i : Nat} {v : Int32} : (z_hp x (A, B, C, F, U, V)).set 66 (.inl (0, 512, .inl (upd (F 66) i v))) = z_hp x (A, B, C, z_wr F 66 i v, U, V) := rfl
theorem z_w67 {i : Nat} {v : Int32} : (z_hp x (A, B, C, F, U, V)).set 67 (.inl (0, 2048, .inl (upd (F 67) i v))) = z_hp x (A, B, C, z_wr F 67 i v, U, V) := rfl
theorem z_w68 {i : Nat} {v : Int32} : (z_hp x (A, B, C, F, U, V)).set 68 (.inl (0, 512, .inl (upd (F 68) i v))) = z_hp x (A, B, C, z_wr F 68 i v, U, V) := rfl
theorem z_w69 {i : Nat} {v : Int32} : (z_hp x (A, B, C, F, U, V)).set 69 (.inl (0, 5, .inl (upd (F 69) i v))) = z_hp x (A, B, C, z_wr F 69 i v, U, V) := rfl
theorem z_w70 {i : Nat} {v : Int32} : (z_hp x (A, B, C, F, U, V)).set 70 (.inl (0, 8, .inl (upd (C 70) i v))) = z_hp x (A, B, z_wr C 70 i v, F, U, V) := rfl
theorem z_w71 {i : Nat} {v : Int32} : (z_hp x (A, B, C, F, U, V)).set 71 (.inl (0, 9, .inl (upd (C 71) i v))) = z_hp x (A, B, z_wr C 71 i v, F, U, V) := rfl
theorem z_w72 {i : Nat} {v : Int32} : (z_hp x (A, B, C, F, U, V)).set 72 (.inl (0, 240, .inl (upd (V 72) i v))) = z_hp x (A, B, C, F, U, z_wr V 72 i v) := rfl
theorem z_w73 {i : Nat} {v : Int32} : (z_hp x (A, B, C, F, U, V)).set 73 (.inl (0, 240, .inl (upd (V 73) i v))) = z_hp x (A, B, C, F, U, z_wr V 73 i v) := rfl
theorem z_w74 {i : Nat} {v : Int32} : (z_hp x (A, B, C, F, U, V)).set 74 (.inl (0, 60, .inl (upd (V 74) i v))) = z_hp x (A, B, C, F, U, z_wr V 74 i v) := rfl
theorem z_w75 {i : Nat} {v : Int32} : (z_hp x (A, B, C, F, U, V)).set 75 (.inl (0, 60, .inl (upd (V 75) i v))) = z_hp x (A, B, C, F, U, z_wr V 75 i v) := rfl
theorem z_w76 {i : Nat} {v : Int32} : (z_hp x (A, B, C, F, U, V)).set 76 (.inl (0, 12, .inl (upd (V 76) i v))) = z_hp x (A, B, C, F, U, z_wr V 76 i v) := rfl
theorem z_w77 {i : Nat} {v : Int32} : (z_hp x (A, B, C, F, U, V)).set 77 (.inl (0, 12, .inl (upd (V 77) i v))) = z_hp x (A, B, C, F, U, z_wr V 77 i v) := rfl
/-- a ring's place -/
def z_rg (p : Nat) : Prop := 13 ≤ p ∧ p < 40 ∧ ¬ (27 ≤ p ∧ p < 32)
theorem z_rgc {p : Nat} (h : z_rg p) : p = 13 ∨ p = 14 ∨ p = 15 ∨ p = 16 ∨ p = 17 ∨ p = 18 ∨ p = 19 ∨ p = 20 ∨ p = 21 ∨ p = 22 ∨ p = 23 ∨ p = 24 ∨ p = 25 ∨ p = 26 ∨ p = 32 ∨ p = 33 ∨ p = 34 ∨ p = 35 ∨ p = 36 ∨ p = 37 ∨ p = 38 ∨ p = 39 := by unfold z_rg at h; omega
theorem z_eR {p : Nat} (h : z_rg p) : (z_hp (N, W, T, G, J, P, St, Sq, Pt, E, Lt, Hd, D, n) m)[p]? = some (.inr (5, [.ref 1, .long (J p).1, .long (J p).2])) := by
  rcases z_rgc h with rfl | rfl | rfl | rfl | rfl | rfl | rfl | rfl | rfl | rfl | rfl | rfl | rfl | rfl | rfl | rfl | rfl | rfl | rfl | rfl | rfl | rfl <;> rfl
theorem z_wR {p : Nat} (h : z_rg p) {u v : Int64} : (z_hp (N, W, T, G, J, P, St, Sq, Pt, E, Lt, Hd, D, n) m).set p (.inr (5, [.ref 1, .long u, .long v])) = z_hp (N, W, T, G, z_wj J p u v, P, St, Sq, Pt, E, Lt, Hd, D, n) m := by
  rcases z_rgc h with rfl | rfl | rfl | rfl | rfl | rfl | rfl | rfl | rfl | rfl | rfl | rfl | rfl | rfl | rfl | rfl | rfl | rfl | rfl | rfl | rfl | rfl <;> rfl
/-- a stream's place, a letter's place -/
def z_kS (D : Nat → Nat) (n q : Nat) : Prop := D q = 100 ∧ D (q + 1) = 101 ∧ 78 ≤ q ∧ q + 1 < 78 + n
def z_kL (D : Nat → Nat) (n q : Nat) : Prop := D q = 102 ∧ D (q + 1) = 103 ∧ D (q + 2) = 103 ∧ 78 ≤ q ∧ q + 2 < 78 + n
theorem z_d100 {q : Nat} (h : D q = 100) : z_dc G E D q = .inr (6, [.int (G q 0), .int (G q 1), .ref (q + 1), .int (G q 3), .int (G q 4), .int (G q 5)]) := if_pos h
theorem z_d101 {q : Nat} (h : D q = 101) : z_dc G E D q = .inl (0, 3, .inl (G q)) := by
  unfold z_dc; rw [h]; rfl
theorem z_d102 {q : Nat} (h : D q = 102) : z_dc G E D q = .inr (1, [.int (E q 0), .int (E q 1), .int (E q 2), .int (E q 3), .ref (q + 1), .ref (q + 2), .int (E q 6), .int (E q 7), .int (E q 8)]) := by
  unfold z_dc; rw [h]; rfl
theorem z_d103 {q : Nat} (h : D q = 103) : z_dc G E D q = .inl (0, 4, .inl (E q)) := by
  unfold z_dc; rw [h]; rfl
theorem z_eS {q : Nat} (h : z_kS D n q) : (z_hp (N, W, T, G, J, P, St, Sq, Pt, E, Lt, Hd, D, n) m)[q]? = some (.inr (6, [.int (G q 0), .int (G q 1), .ref (q + 1), .int (G q 3), .int (G q 4), .int (G q 5)])) := by
  rw [z_get h.2.2.1 (by have := h.2.2.2; omega), z_d100 h.1]
theorem z_eSw {q : Nat} (h : z_kS D n q) : (z_hp (N, W, T, G, J, P, St, Sq, Pt, E, Lt, Hd, D, n) m)[q + 1]? = some (.inl (0, 3, .inl (G (q + 1)))) := by
  rw [z_get (by have := h.2.2.1; omega) (by have := h.2.2.2; omega), z_d101 h.2.1]
theorem z_eL {q : Nat} (h : z_kL D n q) : (z_hp (N, W, T, G, J, P, St, Sq, Pt, E, Lt, Hd, D, n) m)[q]? = some (.inr (1, [.int (E q 0), .int (E q 1), .int (E q 2), .int (E q 3), .ref (q + 1), .ref (q + 2), .int (E q 6), .int (E q 7), .int (E q 8)])) := by
  rw [z_get h.2.2.2.1 (by have := h.2.2.2.2; omega), z_d102 h.1]
theorem z_eL1 {q : Nat} (h : z_kL D n q) : (z_hp (N, W, T, G, J, P, St, Sq, Pt, E, Lt, Hd, D, n) m)[q + 1]? = some (.inl (0, 4, .inl (E (q + 1)))) := by
  rw [z_get (by have := h.2.2.2.1; omega) (by have := h.2.2.2.2; omega), z_d103 h.2.1]
theorem z_eL2 {q : Nat} (h : z_kL D n q) : (z_hp (N, W, T, G, J, P, St, Sq, Pt, E, Lt, Hd, D, n) m)[q + 2]? = some (.inl (0, 4, .inl (E (q + 2)))) := by
  rw [z_get (by have := h.2.2.2.1; omega) (by have := h.2.2.2.2; omega), z_d103 h.2.2.1]
theorem z_wr_ne {f : z_A} {p q k : Nat} {v : Int32} (h : q ≠ p) : z_wr f p k v q = f q := if_neg h
theorem z_wr_eq {f : z_A} {p k : Nat} {v : Int32} : z_wr f p k v p = upd (f p) k v := if_pos rfl
theorem z_nG {q k : Nat} {v : Int32} (p : Nat) (h : p ≠ q) : z_dc (z_wr G q k v) E D p = z_dc G E D p := by
  unfold z_dc; rw [z_wr_ne h]
theorem z_nE {q k : Nat} {v : Int32} (p : Nat) (h : p ≠ q) : z_dc G (z_wr E q k v) D p = z_dc G E D p := by
  unfold z_dc; rw [z_wr_ne h]
theorem z_fE {q k : Nat} {v : Int32} (h : 78 ≤ q) : z_fx N W T J P St Sq Pt (z_wr E q k v) Lt Hd = z_fx N W T J P St Sq Pt E Lt Hd := by
  unfold z_fx; rw [z_wr_ne (show (40 : Nat) ≠ q by omega), z_wr_ne (show (43 : Nat) ≠ q by omega), z_wr_ne (show (44 : Nat) ≠ q by omega)]
theorem z_wS_3 {q : Nat} (h : z_kS D n q) {v u0 u1 u2 u3 : Int32} (h0 : G q 0 = u0) (h1 : G q 1 = u1) (h2 : G q 4 = u2) (h3 : G q 5 = u3) : (z_hp (N, W, T, G, J, P, St, Sq, Pt, E, Lt, Hd, D, n) m).set q (.inr (6, [.int u0, .int u1, .ref (q + 1), .int v, .int u2, .int u3])) = z_hp (N, W, T, z_wr G q 3 v, J, P, St, Sq, Pt, E, Lt, Hd, D, n) m := by
  subst h0; subst h1; subst h2; subst h3; exact z_set h.2.2.1 rfl (by rw [z_d100 h.1, z_wr_eq]; rfl) (fun p hp => z_nG p hp)
theorem z_wS_4 {q : Nat} (h : z_kS D n q) {v u0 u1 u2 u3 : Int32} (h0 : G q 0 = u0) (h1 : G q 1 = u1) (h2 : G q 3 = u2) (h3 : G q 5 = u3) : (z_hp (N, W, T, G, J, P, St, Sq, Pt, E, Lt, Hd, D, n) m).set q (.inr (6, [.int u0, .int u1, .ref (q + 1), .int u2, .int v, .int u3])) = z_hp (N, W, T, z_wr G q 4 v, J, P, St, Sq, Pt, E, Lt, Hd, D, n) m := by
  subst h0; subst h1; subst h2; subst h3; exact z_set h.2.2.1 rfl (by rw [z_d100 h.1, z_wr_eq]; rfl) (fun p hp => z_nG p hp)
theorem z_wS_5 {q : Nat} (h : z_kS D n q) {v u0 u1 u2 u3 : Int32} (h0 : G q 0 = u0) (h1 : G q 1 = u1) (h2 : G q 3 = u2) (h3 : G q 4 = u3) : (z_hp (N, W, T, G, J, P, St, Sq, Pt, E, Lt, Hd, D, n) m).set q (.inr (6, [.int u0, .int u1, .ref (q + 1), .int u2, .int u3, .int v])) = z_hp (N, W, T, z_wr G q 5 v, J, P, St, Sq, Pt, E, Lt, Hd, D, n) m := by
  subst h0; subst h1; subst h2; subst h3; exact z_set h.2.2.1 rfl (by rw [z_d100 h.1, z_wr_eq]; rfl) (fun p hp => z_nG p hp)
theorem z_wSw {q i : Nat} (h : z_kS D n q) {v : Int32} : (z_hp (N, W, T, G, J, P, St, Sq, Pt, E, Lt, Hd, D, n) m).set (q + 1) (.inl (0, 3, .inl (upd (G (q + 1)) i v))) = z_hp (N, W, T, z_wr G (q + 1) i v, J, P, St, Sq, Pt, E, Lt, Hd, D, n) m := z_set (by have := h.2.2.1; omega) rfl (by rw [z_d101 h.2.1, z_wr_eq]) (fun p hp => z_nG p hp)
theorem z_wL_6 {q : Nat} (h : z_kL D n q) {v u0 u1 u2 u3 u4 u5 : Int32} (h0 : E q 0 = u0) (h1 : E q 1 = u1) (h2 : E q 2 = u2) (h3 : E q 3 = u3) (h4 : E q 7 = u4) (h5 : E q 8 = u5) : (z_hp (N, W, T, G, J, P, St, Sq, Pt, E, Lt, Hd, D, n) m).set q (.inr (1, [.int u0, .int u1, .int u2, .int u3, .ref (q + 1), .ref (q + 2), .int v, .int u4, .int u5])) = z_hp (N, W, T, G, J, P, St, Sq, Pt, z_wr E q 6 v, Lt, Hd, D, n) m := by
  subst h0; subst h1; subst h2; subst h3; subst h4; subst h5; exact z_set h.2.2.2.1 (z_fE h.2.2.2.1) (by rw [z_d102 h.1, z_wr_eq]; rfl) (fun p hp => z_nE p hp)
theorem z_wL_7 {q : Nat} (h : z_kL D n q) {v u0 u1 u2 u3 u4 u5 : Int32} (h0 : E q 0 = u0) (h1 : E q 1 = u1) (h2 : E q 2 = u2) (h3 : E q 3 = u3) (h4 : E q 6 = u4) (h5 : E q 8 = u5) : (z_hp (N, W, T, G, J, P, St, Sq, Pt, E, Lt, Hd, D, n) m).set q (.inr (1, [.int u0, .int u1, .int u2, .int u3, .ref (q + 1), .ref (q + 2), .int u4, .int v, .int u5])) = z_hp (N, W, T, G, J, P, St, Sq, Pt, z_wr E q 7 v, Lt, Hd, D, n) m := by
  subst h0; subst h1; subst h2; subst h3; subst h4; subst h5; exact z_set h.2.2.2.1 (z_fE h.2.2.2.1) (by rw [z_d102 h.1, z_wr_eq]; rfl) (fun p hp => z_nE p hp)
theorem z_wL_8 {q : Nat} (h : z_kL D n q) {v u0 u1 u2 u3 u4 u5 : Int32} (h0 : E q 0 = u0) (h1 : E q 1 = u1) (h2 : E q 2 = u2) (h3 : E q 3 = u3) (h4 : E q 6 = u4) (h5 : E q 7 = u5) : (z_hp (N, W, T, G, J, P, St, Sq, Pt, E, Lt, Hd, D, n) m).set q (.inr (1, [.int u0, .int u1, .int u2, .int u3, .ref (q + 1), .ref (q + 2), .int u4, .int u5, .int v])) = z_hp (N, W, T, G, J, P, St, Sq, Pt, z_wr E q 8 v, Lt, Hd, D, n) m := by
  subst h0; subst h1; subst h2; subst h3; subst h4; subst h5; exact z_set h.2.2.2.1 (z_fE h.2.2.2.1) (by rw [z_d102 h.1, z_wr_eq]; rfl) (fun p hp => z_nE p hp)
theorem z_wL1 {q i : Nat} (h : z_kL D n q) {v : Int32} : (z_hp (N, W, T, G, J, P, St, Sq, Pt, E, Lt, Hd, D, n) m).set (q + 1) (.inl (0, 4, .inl (upd (E (q + 1)) i v))) = z_hp (N, W, T, G, J, P, St, Sq, Pt, z_wr E (q + 1) i v, Lt, Hd, D, n) m := z_set (by have := h.2.2.2.1; omega) (z_fE (by have := h.2.2.2.1; omega)) (by rw [z_d103 h.2.1, z_wr_eq]) (fun p hp => z_nE p hp)
theorem z_wL2 {q i : Nat} (h : z_kL D n q) {v : Int32} : (z_hp (N, W, T, G, J, P, St, Sq, Pt, E, Lt, Hd, D, n) m).set (q + 2) (.inl (0, 4, .inl (upd (E (q + 2)) i v))) = z_hp (N, W, T, G, J, P, St, Sq, Pt, z_wr E (q + 2) i v, Lt, Hd, D, n) m := z_set (by have := h.2.2.2.1; omega) (z_fE (by have := h.2.2.2.1; omega)) (by rw [z_d103 h.2.2.1, z_wr_eq]) (fun p hp => z_nE p hp)
end Zm
