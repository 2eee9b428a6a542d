section Ru
variable {S : ai_S} {d : Nat} {L : ai_L} {st : List Value} {h : ai_H} {Q : Option Value → ai_H → Prop}
theorem r95_0 : RR S d 95 0 L st h Q = kA (ai_look L 0) (fun x => RR S d 95 1 L (x :: st) h Q) := RR.lda_n rfl rfl rfl
theorem r95_1 {a : Nat} : RR S d 95 1 L (.ref a :: st) h Q = kO (ai_fld h a 9 0) (fun w => RR S d 95 4 L (w :: st) h Q) := RR.get rfl rfl rfl
theorem r95_4 : RR S d 95 4 L st h Q = kI (ai_look L 1) (fun x => RR S d 95 5 L (.int x :: st) h Q) := RR.ldi_n rfl rfl rfl
theorem r95_5 {p0 : Int32} {a : Nat} : RR S (d + 1) 95 5 L (.int p0 :: .ref a :: st) h Q = kB (decide (ai_sum st ≤ 8)) (kB ((ai_obj h a 2).isSome) (RR S d 15 0 [(0, .ref a), (1, .int p0)] [] h (fun r h1 => RR S (d + 1) 95 8 L (r.toList ++ st) h1 Q))) := RR.cv (j := 178) (mn' := 15) (n := 1) rfl rfl rfl rfl rfl rfl
theorem r95_8 {x : Int32} : RR S d 95 8 L (.int x :: st) h Q = if x = 0 then RR S d 95 22 L st h Q else RR S d 95 11 L st h Q := RR.b1 (c := .eq) (off := 14) rfl rfl (by decide) rfl
theorem r95_11 : RR S d 95 11 L st h Q = kA (ai_look L 0) (fun x => RR S d 95 12 L (x :: st) h Q) := RR.lda_n rfl rfl rfl
theorem r95_12 {a : Nat} : RR S d 95 12 L (.ref a :: st) h Q = kO (ai_fld h a 9 0) (fun w => RR S d 95 15 L (w :: st) h Q) := RR.get rfl rfl rfl
theorem r95_15 : RR S d 95 15 L st h Q = kI (ai_look L 2) (fun x => RR S d 95 16 L (.int x :: st) h Q) := RR.ldi_n rfl rfl rfl
theorem r95_16 {p0 : Int32} {a : Nat} : RR S (d + 1) 95 16 L (.int p0 :: .ref a :: st) h Q = kB (decide (ai_sum st ≤ 8)) (kB ((ai_obj h a 2).isSome) (RR S d 16 0 [(0, .ref a), (1, .int p0)] [] h (fun r h1 => RR S (d + 1) 95 19 L (r.toList ++ st) h1 Q))) := RR.cv (j := 181) (mn' := 16) (n := 1) rfl rfl rfl rfl rfl rfl
theorem r95_19 {x : Int32} : RR S d 95 19 L (.int x :: st) h Q = if ¬ x = 0 then RR S d 95 25 L st h Q else RR S d 95 22 L st h Q := RR.b1 (c := .ne) (off := 6) rfl rfl (by decide) rfl
theorem r95_22 : RR S d 95 22 L st h Q = RR S d 95 24 L (.int (-2) :: st) h Q := RR.bip (n := (-2)) rfl (by decide) rfl
theorem r95_24 {x : Int32} : RR S d 95 24 L [.int x] h Q = Q (some (.int x)) h := RR.rt rfl rfl rfl
theorem r95_25 : RR S d 95 25 L st h Q = RR S d 95 26 L (.int 0 :: st) h Q := RR.icn (n := 0) rfl (by decide) rfl
theorem r95_26 {x : Int32} : RR S d 95 26 L (.int x :: st) h Q = RR S d 95 27 (ai_put 3 (.int x) L) st h Q := RR.do1 (27, ai_put 3 (.int x) L, st, h) rfl rfl rfl
theorem r95_27 : RR S d 95 27 L st h Q = kI (ai_look L 3) (fun x => RR S d 95 28 L (.int x :: st) h Q) := RR.ldi_n rfl rfl rfl
theorem r95_28 : RR S d 95 28 L st h Q = kA (ai_look L 0) (fun x => RR S d 95 29 L (x :: st) h Q) := RR.lda_n rfl rfl rfl
theorem r95_29 {a : Nat} : RR S d 95 29 L (.ref a :: st) h Q = kO (ai_fld h a 9 2) (fun w => RR S d 95 32 L (w :: st) h Q) := RR.get rfl rfl rfl
theorem r95_32 {a : Nat} : RR S d 95 32 L (.ref a :: st) h Q = kO (ai_fld h a 7 1) (fun w => RR S d 95 35 L (w :: st) h Q) := RR.get rfl rfl rfl
theorem r95_35 {x y : Int32} : RR S d 95 35 L (.int y :: .int x :: st) h Q = if y ≤ x then RR S d 95 75 L st h Q else RR S d 95 38 L st h Q := RR.b2 (c := .ge) (off := 40) rfl rfl (by decide) rfl
theorem r95_38 : RR S d 95 38 L st h Q = kA (ai_look L 0) (fun x => RR S d 95 39 L (x :: st) h Q) := RR.lda_n rfl rfl rfl
theorem r95_39 {a : Nat} : RR S d 95 39 L (.ref a :: st) h Q = kO (ai_fld h a 9 2) (fun w => RR S d 95 42 L (w :: st) h Q) := RR.get rfl rfl rfl
theorem r95_42 : RR S d 95 42 L st h Q = kI (ai_look L 3) (fun x => RR S d 95 43 L (.int x :: st) h Q) := RR.ldi_n rfl rfl rfl
theorem r95_43 {p0 : Int32} {a : Nat} : RR S (d + 1) 95 43 L (.int p0 :: .ref a :: st) h Q = kB (decide (ai_sum st ≤ 8)) (kB ((ai_obj h a 7).isSome) (RR S d 67 0 [(0, .ref a), (1, .int p0)] [] h (fun r h1 => RR S (d + 1) 95 46 L (r.toList ++ st) h1 Q))) := RR.cv (j := 133) (mn' := 67) (n := 1) rfl rfl rfl rfl rfl rfl
theorem r95_46 {x : Nat} : RR S d 95 46 L (.ref x :: st) h Q = RR S d 95 48 (ai_put 4 (.ref x) L) st h Q := RR.do1 (48, ai_put 4 (.ref x) L, st, h) rfl rfl rfl
theorem r95_46n : RR S d 95 46 L (.null :: st) h Q = RR S d 95 48 (ai_put 4 .null L) st h Q := RR.do1 (48, ai_put 4 .null L, st, h) rfl rfl rfl
theorem r95_46f {u : UInt32} : RR S d 95 46 L (.float u :: st) h Q = RR S d 95 48 (ai_put 4 (.float u) L) st h Q := RR.do1 (48, ai_put 4 (.float u) L, st, h) rfl rfl rfl
theorem r95_48 : RR S d 95 48 L st h Q = kA (ai_look L 4) (fun x => RR S d 95 50 L (x :: st) h Q) := RR.lda rfl rfl
theorem r95_50 {x : Nat} : RR S d 95 50 L (.ref x :: st) h Q = RR S d 95 53 L st h Q := RR.nul (b := false) (off := 19) (tgt := 69) rfl rfl rfl (by decide) rfl rfl
theorem r95_50n : RR S d 95 50 L (.null :: st) h Q = RR S d 95 69 L st h Q := RR.nul (b := true) (off := 19) (tgt := 69) rfl rfl rfl (by decide) rfl rfl
theorem r95_53 : RR S d 95 53 L st h Q = kA (ai_look L 0) (fun x => RR S d 95 54 L (x :: st) h Q) := RR.lda_n rfl rfl rfl
theorem r95_54 {a : Nat} : RR S d 95 54 L (.ref a :: st) h Q = kO (ai_fld h a 9 0) (fun w => RR S d 95 57 L (w :: st) h Q) := RR.get rfl rfl rfl
theorem r95_57 : RR S d 95 57 L st h Q = kA (ai_look L 4) (fun x => RR S d 95 59 L (x :: st) h Q) := RR.lda rfl rfl
theorem r95_59 : RR S d 95 59 L st h Q = kI (ai_look L 1) (fun x => RR S d 95 60 L (.int x :: st) h Q) := RR.ldi_n rfl rfl rfl
theorem r95_60 : RR S d 95 60 L st h Q = kI (ai_look L 2) (fun x => RR S d 95 61 L (.int x :: st) h Q) := RR.ldi_n rfl rfl rfl
theorem r95_61 {p0 : Nat} {p1 : Int32} {p2 : Int32} {a : Nat} : RR S (d + 1) 95 61 L (.int p2 :: .int p1 :: .ref p0 :: .ref a :: st) h Q = kB (decide (ai_sum st ≤ 8)) (kB ((ai_obj h a 2).isSome) (RR S d 27 0 [(0, .ref a), (1, .ref p0), (2, .int p1), (3, .int p2)] [] h (fun r h1 => RR S (d + 1) 95 64 L (r.toList ++ st) h1 Q))) := RR.cv (j := 184) (mn' := 27) (n := 3) rfl rfl rfl rfl rfl rfl
theorem r95_64 {x : Int32} : RR S d 95 64 L (.int x :: st) h Q = if x = 0 then RR S d 95 69 L st h Q else RR S d 95 67 L st h Q := RR.b1 (c := .eq) (off := 5) rfl rfl (by decide) rfl
theorem r95_67 : RR S d 95 67 L st h Q = kI (ai_look L 3) (fun x => RR S d 95 68 L (.int x :: st) h Q) := RR.ldi_n rfl rfl rfl
theorem r95_68 {x : Int32} : RR S d 95 68 L [.int x] h Q = Q (some (.int x)) h := RR.rt rfl rfl rfl
theorem r95_69 : RR S d 95 69 L st h Q = kI (ai_look L 3) (fun x => RR S d 95 72 (ai_put 3 (.int (x + 1)) L) st h Q) := RR.iinc (k := 3) (n := 1) rfl (by decide) (by decide) rfl
theorem r95_72 : RR S d 95 72 L st h Q = RR S d 95 27 L st h Q := RR.jmp (off := (-45)) rfl (by decide)
theorem r95_75 : RR S d 95 75 L st h Q = RR S d 95 76 L (.int (-1) :: st) h Q := RR.icn (n := (-1)) rfl (by decide) rfl
theorem r95_76 {x : Int32} : RR S d 95 76 L [.int x] h Q = Q (some (.int x)) h := RR.rt rfl rfl rfl
theorem r96_0 : RR S d 96 0 L st h Q = kA (ai_look L 0) (fun x => RR S d 96 1 L (x :: st) h Q) := RR.lda_n rfl rfl rfl
theorem r96_1 {a : Nat} : RR S d 96 1 L (.ref a :: st) h Q = kO (ai_fld h a 9 0) (fun w => RR S d 96 4 L (w :: st) h Q) := RR.get rfl rfl rfl
theorem r96_4 : RR S d 96 4 L st h Q = kI (ai_look L 1) (fun x => RR S d 96 5 L (.int x :: st) h Q) := RR.ldi_n rfl rfl rfl
theorem r96_5 {p0 : Int32} {a : Nat} : RR S (d + 1) 96 5 L (.int p0 :: .ref a :: st) h Q = kB (decide (ai_sum st ≤ 8)) (kB ((ai_obj h a 2).isSome) (RR S d 15 0 [(0, .ref a), (1, .int p0)] [] h (fun r h1 => RR S (d + 1) 96 8 L (r.toList ++ st) h1 Q))) := RR.cv (j := 178) (mn' := 15) (n := 1) rfl rfl rfl rfl rfl rfl
theorem r96_8 {x : Int32} : RR S d 96 8 L (.int x :: st) h Q = if x = 0 then RR S d 96 29 L st h Q else RR S d 96 11 L st h Q := RR.b1 (c := .eq) (off := 21) rfl rfl (by decide) rfl
theorem r96_11 : RR S d 96 11 L st h Q = kA (ai_look L 0) (fun x => RR S d 96 12 L (x :: st) h Q) := RR.lda_n rfl rfl rfl
theorem r96_12 {a : Nat} : RR S d 96 12 L (.ref a :: st) h Q = kO (ai_fld h a 9 0) (fun w => RR S d 96 15 L (w :: st) h Q) := RR.get rfl rfl rfl
theorem r96_15 : RR S d 96 15 L st h Q = kI (ai_look L 2) (fun x => RR S d 96 16 L (.int x :: st) h Q) := RR.ldi_n rfl rfl rfl
theorem r96_16 {p0 : Int32} {a : Nat} : RR S (d + 1) 96 16 L (.int p0 :: .ref a :: st) h Q = kB (decide (ai_sum st ≤ 8)) (kB ((ai_obj h a 2).isSome) (RR S d 16 0 [(0, .ref a), (1, .int p0)] [] h (fun r h1 => RR S (d + 1) 96 19 L (r.toList ++ st) h1 Q))) := RR.cv (j := 181) (mn' := 16) (n := 1) rfl rfl rfl rfl rfl rfl
theorem r96_19 {x : Int32} : RR S d 96 19 L (.int x :: st) h Q = if x = 0 then RR S d 96 29 L st h Q else RR S d 96 22 L st h Q := RR.b1 (c := .eq) (off := 10) rfl rfl (by decide) rfl
theorem r96_22 : RR S d 96 22 L st h Q = kI (ai_look L 3) (fun x => RR S d 96 23 L (.int x :: st) h Q) := RR.ldi_n rfl rfl rfl
theorem r96_23 {p0 : Int32} : RR S (d + 1) 96 23 L (.int p0 :: st) h Q = kB (decide (ai_sum st ≤ 8)) (RR S d 109 0 [(0, .int p0)] [] h (fun r h1 => RR S (d + 1) 96 26 L (r.toList ++ st) h1 Q)) := RR.cs (j := 98) (mn' := 109) (n := 1) rfl rfl rfl rfl (by simp) rfl rfl
theorem r96_26 {x : Int32} : RR S d 96 26 L (.int x :: st) h Q = if ¬ x = 0 then RR S d 96 32 L st h Q else RR S d 96 29 L st h Q := RR.b1 (c := .ne) (off := 6) rfl rfl (by decide) rfl
theorem r96_29 : RR S d 96 29 L st h Q = RR S d 96 31 L (.int (-2) :: st) h Q := RR.bip (n := (-2)) rfl (by decide) rfl
theorem r96_31 {x : Int32} : RR S d 96 31 L [.int x] h Q = Q (some (.int x)) h := RR.rt rfl rfl rfl
theorem r96_32 : RR S d 96 32 L st h Q = kA (ai_look L 0) (fun x => RR S d 96 33 L (x :: st) h Q) := RR.lda_n rfl rfl rfl
theorem r96_33 {a : Nat} : RR S d 96 33 L (.ref a :: st) h Q = kO (ai_fld h a 9 3) (fun w => RR S d 96 36 L (w :: st) h Q) := RR.get rfl rfl rfl
theorem r96_36 : RR S d 96 36 L st h Q = kI (ai_look L 1) (fun x => RR S d 96 37 L (.int x :: st) h Q) := RR.ldi_n rfl rfl rfl
theorem r96_37 : RR S d 96 37 L st h Q = kI (ai_look L 2) (fun x => RR S d 96 38 L (.int x :: st) h Q) := RR.ldi_n rfl rfl rfl
theorem r96_38 : RR S d 96 38 L st h Q = kA (ai_look L 0) (fun x => RR S d 96 39 L (x :: st) h Q) := RR.lda_n rfl rfl rfl
theorem r96_39 {a : Nat} : RR S d 96 39 L (.ref a :: st) h Q = kO (ai_fld h a 9 0) (fun w => RR S d 96 42 L (w :: st) h Q) := RR.get rfl rfl rfl
theorem r96_42 : RR S d 96 42 L st h Q = kI (ai_look L 1) (fun x => RR S d 96 43 L (.int x :: st) h Q) := RR.ldi_n rfl rfl rfl
theorem r96_43 : RR S d 96 43 L st h Q = kI (ai_look L 3) (fun x => RR S d 96 44 L (.int x :: st) h Q) := RR.ldi_n rfl rfl rfl
theorem r96_44 {p0 : Int32} {p1 : Int32} {a : Nat} : RR S (d + 1) 96 44 L (.int p1 :: .int p0 :: .ref a :: st) h Q = kB (decide (ai_sum st ≤ 8)) (kB ((ai_obj h a 2).isSome) (RR S d 20 0 [(0, .ref a), (1, .int p0), (2, .int p1)] [] h (fun r h1 => RR S (d + 1) 96 47 L (r.toList ++ st) h1 Q))) := RR.cv (j := 188) (mn' := 20) (n := 2) rfl rfl rfl rfl rfl rfl
theorem r96_47 {p0 : Int32} {p1 : Int32} {p2 : Int32} {a : Nat} : RR S (d + 1) 96 47 L (.int p2 :: .int p1 :: .int p0 :: .ref a :: st) h Q = kB (decide (ai_sum st ≤ 8)) (kB ((ai_obj h a 0).isSome) (RR S d 4 0 [(0, .ref a), (1, .int p0), (2, .int p1), (3, .int p2)] [] h (fun r h1 => RR S (d + 1) 96 50 L (r.toList ++ st) h1 Q))) := RR.cv (j := 191) (mn' := 4) (n := 3) rfl rfl rfl rfl rfl rfl
theorem r96_50 {x : Int32} : RR S d 96 50 L [.int x] h Q = Q (some (.int x)) h := RR.rt rfl rfl rfl
theorem r97_0 : RR S d 97 0 L st h Q = kA (ai_look L 0) (fun x => RR S d 97 1 L (x :: st) h Q) := RR.lda_n rfl rfl rfl
theorem r97_1 {a : Nat} : RR S d 97 1 L (.ref a :: st) h Q = kO (ai_fld h a 9 0) (fun w => RR S d 97 4 L (w :: st) h Q) := RR.get rfl rfl rfl
theorem r97_4 : RR S d 97 4 L st h Q = kI (ai_look L 1) (fun x => RR S d 97 5 L (.int x :: st) h Q) := RR.ldi_n rfl rfl rfl
theorem r97_5 {p0 : Int32} {a : Nat} : RR S (d + 1) 97 5 L (.int p0 :: .ref a :: st) h Q = kB (decide (ai_sum st ≤ 8)) (kB ((ai_obj h a 2).isSome) (RR S d 15 0 [(0, .ref a), (1, .int p0)] [] h (fun r h1 => RR S (d + 1) 97 8 L (r.toList ++ st) h1 Q))) := RR.cv (j := 178) (mn' := 15) (n := 1) rfl rfl rfl rfl rfl rfl
theorem r97_8 {x : Int32} : RR S d 97 8 L (.int x :: st) h Q = if x = 0 then RR S d 97 18 L st h Q else RR S d 97 11 L st h Q := RR.b1 (c := .eq) (off := 10) rfl rfl (by decide) rfl
theorem r97_11 : RR S d 97 11 L st h Q = kI (ai_look L 2) (fun x => RR S d 97 12 L (.int x :: st) h Q) := RR.ldi_n rfl rfl rfl
theorem r97_12 {p0 : Int32} : RR S (d + 1) 97 12 L (.int p0 :: st) h Q = kB (decide (ai_sum st ≤ 8)) (RR S d 109 0 [(0, .int p0)] [] h (fun r h1 => RR S (d + 1) 97 15 L (r.toList ++ st) h1 Q)) := RR.cs (j := 98) (mn' := 109) (n := 1) rfl rfl rfl rfl (by simp) rfl rfl
theorem r97_15 {x : Int32} : RR S d 97 15 L (.int x :: st) h Q = if ¬ x = 0 then RR S d 97 21 L st h Q else RR S d 97 18 L st h Q := RR.b1 (c := .ne) (off := 6) rfl rfl (by decide) rfl
theorem r97_18 : RR S d 97 18 L st h Q = RR S d 97 20 L (.int (-2) :: st) h Q := RR.bip (n := (-2)) rfl (by decide) rfl
theorem r97_20 {x : Int32} : RR S d 97 20 L [.int x] h Q = Q (some (.int x)) h := RR.rt rfl rfl rfl
theorem r97_21 : RR S d 97 21 L st h Q = RR S d 97 22 L (.int 0 :: st) h Q := RR.icn (n := 0) rfl (by decide) rfl
theorem r97_22 {x : Int32} : RR S d 97 22 L (.int x :: st) h Q = RR S d 97 23 (ai_put 3 (.int x) L) st h Q := RR.do1 (23, ai_put 3 (.int x) L, st, h) rfl rfl rfl
theorem r97_23 : RR S d 97 23 L st h Q = RR S d 97 24 L (.int 0 :: st) h Q := RR.icn (n := 0) rfl (by decide) rfl
theorem r97_24 {x : Int32} : RR S d 97 24 L (.int x :: st) h Q = RR S d 97 26 (ai_put 4 (.int x) L) st h Q := RR.do1 (26, ai_put 4 (.int x) L, st, h) rfl rfl rfl
theorem r97_26 : RR S d 97 26 L st h Q = kI (ai_look L 4) (fun x => RR S d 97 28 L (.int x :: st) h Q) := RR.ldi rfl rfl
theorem r97_28 : RR S d 97 28 L st h Q = kA (ai_look L 0) (fun x => RR S d 97 29 L (x :: st) h Q) := RR.lda_n rfl rfl rfl
theorem r97_29 {a : Nat} : RR S d 97 29 L (.ref a :: st) h Q = kO (ai_fld h a 9 0) (fun w => RR S d 97 32 L (w :: st) h Q) := RR.get rfl rfl rfl
theorem r97_32 {a : Nat} : RR S d 97 32 L (.ref a :: st) h Q = kO (ai_fld h a 2 8) (fun w => RR S d 97 35 L (w :: st) h Q) := RR.get rfl rfl rfl
theorem r97_35 {x y : Int32} : RR S d 97 35 L (.int y :: .int x :: st) h Q = if y ≤ x then RR S d 97 80 L st h Q else RR S d 97 38 L st h Q := RR.b2 (c := .ge) (off := 45) rfl rfl (by decide) rfl
theorem r97_38 : RR S d 97 38 L st h Q = kA (ai_look L 0) (fun x => RR S d 97 39 L (x :: st) h Q) := RR.lda_n rfl rfl rfl
theorem r97_39 {a : Nat} : RR S d 97 39 L (.ref a :: st) h Q = kO (ai_fld h a 9 3) (fun w => RR S d 97 42 L (w :: st) h Q) := RR.get rfl rfl rfl
theorem r97_42 : RR S d 97 42 L st h Q = kI (ai_look L 1) (fun x => RR S d 97 43 L (.int x :: st) h Q) := RR.ldi_n rfl rfl rfl
theorem r97_43 : RR S d 97 43 L st h Q = kI (ai_look L 4) (fun x => RR S d 97 45 L (.int x :: st) h Q) := RR.ldi rfl rfl
theorem r97_45 : RR S d 97 45 L st h Q = kA (ai_look L 0) (fun x => RR S d 97 46 L (x :: st) h Q) := RR.lda_n rfl rfl rfl
theorem r97_46 {a : Nat} : RR S d 97 46 L (.ref a :: st) h Q = kO (ai_fld h a 9 0) (fun w => RR S d 97 49 L (w :: st) h Q) := RR.get rfl rfl rfl
theorem r97_49 : RR S d 97 49 L st h Q = kI (ai_look L 1) (fun x => RR S d 97 50 L (.int x :: st) h Q) := RR.ldi_n rfl rfl rfl
theorem r97_50 : RR S d 97 50 L st h Q = kI (ai_look L 2) (fun x => RR S d 97 51 L (.int x :: st) h Q) := RR.ldi_n rfl rfl rfl
theorem r97_51 {p0 : Int32} {p1 : Int32} {a : Nat} : RR S (d + 1) 97 51 L (.int p1 :: .int p0 :: .ref a :: st) h Q = kB (decide (ai_sum st ≤ 8)) (kB ((ai_obj h a 2).isSome) (RR S d 20 0 [(0, .ref a), (1, .int p0), (2, .int p1)] [] h (fun r h1 => RR S (d + 1) 97 54 L (r.toList ++ st) h1 Q))) := RR.cv (j := 188) (mn' := 20) (n := 2) rfl rfl rfl rfl rfl rfl
theorem r97_54 {p0 : Int32} {p1 : Int32} {p2 : Int32} {a : Nat} : RR S (d + 1) 97 54 L (.int p2 :: .int p1 :: .int p0 :: .ref a :: st) h Q = kB (decide (ai_sum st ≤ 8)) (kB ((ai_obj h a 0).isSome) (RR S d 4 0 [(0, .ref a), (1, .int p0), (2, .int p1), (3, .int p2)] [] h (fun r h1 => RR S (d + 1) 97 57 L (r.toList ++ st) h1 Q))) := RR.cv (j := 191) (mn' := 4) (n := 3) rfl rfl rfl rfl rfl rfl
theorem r97_57 {x : Int32} : RR S d 97 57 L (.int x :: st) h Q = RR S d 97 59 (ai_put 5 (.int x) L) st h Q := RR.do1 (59, ai_put 5 (.int x) L, st, h) rfl rfl rfl
theorem r97_59 : RR S d 97 59 L st h Q = kI (ai_look L 5) (fun x => RR S d 97 61 L (.int x :: st) h Q) := RR.ldi rfl rfl
theorem r97_61 : RR S d 97 61 L st h Q = RR S d 97 62 L (.int (-1) :: st) h Q := RR.icn (n := (-1)) rfl (by decide) rfl
theorem r97_62 {x y : Int32} : RR S d 97 62 L (.int y :: .int x :: st) h Q = if ¬ x = y then RR S d 97 67 L st h Q else RR S d 97 65 L st h Q := RR.b2 (c := .ne) (off := 5) rfl rfl (by decide) rfl
theorem r97_65 : RR S d 97 65 L st h Q = RR S d 97 66 L (.int (-1) :: st) h Q := RR.icn (n := (-1)) rfl (by decide) rfl
theorem r97_66 {x : Int32} : RR S d 97 66 L [.int x] h Q = Q (some (.int x)) h := RR.rt rfl rfl rfl
theorem r97_67 : RR S d 97 67 L st h Q = kI (ai_look L 3) (fun x => RR S d 97 68 L (.int x :: st) h Q) := RR.ldi_n rfl rfl rfl
theorem r97_68 : RR S d 97 68 L st h Q = kI (ai_look L 5) (fun x => RR S d 97 70 L (.int x :: st) h Q) := RR.ldi rfl rfl
theorem r97_70 {p0 : Int32} {p1 : Int32} : RR S (d + 1) 97 70 L (.int p1 :: .int p0 :: st) h Q = kB (decide (ai_sum st ≤ 8)) (RR S d 163 0 [(0, .int p0), (1, .int p1)] [] h (fun r h1 => RR S (d + 1) 97 73 L (r.toList ++ st) h1 Q)) := RR.cs (j := 195) (mn' := 163) (n := 2) rfl rfl rfl rfl (by simp) rfl rfl
theorem r97_73 {x : Int32} : RR S d 97 73 L (.int x :: st) h Q = RR S d 97 74 (ai_put 3 (.int x) L) st h Q := RR.do1 (74, ai_put 3 (.int x) L, st, h) rfl rfl rfl
theorem r97_74 : RR S d 97 74 L st h Q = kI (ai_look L 4) (fun x => RR S d 97 77 (ai_put 4 (.int (x + 1)) L) st h Q) := RR.iinc (k := 4) (n := 1) rfl (by decide) (by decide) rfl
theorem r97_77 : RR S d 97 77 L st h Q = RR S d 97 26 L st h Q := RR.jmp (off := (-51)) rfl (by decide)
theorem r97_80 : RR S d 97 80 L st h Q = kI (ai_look L 3) (fun x => RR S d 97 81 L (.int x :: st) h Q) := RR.ldi_n rfl rfl rfl
theorem r97_81 {x : Int32} : RR S d 97 81 L [.int x] h Q = Q (some (.int x)) h := RR.rt rfl rfl rfl
theorem r98_0 : RR S d 98 0 L st h Q = kA (ai_look L 0) (fun x => RR S d 98 1 L (x :: st) h Q) := RR.lda_n rfl rfl rfl
theorem r98_1 {a : Nat} : RR S d 98 1 L (.ref a :: st) h Q = kO (ai_fld h a 9 0) (fun w => RR S d 98 4 L (w :: st) h Q) := RR.get rfl rfl rfl
theorem r98_4 : RR S d 98 4 L st h Q = kI (ai_look L 1) (fun x => RR S d 98 5 L (.int x :: st) h Q) := RR.ldi_n rfl rfl rfl
theorem r98_5 {p0 : Int32} {a : Nat} : RR S (d + 1) 98 5 L (.int p0 :: .ref a :: st) h Q = kB (decide (ai_sum st ≤ 8)) (kB ((ai_obj h a 2).isSome) (RR S d 13 0 [(0, .ref a), (1, .int p0)] [] h (fun r h1 => RR S (d + 1) 98 8 L (r.toList ++ st) h1 Q))) := RR.cv (j := 95) (mn' := 13) (n := 1) rfl rfl rfl rfl rfl rfl
theorem r98_8 {x : Int32} : RR S d 98 8 L (.int x :: st) h Q = if x = 0 then RR S d 98 33 L st h Q else RR S d 98 11 L st h Q := RR.b1 (c := .eq) (off := 25) rfl rfl (by decide) rfl
theorem r98_11 : RR S d 98 11 L st h Q = kI (ai_look L 2) (fun x => RR S d 98 12 L (.int x :: st) h Q) := RR.ldi_n rfl rfl rfl
theorem r98_12 : RR S d 98 12 L st h Q = kA (ai_look L 0) (fun x => RR S d 98 13 L (x :: st) h Q) := RR.lda_n rfl rfl rfl
theorem r98_13 {a : Nat} : RR S d 98 13 L (.ref a :: st) h Q = kO (ai_fld h a 9 0) (fun w => RR S d 98 16 L (w :: st) h Q) := RR.get rfl rfl rfl
theorem r98_16 {a : Nat} : RR S d 98 16 L (.ref a :: st) h Q = kO (ai_fld h a 2 9) (fun w => RR S d 98 19 L (w :: st) h Q) := RR.get rfl rfl rfl
theorem r98_19 {x : Int32} : RR S d 98 19 L (.int x :: st) h Q = RR S d 98 20 L (.int (-x) :: st) h Q := RR.do1 (20, L, .int (-x) :: st, h) rfl rfl rfl
theorem r98_20 : RR S d 98 20 L st h Q = kA (ai_look L 0) (fun x => RR S d 98 21 L (x :: st) h Q) := RR.lda_n rfl rfl rfl
theorem r98_21 {a : Nat} : RR S d 98 21 L (.ref a :: st) h Q = kO (ai_fld h a 9 0) (fun w => RR S d 98 24 L (w :: st) h Q) := RR.get rfl rfl rfl
theorem r98_24 {a : Nat} : RR S d 98 24 L (.ref a :: st) h Q = kO (ai_fld h a 2 9) (fun w => RR S d 98 27 L (w :: st) h Q) := RR.get rfl rfl rfl
theorem r98_27 {p0 : Int32} {p1 : Int32} {p2 : Int32} : RR S (d + 1) 98 27 L (.int p2 :: .int p1 :: .int p0 :: st) h Q = kB (decide (ai_sum st ≤ 8)) (RR S d 110 0 [(0, .int p0), (1, .int p1), (2, .int p2)] [] h (fun r h1 => RR S (d + 1) 98 30 L (r.toList ++ st) h1 Q)) := RR.cs (j := 57) (mn' := 110) (n := 3) rfl rfl rfl rfl (by simp) rfl rfl
theorem r98_30 {x : Int32} : RR S d 98 30 L (.int x :: st) h Q = if ¬ x = 0 then RR S d 98 35 L st h Q else RR S d 98 33 L st h Q := RR.b1 (c := .ne) (off := 5) rfl rfl (by decide) rfl
theorem r98_33 : RR S d 98 33 L st h Q = RR S d 98 34 L (.int 0 :: st) h Q := RR.icn (n := 0) rfl (by decide) rfl
theorem r98_34f : RR S d 98 34 L [.int 0] h Q = Q (some (.int 0)) h := RR.zrt rfl rfl (by decide)
theorem r98_34t : RR S d 98 34 L [.int 1] h Q = Q (some (.int 1)) h := RR.zrt rfl rfl (by decide)
theorem r98_35 : RR S d 98 35 L st h Q = kA (ai_look L 0) (fun x => RR S d 98 36 L (x :: st) h Q) := RR.lda_n rfl rfl rfl
theorem r98_36 {a : Nat} : RR S d 98 36 L (.ref a :: st) h Q = kO (ai_fld h a 9 0) (fun w => RR S d 98 39 L (w :: st) h Q) := RR.get rfl rfl rfl
theorem r98_39 {a : Nat} : RR S d 98 39 L (.ref a :: st) h Q = kO (ai_fld h a 2 1) (fun w => RR S d 98 42 L (w :: st) h Q) := RR.get rfl rfl rfl
theorem r98_42 : RR S d 98 42 L st h Q = kI (ai_look L 1) (fun x => RR S d 98 43 L (.int x :: st) h Q) := RR.ldi_n rfl rfl rfl
theorem r98_43 : RR S d 98 43 L st h Q = kI (ai_look L 2) (fun x => RR S d 98 44 L (.int x :: st) h Q) := RR.ldi_n rfl rfl rfl
theorem r98_44 {x y : Int32} {a : Nat} : RR S d 98 44 L (.int y :: .int x :: .ref a :: st) h Q = kO (ai_arr h a 0) (fun q => kB (ai_in x q.1) (RR S d 98 45 L st (h.1.set a (.inl (0, q.1, .inl (upd q.2 x.toNatClampNeg y))), h.2) Q)) := RR.ias rfl rfl
theorem r98_45 : RR S d 98 45 L st h Q = kA (ai_look L 0) (fun x => RR S d 98 46 L (x :: st) h Q) := RR.lda_n rfl rfl rfl
theorem r98_46 {a : Nat} : RR S d 98 46 L (.ref a :: st) h Q = kO (ai_fld h a 9 5) (fun w => RR S d 98 49 L (w :: st) h Q) := RR.get rfl rfl rfl
theorem r98_49 : RR S d 98 49 L st h Q = RR S d 98 50 L (.int 1 :: st) h Q := RR.icn (n := 1) rfl (by decide) rfl
theorem r98_50t {a : Nat} : RR S d 98 50 L (.int 1 :: .ref a :: st) h Q = kO (ai_obj h a 4) (fun fs => kB (decide (8 < fs.length)) (RR S d 98 53 L st (h.1.set a (.inr (4, fs.set 8 (.int 1))), h.2) Q)) := RR.put rfl rfl (by decide +kernel) rfl
theorem r98_50f {a : Nat} : RR S d 98 50 L (.int 0 :: .ref a :: st) h Q = kO (ai_obj h a 4) (fun fs => kB (decide (8 < fs.length)) (RR S d 98 53 L st (h.1.set a (.inr (4, fs.set 8 (.int 0))), h.2) Q)) := RR.put rfl rfl (by decide +kernel) rfl
theorem r98_53 : RR S d 98 53 L st h Q = RR S d 98 54 L (.int 1 :: st) h Q := RR.icn (n := 1) rfl (by decide) rfl
theorem r98_54f : RR S d 98 54 L [.int 0] h Q = Q (some (.int 0)) h := RR.zrt rfl rfl (by decide)
theorem r98_54t : RR S d 98 54 L [.int 1] h Q = Q (some (.int 1)) h := RR.zrt rfl rfl (by decide)
theorem r99_0 : RR S d 99 0 L st h Q = kA (ai_look L 0) (fun x => RR S d 99 1 L (x :: st) h Q) := RR.lda_n rfl rfl rfl
theorem r99_1 {a : Nat} : RR S d 99 1 L (.ref a :: st) h Q = kO (ai_fld h a 9 5) (fun w => RR S d 99 4 L (w :: st) h Q) := RR.get rfl rfl rfl
theorem r99_4 {a : Nat} : RR S d 99 4 L (.ref a :: st) h Q = kO (ai_fld h a 4 7) (fun w => RR S d 99 7 L (w :: st) h Q) := RR.get rfl rfl rfl
theorem r99_7 : RR S d 99 7 L st h Q = RR S d 99 9 L (.int 60 :: st) h Q := RR.bip (n := 60) rfl (by decide) rfl
theorem r99_9 {x y : Int32} : RR S d 99 9 L (.int y :: .int x :: st) h Q = if y ≤ x then RR S d 99 23 L st h Q else RR S d 99 12 L st h Q := RR.b2 (c := .ge) (off := 14) rfl rfl (by decide) rfl
theorem r99_12 : RR S d 99 12 L st h Q = kI (ai_look L 1) (fun x => RR S d 99 13 L (.int x :: st) h Q) := RR.ldi_n rfl rfl rfl
theorem r99_13 : RR S d 99 13 L st h Q = RR S d 99 14 L (.int 0 :: st) h Q := RR.icn (n := 0) rfl (by decide) rfl
theorem r99_14 : RR S d 99 14 L st h Q = RR S d 99 17 L (.int 999 :: st) h Q := RR.sip (n := 999) rfl (by decide) rfl
theorem r99_17 {p0 : Int32} {p1 : Int32} {p2 : Int32} : RR S (d + 1) 99 17 L (.int p2 :: .int p1 :: .int p0 :: st) h Q = kB (decide (ai_sum st ≤ 8)) (RR S d 110 0 [(0, .int p0), (1, .int p1), (2, .int p2)] [] h (fun r h1 => RR S (d + 1) 99 20 L (r.toList ++ st) h1 Q)) := RR.cs (j := 57) (mn' := 110) (n := 3) rfl rfl rfl rfl (by simp) rfl rfl
theorem r99_20 {x : Int32} : RR S d 99 20 L (.int x :: st) h Q = if ¬ x = 0 then RR S d 99 25 L st h Q else RR S d 99 23 L st h Q := RR.b1 (c := .ne) (off := 5) rfl rfl (by decide) rfl
theorem r99_23 : RR S d 99 23 L st h Q = RR S d 99 24 L (.int (-1) :: st) h Q := RR.icn (n := (-1)) rfl (by decide) rfl
theorem r99_24 {x : Int32} : RR S d 99 24 L [.int x] h Q = Q (some (.int x)) h := RR.rt rfl rfl rfl
theorem r99_25 : RR S d 99 25 L st h Q = kA (ai_look L 0) (fun x => RR S d 99 26 L (x :: st) h Q) := RR.lda_n rfl rfl rfl
theorem r99_26 {a : Nat} : RR S d 99 26 L (.ref a :: st) h Q = kO (ai_fld h a 9 0) (fun w => RR S d 99 29 L (w :: st) h Q) := RR.get rfl rfl rfl
theorem r99_29 : RR S d 99 29 L st h Q = kI (ai_look L 2) (fun x => RR S d 99 30 L (.int x :: st) h Q) := RR.ldi_n rfl rfl rfl
theorem r99_30 : RR S d 99 30 L st h Q = kI (ai_look L 3) (fun x => RR S d 99 31 L (.int x :: st) h Q) := RR.ldi_n rfl rfl rfl
theorem r99_31 {p0 : Int32} {p1 : Int32} {a : Nat} : RR S (d + 1) 99 31 L (.int p1 :: .int p0 :: .ref a :: st) h Q = kB (decide (ai_sum st ≤ 8)) (kB ((ai_obj h a 2).isSome) (RR S d 14 0 [(0, .ref a), (1, .int p0), (2, .int p1)] [] h (fun r h1 => RR S (d + 1) 99 34 L (r.toList ++ st) h1 Q))) := RR.cv (j := 65) (mn' := 14) (n := 2) rfl rfl rfl rfl rfl rfl
theorem r99_34 {x : Int32} : RR S d 99 34 L (.int x :: st) h Q = if x = 0 then RR S d 99 45 L st h Q else RR S d 99 37 L st h Q := RR.b1 (c := .eq) (off := 11) rfl rfl (by decide) rfl
theorem r99_37 : RR S d 99 37 L st h Q = kI (ai_look L 4) (fun x => RR S d 99 39 L (.int x :: st) h Q) := RR.ldi rfl rfl
theorem r99_39 {p0 : Int32} : RR S (d + 1) 99 39 L (.int p0 :: st) h Q = kB (decide (ai_sum st ≤ 8)) (RR S d 109 0 [(0, .int p0)] [] h (fun r h1 => RR S (d + 1) 99 42 L (r.toList ++ st) h1 Q)) := RR.cs (j := 98) (mn' := 109) (n := 1) rfl rfl rfl rfl (by simp) rfl rfl
theorem r99_42 {x : Int32} : RR S d 99 42 L (.int x :: st) h Q = if ¬ x = 0 then RR S d 99 47 L st h Q else RR S d 99 45 L st h Q := RR.b1 (c := .ne) (off := 5) rfl rfl (by decide) rfl
theorem r99_45 : RR S d 99 45 L st h Q = RR S d 99 46 L (.int (-1) :: st) h Q := RR.icn (n := (-1)) rfl (by decide) rfl
theorem r99_46 {x : Int32} : RR S d 99 46 L [.int x] h Q = Q (some (.int x)) h := RR.rt rfl rfl rfl
theorem r99_47 : RR S d 99 47 L st h Q = kA (ai_look L 0) (fun x => RR S d 99 48 L (x :: st) h Q) := RR.lda_n rfl rfl rfl
theorem r99_48 {a : Nat} : RR S d 99 48 L (.ref a :: st) h Q = kO (ai_fld h a 9 1) (fun w => RR S d 99 51 L (w :: st) h Q) := RR.get rfl rfl rfl
theorem r99_51 : RR S d 99 51 L st h Q = kI (ai_look L 2) (fun x => RR S d 99 52 L (.int x :: st) h Q) := RR.ldi_n rfl rfl rfl
theorem r99_52 : RR S d 99 52 L st h Q = kI (ai_look L 3) (fun x => RR S d 99 53 L (.int x :: st) h Q) := RR.ldi_n rfl rfl rfl
theorem r99_53 : RR S d 99 53 L st h Q = kI (ai_look L 4) (fun x => RR S d 99 55 L (.int x :: st) h Q) := RR.ldi rfl rfl
theorem r99_55 : RR S d 99 55 L st h Q = RR S d 99 56 L (.int (-1) :: st) h Q := RR.icn (n := (-1)) rfl (by decide) rfl
theorem r99_56 {p0 : Int32} {p1 : Int32} {p2 : Int32} {p3 : Int32} {a : Nat} : RR S (d + 1) 99 56 L (.int p3 :: .int p2 :: .int p1 :: .int p0 :: .ref a :: st) h Q = kB (decide (ai_sum st ≤ 8)) (kB ((ai_obj h a 8).isSome) (RR S d 79 0 [(0, .ref a), (1, .int p0), (2, .int p1), (3, .int p2), (4, .int p3)] [] h (fun r h1 => RR S (d + 1) 99 59 L (r.toList ++ st) h1 Q))) := RR.cv (j := 114) (mn' := 79) (n := 4) rfl rfl rfl rfl rfl rfl
theorem r99_59 : RR S d 99 59 L st h Q = RR S d 99 60 L (.int (-1) :: st) h Q := RR.icn (n := (-1)) rfl (by decide) rfl
theorem r99_60 {x y : Int32} : RR S d 99 60 L (.int y :: .int x :: st) h Q = if ¬ x = y then RR S d 99 66 L st h Q else RR S d 99 63 L st h Q := RR.b2 (c := .ne) (off := 6) rfl rfl (by decide) rfl
theorem r99_63 : RR S d 99 63 L st h Q = RR S d 99 65 L (.int (-2) :: st) h Q := RR.bip (n := (-2)) rfl (by decide) rfl
theorem r99_65 {x : Int32} : RR S d 99 65 L [.int x] h Q = Q (some (.int x)) h := RR.rt rfl rfl rfl
theorem r99_66 : RR S d 99 66 L st h Q = kA (ai_look L 0) (fun x => RR S d 99 67 L (x :: st) h Q) := RR.lda_n rfl rfl rfl
theorem r99_67 {a : Nat} : RR S d 99 67 L (.ref a :: st) h Q = kO (ai_fld h a 9 5) (fun w => RR S d 99 70 L (w :: st) h Q) := RR.get rfl rfl rfl
theorem r99_70 : RR S d 99 70 L st h Q = RR S d 99 73 L (.ref h.1.length :: st) (h.1 ++ [.inr (1, [.int 0, .int 0, .int 0, .int 0, .null, .null, .int 0, .int 0, .int 0])], h.2 + 9) Q := RR.do1 (73, L, .ref h.1.length :: st, (h.1 ++ [.inr (1, [.int 0, .int 0, .int 0, .int 0, .null, .null, .int 0, .int 0, .int 0])], h.2 + 9)) rfl rfl rfl
theorem r99_73 {v : Value} (hv : v.category = 1) : RR S d 99 73 L (v :: st) h Q = RR S d 99 74 L (v :: v :: st) h Q := RR.dup rfl hv rfl
theorem r99_74 : RR S d 99 74 L st h Q = kI (ai_look L 1) (fun x => RR S d 99 75 L (.int x :: st) h Q) := RR.ldi_n rfl rfl rfl
theorem r99_75 : RR S d 99 75 L st h Q = kI (ai_look L 2) (fun x => RR S d 99 76 L (.int x :: st) h Q) := RR.ldi_n rfl rfl rfl
theorem r99_76 : RR S d 99 76 L st h Q = kI (ai_look L 3) (fun x => RR S d 99 77 L (.int x :: st) h Q) := RR.ldi_n rfl rfl rfl
theorem r99_77 : RR S d 99 77 L st h Q = kI (ai_look L 4) (fun x => RR S d 99 79 L (.int x :: st) h Q) := RR.ldi rfl rfl
theorem r99_79 {p0 : Int32} {p1 : Int32} {p2 : Int32} {p3 : Int32} {a : Nat} : RR S (d + 1) 99 79 L (.int p3 :: .int p2 :: .int p1 :: .int p0 :: .ref a :: st) h Q = kB (decide (ai_sum st ≤ 8)) (RR S d 5 0 [(0, .ref a), (1, .int p0), (2, .int p1), (3, .int p2), (4, .int p3)] [] h (fun r h1 => RR S (d + 1) 99 82 L (r.toList ++ st) h1 Q)) := RR.ci (j := 206) (mn' := 5) (n := 4) rfl rfl rfl rfl rfl rfl rfl
theorem r99_82 {p0 : Nat} {a : Nat} : RR S (d + 1) 99 82 L (.ref p0 :: .ref a :: st) h Q = kB (decide (ai_sum st ≤ 8)) (kB ((ai_obj h a 4).isSome) (RR S d 39 0 [(0, .ref a), (1, .ref p0)] [] h (fun r h1 => RR S (d + 1) 99 85 L (r.toList ++ st) h1 Q))) := RR.cv (j := 209) (mn' := 39) (n := 1) rfl rfl rfl rfl rfl rfl
theorem r99_85 {x : Int32} : RR S d 99 85 L [.int x] h Q = Q (some (.int x)) h := RR.rt rfl rfl rfl
theorem r100_0 : RR S d 100 0 L st h Q = kA (ai_look L 0) (fun x => RR S d 100 1 L (x :: st) h Q) := RR.lda_n rfl rfl rfl
theorem r100_1 {a : Nat} : RR S d 100 1 L (.ref a :: st) h Q = kO (ai_fld h a 9 2) (fun w => RR S d 100 4 L (w :: st) h Q) := RR.get rfl rfl rfl
theorem r100_4 : RR S d 100 4 L st h Q = kI (ai_look L 1) (fun x => RR S d 100 5 L (.int x :: st) h Q) := RR.ldi_n rfl rfl rfl
theorem r100_5 {p0 : Int32} {a : Nat} : RR S (d + 1) 100 5 L (.int p0 :: .ref a :: st) h Q = kB (decide (ai_sum st ≤ 8)) (kB ((ai_obj h a 7).isSome) (RR S d 67 0 [(0, .ref a), (1, .int p0)] [] h (fun r h1 => RR S (d + 1) 100 8 L (r.toList ++ st) h1 Q))) := RR.cv (j := 133) (mn' := 67) (n := 1) rfl rfl rfl rfl rfl rfl
theorem r100_8 {x : Nat} : RR S d 100 8 L (.ref x :: st) h Q = RR S d 100 10 (ai_put 4 (.ref x) L) st h Q := RR.do1 (10, ai_put 4 (.ref x) L, st, h) rfl rfl rfl
theorem r100_8n : RR S d 100 8 L (.null :: st) h Q = RR S d 100 10 (ai_put 4 .null L) st h Q := RR.do1 (10, ai_put 4 .null L, st, h) rfl rfl rfl
theorem r100_8f {u : UInt32} : RR S d 100 8 L (.float u :: st) h Q = RR S d 100 10 (ai_put 4 (.float u) L) st h Q := RR.do1 (10, ai_put 4 (.float u) L, st, h) rfl rfl rfl
theorem r100_10 : RR S d 100 10 L st h Q = kA (ai_look L 4) (fun x => RR S d 100 12 L (x :: st) h Q) := RR.lda rfl rfl
theorem r100_12 {x : Nat} : RR S d 100 12 L (.ref x :: st) h Q = RR S d 100 15 L st h Q := RR.nul (b := false) (off := 13) (tgt := 25) rfl rfl rfl (by decide) rfl rfl
theorem r100_12n : RR S d 100 12 L (.null :: st) h Q = RR S d 100 25 L st h Q := RR.nul (b := true) (off := 13) (tgt := 25) rfl rfl rfl (by decide) rfl rfl
theorem r100_15 : RR S d 100 15 L st h Q = kI (ai_look L 2) (fun x => RR S d 100 16 L (.int x :: st) h Q) := RR.ldi_n rfl rfl rfl
theorem r100_16 : RR S d 100 16 L st h Q = RR S d 100 17 L (.int 0 :: st) h Q := RR.icn (n := 0) rfl (by decide) rfl
theorem r100_17 : RR S d 100 17 L st h Q = RR S d 100 19 L (.int 99 :: st) h Q := RR.bip (n := 99) rfl (by decide) rfl
theorem r100_19 {p0 : Int32} {p1 : Int32} {p2 : Int32} : RR S (d + 1) 100 19 L (.int p2 :: .int p1 :: .int p0 :: st) h Q = kB (decide (ai_sum st ≤ 8)) (RR S d 110 0 [(0, .int p0), (1, .int p1), (2, .int p2)] [] h (fun r h1 => RR S (d + 1) 100 22 L (r.toList ++ st) h1 Q)) := RR.cs (j := 57) (mn' := 110) (n := 3) rfl rfl rfl rfl (by simp) rfl rfl
theorem r100_22 {x : Int32} : RR S d 100 22 L (.int x :: st) h Q = if ¬ x = 0 then RR S d 100 29 L st h Q else RR S d 100 25 L st h Q := RR.b1 (c := .ne) (off := 7) rfl rfl (by decide) rfl
theorem r100_25 : RR S d 100 25 L st h Q = RR S d 100 28 L (.int (-1000) :: st) h Q := RR.sip (n := (-1000)) rfl (by decide) rfl
theorem r100_28 {x : Int32} : RR S d 100 28 L [.int x] h Q = Q (some (.int x)) h := RR.rt rfl rfl rfl
theorem r100_29 : RR S d 100 29 L st h Q = kA (ai_look L 4) (fun x => RR S d 100 31 L (x :: st) h Q) := RR.lda rfl rfl
theorem r100_31 {a : Nat} : RR S (d + 1) 100 31 L (.ref a :: st) h Q = kB (decide (ai_sum st ≤ 8)) (kB ((ai_obj h a 6).isSome) (RR S d 63 0 [(0, .ref a)] [] h (fun r h1 => RR S (d + 1) 100 34 L (r.toList ++ st) h1 Q))) := RR.cv (j := 159) (mn' := 63) (n := 0) rfl rfl rfl rfl rfl rfl
theorem r100_34 {x : Int32} : RR S d 100 34 L (.int x :: st) h Q = RR S d 100 36 (ai_put 5 (.int x) L) st h Q := RR.do1 (36, ai_put 5 (.int x) L, st, h) rfl rfl rfl
theorem r100_36 : RR S d 100 36 L st h Q = kI (ai_look L 3) (fun x => RR S d 100 37 L (.int x :: st) h Q) := RR.ldi_n rfl rfl rfl
theorem r100_37 : RR S d 100 37 L st h Q = RR S d 100 39 L (.int 9 :: st) h Q := RR.bip (n := 9) rfl (by decide) rfl
theorem r100_39 {x y : Int32} : RR S d 100 39 L (.int y :: .int x :: st) h Q = if ¬ x = y then RR S d 100 84 L st h Q else RR S d 100 42 L st h Q := RR.b2 (c := .ne) (off := 45) rfl rfl (by decide) rfl
theorem r100_42 : RR S d 100 42 L st h Q = kI (ai_look L 5) (fun x => RR S d 100 44 L (.int x :: st) h Q) := RR.ldi rfl rfl
theorem r100_44 {p0 : Int32} : RR S (d + 1) 100 44 L (.int p0 :: st) h Q = kB (decide (ai_sum st ≤ 8)) (RR S d 74 0 [(0, .int p0)] [] h (fun r h1 => RR S (d + 1) 100 47 L (r.toList ++ st) h1 Q)) := RR.cs (j := 165) (mn' := 74) (n := 1) rfl rfl rfl rfl (by simp) rfl rfl
theorem r100_47 : RR S d 100 47 L st h Q = RR S d 100 48 L (.int 1 :: st) h Q := RR.icn (n := 1) rfl (by decide) rfl
theorem r100_48 {x y : Int32} : RR S d 100 48 L (.int y :: .int x :: st) h Q = RR S d 100 49 L (.int (x - y) :: st) h Q := RR.do1 (49, L, .int (x - y) :: st, h) rfl rfl rfl
theorem r100_49 {x : Int32} : RR S d 100 49 L (.int x :: st) h Q = RR S d 100 51 (ai_put 6 (.int x) L) st h Q := RR.do1 (51, ai_put 6 (.int x) L, st, h) rfl rfl rfl
theorem r100_51 : RR S d 100 51 L st h Q = kA (ai_look L 0) (fun x => RR S d 100 52 L (x :: st) h Q) := RR.lda_n rfl rfl rfl
theorem r100_52 {a : Nat} : RR S d 100 52 L (.ref a :: st) h Q = kO (ai_fld h a 9 0) (fun w => RR S d 100 55 L (w :: st) h Q) := RR.get rfl rfl rfl
theorem r100_55 : RR S d 100 55 L st h Q = kA (ai_look L 4) (fun x => RR S d 100 57 L (x :: st) h Q) := RR.lda rfl rfl
theorem r100_57 : RR S d 100 57 L st h Q = kI (ai_look L 2) (fun x => RR S d 100 58 L (.int x :: st) h Q) := RR.ldi_n rfl rfl rfl
theorem r100_58 : RR S d 100 58 L st h Q = kI (ai_look L 6) (fun x => RR S d 100 60 L (.int x :: st) h Q) := RR.ldi rfl rfl
theorem r100_60 {p0 : Nat} {p1 : Int32} {p2 : Int32} {a : Nat} : RR S (d + 1) 100 60 L (.int p2 :: .int p1 :: .ref p0 :: .ref a :: st) h Q = kB (decide (ai_sum st ≤ 8)) (kB ((ai_obj h a 2).isSome) (RR S d 26 0 [(0, .ref a), (1, .ref p0), (2, .int p1), (3, .int p2)] [] h (fun r h1 => RR S (d + 1) 100 63 L (r.toList ++ st) h1 Q))) := RR.cv (j := 212) (mn' := 26) (n := 3) rfl rfl rfl rfl rfl rfl
theorem r100_63 : RR S d 100 63 L st h Q = kA (ai_look L 0) (fun x => RR S d 100 64 L (x :: st) h Q) := RR.lda_n rfl rfl rfl
theorem r100_64 {a : Nat} : RR S d 100 64 L (.ref a :: st) h Q = kO (ai_fld h a 9 0) (fun w => RR S d 100 67 L (w :: st) h Q) := RR.get rfl rfl rfl
theorem r100_67 : RR S d 100 67 L st h Q = kI (ai_look L 5) (fun x => RR S d 100 69 L (.int x :: st) h Q) := RR.ldi rfl rfl
theorem r100_69 : RR S d 100 69 L st h Q = kI (ai_look L 6) (fun x => RR S d 100 71 L (.int x :: st) h Q) := RR.ldi rfl rfl
theorem r100_71 {p0 : Int32} {p1 : Int32} : RR S (d + 1) 100 71 L (.int p1 :: .int p0 :: st) h Q = kB (decide (ai_sum st ≤ 8)) (RR S d 73 0 [(0, .int p0), (1, .int p1)] [] h (fun r h1 => RR S (d + 1) 100 74 L (r.toList ++ st) h1 Q)) := RR.cs (j := 107) (mn' := 73) (n := 2) rfl rfl rfl rfl (by simp) rfl rfl
theorem r100_74 : RR S d 100 74 L st h Q = kA (ai_look L 4) (fun x => RR S d 100 76 L (x :: st) h Q) := RR.lda rfl rfl
theorem r100_76 {a : Nat} : RR S d 100 76 L (.ref a :: st) h Q = kO (ai_fld h a 6 0) (fun w => RR S d 100 79 L (w :: st) h Q) := RR.get rfl rfl rfl
theorem r100_79 {p0 : Int32} {p1 : Int32} {a : Nat} : RR S (d + 1) 100 79 L (.int p1 :: .int p0 :: .ref a :: st) h Q = kB (decide (ai_sum st ≤ 8)) (kB ((ai_obj h a 2).isSome) (RR S d 21 0 [(0, .ref a), (1, .int p0), (2, .int p1)] [] h (fun r h1 => RR S (d + 1) 100 82 L (r.toList ++ st) h1 Q))) := RR.cv (j := 219) (mn' := 21) (n := 2) rfl rfl rfl rfl rfl rfl
theorem r100_82 {x y : Int32} : RR S d 100 82 L (.int y :: .int x :: st) h Q = RR S d 100 83 L (.int (x + y) :: st) h Q := RR.do1 (83, L, .int (x + y) :: st, h) rfl rfl rfl
theorem r100_83 {x : Int32} : RR S d 100 83 L [.int x] h Q = Q (some (.int x)) h := RR.rt rfl rfl rfl
theorem r100_84 : RR S d 100 84 L st h Q = kI (ai_look L 5) (fun x => RR S d 100 86 L (.int x :: st) h Q) := RR.ldi rfl rfl
theorem r100_86 : RR S d 100 86 L st h Q = kI (ai_look L 3) (fun x => RR S d 100 87 L (.int x :: st) h Q) := RR.ldi_n rfl rfl rfl
theorem r100_87 {p0 : Int32} {p1 : Int32} : RR S (d + 1) 100 87 L (.int p1 :: .int p0 :: st) h Q = kB (decide (ai_sum st ≤ 8)) (RR S d 75 0 [(0, .int p0), (1, .int p1)] [] h (fun r h1 => RR S (d + 1) 100 90 L (r.toList ++ st) h1 Q)) := RR.cs (j := 168) (mn' := 75) (n := 2) rfl rfl rfl rfl (by simp) rfl rfl
theorem r100_90 {x : Int32} : RR S d 100 90 L (.int x :: st) h Q = if x = 0 then RR S d 100 107 L st h Q else RR S d 100 93 L st h Q := RR.b1 (c := .eq) (off := 17) rfl rfl (by decide) rfl
theorem r100_93 : RR S d 100 93 L st h Q = kA (ai_look L 0) (fun x => RR S d 100 94 L (x :: st) h Q) := RR.lda_n rfl rfl rfl
theorem r100_94 {a : Nat} : RR S d 100 94 L (.ref a :: st) h Q = kO (ai_fld h a 9 0) (fun w => RR S d 100 97 L (w :: st) h Q) := RR.get rfl rfl rfl
theorem r100_97 : RR S d 100 97 L st h Q = kA (ai_look L 4) (fun x => RR S d 100 99 L (x :: st) h Q) := RR.lda rfl rfl
theorem r100_99 : RR S d 100 99 L st h Q = kI (ai_look L 2) (fun x => RR S d 100 100 L (.int x :: st) h Q) := RR.ldi_n rfl rfl rfl
theorem r100_100 : RR S d 100 100 L st h Q = kI (ai_look L 3) (fun x => RR S d 100 101 L (.int x :: st) h Q) := RR.ldi_n rfl rfl rfl
theorem r100_101 {p0 : Nat} {p1 : Int32} {p2 : Int32} {a : Nat} : RR S (d + 1) 100 101 L (.int p2 :: .int p1 :: .ref p0 :: .ref a :: st) h Q = kB (decide (ai_sum st ≤ 8)) (kB ((ai_obj h a 2).isSome) (RR S d 26 0 [(0, .ref a), (1, .ref p0), (2, .int p1), (3, .int p2)] [] h (fun r h1 => RR S (d + 1) 100 104 L (r.toList ++ st) h1 Q))) := RR.cv (j := 212) (mn' := 26) (n := 3) rfl rfl rfl rfl rfl rfl
theorem r100_104 : RR S d 100 104 L st h Q = RR S d 100 110 L st h Q := RR.jmp (off := 6) rfl (by decide)
theorem r100_107 : RR S d 100 107 L st h Q = RR S d 100 110 L (.int (-1000) :: st) h Q := RR.sip (n := (-1000)) rfl (by decide) rfl
theorem r100_110 {x : Int32} : RR S d 100 110 L [.int x] h Q = Q (some (.int x)) h := RR.rt rfl rfl rfl
theorem r101_0 : RR S d 101 0 L st h Q = kA (ai_look L 0) (fun x => RR S d 101 1 L (x :: st) h Q) := RR.lda_n rfl rfl rfl
theorem r101_1 {a : Nat} : RR S d 101 1 L (.ref a :: st) h Q = kO (ai_fld h a 9 2) (fun w => RR S d 101 4 L (w :: st) h Q) := RR.get rfl rfl rfl
theorem r101_4 : RR S d 101 4 L st h Q = kI (ai_look L 1) (fun x => RR S d 101 5 L (.int x :: st) h Q) := RR.ldi_n rfl rfl rfl
theorem r101_5 {p0 : Int32} {a : Nat} : RR S (d + 1) 101 5 L (.int p0 :: .ref a :: st) h Q = kB (decide (ai_sum st ≤ 8)) (kB ((ai_obj h a 7).isSome) (RR S d 67 0 [(0, .ref a), (1, .int p0)] [] h (fun r h1 => RR S (d + 1) 101 8 L (r.toList ++ st) h1 Q))) := RR.cv (j := 133) (mn' := 67) (n := 1) rfl rfl rfl rfl rfl rfl
theorem r101_8 {x : Nat} : RR S d 101 8 L (.ref x :: st) h Q = RR S d 101 10 (ai_put 4 (.ref x) L) st h Q := RR.do1 (10, ai_put 4 (.ref x) L, st, h) rfl rfl rfl
theorem r101_8n : RR S d 101 8 L (.null :: st) h Q = RR S d 101 10 (ai_put 4 .null L) st h Q := RR.do1 (10, ai_put 4 .null L, st, h) rfl rfl rfl
theorem r101_8f {u : UInt32} : RR S d 101 8 L (.float u :: st) h Q = RR S d 101 10 (ai_put 4 (.float u) L) st h Q := RR.do1 (10, ai_put 4 (.float u) L, st, h) rfl rfl rfl
theorem r101_10 : RR S d 101 10 L st h Q = kA (ai_look L 4) (fun x => RR S d 101 12 L (x :: st) h Q) := RR.lda rfl rfl
theorem r101_12 {x : Nat} : RR S d 101 12 L (.ref x :: st) h Q = RR S d 101 15 L st h Q := RR.nul (b := false) (off := 13) (tgt := 25) rfl rfl rfl (by decide) rfl rfl
theorem r101_12n : RR S d 101 12 L (.null :: st) h Q = RR S d 101 25 L st h Q := RR.nul (b := true) (off := 13) (tgt := 25) rfl rfl rfl (by decide) rfl rfl
theorem r101_15 : RR S d 101 15 L st h Q = kI (ai_look L 2) (fun x => RR S d 101 16 L (.int x :: st) h Q) := RR.ldi_n rfl rfl rfl
theorem r101_16 : RR S d 101 16 L st h Q = RR S d 101 17 L (.int 0 :: st) h Q := RR.icn (n := 0) rfl (by decide) rfl
theorem r101_17 : RR S d 101 17 L st h Q = RR S d 101 19 L (.int 99 :: st) h Q := RR.bip (n := 99) rfl (by decide) rfl
theorem r101_19 {p0 : Int32} {p1 : Int32} {p2 : Int32} : RR S (d + 1) 101 19 L (.int p2 :: .int p1 :: .int p0 :: st) h Q = kB (decide (ai_sum st ≤ 8)) (RR S d 110 0 [(0, .int p0), (1, .int p1), (2, .int p2)] [] h (fun r h1 => RR S (d + 1) 101 22 L (r.toList ++ st) h1 Q)) := RR.cs (j := 57) (mn' := 110) (n := 3) rfl rfl rfl rfl (by simp) rfl rfl
theorem r101_22 {x : Int32} : RR S d 101 22 L (.int x :: st) h Q = if ¬ x = 0 then RR S d 101 29 L st h Q else RR S d 101 25 L st h Q := RR.b1 (c := .ne) (off := 7) rfl rfl (by decide) rfl
theorem r101_25 : RR S d 101 25 L st h Q = RR S d 101 28 L (.int (-1000) :: st) h Q := RR.sip (n := (-1000)) rfl (by decide) rfl
theorem r101_28 {x : Int32} : RR S d 101 28 L [.int x] h Q = Q (some (.int x)) h := RR.rt rfl rfl rfl
theorem r101_29 : RR S d 101 29 L st h Q = kA (ai_look L 4) (fun x => RR S d 101 31 L (x :: st) h Q) := RR.lda rfl rfl
theorem r101_31 {a : Nat} : RR S (d + 1) 101 31 L (.ref a :: st) h Q = kB (decide (ai_sum st ≤ 8)) (kB ((ai_obj h a 6).isSome) (RR S d 63 0 [(0, .ref a)] [] h (fun r h1 => RR S (d + 1) 101 34 L (r.toList ++ st) h1 Q))) := RR.cv (j := 159) (mn' := 63) (n := 0) rfl rfl rfl rfl rfl rfl
theorem r101_34 {x : Int32} : RR S d 101 34 L (.int x :: st) h Q = RR S d 101 36 (ai_put 5 (.int x) L) st h Q := RR.do1 (36, ai_put 5 (.int x) L, st, h) rfl rfl rfl
theorem r101_36 : RR S d 101 36 L st h Q = kI (ai_look L 3) (fun x => RR S d 101 37 L (.int x :: st) h Q) := RR.ldi_n rfl rfl rfl
theorem r101_37 : RR S d 101 37 L st h Q = RR S d 101 38 L (.int 1 :: st) h Q := RR.icn (n := 1) rfl (by decide) rfl
theorem r101_38 {x y : Int32} : RR S d 101 38 L (.int y :: .int x :: st) h Q = if x < y then RR S d 101 50 L st h Q else RR S d 101 41 L st h Q := RR.b2 (c := .lt) (off := 12) rfl rfl (by decide) rfl
theorem r101_41 : RR S d 101 41 L st h Q = kI (ai_look L 5) (fun x => RR S d 101 43 L (.int x :: st) h Q) := RR.ldi rfl rfl
theorem r101_43 : RR S d 101 43 L st h Q = kI (ai_look L 3) (fun x => RR S d 101 44 L (.int x :: st) h Q) := RR.ldi_n rfl rfl rfl
theorem r101_44 {p0 : Int32} {p1 : Int32} : RR S (d + 1) 101 44 L (.int p1 :: .int p0 :: st) h Q = kB (decide (ai_sum st ≤ 8)) (RR S d 75 0 [(0, .int p0), (1, .int p1)] [] h (fun r h1 => RR S (d + 1) 101 47 L (r.toList ++ st) h1 Q)) := RR.cs (j := 168) (mn' := 75) (n := 2) rfl rfl rfl rfl (by simp) rfl rfl
theorem r101_47 {x : Int32} : RR S d 101 47 L (.int x :: st) h Q = if ¬ x = 0 then RR S d 101 54 L st h Q else RR S d 101 50 L st h Q := RR.b1 (c := .ne) (off := 7) rfl rfl (by decide) rfl
theorem r101_50 : RR S d 101 50 L st h Q = RR S d 101 53 L (.int (-1000) :: st) h Q := RR.sip (n := (-1000)) rfl (by decide) rfl
theorem r101_53 {x : Int32} : RR S d 101 53 L [.int x] h Q = Q (some (.int x)) h := RR.rt rfl rfl rfl
theorem r101_54 : RR S d 101 54 L st h Q = kI (ai_look L 5) (fun x => RR S d 101 56 L (.int x :: st) h Q) := RR.ldi rfl rfl
theorem r101_56 : RR S d 101 56 L st h Q = kI (ai_look L 3) (fun x => RR S d 101 57 L (.int x :: st) h Q) := RR.ldi_n rfl rfl rfl
theorem r101_57 : RR S d 101 57 L st h Q = RR S d 101 58 L (.int 1 :: st) h Q := RR.icn (n := 1) rfl (by decide) rfl
theorem r101_58 {x y : Int32} : RR S d 101 58 L (.int y :: .int x :: st) h Q = RR S d 101 59 L (.int (x - y) :: st) h Q := RR.do1 (59, L, .int (x - y) :: st, h) rfl rfl rfl
theorem r101_59 {p0 : Int32} {p1 : Int32} : RR S (d + 1) 101 59 L (.int p1 :: .int p0 :: st) h Q = kB (decide (ai_sum st ≤ 8)) (RR S d 73 0 [(0, .int p0), (1, .int p1)] [] h (fun r h1 => RR S (d + 1) 101 62 L (r.toList ++ st) h1 Q)) := RR.cs (j := 107) (mn' := 73) (n := 2) rfl rfl rfl rfl (by simp) rfl rfl
theorem r101_62 {x : Int32} : RR S d 101 62 L (.int x :: st) h Q = RR S d 101 64 (ai_put 6 (.int x) L) st h Q := RR.do1 (64, ai_put 6 (.int x) L, st, h) rfl rfl rfl
theorem r101_64 : RR S d 101 64 L st h Q = kA (ai_look L 0) (fun x => RR S d 101 65 L (x :: st) h Q) := RR.lda_n rfl rfl rfl
theorem r101_65 {a : Nat} : RR S d 101 65 L (.ref a :: st) h Q = kO (ai_fld h a 9 0) (fun w => RR S d 101 68 L (w :: st) h Q) := RR.get rfl rfl rfl
theorem r101_68 : RR S d 101 68 L st h Q = kA (ai_look L 4) (fun x => RR S d 101 70 L (x :: st) h Q) := RR.lda rfl rfl
theorem r101_70 : RR S d 101 70 L st h Q = kI (ai_look L 2) (fun x => RR S d 101 71 L (.int x :: st) h Q) := RR.ldi_n rfl rfl rfl
theorem r101_71 : RR S d 101 71 L st h Q = kI (ai_look L 3) (fun x => RR S d 101 72 L (.int x :: st) h Q) := RR.ldi_n rfl rfl rfl
theorem r101_72 : RR S d 101 72 L st h Q = RR S d 101 73 L (.int 1 :: st) h Q := RR.icn (n := 1) rfl (by decide) rfl
theorem r101_73 {x y : Int32} : RR S d 101 73 L (.int y :: .int x :: st) h Q = RR S d 101 74 L (.int (x - y) :: st) h Q := RR.do1 (74, L, .int (x - y) :: st, h) rfl rfl rfl
theorem r101_74 {p0 : Nat} {p1 : Int32} {p2 : Int32} {a : Nat} : RR S (d + 1) 101 74 L (.int p2 :: .int p1 :: .ref p0 :: .ref a :: st) h Q = kB (decide (ai_sum st ≤ 8)) (kB ((ai_obj h a 2).isSome) (RR S d 26 0 [(0, .ref a), (1, .ref p0), (2, .int p1), (3, .int p2)] [] h (fun r h1 => RR S (d + 1) 101 77 L (r.toList ++ st) h1 Q))) := RR.cv (j := 212) (mn' := 26) (n := 3) rfl rfl rfl rfl rfl rfl
theorem r101_77 : RR S d 101 77 L st h Q = kA (ai_look L 0) (fun x => RR S d 101 78 L (x :: st) h Q) := RR.lda_n rfl rfl rfl
theorem r101_78 {a : Nat} : RR S d 101 78 L (.ref a :: st) h Q = kO (ai_fld h a 9 0) (fun w => RR S d 101 81 L (w :: st) h Q) := RR.get rfl rfl rfl
theorem r101_81 : RR S d 101 81 L st h Q = kI (ai_look L 6) (fun x => RR S d 101 83 L (.int x :: st) h Q) := RR.ldi rfl rfl
theorem r101_83 : RR S d 101 83 L st h Q = kA (ai_look L 4) (fun x => RR S d 101 85 L (x :: st) h Q) := RR.lda rfl rfl
theorem r101_85 {a : Nat} : RR S d 101 85 L (.ref a :: st) h Q = kO (ai_fld h a 6 0) (fun w => RR S d 101 88 L (w :: st) h Q) := RR.get rfl rfl rfl
theorem r101_88 {p0 : Int32} {p1 : Int32} {a : Nat} : RR S (d + 1) 101 88 L (.int p1 :: .int p0 :: .ref a :: st) h Q = kB (decide (ai_sum st ≤ 8)) (kB ((ai_obj h a 2).isSome) (RR S d 21 0 [(0, .ref a), (1, .int p0), (2, .int p1)] [] h (fun r h1 => RR S (d + 1) 101 91 L (r.toList ++ st) h1 Q))) := RR.cv (j := 219) (mn' := 21) (n := 2) rfl rfl rfl rfl rfl rfl
theorem r101_91 {x y : Int32} : RR S d 101 91 L (.int y :: .int x :: st) h Q = RR S d 101 92 L (.int (x + y) :: st) h Q := RR.do1 (92, L, .int (x + y) :: st, h) rfl rfl rfl
theorem r101_92 {x : Int32} : RR S d 101 92 L (.int x :: st) h Q = RR S d 101 94 (ai_put 7 (.int x) L) st h Q := RR.do1 (94, ai_put 7 (.int x) L, st, h) rfl rfl rfl
theorem r101_94 : RR S d 101 94 L st h Q = kA (ai_look L 0) (fun x => RR S d 101 95 L (x :: st) h Q) := RR.lda_n rfl rfl rfl
theorem r101_95 {a : Nat} : RR S d 101 95 L (.ref a :: st) h Q = kO (ai_fld h a 9 0) (fun w => RR S d 101 98 L (w :: st) h Q) := RR.get rfl rfl rfl
theorem r101_98 : RR S d 101 98 L st h Q = kA (ai_look L 4) (fun x => RR S d 101 100 L (x :: st) h Q) := RR.lda rfl rfl
theorem r101_100 : RR S d 101 100 L st h Q = kI (ai_look L 2) (fun x => RR S d 101 101 L (.int x :: st) h Q) := RR.ldi_n rfl rfl rfl
theorem r101_101 : RR S d 101 101 L st h Q = kI (ai_look L 3) (fun x => RR S d 101 102 L (.int x :: st) h Q) := RR.ldi_n rfl rfl rfl
theorem r101_102 {p0 : Nat} {p1 : Int32} {p2 : Int32} {a : Nat} : RR S (d + 1) 101 102 L (.int p2 :: .int p1 :: .ref p0 :: .ref a :: st) h Q = kB (decide (ai_sum st ≤ 8)) (kB ((ai_obj h a 2).isSome) (RR S d 26 0 [(0, .ref a), (1, .ref p0), (2, .int p1), (3, .int p2)] [] h (fun r h1 => RR S (d + 1) 101 105 L (r.toList ++ st) h1 Q))) := RR.cv (j := 212) (mn' := 26) (n := 3) rfl rfl rfl rfl rfl rfl
theorem r101_105 : RR S d 101 105 L st h Q = kI (ai_look L 7) (fun x => RR S d 101 107 L (.int x :: st) h Q) := RR.ldi rfl rfl
theorem r101_107 {x y : Int32} : RR S d 101 107 L (.int y :: .int x :: st) h Q = RR S d 101 108 L (.int (x - y) :: st) h Q := RR.do1 (108, L, .int (x - y) :: st, h) rfl rfl rfl
theorem r101_108 : RR S d 101 108 L st h Q = kA (ai_look L 0) (fun x => RR S d 101 109 L (x :: st) h Q) := RR.lda_n rfl rfl rfl
theorem r101_109 {a : Nat} : RR S d 101 109 L (.ref a :: st) h Q = kO (ai_fld h a 9 0) (fun w => RR S d 101 112 L (w :: st) h Q) := RR.get rfl rfl rfl
theorem r101_112 : RR S d 101 112 L st h Q = kI (ai_look L 6) (fun x => RR S d 101 114 L (.int x :: st) h Q) := RR.ldi rfl rfl
theorem r101_114 {p0 : Int32} {a : Nat} : RR S (d + 1) 101 114 L (.int p0 :: .ref a :: st) h Q = kB (decide (ai_sum st ≤ 8)) (kB ((ai_obj h a 2).isSome) (RR S d 22 0 [(0, .ref a), (1, .int p0)] [] h (fun r h1 => RR S (d + 1) 101 117 L (r.toList ++ st) h1 Q))) := RR.cv (j := 222) (mn' := 22) (n := 1) rfl rfl rfl rfl rfl rfl
theorem r101_117 {x y : Int32} : RR S d 101 117 L (.int y :: .int x :: st) h Q = RR S d 101 118 L (.int (x - y) :: st) h Q := RR.do1 (118, L, .int (x - y) :: st, h) rfl rfl rfl
theorem r101_118 {x : Int32} : RR S d 101 118 L [.int x] h Q = Q (some (.int x)) h := RR.rt rfl rfl rfl
theorem r102_0 : RR S d 102 0 L st h Q = kA (ai_look L 0) (fun x => RR S d 102 1 L (x :: st) h Q) := RR.lda_n rfl rfl rfl
theorem r102_1 {a : Nat} : RR S d 102 1 L (.ref a :: st) h Q = kO (ai_fld h a 9 5) (fun w => RR S d 102 4 L (w :: st) h Q) := RR.get rfl rfl rfl
theorem r102_4 {a : Nat} : RR S (d + 1) 102 4 L (.ref a :: st) h Q = kB (decide (ai_sum st ≤ 8)) (kB ((ai_obj h a 4).isSome) (RR S d 41 0 [(0, .ref a)] [] h (fun r h1 => RR S (d + 1) 102 7 L (r.toList ++ st) h1 Q))) := RR.cv (j := 225) (mn' := 41) (n := 0) rfl rfl rfl rfl rfl rfl
theorem r102_7 : RR S d 102 7 L st h Q = kA (ai_look L 0) (fun x => RR S d 102 8 L (x :: st) h Q) := RR.lda_n rfl rfl rfl
theorem r102_8 {a : Nat} : RR S d 102 8 L (.ref a :: st) h Q = kO (ai_fld h a 9 5) (fun w => RR S d 102 11 L (w :: st) h Q) := RR.get rfl rfl rfl
theorem r102_11 : RR S d 102 11 L st h Q = kI (ai_look L 1) (fun x => RR S d 102 12 L (.int x :: st) h Q) := RR.ldi_n rfl rfl rfl
theorem r102_12 {p0 : Int32} {a : Nat} : RR S (d + 1) 102 12 L (.int p0 :: .ref a :: st) h Q = kB (decide (ai_sum st ≤ 8)) (kB ((ai_obj h a 4).isSome) (RR S d 40 0 [(0, .ref a), (1, .int p0)] [] h (fun r h1 => RR S (d + 1) 102 15 L (r.toList ++ st) h1 Q))) := RR.cv (j := 228) (mn' := 40) (n := 1) rfl rfl rfl rfl rfl rfl
theorem r102_15 {x : Nat} : RR S d 102 15 L (.ref x :: st) h Q = RR S d 102 16 (ai_put 3 (.ref x) L) st h Q := RR.do1 (16, ai_put 3 (.ref x) L, st, h) rfl rfl rfl
theorem r102_15n : RR S d 102 15 L (.null :: st) h Q = RR S d 102 16 (ai_put 3 .null L) st h Q := RR.do1 (16, ai_put 3 .null L, st, h) rfl rfl rfl
theorem r102_15f {u : UInt32} : RR S d 102 15 L (.float u :: st) h Q = RR S d 102 16 (ai_put 3 (.float u) L) st h Q := RR.do1 (16, ai_put 3 (.float u) L, st, h) rfl rfl rfl
theorem r102_16 : RR S d 102 16 L st h Q = kA (ai_look L 3) (fun x => RR S d 102 17 L (x :: st) h Q) := RR.lda_n rfl rfl rfl
theorem r102_17 {x : Nat} : RR S d 102 17 L (.ref x :: st) h Q = RR S d 102 22 L st h Q := RR.nul (b := true) (off := 5) (tgt := 22) rfl rfl rfl (by decide) rfl rfl
theorem r102_17n : RR S d 102 17 L (.null :: st) h Q = RR S d 102 20 L st h Q := RR.nul (b := false) (off := 5) (tgt := 22) rfl rfl rfl (by decide) rfl rfl
theorem r102_20 : RR S d 102 20 L st h Q = RR S d 102 21 L (.int (-1) :: st) h Q := RR.icn (n := (-1)) rfl (by decide) rfl
theorem r102_21 {x : Int32} : RR S d 102 21 L [.int x] h Q = Q (some (.int x)) h := RR.rt rfl rfl rfl
theorem r102_22 : RR S d 102 22 L st h Q = kI (ai_look L 2) (fun x => RR S d 102 23 L (.int x :: st) h Q) := RR.ldi_n rfl rfl rfl
theorem r102_23 {x : Int32} : RR S d 102 23 L (.int x :: st) h Q = if ¬ x = 0 then RR S d 102 34 L st h Q else RR S d 102 26 L st h Q := RR.b1 (c := .ne) (off := 11) rfl rfl (by decide) rfl
theorem r102_26 : RR S d 102 26 L st h Q = kA (ai_look L 3) (fun x => RR S d 102 27 L (x :: st) h Q) := RR.lda_n rfl rfl rfl
theorem r102_27 {a : Nat} : RR S d 102 27 L (.ref a :: st) h Q = kO (ai_fld h a 1 6) (fun w => RR S d 102 30 L (w :: st) h Q) := RR.get rfl rfl rfl
theorem r102_30 {p0 : Int32} : RR S (d + 1) 102 30 L (.int p0 :: st) h Q = kB (decide (ai_sum st ≤ 8)) (RR S d 74 0 [(0, .int p0)] [] h (fun r h1 => RR S (d + 1) 102 33 L (r.toList ++ st) h1 Q)) := RR.cs (j := 165) (mn' := 74) (n := 1) rfl rfl rfl rfl (by simp) rfl rfl
theorem r102_33 {x : Int32} : RR S d 102 33 L [.int x] h Q = Q (some (.int x)) h := RR.rt rfl rfl rfl
theorem r102_34 : RR S d 102 34 L st h Q = kI (ai_look L 2) (fun x => RR S d 102 35 L (.int x :: st) h Q) := RR.ldi_n rfl rfl rfl
theorem r102_35 : RR S d 102 35 L st h Q = RR S d 102 36 L (.int 1 :: st) h Q := RR.icn (n := 1) rfl (by decide) rfl
theorem r102_36 {x y : Int32} : RR S d 102 36 L (.int y :: .int x :: st) h Q = if ¬ x = y then RR S d 102 47 L st h Q else RR S d 102 39 L st h Q := RR.b2 (c := .ne) (off := 11) rfl rfl (by decide) rfl
theorem r102_39 : RR S d 102 39 L st h Q = kA (ai_look L 3) (fun x => RR S d 102 40 L (x :: st) h Q) := RR.lda_n rfl rfl rfl
theorem r102_40 {a : Nat} : RR S d 102 40 L (.ref a :: st) h Q = kO (ai_fld h a 1 8) (fun w => RR S d 102 43 L (w :: st) h Q) := RR.get rfl rfl rfl
theorem r102_43 {p0 : Int32} : RR S (d + 1) 102 43 L (.int p0 :: st) h Q = kB (decide (ai_sum st ≤ 8)) (RR S d 111 0 [(0, .int p0)] [] h (fun r h1 => RR S (d + 1) 102 46 L (r.toList ++ st) h1 Q)) := RR.cs (j := 238) (mn' := 111) (n := 1) rfl rfl rfl rfl (by simp) rfl rfl
theorem r102_46 {x : Int32} : RR S d 102 46 L [.int x] h Q = Q (some (.int x)) h := RR.rt rfl rfl rfl
theorem r102_47 : RR S d 102 47 L st h Q = kI (ai_look L 2) (fun x => RR S d 102 48 L (.int x :: st) h Q) := RR.ldi_n rfl rfl rfl
theorem r102_48 : RR S d 102 48 L st h Q = RR S d 102 50 L (.int 10 :: st) h Q := RR.bip (n := 10) rfl (by decide) rfl
theorem r102_50 : RR S d 102 50 L st h Q = RR S d 102 52 L (.int 13 :: st) h Q := RR.bip (n := 13) rfl (by decide) rfl
theorem r102_52 {p0 : Int32} {p1 : Int32} {p2 : Int32} : RR S (d + 1) 102 52 L (.int p2 :: .int p1 :: .int p0 :: st) h Q = kB (decide (ai_sum st ≤ 8)) (RR S d 110 0 [(0, .int p0), (1, .int p1), (2, .int p2)] [] h (fun r h1 => RR S (d + 1) 102 55 L (r.toList ++ st) h1 Q)) := RR.cs (j := 57) (mn' := 110) (n := 3) rfl rfl rfl rfl (by simp) rfl rfl
theorem r102_55 {x : Int32} : RR S d 102 55 L (.int x :: st) h Q = if x = 0 then RR S d 102 70 L st h Q else RR S d 102 58 L st h Q := RR.b1 (c := .eq) (off := 15) rfl rfl (by decide) rfl
theorem r102_58 : RR S d 102 58 L st h Q = kA (ai_look L 3) (fun x => RR S d 102 59 L (x :: st) h Q) := RR.lda_n rfl rfl rfl
theorem r102_59 {a : Nat} : RR S d 102 59 L (.ref a :: st) h Q = kO (ai_fld h a 1 6) (fun w => RR S d 102 62 L (w :: st) h Q) := RR.get rfl rfl rfl
theorem r102_62 : RR S d 102 62 L st h Q = kI (ai_look L 2) (fun x => RR S d 102 63 L (.int x :: st) h Q) := RR.ldi_n rfl rfl rfl
theorem r102_63 : RR S d 102 63 L st h Q = RR S d 102 65 L (.int 10 :: st) h Q := RR.bip (n := 10) rfl (by decide) rfl
theorem r102_65 {x y : Int32} : RR S d 102 65 L (.int y :: .int x :: st) h Q = RR S d 102 66 L (.int (x - y) :: st) h Q := RR.do1 (66, L, .int (x - y) :: st, h) rfl rfl rfl
theorem r102_66 {p0 : Int32} {p1 : Int32} : RR S (d + 1) 102 66 L (.int p1 :: .int p0 :: st) h Q = kB (decide (ai_sum st ≤ 8)) (RR S d 73 0 [(0, .int p0), (1, .int p1)] [] h (fun r h1 => RR S (d + 1) 102 69 L (r.toList ++ st) h1 Q)) := RR.cs (j := 107) (mn' := 73) (n := 2) rfl rfl rfl rfl (by simp) rfl rfl
theorem r102_69 {x : Int32} : RR S d 102 69 L [.int x] h Q = Q (some (.int x)) h := RR.rt rfl rfl rfl
theorem r102_70 : RR S d 102 70 L st h Q = kA (ai_look L 3) (fun x => RR S d 102 71 L (x :: st) h Q) := RR.lda_n rfl rfl rfl
theorem r102_71 {a : Nat} : RR S d 102 71 L (.ref a :: st) h Q = kO (ai_fld h a 1 6) (fun w => RR S d 102 74 L (w :: st) h Q) := RR.get rfl rfl rfl
theorem r102_74 : RR S d 102 74 L st h Q = kI (ai_look L 2) (fun x => RR S d 102 75 L (.int x :: st) h Q) := RR.ldi_n rfl rfl rfl
theorem r102_75 : RR S d 102 75 L st h Q = RR S d 102 77 L (.int 20 :: st) h Q := RR.bip (n := 20) rfl (by decide) rfl
theorem r102_77 {x y : Int32} : RR S d 102 77 L (.int y :: .int x :: st) h Q = RR S d 102 78 L (.int (x - y) :: st) h Q := RR.do1 (78, L, .int (x - y) :: st, h) rfl rfl rfl
theorem r102_78 {p0 : Int32} {p1 : Int32} : RR S (d + 1) 102 78 L (.int p1 :: .int p0 :: st) h Q = kB (decide (ai_sum st ≤ 8)) (RR S d 75 0 [(0, .int p0), (1, .int p1)] [] h (fun r h1 => RR S (d + 1) 102 81 L (r.toList ++ st) h1 Q)) := RR.cs (j := 168) (mn' := 75) (n := 2) rfl rfl rfl rfl (by simp) rfl rfl
theorem r102_81 {x : Int32} : RR S d 102 81 L (.int x :: st) h Q = if x = 0 then RR S d 102 97 L st h Q else RR S d 102 84 L st h Q := RR.b1 (c := .eq) (off := 16) rfl rfl (by decide) rfl
theorem r102_84 : RR S d 102 84 L st h Q = kA (ai_look L 3) (fun x => RR S d 102 85 L (x :: st) h Q) := RR.lda_n rfl rfl rfl
theorem r102_85 {a : Nat} : RR S d 102 85 L (.ref a :: st) h Q = kO (ai_fld h a 1 5) (fun w => RR S d 102 88 L (w :: st) h Q) := RR.get rfl rfl rfl
theorem r102_88 : RR S d 102 88 L st h Q = kI (ai_look L 2) (fun x => RR S d 102 89 L (.int x :: st) h Q) := RR.ldi_n rfl rfl rfl
theorem r102_89 : RR S d 102 89 L st h Q = RR S d 102 91 L (.int 20 :: st) h Q := RR.bip (n := 20) rfl (by decide) rfl
theorem r102_91 {x y : Int32} : RR S d 102 91 L (.int y :: .int x :: st) h Q = RR S d 102 92 L (.int (x - y) :: st) h Q := RR.do1 (92, L, .int (x - y) :: st, h) rfl rfl rfl
theorem r102_92 {x : Int32} {a : Nat} : RR S d 102 92 L (.int x :: .ref a :: st) h Q = kO (ai_arr h a 0) (fun q => kB (ai_in x q.1) (RR S d 102 93 L (.int (q.2 x.toNatClampNeg) :: st) h Q)) := RR.ial rfl rfl
theorem r102_92x {x : Int32} {u : UInt32} : RR S d 102 92 L (.int x :: .float u :: st) h Q = kB (ai_in x (ai_ext S u).1) (RR S d 102 93 L (.int ((ai_ext S u).2 x.toNatClampNeg) :: st) h Q) := RR.iax rfl rfl
theorem r102_93 {p0 : Int32} : RR S (d + 1) 102 93 L (.int p0 :: st) h Q = kB (decide (ai_sum st ≤ 8)) (RR S d 111 0 [(0, .int p0)] [] h (fun r h1 => RR S (d + 1) 102 96 L (r.toList ++ st) h1 Q)) := RR.cs (j := 238) (mn' := 111) (n := 1) rfl rfl rfl rfl (by simp) rfl rfl
theorem r102_96 {x : Int32} : RR S d 102 96 L [.int x] h Q = Q (some (.int x)) h := RR.rt rfl rfl rfl
theorem r102_97 : RR S d 102 97 L st h Q = kA (ai_look L 3) (fun x => RR S d 102 98 L (x :: st) h Q) := RR.lda_n rfl rfl rfl
theorem r102_98 {a : Nat} : RR S d 102 98 L (.ref a :: st) h Q = kO (ai_fld h a 1 6) (fun w => RR S d 102 101 L (w :: st) h Q) := RR.get rfl rfl rfl
theorem r102_101 : RR S d 102 101 L st h Q = kI (ai_look L 2) (fun x => RR S d 102 102 L (.int x :: st) h Q) := RR.ldi_n rfl rfl rfl
theorem r102_102 : RR S d 102 102 L st h Q = RR S d 102 104 L (.int 30 :: st) h Q := RR.bip (n := 30) rfl (by decide) rfl
theorem r102_104 {x y : Int32} : RR S d 102 104 L (.int y :: .int x :: st) h Q = RR S d 102 105 L (.int (x - y) :: st) h Q := RR.do1 (105, L, .int (x - y) :: st, h) rfl rfl rfl
theorem r102_105 {p0 : Int32} {p1 : Int32} : RR S (d + 1) 102 105 L (.int p1 :: .int p0 :: st) h Q = kB (decide (ai_sum st ≤ 8)) (RR S d 75 0 [(0, .int p0), (1, .int p1)] [] h (fun r h1 => RR S (d + 1) 102 108 L (r.toList ++ st) h1 Q)) := RR.cs (j := 168) (mn' := 75) (n := 2) rfl rfl rfl rfl (by simp) rfl rfl
theorem r102_108 {x : Int32} : RR S d 102 108 L (.int x :: st) h Q = if x = 0 then RR S d 102 126 L st h Q else RR S d 102 111 L st h Q := RR.b1 (c := .eq) (off := 18) rfl rfl (by decide) rfl
theorem r102_111 : RR S d 102 111 L st h Q = kA (ai_look L 3) (fun x => RR S d 102 112 L (x :: st) h Q) := RR.lda_n rfl rfl rfl
theorem r102_112 {a : Nat} : RR S d 102 112 L (.ref a :: st) h Q = kO (ai_fld h a 1 4) (fun w => RR S d 102 115 L (w :: st) h Q) := RR.get rfl rfl rfl
theorem r102_115 : RR S d 102 115 L st h Q = kI (ai_look L 2) (fun x => RR S d 102 116 L (.int x :: st) h Q) := RR.ldi_n rfl rfl rfl
theorem r102_116 : RR S d 102 116 L st h Q = RR S d 102 118 L (.int 30 :: st) h Q := RR.bip (n := 30) rfl (by decide) rfl
theorem r102_118 {x y : Int32} : RR S d 102 118 L (.int y :: .int x :: st) h Q = RR S d 102 119 L (.int (x - y) :: st) h Q := RR.do1 (119, L, .int (x - y) :: st, h) rfl rfl rfl
theorem r102_119 {x : Int32} {a : Nat} : RR S d 102 119 L (.int x :: .ref a :: st) h Q = kO (ai_arr h a 0) (fun q => kB (ai_in x q.1) (RR S d 102 120 L (.int (q.2 x.toNatClampNeg) :: st) h Q)) := RR.ial rfl rfl
theorem r102_119x {x : Int32} {u : UInt32} : RR S d 102 119 L (.int x :: .float u :: st) h Q = kB (ai_in x (ai_ext S u).1) (RR S d 102 120 L (.int ((ai_ext S u).2 x.toNatClampNeg) :: st) h Q) := RR.iax rfl rfl
theorem r102_120 {p0 : Int32} : RR S (d + 1) 102 120 L (.int p0 :: st) h Q = kB (decide (ai_sum st ≤ 8)) (RR S d 111 0 [(0, .int p0)] [] h (fun r h1 => RR S (d + 1) 102 123 L (r.toList ++ st) h1 Q)) := RR.cs (j := 238) (mn' := 111) (n := 1) rfl rfl rfl rfl (by simp) rfl rfl
theorem r102_123 : RR S d 102 123 L st h Q = RR S d 102 127 L st h Q := RR.jmp (off := 4) rfl (by decide)
theorem r102_126 : RR S d 102 126 L st h Q = RR S d 102 127 L (.int (-1) :: st) h Q := RR.icn (n := (-1)) rfl (by decide) rfl
theorem r102_127 {x : Int32} : RR S d 102 127 L [.int x] h Q = Q (some (.int x)) h := RR.rt rfl rfl rfl
theorem r103_0 : RR S d 103 0 L st h Q = kA (ai_look L 0) (fun x => RR S d 103 1 L (x :: st) h Q) := RR.lda_n rfl rfl rfl
theorem r103_1 {a : Nat} : RR S d 103 1 L (.ref a :: st) h Q = kO (ai_fld h a 9 0) (fun w => RR S d 103 4 L (w :: st) h Q) := RR.get rfl rfl rfl
theorem r103_4 : RR S d 103 4 L st h Q = kI (ai_look L 1) (fun x => RR S d 103 5 L (.int x :: st) h Q) := RR.ldi_n rfl rfl rfl
theorem r103_5 {p0 : Int32} {a : Nat} : RR S (d + 1) 103 5 L (.int p0 :: .ref a :: st) h Q = kB (decide (ai_sum st ≤ 8)) (kB ((ai_obj h a 2).isSome) (RR S d 15 0 [(0, .ref a), (1, .int p0)] [] h (fun r h1 => RR S (d + 1) 103 8 L (r.toList ++ st) h1 Q))) := RR.cv (j := 178) (mn' := 15) (n := 1) rfl rfl rfl rfl rfl rfl
theorem r103_8 {x : Int32} : RR S d 103 8 L (.int x :: st) h Q = if ¬ x = 0 then RR S d 103 13 L st h Q else RR S d 103 11 L st h Q := RR.b1 (c := .ne) (off := 5) rfl rfl (by decide) rfl
theorem r103_11 : RR S d 103 11 L st h Q = RR S d 103 12 L (.int (-1) :: st) h Q := RR.icn (n := (-1)) rfl (by decide) rfl
theorem r103_12 {x : Int32} : RR S d 103 12 L [.int x] h Q = Q (some (.int x)) h := RR.rt rfl rfl rfl
theorem r103_13 : RR S d 103 13 L st h Q = kA (ai_look L 0) (fun x => RR S d 103 14 L (x :: st) h Q) := RR.lda_n rfl rfl rfl
theorem r103_14 {a : Nat} : RR S d 103 14 L (.ref a :: st) h Q = kO (ai_fld h a 9 5) (fun w => RR S d 103 17 L (w :: st) h Q) := RR.get rfl rfl rfl
theorem r103_17 {a : Nat} : RR S (d + 1) 103 17 L (.ref a :: st) h Q = kB (decide (ai_sum st ≤ 8)) (kB ((ai_obj h a 4).isSome) (RR S d 41 0 [(0, .ref a)] [] h (fun r h1 => RR S (d + 1) 103 20 L (r.toList ++ st) h1 Q))) := RR.cv (j := 225) (mn' := 41) (n := 0) rfl rfl rfl rfl rfl rfl
theorem r103_20 : RR S d 103 20 L st h Q = kA (ai_look L 0) (fun x => RR S d 103 21 L (x :: st) h Q) := RR.lda_n rfl rfl rfl
theorem r103_21 {a : Nat} : RR S d 103 21 L (.ref a :: st) h Q = kO (ai_fld h a 9 5) (fun w => RR S d 103 24 L (w :: st) h Q) := RR.get rfl rfl rfl
theorem r103_24 : RR S d 103 24 L st h Q = kI (ai_look L 1) (fun x => RR S d 103 25 L (.int x :: st) h Q) := RR.ldi_n rfl rfl rfl
theorem r103_25 {p0 : Int32} {a : Nat} : RR S (d + 1) 103 25 L (.int p0 :: .ref a :: st) h Q = kB (decide (ai_sum st ≤ 8)) (kB ((ai_obj h a 4).isSome) (RR S d 47 0 [(0, .ref a), (1, .int p0)] [] h (fun r h1 => RR S (d + 1) 103 28 L (r.toList ++ st) h1 Q))) := RR.cv (j := 247) (mn' := 47) (n := 1) rfl rfl rfl rfl rfl rfl
theorem r103_28 {x : Int32} : RR S d 103 28 L [.int x] h Q = Q (some (.int x)) h := RR.rt rfl rfl rfl
theorem r104_0 : RR S d 104 0 L st h Q = kI (ai_look L 1) (fun x => RR S d 104 1 L (.int x :: st) h Q) := RR.ldi_n rfl rfl rfl
theorem r104_48 : RR S d 104 48 L st h Q = kA (ai_look L 0) (fun x => RR S d 104 49 L (x :: st) h Q) := RR.lda_n rfl rfl rfl
theorem r104_49 {a : Nat} : RR S d 104 49 L (.ref a :: st) h Q = kO (ai_fld h a 9 0) (fun w => RR S d 104 52 L (w :: st) h Q) := RR.get rfl rfl rfl
theorem r104_52 {a : Nat} : RR S d 104 52 L (.ref a :: st) h Q = kO (ai_fld h a 2 6) (fun w => RR S d 104 55 L (w :: st) h Q) := RR.get rfl rfl rfl
theorem r104_55 {x : Int32} : RR S d 104 55 L [.int x] h Q = Q (some (.int x)) h := RR.rt rfl rfl rfl
theorem r104_56 : RR S d 104 56 L st h Q = kA (ai_look L 0) (fun x => RR S d 104 57 L (x :: st) h Q) := RR.lda_n rfl rfl rfl
theorem r104_57 {a : Nat} : RR S d 104 57 L (.ref a :: st) h Q = kO (ai_fld h a 9 0) (fun w => RR S d 104 60 L (w :: st) h Q) := RR.get rfl rfl rfl
theorem r104_60 {a : Nat} : RR S d 104 60 L (.ref a :: st) h Q = kO (ai_fld h a 2 7) (fun w => RR S d 104 63 L (w :: st) h Q) := RR.get rfl rfl rfl
theorem r104_63 {x : Int32} : RR S d 104 63 L [.int x] h Q = Q (some (.int x)) h := RR.rt rfl rfl rfl
theorem r104_64 : RR S d 104 64 L st h Q = kA (ai_look L 0) (fun x => RR S d 104 65 L (x :: st) h Q) := RR.lda_n rfl rfl rfl
theorem r104_65 {a : Nat} : RR S d 104 65 L (.ref a :: st) h Q = kO (ai_fld h a 9 0) (fun w => RR S d 104 68 L (w :: st) h Q) := RR.get rfl rfl rfl
theorem r104_68 {a : Nat} : RR S d 104 68 L (.ref a :: st) h Q = kO (ai_fld h a 2 8) (fun w => RR S d 104 71 L (w :: st) h Q) := RR.get rfl rfl rfl
theorem r104_71 {x : Int32} : RR S d 104 71 L [.int x] h Q = Q (some (.int x)) h := RR.rt rfl rfl rfl
theorem r104_72 : RR S d 104 72 L st h Q = kA (ai_look L 0) (fun x => RR S d 104 73 L (x :: st) h Q) := RR.lda_n rfl rfl rfl
theorem r104_73 {a : Nat} : RR S d 104 73 L (.ref a :: st) h Q = kO (ai_fld h a 9 0) (fun w => RR S d 104 76 L (w :: st) h Q) := RR.get rfl rfl rfl
theorem r104_76 {a : Nat} : RR S d 104 76 L (.ref a :: st) h Q = kO (ai_fld h a 2 9) (fun w => RR S d 104 79 L (w :: st) h Q) := RR.get rfl rfl rfl
theorem r104_79 {x : Int32} : RR S d 104 79 L [.int x] h Q = Q (some (.int x)) h := RR.rt rfl rfl rfl
theorem r104_80 : RR S d 104 80 L st h Q = kA (ai_look L 0) (fun x => RR S d 104 81 L (x :: st) h Q) := RR.lda_n rfl rfl rfl
theorem r104_81 {a : Nat} : RR S d 104 81 L (.ref a :: st) h Q = kO (ai_fld h a 9 2) (fun w => RR S d 104 84 L (w :: st) h Q) := RR.get rfl rfl rfl
theorem r104_84 {a : Nat} : RR S d 104 84 L (.ref a :: st) h Q = kO (ai_fld h a 7 1) (fun w => RR S d 104 87 L (w :: st) h Q) := RR.get rfl rfl rfl
theorem r104_87 {x : Int32} : RR S d 104 87 L [.int x] h Q = Q (some (.int x)) h := RR.rt rfl rfl rfl
theorem r104_88 : RR S d 104 88 L st h Q = kA (ai_look L 0) (fun x => RR S d 104 89 L (x :: st) h Q) := RR.lda_n rfl rfl rfl
theorem r104_89 {a : Nat} : RR S d 104 89 L (.ref a :: st) h Q = kO (ai_fld h a 9 2) (fun w => RR S d 104 92 L (w :: st) h Q) := RR.get rfl rfl rfl
theorem r104_92 {a : Nat} : RR S (d + 1) 104 92 L (.ref a :: st) h Q = kB (decide (ai_sum st ≤ 8)) (kB ((ai_obj h a 7).isSome) (RR S d 69 0 [(0, .ref a)] [] h (fun r h1 => RR S (d + 1) 104 95 L (r.toList ++ st) h1 Q))) := RR.cv (j := 256) (mn' := 69) (n := 0) rfl rfl rfl rfl rfl rfl
theorem r104_95 {p0 : Int32} : RR S (d + 1) 104 95 L (.int p0 :: st) h Q = kB (decide (ai_sum st ≤ 8)) (RR S d 161 0 [(0, .int p0)] [] h (fun r h1 => RR S (d + 1) 104 98 L (r.toList ++ st) h1 Q)) := RR.cs (j := 259) (mn' := 161) (n := 1) rfl rfl rfl rfl (by simp) rfl rfl
theorem r104_98 {x : Int32} : RR S d 104 98 L [.int x] h Q = Q (some (.int x)) h := RR.rt rfl rfl rfl
theorem r104_99 : RR S d 104 99 L st h Q = kA (ai_look L 0) (fun x => RR S d 104 100 L (x :: st) h Q) := RR.lda_n rfl rfl rfl
theorem r104_100 {a : Nat} : RR S d 104 100 L (.ref a :: st) h Q = kO (ai_fld h a 9 5) (fun w => RR S d 104 103 L (w :: st) h Q) := RR.get rfl rfl rfl
theorem r104_103 {a : Nat} : RR S d 104 103 L (.ref a :: st) h Q = kO (ai_fld h a 4 7) (fun w => RR S d 104 106 L (w :: st) h Q) := RR.get rfl rfl rfl
theorem r104_106 {x : Int32} : RR S d 104 106 L [.int x] h Q = Q (some (.int x)) h := RR.rt rfl rfl rfl
theorem r104_107 : RR S d 104 107 L st h Q = kA (ai_look L 0) (fun x => RR S d 104 108 L (x :: st) h Q) := RR.lda_n rfl rfl rfl
theorem r104_108 {a : Nat} : RR S d 104 108 L (.ref a :: st) h Q = kO (ai_fld h a 9 5) (fun w => RR S d 104 111 L (w :: st) h Q) := RR.get rfl rfl rfl
theorem r104_111 {a : Nat} : RR S (d + 1) 104 111 L (.ref a :: st) h Q = kB (decide (ai_sum st ≤ 8)) (kB ((ai_obj h a 4).isSome) (RR S d 41 0 [(0, .ref a)] [] h (fun r h1 => RR S (d + 1) 104 114 L (r.toList ++ st) h1 Q))) := RR.cv (j := 225) (mn' := 41) (n := 0) rfl rfl rfl rfl rfl rfl
theorem r104_114 : RR S d 104 114 L st h Q = kA (ai_look L 0) (fun x => RR S d 104 115 L (x :: st) h Q) := RR.lda_n rfl rfl rfl
theorem r104_115 {a : Nat} : RR S d 104 115 L (.ref a :: st) h Q = kO (ai_fld h a 9 5) (fun w => RR S d 104 118 L (w :: st) h Q) := RR.get rfl rfl rfl
theorem r104_118 {a : Nat} : RR S (d + 1) 104 118 L (.ref a :: st) h Q = kB (decide (ai_sum st ≤ 8)) (kB ((ai_obj h a 4).isSome) (RR S d 49 0 [(0, .ref a)] [] h (fun r h1 => RR S (d + 1) 104 121 L (r.toList ++ st) h1 Q))) := RR.cv (j := 264) (mn' := 49) (n := 0) rfl rfl rfl rfl rfl rfl
theorem r104_121 {x : Int32} : RR S d 104 121 L [.int x] h Q = Q (some (.int x)) h := RR.rt rfl rfl rfl
theorem r104_122 : RR S d 104 122 L st h Q = RR S d 104 123 L (.int (-1) :: st) h Q := RR.icn (n := (-1)) rfl (by decide) rfl
theorem r104_123 {x : Int32} : RR S d 104 123 L [.int x] h Q = Q (some (.int x)) h := RR.rt rfl rfl rfl
theorem r105_0 : RR S d 105 0 L st h Q = kA (ai_look L 0) (fun x => RR S d 105 1 L (x :: st) h Q) := RR.lda_n rfl rfl rfl
theorem r105_1 {a : Nat} : RR S d 105 1 L (.ref a :: st) h Q = kO (ai_fld h a 9 1) (fun w => RR S d 105 4 L (w :: st) h Q) := RR.get rfl rfl rfl
theorem r105_4 : RR S d 105 4 L st h Q = kI (ai_look L 2) (fun x => RR S d 105 5 L (.int x :: st) h Q) := RR.ldi_n rfl rfl rfl
theorem r105_5 : RR S d 105 5 L st h Q = kI (ai_look L 3) (fun x => RR S d 105 6 L (.int x :: st) h Q) := RR.ldi_n rfl rfl rfl
theorem r105_6 : RR S d 105 6 L st h Q = kA (ai_look L 1) (fun x => RR S d 105 7 L (x :: st) h Q) := RR.lda_n rfl rfl rfl
theorem r105_7 {a : Nat} : RR S d 105 7 L (.ref a :: st) h Q = kO (ai_fld h a 6 0) (fun w => RR S d 105 10 L (w :: st) h Q) := RR.get rfl rfl rfl
theorem r105_10 : RR S d 105 10 L st h Q = RR S d 105 11 L (.int (-1) :: st) h Q := RR.icn (n := (-1)) rfl (by decide) rfl
theorem r105_11 {p0 : Int32} {p1 : Int32} {p2 : Int32} {p3 : Int32} {a : Nat} : RR S (d + 1) 105 11 L (.int p3 :: .int p2 :: .int p1 :: .int p0 :: .ref a :: st) h Q = kB (decide (ai_sum st ≤ 8)) (kB ((ai_obj h a 8).isSome) (RR S d 79 0 [(0, .ref a), (1, .int p0), (2, .int p1), (3, .int p2), (4, .int p3)] [] h (fun r h1 => RR S (d + 1) 105 14 L (r.toList ++ st) h1 Q))) := RR.cv (j := 114) (mn' := 79) (n := 4) rfl rfl rfl rfl rfl rfl
theorem r105_14 {x : Int32} : RR S d 105 14 L (.int x :: st) h Q = RR S d 105 16 (ai_put 5 (.int x) L) st h Q := RR.do1 (16, ai_put 5 (.int x) L, st, h) rfl rfl rfl
theorem r105_16 : RR S d 105 16 L st h Q = RR S d 105 17 L (.int 0 :: st) h Q := RR.icn (n := 0) rfl (by decide) rfl
theorem r105_17 {x : Int32} : RR S d 105 17 L (.int x :: st) h Q = RR S d 105 19 (ai_put 6 (.int x) L) st h Q := RR.do1 (19, ai_put 6 (.int x) L, st, h) rfl rfl rfl
theorem r105_19 : RR S d 105 19 L st h Q = kI (ai_look L 6) (fun x => RR S d 105 21 L (.int x :: st) h Q) := RR.ldi rfl rfl
theorem r105_21 : RR S d 105 21 L st h Q = RR S d 105 22 L (.int 3 :: st) h Q := RR.icn (n := 3) rfl (by decide) rfl
theorem r105_22 {x y : Int32} : RR S d 105 22 L (.int y :: .int x :: st) h Q = if y ≤ x then RR S d 105 64 L st h Q else RR S d 105 25 L st h Q := RR.b2 (c := .ge) (off := 42) rfl rfl (by decide) rfl
theorem r105_25 : RR S d 105 25 L st h Q = kI (ai_look L 5) (fun x => RR S d 105 27 L (.int x :: st) h Q) := RR.ldi rfl rfl
theorem r105_27 : RR S d 105 27 L st h Q = kI (ai_look L 4) (fun x => RR S d 105 29 L (.int x :: st) h Q) := RR.ldi rfl rfl
theorem r105_29 {p0 : Int32} {p1 : Int32} : RR S (d + 1) 105 29 L (.int p1 :: .int p0 :: st) h Q = kB (decide (ai_sum st ≤ 8)) (RR S d 107 0 [(0, .int p0), (1, .int p1)] [] h (fun r h1 => RR S (d + 1) 105 32 L (r.toList ++ st) h1 Q)) := RR.cs (j := 117) (mn' := 107) (n := 2) rfl rfl rfl rfl (by simp) rfl rfl
theorem r105_32 {x : Int32} : RR S d 105 32 L (.int x :: st) h Q = if x = 0 then RR S d 105 64 L st h Q else RR S d 105 35 L st h Q := RR.b1 (c := .eq) (off := 32) rfl rfl (by decide) rfl
theorem r105_35 : RR S d 105 35 L st h Q = kA (ai_look L 1) (fun x => RR S d 105 36 L (x :: st) h Q) := RR.lda_n rfl rfl rfl
theorem r105_36 : RR S d 105 36 L st h Q = kI (ai_look L 5) (fun x => RR S d 105 38 L (.int x :: st) h Q) := RR.ldi rfl rfl
theorem r105_38 {p0 : Int32} {a : Nat} : RR S (d + 1) 105 38 L (.int p0 :: .ref a :: st) h Q = kB (decide (ai_sum st ≤ 8)) (kB ((ai_obj h a 6).isSome) (RR S d 61 0 [(0, .ref a), (1, .int p0)] [] h (fun r h1 => RR S (d + 1) 105 41 L (r.toList ++ st) h1 Q))) := RR.cv (j := 267) (mn' := 61) (n := 1) rfl rfl rfl rfl rfl rfl
theorem r105_41 : RR S d 105 41 L st h Q = kA (ai_look L 0) (fun x => RR S d 105 42 L (x :: st) h Q) := RR.lda_n rfl rfl rfl
theorem r105_42 {a : Nat} : RR S d 105 42 L (.ref a :: st) h Q = kO (ai_fld h a 9 1) (fun w => RR S d 105 45 L (w :: st) h Q) := RR.get rfl rfl rfl
theorem r105_45 : RR S d 105 45 L st h Q = kI (ai_look L 2) (fun x => RR S d 105 46 L (.int x :: st) h Q) := RR.ldi_n rfl rfl rfl
theorem r105_46 : RR S d 105 46 L st h Q = kI (ai_look L 3) (fun x => RR S d 105 47 L (.int x :: st) h Q) := RR.ldi_n rfl rfl rfl
theorem r105_47 : RR S d 105 47 L st h Q = kA (ai_look L 1) (fun x => RR S d 105 48 L (x :: st) h Q) := RR.lda_n rfl rfl rfl
theorem r105_48 {a : Nat} : RR S d 105 48 L (.ref a :: st) h Q = kO (ai_fld h a 6 0) (fun w => RR S d 105 51 L (w :: st) h Q) := RR.get rfl rfl rfl
theorem r105_51 : RR S d 105 51 L st h Q = kI (ai_look L 5) (fun x => RR S d 105 53 L (.int x :: st) h Q) := RR.ldi rfl rfl
theorem r105_53 {p0 : Int32} {p1 : Int32} {p2 : Int32} {p3 : Int32} {a : Nat} : RR S (d + 1) 105 53 L (.int p3 :: .int p2 :: .int p1 :: .int p0 :: .ref a :: st) h Q = kB (decide (ai_sum st ≤ 8)) (kB ((ai_obj h a 8).isSome) (RR S d 79 0 [(0, .ref a), (1, .int p0), (2, .int p1), (3, .int p2), (4, .int p3)] [] h (fun r h1 => RR S (d + 1) 105 56 L (r.toList ++ st) h1 Q))) := RR.cv (j := 114) (mn' := 79) (n := 4) rfl rfl rfl rfl rfl rfl
theorem r105_56 {x : Int32} : RR S d 105 56 L (.int x :: st) h Q = RR S d 105 58 (ai_put 5 (.int x) L) st h Q := RR.do1 (58, ai_put 5 (.int x) L, st, h) rfl rfl rfl
theorem r105_58 : RR S d 105 58 L st h Q = kI (ai_look L 6) (fun x => RR S d 105 61 (ai_put 6 (.int (x + 1)) L) st h Q) := RR.iinc (k := 6) (n := 1) rfl (by decide) (by decide) rfl
theorem r105_61 : RR S d 105 61 L st h Q = RR S d 105 19 L st h Q := RR.jmp (off := (-42)) rfl (by decide)
theorem r105_64 : RR S d 105 64 L [] h Q = Q none h := RR.rt rfl rfl rfl
theorem r106_0 : RR S d 106 0 L st h Q = kI (ai_look L 1) (fun x => RR S d 106 1 L (.int x :: st) h Q) := RR.ldi_n rfl rfl rfl
theorem r106_1 : RR S d 106 1 L st h Q = RR S d 106 2 L (.int 2 :: st) h Q := RR.icn (n := 2) rfl (by decide) rfl
theorem r106_2 {x y : Int32} : RR S d 106 2 L (.int y :: .int x :: st) h Q = if x < y then RR S d 106 21 L st h Q else RR S d 106 5 L st h Q := RR.b2 (c := .lt) (off := 19) rfl rfl (by decide) rfl
theorem r106_5 : RR S d 106 5 L st h Q = kA (ai_look L 0) (fun x => RR S d 106 6 L (x :: st) h Q) := RR.lda_n rfl rfl rfl
theorem r106_6 {a : Nat} : RR S d 106 6 L (.ref a :: st) h Q = kO (ai_fld h a 9 0) (fun w => RR S d 106 9 L (w :: st) h Q) := RR.get rfl rfl rfl
theorem r106_9 {a : Nat} : RR S d 106 9 L (.ref a :: st) h Q = kO (ai_fld h a 2 8) (fun w => RR S d 106 12 L (w :: st) h Q) := RR.get rfl rfl rfl
theorem r106_12 : RR S d 106 12 L st h Q = kI (ai_look L 1) (fun x => RR S d 106 13 L (.int x :: st) h Q) := RR.ldi_n rfl rfl rfl
theorem r106_13 {x y : Int32} : RR S d 106 13 L (.int y :: .int x :: st) h Q = kB (decide (¬ y = 0)) (RR S d 106 14 L (.int (x - x / y * y) :: st) h Q) := RR.irem rfl rfl
theorem r106_14 {x : Int32} : RR S d 106 14 L (.int x :: st) h Q = if ¬ x = 0 then RR S d 106 21 L st h Q else RR S d 106 17 L st h Q := RR.b1 (c := .ne) (off := 7) rfl rfl (by decide) rfl
theorem r106_17 : RR S d 106 17 L st h Q = RR S d 106 18 L (.int 1 :: st) h Q := RR.icn (n := 1) rfl (by decide) rfl
theorem r106_18 : RR S d 106 18 L st h Q = RR S d 106 22 L st h Q := RR.jmp (off := 4) rfl (by decide)
theorem r106_21 : RR S d 106 21 L st h Q = RR S d 106 22 L (.int 0 :: st) h Q := RR.icn (n := 0) rfl (by decide) rfl
theorem r106_22f : RR S d 106 22 L [.int 0] h Q = Q (some (.int 0)) h := RR.zrt rfl rfl (by decide)
theorem r106_22t : RR S d 106 22 L [.int 1] h Q = Q (some (.int 1)) h := RR.zrt rfl rfl (by decide)
theorem r107_0 : RR S d 107 0 L st h Q = kI (ai_look L 0) (fun x => RR S d 107 1 L (.int x :: st) h Q) := RR.ldi_n rfl rfl rfl
theorem r107_1 : RR S d 107 1 L st h Q = RR S d 107 2 L (.int (-1) :: st) h Q := RR.icn (n := (-1)) rfl (by decide) rfl
theorem r107_2 {x y : Int32} : RR S d 107 2 L (.int y :: .int x :: st) h Q = if x = y then RR S d 107 17 L st h Q else RR S d 107 5 L st h Q := RR.b2 (c := .eq) (off := 15) rfl rfl (by decide) rfl
theorem r107_5 : RR S d 107 5 L st h Q = kI (ai_look L 0) (fun x => RR S d 107 6 L (.int x :: st) h Q) := RR.ldi_n rfl rfl rfl
theorem r107_6 {p0 : Int32} : RR S (d + 1) 107 6 L (.int p0 :: st) h Q = kB (decide (ai_sum st ≤ 8)) (RR S d 72 0 [(0, .int p0)] [] h (fun r h1 => RR S (d + 1) 107 9 L (r.toList ++ st) h1 Q)) := RR.cs (j := 104) (mn' := 72) (n := 1) rfl rfl rfl rfl (by simp) rfl rfl
theorem r107_9 : RR S d 107 9 L st h Q = kI (ai_look L 1) (fun x => RR S d 107 10 L (.int x :: st) h Q) := RR.ldi_n rfl rfl rfl
theorem r107_10 {x y : Int32} : RR S d 107 10 L (.int y :: .int x :: st) h Q = if y < x then RR S d 107 17 L st h Q else RR S d 107 13 L st h Q := RR.b2 (c := .gt) (off := 7) rfl rfl (by decide) rfl
theorem r107_13 : RR S d 107 13 L st h Q = RR S d 107 14 L (.int 1 :: st) h Q := RR.icn (n := 1) rfl (by decide) rfl
theorem r107_14 : RR S d 107 14 L st h Q = RR S d 107 18 L st h Q := RR.jmp (off := 4) rfl (by decide)
theorem r107_17 : RR S d 107 17 L st h Q = RR S d 107 18 L (.int 0 :: st) h Q := RR.icn (n := 0) rfl (by decide) rfl
theorem r107_18f : RR S d 107 18 L [.int 0] h Q = Q (some (.int 0)) h := RR.zrt rfl rfl (by decide)
theorem r107_18t : RR S d 107 18 L [.int 1] h Q = Q (some (.int 1)) h := RR.zrt rfl rfl (by decide)
theorem r108_0 : RR S d 108 0 L st h Q = RR S d 108 3 L (.float 1 :: st) h Q := RR.do1 (3, L, .float 1 :: st, h) rfl rfl rfl
theorem r108_3 {x : Nat} : RR S d 108 3 L (.ref x :: st) h Q = RR S d 108 4 (ai_put 1 (.ref x) L) st h Q := RR.do1 (4, ai_put 1 (.ref x) L, st, h) rfl rfl rfl
theorem r108_3n : RR S d 108 3 L (.null :: st) h Q = RR S d 108 4 (ai_put 1 .null L) st h Q := RR.do1 (4, ai_put 1 .null L, st, h) rfl rfl rfl
theorem r108_3f {u : UInt32} : RR S d 108 3 L (.float u :: st) h Q = RR S d 108 4 (ai_put 1 (.float u) L) st h Q := RR.do1 (4, ai_put 1 (.float u) L, st, h) rfl rfl rfl
theorem r108_4 : RR S d 108 4 L st h Q = kA (ai_look L 1) (fun x => RR S d 108 5 L (x :: st) h Q) := RR.lda_n rfl rfl rfl
theorem r108_5 {a : Nat} : RR S d 108 5 L (.ref a :: st) h Q = kO (ai_alen h a) (fun n => RR S d 108 6 L (.int (Int32.ofNat n) :: st) h Q) := RR.alen rfl rfl
theorem r108_5x {u : UInt32} : RR S d 108 5 L (.float u :: st) h Q = RR S d 108 6 L (.int (Int32.ofNat (ai_ext S u).1) :: st) h Q := RR.do1 (6, L, .int (Int32.ofNat (ai_ext S u).1) :: st, h) rfl rfl rfl
theorem r108_6 {x : Int32} : RR S d 108 6 L (.int x :: st) h Q = RR S d 108 7 (ai_put 2 (.int x) L) st h Q := RR.do1 (7, ai_put 2 (.int x) L, st, h) rfl rfl rfl
theorem r108_7 : RR S d 108 7 L st h Q = RR S d 108 8 L (.int 0 :: st) h Q := RR.icn (n := 0) rfl (by decide) rfl
theorem r108_8 {x : Int32} : RR S d 108 8 L (.int x :: st) h Q = RR S d 108 9 (ai_put 3 (.int x) L) st h Q := RR.do1 (9, ai_put 3 (.int x) L, st, h) rfl rfl rfl
theorem r108_9 : RR S d 108 9 L st h Q = kI (ai_look L 3) (fun x => RR S d 108 10 L (.int x :: st) h Q) := RR.ldi_n rfl rfl rfl
theorem r108_10 : RR S d 108 10 L st h Q = kI (ai_look L 2) (fun x => RR S d 108 11 L (.int x :: st) h Q) := RR.ldi_n rfl rfl rfl
theorem r108_11 {x y : Int32} : RR S d 108 11 L (.int y :: .int x :: st) h Q = if y ≤ x then RR S d 108 33 L st h Q else RR S d 108 14 L st h Q := RR.b2 (c := .ge) (off := 22) rfl rfl (by decide) rfl
theorem r108_14 : RR S d 108 14 L st h Q = kA (ai_look L 1) (fun x => RR S d 108 15 L (x :: st) h Q) := RR.lda_n rfl rfl rfl
theorem r108_15 : RR S d 108 15 L st h Q = kI (ai_look L 3) (fun x => RR S d 108 16 L (.int x :: st) h Q) := RR.ldi_n rfl rfl rfl
theorem r108_16 {x : Int32} {a : Nat} : RR S d 108 16 L (.int x :: .ref a :: st) h Q = kO (ai_arr h a 0) (fun q => kB (ai_in x q.1) (RR S d 108 17 L (.int (q.2 x.toNatClampNeg) :: st) h Q)) := RR.ial rfl rfl
theorem r108_16x {x : Int32} {u : UInt32} : RR S d 108 16 L (.int x :: .float u :: st) h Q = kB (ai_in x (ai_ext S u).1) (RR S d 108 17 L (.int ((ai_ext S u).2 x.toNatClampNeg) :: st) h Q) := RR.iax rfl rfl
theorem r108_17 {x : Int32} : RR S d 108 17 L (.int x :: st) h Q = RR S d 108 19 (ai_put 4 (.int x) L) st h Q := RR.do1 (19, ai_put 4 (.int x) L, st, h) rfl rfl rfl
theorem r108_19 : RR S d 108 19 L st h Q = kI (ai_look L 4) (fun x => RR S d 108 21 L (.int x :: st) h Q) := RR.ldi rfl rfl
theorem r108_21 : RR S d 108 21 L st h Q = kI (ai_look L 0) (fun x => RR S d 108 22 L (.int x :: st) h Q) := RR.ldi_n rfl rfl rfl
theorem r108_22 {x y : Int32} : RR S d 108 22 L (.int y :: .int x :: st) h Q = if ¬ x = y then RR S d 108 27 L st h Q else RR S d 108 25 L st h Q := RR.b2 (c := .ne) (off := 5) rfl rfl (by decide) rfl
theorem r108_25 : RR S d 108 25 L st h Q = RR S d 108 26 L (.int 1 :: st) h Q := RR.icn (n := 1) rfl (by decide) rfl
theorem r108_26f : RR S d 108 26 L [.int 0] h Q = Q (some (.int 0)) h := RR.zrt rfl rfl (by decide)
theorem r108_26t : RR S d 108 26 L [.int 1] h Q = Q (some (.int 1)) h := RR.zrt rfl rfl (by decide)
theorem r108_27 : RR S d 108 27 L st h Q = kI (ai_look L 3) (fun x => RR S d 108 30 (ai_put 3 (.int (x + 1)) L) st h Q) := RR.iinc (k := 3) (n := 1) rfl (by decide) (by decide) rfl
theorem r108_30 : RR S d 108 30 L st h Q = RR S d 108 9 L st h Q := RR.jmp (off := (-21)) rfl (by decide)
theorem r108_33 : RR S d 108 33 L st h Q = RR S d 108 34 L (.int 0 :: st) h Q := RR.icn (n := 0) rfl (by decide) rfl
theorem r108_34f : RR S d 108 34 L [.int 0] h Q = Q (some (.int 0)) h := RR.zrt rfl rfl (by decide)
theorem r108_34t : RR S d 108 34 L [.int 1] h Q = Q (some (.int 1)) h := RR.zrt rfl rfl (by decide)
theorem r109_0 : RR S d 109 0 L st h Q = kI (ai_look L 0) (fun x => RR S d 109 1 L (.int x :: st) h Q) := RR.ldi_n rfl rfl rfl
theorem r109_1 : RR S d 109 1 L st h Q = RR S d 109 2 L (.int 1 :: st) h Q := RR.icn (n := 1) rfl (by decide) rfl
theorem r109_2 : RR S d 109 2 L st h Q = RR S d 109 4 L (.int 8 :: st) h Q := RR.bip (n := 8) rfl (by decide) rfl
theorem r109_4 {p0 : Int32} {p1 : Int32} {p2 : Int32} : RR S (d + 1) 109 4 L (.int p2 :: .int p1 :: .int p0 :: st) h Q = kB (decide (ai_sum st ≤ 8)) (RR S d 110 0 [(0, .int p0), (1, .int p1), (2, .int p2)] [] h (fun r h1 => RR S (d + 1) 109 7 L (r.toList ++ st) h1 Q)) := RR.cs (j := 57) (mn' := 110) (n := 3) rfl rfl rfl rfl (by simp) rfl rfl
theorem r109_7f : RR S d 109 7 L [.int 0] h Q = Q (some (.int 0)) h := RR.zrt rfl rfl (by decide)
theorem r109_7t : RR S d 109 7 L [.int 1] h Q = Q (some (.int 1)) h := RR.zrt rfl rfl (by decide)
theorem r110_0 : RR S d 110 0 L st h Q = kI (ai_look L 0) (fun x => RR S d 110 1 L (.int x :: st) h Q) := RR.ldi_n rfl rfl rfl
theorem r110_1 : RR S d 110 1 L st h Q = kI (ai_look L 1) (fun x => RR S d 110 2 L (.int x :: st) h Q) := RR.ldi_n rfl rfl rfl
theorem r110_2 {x y : Int32} : RR S d 110 2 L (.int y :: .int x :: st) h Q = if x < y then RR S d 110 14 L st h Q else RR S d 110 5 L st h Q := RR.b2 (c := .lt) (off := 12) rfl rfl (by decide) rfl
theorem r110_5 : RR S d 110 5 L st h Q = kI (ai_look L 0) (fun x => RR S d 110 6 L (.int x :: st) h Q) := RR.ldi_n rfl rfl rfl
theorem r110_6 : RR S d 110 6 L st h Q = kI (ai_look L 2) (fun x => RR S d 110 7 L (.int x :: st) h Q) := RR.ldi_n rfl rfl rfl
theorem r110_7 {x y : Int32} : RR S d 110 7 L (.int y :: .int x :: st) h Q = if y < x then RR S d 110 14 L st h Q else RR S d 110 10 L st h Q := RR.b2 (c := .gt) (off := 7) rfl rfl (by decide) rfl
theorem r110_10 : RR S d 110 10 L st h Q = RR S d 110 11 L (.int 1 :: st) h Q := RR.icn (n := 1) rfl (by decide) rfl
theorem r110_11 : RR S d 110 11 L st h Q = RR S d 110 15 L st h Q := RR.jmp (off := 4) rfl (by decide)
theorem r110_14 : RR S d 110 14 L st h Q = RR S d 110 15 L (.int 0 :: st) h Q := RR.icn (n := 0) rfl (by decide) rfl
theorem r110_15f : RR S d 110 15 L [.int 0] h Q = Q (some (.int 0)) h := RR.zrt rfl rfl (by decide)
theorem r110_15t : RR S d 110 15 L [.int 1] h Q = Q (some (.int 1)) h := RR.zrt rfl rfl (by decide)
theorem r111_0 : RR S d 111 0 L st h Q = kI (ai_look L 0) (fun x => RR S d 111 1 L (.int x :: st) h Q) := RR.ldi_n rfl rfl rfl
theorem r111_1 : RR S d 111 1 L st h Q = RR S d 111 4 L (.int 3000 :: st) h Q := RR.sip (n := 3000) rfl (by decide) rfl
theorem r111_4 {x y : Int32} : RR S d 111 4 L (.int y :: .int x :: st) h Q = if y ≤ x then RR S d 111 11 L st h Q else RR S d 111 7 L st h Q := RR.b2 (c := .ge) (off := 7) rfl rfl (by decide) rfl
theorem r111_7 : RR S d 111 7 L st h Q = kI (ai_look L 0) (fun x => RR S d 111 8 L (.int x :: st) h Q) := RR.ldi_n rfl rfl rfl
theorem r111_8 : RR S d 111 8 L st h Q = RR S d 111 13 L st h Q := RR.jmp (off := 5) rfl (by decide)
theorem r111_11 : RR S d 111 11 L st h Q = RR S d 111 13 L (.int (-3) :: st) h Q := RR.bip (n := (-3)) rfl (by decide) rfl
theorem r111_13 {x : Int32} : RR S d 111 13 L [.int x] h Q = Q (some (.int x)) h := RR.rt rfl rfl rfl
theorem r112_0 : RR S d 112 0 L st h Q = kA (ai_look L 0) (fun x => RR S d 112 1 L (x :: st) h Q) := RR.lda_n rfl rfl rfl
theorem r112_1 {a : Nat} : RR S d 112 1 L (.ref a :: st) h Q = kB (decide (ai_sum st ≤ 8)) (RR S d 112 4 L st h Q) := RR.oin (j := 1) rfl rfl rfl
theorem r112_4 : RR S d 112 4 L st h Q = kA (ai_look L 0) (fun x => RR S d 112 5 L (x :: st) h Q) := RR.lda_n rfl rfl rfl
theorem r112_5 : RR S d 112 5 L st h Q = RR S d 112 7 L (.int 6 :: st) h Q := RR.bip (n := 6) rfl (by decide) rfl
theorem r112_7 {n : Int32} : RR S d 112 7 L (.int n :: st) h Q = kB (decide (¬ n < 0) && decide (n.toNatClampNeg ≤ 100000)) (RR S d 112 9 L (.ref h.1.length :: st) (h.1 ++ [.inl (0, n.toNatClampNeg, .inl (fun _ => 0))], h.2 + n.toNatClampNeg) Q) := RR.newa0 rfl rfl
theorem r112_9 {x : Nat} {a : Nat} : RR S d 112 9 L (.ref x :: .ref a :: st) h Q = kO (ai_obj h a 10) (fun fs => kB (decide (1 < fs.length)) (RR S d 112 12 L st (h.1.set a (.inr (10, fs.set 1 (.ref x))), h.2) Q)) := RR.put rfl rfl (ai_okp_r (by decide +kernel)) rfl
theorem r112_12 : RR S d 112 12 L st h Q = kA (ai_look L 0) (fun x => RR S d 112 13 L (x :: st) h Q) := RR.lda_n rfl rfl rfl
theorem r112_13 : RR S d 112 13 L st h Q = RR S d 112 15 L (.int 6 :: st) h Q := RR.bip (n := 6) rfl (by decide) rfl
theorem r112_15 {n : Int32} : RR S d 112 15 L (.int n :: st) h Q = kB (decide (¬ n < 0) && decide (n.toNatClampNeg ≤ 100000)) (RR S d 112 17 L (.ref h.1.length :: st) (h.1 ++ [.inl (0, n.toNatClampNeg, .inl (fun _ => 0))], h.2 + n.toNatClampNeg) Q) := RR.newa0 rfl rfl
theorem r112_17 {x : Nat} {a : Nat} : RR S d 112 17 L (.ref x :: .ref a :: st) h Q = kO (ai_obj h a 10) (fun fs => kB (decide (2 < fs.length)) (RR S d 112 20 L st (h.1.set a (.inr (10, fs.set 2 (.ref x))), h.2) Q)) := RR.put rfl rfl (ai_okp_r (by decide +kernel)) rfl
theorem r112_20 : RR S d 112 20 L st h Q = kA (ai_look L 0) (fun x => RR S d 112 21 L (x :: st) h Q) := RR.lda_n rfl rfl rfl
theorem r112_21 : RR S d 112 21 L st h Q = RR S d 112 23 L (.int 12 :: st) h Q := RR.bip (n := 12) rfl (by decide) rfl
theorem r112_23 {n : Int32} : RR S d 112 23 L (.int n :: st) h Q = kB (decide (¬ n < 0) && decide (n.toNatClampNeg ≤ 100000)) (RR S d 112 25 L (.ref h.1.length :: st) (h.1 ++ [.inl (0, n.toNatClampNeg, .inl (fun _ => 0))], h.2 + n.toNatClampNeg) Q) := RR.newa0 rfl rfl
theorem r112_25 {x : Nat} {a : Nat} : RR S d 112 25 L (.ref x :: .ref a :: st) h Q = kO (ai_obj h a 10) (fun fs => kB (decide (4 < fs.length)) (RR S d 112 28 L st (h.1.set a (.inr (10, fs.set 4 (.ref x))), h.2) Q)) := RR.put rfl rfl (ai_okp_r (by decide +kernel)) rfl
theorem r112_28 : RR S d 112 28 L st h Q = kA (ai_look L 0) (fun x => RR S d 112 29 L (x :: st) h Q) := RR.lda_n rfl rfl rfl
theorem r112_29 : RR S d 112 29 L st h Q = RR S d 112 31 L (.int 12 :: st) h Q := RR.bip (n := 12) rfl (by decide) rfl
theorem r112_31 {n : Int32} : RR S d 112 31 L (.int n :: st) h Q = kB (decide (¬ n < 0) && decide (n.toNatClampNeg ≤ 100000)) (RR S d 112 33 L (.ref h.1.length :: st) (h.1 ++ [.inl (0, n.toNatClampNeg, .inl (fun _ => 0))], h.2 + n.toNatClampNeg) Q) := RR.newa0 rfl rfl
theorem r112_33 {x : Nat} {a : Nat} : RR S d 112 33 L (.ref x :: .ref a :: st) h Q = kO (ai_obj h a 10) (fun fs => kB (decide (5 < fs.length)) (RR S d 112 36 L st (h.1.set a (.inr (10, fs.set 5 (.ref x))), h.2) Q)) := RR.put rfl rfl (ai_okp_r (by decide +kernel)) rfl
theorem r112_36 : RR S d 112 36 L st h Q = kA (ai_look L 0) (fun x => RR S d 112 37 L (x :: st) h Q) := RR.lda_n rfl rfl rfl
theorem r112_37 : RR S d 112 37 L st h Q = RR S d 112 39 L (.int 12 :: st) h Q := RR.bip (n := 12) rfl (by decide) rfl
theorem r112_39 {n : Int32} : RR S d 112 39 L (.int n :: st) h Q = kB (decide (¬ n < 0) && decide (n.toNatClampNeg ≤ 100000)) (RR S d 112 41 L (.ref h.1.length :: st) (h.1 ++ [.inl (0, n.toNatClampNeg, .inl (fun _ => 0))], h.2 + n.toNatClampNeg) Q) := RR.newa0 rfl rfl
theorem r112_41 {x : Nat} {a : Nat} : RR S d 112 41 L (.ref x :: .ref a :: st) h Q = kO (ai_obj h a 10) (fun fs => kB (decide (6 < fs.length)) (RR S d 112 44 L st (h.1.set a (.inr (10, fs.set 6 (.ref x))), h.2) Q)) := RR.put rfl rfl (ai_okp_r (by decide +kernel)) rfl
theorem r112_44 : RR S d 112 44 L st h Q = kA (ai_look L 0) (fun x => RR S d 112 45 L (x :: st) h Q) := RR.lda_n rfl rfl rfl
theorem r112_45 : RR S d 112 45 L st h Q = RR S d 112 47 L (.int 12 :: st) h Q := RR.bip (n := 12) rfl (by decide) rfl
theorem r112_47 {n : Int32} : RR S d 112 47 L (.int n :: st) h Q = kB (decide (¬ n < 0) && decide (n.toNatClampNeg ≤ 100000)) (RR S d 112 49 L (.ref h.1.length :: st) (h.1 ++ [.inl (0, n.toNatClampNeg, .inl (fun _ => 0))], h.2 + n.toNatClampNeg) Q) := RR.newa0 rfl rfl
theorem r112_49 {x : Nat} {a : Nat} : RR S d 112 49 L (.ref x :: .ref a :: st) h Q = kO (ai_obj h a 10) (fun fs => kB (decide (7 < fs.length)) (RR S d 112 52 L st (h.1.set a (.inr (10, fs.set 7 (.ref x))), h.2) Q)) := RR.put rfl rfl (ai_okp_r (by decide +kernel)) rfl
theorem r112_52 : RR S d 112 52 L st h Q = kA (ai_look L 0) (fun x => RR S d 112 53 L (x :: st) h Q) := RR.lda_n rfl rfl rfl
theorem r112_53 : RR S d 112 53 L st h Q = RR S d 112 55 L (.int 12 :: st) h Q := RR.bip (n := 12) rfl (by decide) rfl
theorem r112_55 {x : Int32} {a : Nat} : RR S d 112 55 L (.int x :: .ref a :: st) h Q = kO (ai_obj h a 10) (fun fs => kB (decide (8 < fs.length)) (RR S d 112 58 L st (h.1.set a (.inr (10, fs.set 8 (.int x))), h.2) Q)) := RR.put rfl rfl (ai_okp_i rfl (by decide +kernel)) rfl
theorem r112_58 : RR S d 112 58 L st h Q = kA (ai_look L 0) (fun x => RR S d 112 59 L (x :: st) h Q) := RR.lda_n rfl rfl rfl
theorem r112_59 : RR S d 112 59 L st h Q = RR S d 112 61 L (.int 8 :: st) h Q := RR.bip (n := 8) rfl (by decide) rfl
theorem r112_61 {n : Int32} : RR S d 112 61 L (.int n :: st) h Q = kB (decide (¬ n < 0) && decide (n.toNatClampNeg ≤ 100000)) (RR S d 112 63 L (.ref h.1.length :: st) (h.1 ++ [.inl (0, n.toNatClampNeg, .inl (fun _ => 0))], h.2 + n.toNatClampNeg) Q) := RR.newa0 rfl rfl
theorem r112_63 {x : Nat} {a : Nat} : RR S d 112 63 L (.ref x :: .ref a :: st) h Q = kO (ai_obj h a 10) (fun fs => kB (decide (11 < fs.length)) (RR S d 112 66 L st (h.1.set a (.inr (10, fs.set 11 (.ref x))), h.2) Q)) := RR.put rfl rfl (ai_okp_r (by decide +kernel)) rfl
theorem r112_66 : RR S d 112 66 L st h Q = kA (ai_look L 0) (fun x => RR S d 112 67 L (x :: st) h Q) := RR.lda_n rfl rfl rfl
theorem r112_67 : RR S d 112 67 L st h Q = RR S d 112 69 L (.int 8 :: st) h Q := RR.bip (n := 8) rfl (by decide) rfl
theorem r112_69 {n : Int32} : RR S d 112 69 L (.int n :: st) h Q = kB (decide (¬ n < 0) && decide (n.toNatClampNeg ≤ 100000)) (RR S d 112 71 L (.ref h.1.length :: st) (h.1 ++ [.inl (0, n.toNatClampNeg, .inl (fun _ => 0))], h.2 + n.toNatClampNeg) Q) := RR.newa0 rfl rfl
theorem r112_71 {x : Nat} {a : Nat} : RR S d 112 71 L (.ref x :: .ref a :: st) h Q = kO (ai_obj h a 10) (fun fs => kB (decide (12 < fs.length)) (RR S d 112 74 L st (h.1.set a (.inr (10, fs.set 12 (.ref x))), h.2) Q)) := RR.put rfl rfl (ai_okp_r (by decide +kernel)) rfl
theorem r112_74 : RR S d 112 74 L st h Q = kA (ai_look L 0) (fun x => RR S d 112 75 L (x :: st) h Q) := RR.lda_n rfl rfl rfl
theorem r112_75 : RR S d 112 75 L st h Q = RR S d 112 77 L (.int 8 :: st) h Q := RR.bip (n := 8) rfl (by decide) rfl
theorem r112_77 {n : Int32} : RR S d 112 77 L (.int n :: st) h Q = kB (decide (¬ n < 0) && decide (n.toNatClampNeg ≤ 100000)) (RR S d 112 79 L (.ref h.1.length :: st) (h.1 ++ [.inl (0, n.toNatClampNeg, .inl (fun _ => 0))], h.2 + n.toNatClampNeg) Q) := RR.newa0 rfl rfl
theorem r112_79 {x : Nat} {a : Nat} : RR S d 112 79 L (.ref x :: .ref a :: st) h Q = kO (ai_obj h a 10) (fun fs => kB (decide (13 < fs.length)) (RR S d 112 82 L st (h.1.set a (.inr (10, fs.set 13 (.ref x))), h.2) Q)) := RR.put rfl rfl (ai_okp_r (by decide +kernel)) rfl
theorem r112_82 : RR S d 112 82 L st h Q = kA (ai_look L 0) (fun x => RR S d 112 83 L (x :: st) h Q) := RR.lda_n rfl rfl rfl
theorem r112_83 : RR S d 112 83 L st h Q = RR S d 112 85 L (.int 24 :: st) h Q := RR.bip (n := 24) rfl (by decide) rfl
theorem r112_85 {n : Int32} : RR S d 112 85 L (.int n :: st) h Q = kB (decide (¬ n < 0) && decide (n.toNatClampNeg ≤ 100000)) (RR S d 112 87 L (.ref h.1.length :: st) (h.1 ++ [.inl (0, n.toNatClampNeg, .inl (fun _ => 0))], h.2 + n.toNatClampNeg) Q) := RR.newa0 rfl rfl
theorem r112_87 {x : Nat} {a : Nat} : RR S d 112 87 L (.ref x :: .ref a :: st) h Q = kO (ai_obj h a 10) (fun fs => kB (decide (14 < fs.length)) (RR S d 112 90 L st (h.1.set a (.inr (10, fs.set 14 (.ref x))), h.2) Q)) := RR.put rfl rfl (ai_okp_r (by decide +kernel)) rfl
theorem r112_90 : RR S d 112 90 L st h Q = kA (ai_look L 0) (fun x => RR S d 112 91 L (x :: st) h Q) := RR.lda_n rfl rfl rfl
theorem r112_91 : RR S d 112 91 L st h Q = RR S d 112 93 L (.int 96 :: st) h Q := RR.bip (n := 96) rfl (by decide) rfl
theorem r112_93 {n : Int32} : RR S d 112 93 L (.int n :: st) h Q = kB (decide (¬ n < 0) && decide (n.toNatClampNeg ≤ 100000)) (RR S d 112 95 L (.ref h.1.length :: st) (h.1 ++ [.inl (0, n.toNatClampNeg, .inl (fun _ => 0))], h.2 + n.toNatClampNeg) Q) := RR.newa0 rfl rfl
theorem r112_95 {x : Nat} {a : Nat} : RR S d 112 95 L (.ref x :: .ref a :: st) h Q = kO (ai_obj h a 10) (fun fs => kB (decide (15 < fs.length)) (RR S d 112 98 L st (h.1.set a (.inr (10, fs.set 15 (.ref x))), h.2) Q)) := RR.put rfl rfl (ai_okp_r (by decide +kernel)) rfl
theorem r112_98 : RR S d 112 98 L st h Q = kA (ai_look L 0) (fun x => RR S d 112 99 L (x :: st) h Q) := RR.lda_n rfl rfl rfl
theorem r112_99 : RR S d 112 99 L st h Q = RR S d 112 101 L (.int 24 :: st) h Q := RR.bip (n := 24) rfl (by decide) rfl
theorem r112_101 {n : Int32} : RR S d 112 101 L (.int n :: st) h Q = kB (decide (¬ n < 0) && decide (n.toNatClampNeg ≤ 100000)) (RR S d 112 103 L (.ref h.1.length :: st) (h.1 ++ [.inl (0, n.toNatClampNeg, .inl (fun _ => 0))], h.2 + n.toNatClampNeg) Q) := RR.newa0 rfl rfl
theorem r112_103 {x : Nat} {a : Nat} : RR S d 112 103 L (.ref x :: .ref a :: st) h Q = kO (ai_obj h a 10) (fun fs => kB (decide (16 < fs.length)) (RR S d 112 106 L st (h.1.set a (.inr (10, fs.set 16 (.ref x))), h.2) Q)) := RR.put rfl rfl (ai_okp_r (by decide +kernel)) rfl
theorem r112_106 : RR S d 112 106 L st h Q = kA (ai_look L 0) (fun x => RR S d 112 107 L (x :: st) h Q) := RR.lda_n rfl rfl rfl
theorem r112_107 : RR S d 112 107 L st h Q = RR S d 112 109 L (.int 8 :: st) h Q := RR.bip (n := 8) rfl (by decide) rfl
theorem r112_109 {n : Int32} : RR S d 112 109 L (.int n :: st) h Q = kB (decide (¬ n < 0) && decide (n.toNatClampNeg ≤ 100000)) (RR S d 112 111 L (.ref h.1.length :: st) (h.1 ++ [.inl (1, n.toNatClampNeg, .inl (fun _ => 0))], h.2 + n.toNatClampNeg) Q) := RR.newa1 rfl rfl
theorem r112_111 {x : Nat} {a : Nat} : RR S d 112 111 L (.ref x :: .ref a :: st) h Q = kO (ai_obj h a 10) (fun fs => kB (decide (17 < fs.length)) (RR S d 112 114 L st (h.1.set a (.inr (10, fs.set 17 (.ref x))), h.2) Q)) := RR.put rfl rfl (ai_okp_r (by decide +kernel)) rfl
theorem r112_114 : RR S d 112 114 L st h Q = kA (ai_look L 0) (fun x => RR S d 112 115 L (x :: st) h Q) := RR.lda_n rfl rfl rfl
theorem r112_115 : RR S d 112 115 L st h Q = RR S d 112 117 L (.int 8 :: st) h Q := RR.bip (n := 8) rfl (by decide) rfl
theorem r112_117 {n : Int32} : RR S d 112 117 L (.int n :: st) h Q = kB (decide (¬ n < 0) && decide (n.toNatClampNeg ≤ 100000)) (RR S d 112 119 L (.ref h.1.length :: st) (h.1 ++ [.inl (0, n.toNatClampNeg, .inl (fun _ => 0))], h.2 + n.toNatClampNeg) Q) := RR.newa0 rfl rfl
theorem r112_119 {x : Nat} {a : Nat} : RR S d 112 119 L (.ref x :: .ref a :: st) h Q = kO (ai_obj h a 10) (fun fs => kB (decide (18 < fs.length)) (RR S d 112 122 L st (h.1.set a (.inr (10, fs.set 18 (.ref x))), h.2) Q)) := RR.put rfl rfl (ai_okp_r (by decide +kernel)) rfl
theorem r112_122 : RR S d 112 122 L st h Q = kA (ai_look L 0) (fun x => RR S d 112 123 L (x :: st) h Q) := RR.lda_n rfl rfl rfl
theorem r112_123 : RR S d 112 123 L st h Q = RR S d 112 125 L (.int 8 :: st) h Q := RR.bip (n := 8) rfl (by decide) rfl
theorem r112_125 {n : Int32} : RR S d 112 125 L (.int n :: st) h Q = kB (decide (¬ n < 0) && decide (n.toNatClampNeg ≤ 100000)) (RR S d 112 127 L (.ref h.1.length :: st) (h.1 ++ [.inl (0, n.toNatClampNeg, .inl (fun _ => 0))], h.2 + n.toNatClampNeg) Q) := RR.newa0 rfl rfl
theorem r112_127 {x : Nat} {a : Nat} : RR S d 112 127 L (.ref x :: .ref a :: st) h Q = kO (ai_obj h a 10) (fun fs => kB (decide (19 < fs.length)) (RR S d 112 130 L st (h.1.set a (.inr (10, fs.set 19 (.ref x))), h.2) Q)) := RR.put rfl rfl (ai_okp_r (by decide +kernel)) rfl
theorem r112_130 : RR S d 112 130 L st h Q = kA (ai_look L 0) (fun x => RR S d 112 131 L (x :: st) h Q) := RR.lda_n rfl rfl rfl
theorem r112_131 : RR S d 112 131 L st h Q = RR S d 112 134 L (.int 1440 :: st) h Q := RR.sip (n := 1440) rfl (by decide) rfl
theorem r112_134 {n : Int32} : RR S d 112 134 L (.int n :: st) h Q = kB (decide (¬ n < 0) && decide (n.toNatClampNeg ≤ 100000)) (RR S d 112 136 L (.ref h.1.length :: st) (h.1 ++ [.inl (0, n.toNatClampNeg, .inl (fun _ => 0))], h.2 + n.toNatClampNeg) Q) := RR.newa0 rfl rfl
theorem r112_136 {x : Nat} {a : Nat} : RR S d 112 136 L (.ref x :: .ref a :: st) h Q = kO (ai_obj h a 10) (fun fs => kB (decide (21 < fs.length)) (RR S d 112 139 L st (h.1.set a (.inr (10, fs.set 21 (.ref x))), h.2) Q)) := RR.put rfl rfl (ai_okp_r (by decide +kernel)) rfl
theorem r112_139 : RR S d 112 139 L st h Q = kA (ai_look L 0) (fun x => RR S d 112 140 L (x :: st) h Q) := RR.lda_n rfl rfl rfl
theorem r112_140 : RR S d 112 140 L st h Q = RR S d 112 142 L (.int 60 :: st) h Q := RR.bip (n := 60) rfl (by decide) rfl
theorem r112_142 {n : Int32} : RR S d 112 142 L (.int n :: st) h Q = kB (decide (¬ n < 0) && decide (n.toNatClampNeg ≤ 100000)) (RR S d 112 144 L (.ref h.1.length :: st) (h.1 ++ [.inl (0, n.toNatClampNeg, .inl (fun _ => 0))], h.2 + n.toNatClampNeg) Q) := RR.newa0 rfl rfl
theorem r112_144 {x : Nat} {a : Nat} : RR S d 112 144 L (.ref x :: .ref a :: st) h Q = kO (ai_obj h a 10) (fun fs => kB (decide (23 < fs.length)) (RR S d 112 147 L st (h.1.set a (.inr (10, fs.set 23 (.ref x))), h.2) Q)) := RR.put rfl rfl (ai_okp_r (by decide +kernel)) rfl
theorem r112_147 : RR S d 112 147 L st h Q = kA (ai_look L 0) (fun x => RR S d 112 148 L (x :: st) h Q) := RR.lda_n rfl rfl rfl
theorem r112_148 : RR S d 112 148 L st h Q = RR S d 112 150 L (.int 60 :: st) h Q := RR.bip (n := 60) rfl (by decide) rfl
theorem r112_150 {n : Int32} : RR S d 112 150 L (.int n :: st) h Q = kB (decide (¬ n < 0) && decide (n.toNatClampNeg ≤ 100000)) (RR S d 112 152 L (.ref h.1.length :: st) (h.1 ++ [.inl (0, n.toNatClampNeg, .inl (fun _ => 0))], h.2 + n.toNatClampNeg) Q) := RR.newa0 rfl rfl
theorem r112_152 {x : Nat} {a : Nat} : RR S d 112 152 L (.ref x :: .ref a :: st) h Q = kO (ai_obj h a 10) (fun fs => kB (decide (24 < fs.length)) (RR S d 112 155 L st (h.1.set a (.inr (10, fs.set 24 (.ref x))), h.2) Q)) := RR.put rfl rfl (ai_okp_r (by decide +kernel)) rfl
theorem r112_155 : RR S d 112 155 L st h Q = kA (ai_look L 0) (fun x => RR S d 112 156 L (x :: st) h Q) := RR.lda_n rfl rfl rfl
theorem r112_156 : RR S d 112 156 L st h Q = RR S d 112 158 L (.int 60 :: st) h Q := RR.bip (n := 60) rfl (by decide) rfl
theorem r112_158 {n : Int32} : RR S d 112 158 L (.int n :: st) h Q = kB (decide (¬ n < 0) && decide (n.toNatClampNeg ≤ 100000)) (RR S d 112 160 L (.ref h.1.length :: st) (h.1 ++ [.inl (0, n.toNatClampNeg, .inl (fun _ => 0))], h.2 + n.toNatClampNeg) Q) := RR.newa0 rfl rfl
theorem r112_160 {x : Nat} {a : Nat} : RR S d 112 160 L (.ref x :: .ref a :: st) h Q = kO (ai_obj h a 10) (fun fs => kB (decide (25 < fs.length)) (RR S d 112 163 L st (h.1.set a (.inr (10, fs.set 25 (.ref x))), h.2) Q)) := RR.put rfl rfl (ai_okp_r (by decide +kernel)) rfl
theorem r112_163 : RR S d 112 163 L st h Q = kA (ai_look L 0) (fun x => RR S d 112 164 L (x :: st) h Q) := RR.lda_n rfl rfl rfl
theorem r112_164 : RR S d 112 164 L st h Q = RR S d 112 167 L (.int 240 :: st) h Q := RR.sip (n := 240) rfl (by decide) rfl
theorem r112_167 {n : Int32} : RR S d 112 167 L (.int n :: st) h Q = kB (decide (¬ n < 0) && decide (n.toNatClampNeg ≤ 100000)) (RR S d 112 169 L (.ref h.1.length :: st) (h.1 ++ [.inl (0, n.toNatClampNeg, .inl (fun _ => 0))], h.2 + n.toNatClampNeg) Q) := RR.newa0 rfl rfl
theorem r112_169 {x : Nat} {a : Nat} : RR S d 112 169 L (.ref x :: .ref a :: st) h Q = kO (ai_obj h a 10) (fun fs => kB (decide (26 < fs.length)) (RR S d 112 172 L st (h.1.set a (.inr (10, fs.set 26 (.ref x))), h.2) Q)) := RR.put rfl rfl (ai_okp_r (by decide +kernel)) rfl
theorem r112_172 : RR S d 112 172 L st h Q = kA (ai_look L 0) (fun x => RR S d 112 173 L (x :: st) h Q) := RR.lda_n rfl rfl rfl
theorem r112_173 : RR S d 112 173 L st h Q = RR S d 112 176 L (.int 512 :: st) h Q := RR.sip (n := 512) rfl (by decide) rfl
theorem r112_176 {n : Int32} : RR S d 112 176 L (.int n :: st) h Q = kB (decide (¬ n < 0) && decide (n.toNatClampNeg ≤ 100000)) (RR S d 112 178 L (.ref h.1.length :: st) (h.1 ++ [.inl (0, n.toNatClampNeg, .inl (fun _ => 0))], h.2 + n.toNatClampNeg) Q) := RR.newa0 rfl rfl
theorem r112_178 {x : Nat} {a : Nat} : RR S d 112 178 L (.ref x :: .ref a :: st) h Q = kO (ai_obj h a 10) (fun fs => kB (decide (28 < fs.length)) (RR S d 112 181 L st (h.1.set a (.inr (10, fs.set 28 (.ref x))), h.2) Q)) := RR.put rfl rfl (ai_okp_r (by decide +kernel)) rfl
theorem r112_181 : RR S d 112 181 L st h Q = kA (ai_look L 0) (fun x => RR S d 112 182 L (x :: st) h Q) := RR.lda_n rfl rfl rfl
theorem r112_182 : RR S d 112 182 L st h Q = RR S d 112 185 L (.int 2048 :: st) h Q := RR.sip (n := 2048) rfl (by decide) rfl
theorem r112_185 {n : Int32} : RR S d 112 185 L (.int n :: st) h Q = kB (decide (¬ n < 0) && decide (n.toNatClampNeg ≤ 100000)) (RR S d 112 187 L (.ref h.1.length :: st) (h.1 ++ [.inl (0, n.toNatClampNeg, .inl (fun _ => 0))], h.2 + n.toNatClampNeg) Q) := RR.newa0 rfl rfl
theorem r112_187 {x : Nat} {a : Nat} : RR S d 112 187 L (.ref x :: .ref a :: st) h Q = kO (ai_obj h a 10) (fun fs => kB (decide (29 < fs.length)) (RR S d 112 190 L st (h.1.set a (.inr (10, fs.set 29 (.ref x))), h.2) Q)) := RR.put rfl rfl (ai_okp_r (by decide +kernel)) rfl
theorem r112_190 : RR S d 112 190 L st h Q = kA (ai_look L 0) (fun x => RR S d 112 191 L (x :: st) h Q) := RR.lda_n rfl rfl rfl
theorem r112_191 : RR S d 112 191 L st h Q = RR S d 112 194 L (.int 512 :: st) h Q := RR.sip (n := 512) rfl (by decide) rfl
theorem r112_194 {n : Int32} : RR S d 112 194 L (.int n :: st) h Q = kB (decide (¬ n < 0) && decide (n.toNatClampNeg ≤ 100000)) (RR S d 112 196 L (.ref h.1.length :: st) (h.1 ++ [.inl (0, n.toNatClampNeg, .inl (fun _ => 0))], h.2 + n.toNatClampNeg) Q) := RR.newa0 rfl rfl
theorem r112_196 {x : Nat} {a : Nat} : RR S d 112 196 L (.ref x :: .ref a :: st) h Q = kO (ai_obj h a 10) (fun fs => kB (decide (30 < fs.length)) (RR S d 112 199 L st (h.1.set a (.inr (10, fs.set 30 (.ref x))), h.2) Q)) := RR.put rfl rfl (ai_okp_r (by decide +kernel)) rfl
theorem r112_199 : RR S d 112 199 L st h Q = kA (ai_look L 0) (fun x => RR S d 112 200 L (x :: st) h Q) := RR.lda_n rfl rfl rfl
theorem r112_200 : RR S d 112 200 L st h Q = RR S d 112 201 L (.int 5 :: st) h Q := RR.icn (n := 5) rfl (by decide) rfl
theorem r112_201 {n : Int32} : RR S d 112 201 L (.int n :: st) h Q = kB (decide (¬ n < 0) && decide (n.toNatClampNeg ≤ 100000)) (RR S d 112 203 L (.ref h.1.length :: st) (h.1 ++ [.inl (0, n.toNatClampNeg, .inl (fun _ => 0))], h.2 + n.toNatClampNeg) Q) := RR.newa0 rfl rfl
theorem r112_203 {x : Nat} {a : Nat} : RR S d 112 203 L (.ref x :: .ref a :: st) h Q = kO (ai_obj h a 10) (fun fs => kB (decide (31 < fs.length)) (RR S d 112 206 L st (h.1.set a (.inr (10, fs.set 31 (.ref x))), h.2) Q)) := RR.put rfl rfl (ai_okp_r (by decide +kernel)) rfl
theorem r112_206 : RR S d 112 206 L st h Q = kA (ai_look L 0) (fun x => RR S d 112 207 L (x :: st) h Q) := RR.lda_n rfl rfl rfl
theorem r112_207 : RR S d 112 207 L st h Q = RR S d 112 209 L (.int 8 :: st) h Q := RR.bip (n := 8) rfl (by decide) rfl
theorem r112_209 {n : Int32} : RR S d 112 209 L (.int n :: st) h Q = kB (decide (¬ n < 0) && decide (n.toNatClampNeg ≤ 100000)) (RR S d 112 211 L (.ref h.1.length :: st) (h.1 ++ [.inl (0, n.toNatClampNeg, .inl (fun _ => 0))], h.2 + n.toNatClampNeg) Q) := RR.newa0 rfl rfl
theorem r112_211 {x : Nat} {a : Nat} : RR S d 112 211 L (.ref x :: .ref a :: st) h Q = kO (ai_obj h a 10) (fun fs => kB (decide (32 < fs.length)) (RR S d 112 214 L st (h.1.set a (.inr (10, fs.set 32 (.ref x))), h.2) Q)) := RR.put rfl rfl (ai_okp_r (by decide +kernel)) rfl
theorem r112_214 : RR S d 112 214 L st h Q = kA (ai_look L 0) (fun x => RR S d 112 215 L (x :: st) h Q) := RR.lda_n rfl rfl rfl
theorem r112_215 : RR S d 112 215 L st h Q = RR S d 112 217 L (.int 9 :: st) h Q := RR.bip (n := 9) rfl (by decide) rfl
theorem r112_217 {n : Int32} : RR S d 112 217 L (.int n :: st) h Q = kB (decide (¬ n < 0) && decide (n.toNatClampNeg ≤ 100000)) (RR S d 112 219 L (.ref h.1.length :: st) (h.1 ++ [.inl (0, n.toNatClampNeg, .inl (fun _ => 0))], h.2 + n.toNatClampNeg) Q) := RR.newa0 rfl rfl
theorem r112_219 {x : Nat} {a : Nat} : RR S d 112 219 L (.ref x :: .ref a :: st) h Q = kO (ai_obj h a 10) (fun fs => kB (decide (33 < fs.length)) (RR S d 112 222 L st (h.1.set a (.inr (10, fs.set 33 (.ref x))), h.2) Q)) := RR.put rfl rfl (ai_okp_r (by decide +kernel)) rfl
theorem r112_222 : RR S d 112 222 L st h Q = kA (ai_look L 0) (fun x => RR S d 112 223 L (x :: st) h Q) := RR.lda_n rfl rfl rfl
theorem r112_223 : RR S d 112 223 L st h Q = RR S d 112 224 L (.int 1 :: st) h Q := RR.icn (n := 1) rfl (by decide) rfl
theorem r112_224t {a : Nat} : RR S d 112 224 L (.int 1 :: .ref a :: st) h Q = kO (ai_obj h a 10) (fun fs => kB (decide (35 < fs.length)) (RR S d 112 227 L st (h.1.set a (.inr (10, fs.set 35 (.int 1))), h.2) Q)) := RR.put rfl rfl (by decide +kernel) rfl
theorem r112_224f {a : Nat} : RR S d 112 224 L (.int 0 :: .ref a :: st) h Q = kO (ai_obj h a 10) (fun fs => kB (decide (35 < fs.length)) (RR S d 112 227 L st (h.1.set a (.inr (10, fs.set 35 (.int 0))), h.2) Q)) := RR.put rfl rfl (by decide +kernel) rfl
theorem r112_227 : RR S d 112 227 L st h Q = kA (ai_look L 0) (fun x => RR S d 112 228 L (x :: st) h Q) := RR.lda_n rfl rfl rfl
theorem r112_228 : RR S d 112 228 L st h Q = RR S d 112 231 L (.int 240 :: st) h Q := RR.sip (n := 240) rfl (by decide) rfl
theorem r112_231 {n : Int32} : RR S d 112 231 L (.int n :: st) h Q = kB (decide (¬ n < 0) && decide (n.toNatClampNeg ≤ 100000)) (RR S d 112 233 L (.ref h.1.length :: st) (h.1 ++ [.inl (0, n.toNatClampNeg, .inl (fun _ => 0))], h.2 + n.toNatClampNeg) Q) := RR.newa0 rfl rfl
theorem r112_233 {x : Nat} {a : Nat} : RR S d 112 233 L (.ref x :: .ref a :: st) h Q = kO (ai_obj h a 10) (fun fs => kB (decide (36 < fs.length)) (RR S d 112 236 L st (h.1.set a (.inr (10, fs.set 36 (.ref x))), h.2) Q)) := RR.put rfl rfl (ai_okp_r (by decide +kernel)) rfl
theorem r112_236 : RR S d 112 236 L st h Q = kA (ai_look L 0) (fun x => RR S d 112 237 L (x :: st) h Q) := RR.lda_n rfl rfl rfl
theorem r112_237 : RR S d 112 237 L st h Q = RR S d 112 240 L (.int 240 :: st) h Q := RR.sip (n := 240) rfl (by decide) rfl
theorem r112_240 {n : Int32} : RR S d 112 240 L (.int n :: st) h Q = kB (decide (¬ n < 0) && decide (n.toNatClampNeg ≤ 100000)) (RR S d 112 242 L (.ref h.1.length :: st) (h.1 ++ [.inl (0, n.toNatClampNeg, .inl (fun _ => 0))], h.2 + n.toNatClampNeg) Q) := RR.newa0 rfl rfl
theorem r112_242 {x : Nat} {a : Nat} : RR S d 112 242 L (.ref x :: .ref a :: st) h Q = kO (ai_obj h a 10) (fun fs => kB (decide (37 < fs.length)) (RR S d 112 245 L st (h.1.set a (.inr (10, fs.set 37 (.ref x))), h.2) Q)) := RR.put rfl rfl (ai_okp_r (by decide +kernel)) rfl
theorem r112_245 : RR S d 112 245 L st h Q = kA (ai_look L 0) (fun x => RR S d 112 246 L (x :: st) h Q) := RR.lda_n rfl rfl rfl
theorem r112_246 : RR S d 112 246 L st h Q = RR S d 112 248 L (.int 60 :: st) h Q := RR.bip (n := 60) rfl (by decide) rfl
theorem r112_248 {n : Int32} : RR S d 112 248 L (.int n :: st) h Q = kB (decide (¬ n < 0) && decide (n.toNatClampNeg ≤ 100000)) (RR S d 112 250 L (.ref h.1.length :: st) (h.1 ++ [.inl (0, n.toNatClampNeg, .inl (fun _ => 0))], h.2 + n.toNatClampNeg) Q) := RR.newa0 rfl rfl
theorem r112_250 {x : Nat} {a : Nat} : RR S d 112 250 L (.ref x :: .ref a :: st) h Q = kO (ai_obj h a 10) (fun fs => kB (decide (38 < fs.length)) (RR S d 112 253 L st (h.1.set a (.inr (10, fs.set 38 (.ref x))), h.2) Q)) := RR.put rfl rfl (ai_okp_r (by decide +kernel)) rfl
theorem r112_253 : RR S d 112 253 L st h Q = kA (ai_look L 0) (fun x => RR S d 112 254 L (x :: st) h Q) := RR.lda_n rfl rfl rfl
theorem r112_254 : RR S d 112 254 L st h Q = RR S d 112 256 L (.int 60 :: st) h Q := RR.bip (n := 60) rfl (by decide) rfl
theorem r112_256 {n : Int32} : RR S d 112 256 L (.int n :: st) h Q = kB (decide (¬ n < 0) && decide (n.toNatClampNeg ≤ 100000)) (RR S d 112 258 L (.ref h.1.length :: st) (h.1 ++ [.inl (0, n.toNatClampNeg, .inl (fun _ => 0))], h.2 + n.toNatClampNeg) Q) := RR.newa0 rfl rfl
theorem r112_258 {x : Nat} {a : Nat} : RR S d 112 258 L (.ref x :: .ref a :: st) h Q = kO (ai_obj h a 10) (fun fs => kB (decide (39 < fs.length)) (RR S d 112 261 L st (h.1.set a (.inr (10, fs.set 39 (.ref x))), h.2) Q)) := RR.put rfl rfl (ai_okp_r (by decide +kernel)) rfl
theorem r112_261 : RR S d 112 261 L st h Q = kA (ai_look L 0) (fun x => RR S d 112 262 L (x :: st) h Q) := RR.lda_n rfl rfl rfl
theorem r112_262 : RR S d 112 262 L st h Q = RR S d 112 264 L (.int 12 :: st) h Q := RR.bip (n := 12) rfl (by decide) rfl
theorem r112_264 {n : Int32} : RR S d 112 264 L (.int n :: st) h Q = kB (decide (¬ n < 0) && decide (n.toNatClampNeg ≤ 100000)) (RR S d 112 266 L (.ref h.1.length :: st) (h.1 ++ [.inl (0, n.toNatClampNeg, .inl (fun _ => 0))], h.2 + n.toNatClampNeg) Q) := RR.newa0 rfl rfl
theorem r112_266 {x : Nat} {a : Nat} : RR S d 112 266 L (.ref x :: .ref a :: st) h Q = kO (ai_obj h a 10) (fun fs => kB (decide (40 < fs.length)) (RR S d 112 269 L st (h.1.set a (.inr (10, fs.set 40 (.ref x))), h.2) Q)) := RR.put rfl rfl (ai_okp_r (by decide +kernel)) rfl
theorem r112_269 : RR S d 112 269 L st h Q = kA (ai_look L 0) (fun x => RR S d 112 270 L (x :: st) h Q) := RR.lda_n rfl rfl rfl
theorem r112_270 : RR S d 112 270 L st h Q = RR S d 112 272 L (.int 12 :: st) h Q := RR.bip (n := 12) rfl (by decide) rfl
theorem r112_272 {n : Int32} : RR S d 112 272 L (.int n :: st) h Q = kB (decide (¬ n < 0) && decide (n.toNatClampNeg ≤ 100000)) (RR S d 112 274 L (.ref h.1.length :: st) (h.1 ++ [.inl (0, n.toNatClampNeg, .inl (fun _ => 0))], h.2 + n.toNatClampNeg) Q) := RR.newa0 rfl rfl
theorem r112_274 {x : Nat} {a : Nat} : RR S d 112 274 L (.ref x :: .ref a :: st) h Q = kO (ai_obj h a 10) (fun fs => kB (decide (41 < fs.length)) (RR S d 112 277 L st (h.1.set a (.inr (10, fs.set 41 (.ref x))), h.2) Q)) := RR.put rfl rfl (ai_okp_r (by decide +kernel)) rfl
theorem r112_277 : RR S d 112 277 L [] h Q = Q none h := RR.rt rfl rfl rfl
theorem r113_0 : RR S d 113 0 L st h Q = kI (ai_look L 1) (fun x => RR S d 113 1 L (.int x :: st) h Q) := RR.ldi_n rfl rfl rfl
theorem r113_1 {x : Int32} : RR S d 113 1 L (.int x :: st) h Q = if x < 0 then RR S d 113 16 L st h Q else RR S d 113 4 L st h Q := RR.b1 (c := .lt) (off := 15) rfl rfl (by decide) rfl
theorem r113_4 : RR S d 113 4 L st h Q = kI (ai_look L 1) (fun x => RR S d 113 5 L (.int x :: st) h Q) := RR.ldi_n rfl rfl rfl
theorem r113_5 : RR S d 113 5 L st h Q = kA (ai_look L 0) (fun x => RR S d 113 6 L (x :: st) h Q) := RR.lda_n rfl rfl rfl
theorem r113_6 {a : Nat} : RR S d 113 6 L (.ref a :: st) h Q = kO (ai_fld h a 10 0) (fun w => RR S d 113 9 L (w :: st) h Q) := RR.get rfl rfl rfl
theorem r113_9 {x y : Int32} : RR S d 113 9 L (.int y :: .int x :: st) h Q = if y ≤ x then RR S d 113 16 L st h Q else RR S d 113 12 L st h Q := RR.b2 (c := .ge) (off := 7) rfl rfl (by decide) rfl
theorem r113_12 : RR S d 113 12 L st h Q = RR S d 113 13 L (.int 1 :: st) h Q := RR.icn (n := 1) rfl (by decide) rfl
theorem r113_13 : RR S d 113 13 L st h Q = RR S d 113 17 L st h Q := RR.jmp (off := 4) rfl (by decide)
theorem r113_16 : RR S d 113 16 L st h Q = RR S d 113 17 L (.int 0 :: st) h Q := RR.icn (n := 0) rfl (by decide) rfl
theorem r113_17f : RR S d 113 17 L [.int 0] h Q = Q (some (.int 0)) h := RR.zrt rfl rfl (by decide)
theorem r113_17t : RR S d 113 17 L [.int 1] h Q = Q (some (.int 1)) h := RR.zrt rfl rfl (by decide)
theorem r114_0 : RR S d 114 0 L st h Q = kI (ai_look L 1) (fun x => RR S d 114 1 L (.int x :: st) h Q) := RR.ldi_n rfl rfl rfl
theorem r114_1 {x : Int32} : RR S d 114 1 L (.int x :: st) h Q = if x < 0 then RR S d 114 16 L st h Q else RR S d 114 4 L st h Q := RR.b1 (c := .lt) (off := 15) rfl rfl (by decide) rfl
theorem r114_4 : RR S d 114 4 L st h Q = kI (ai_look L 1) (fun x => RR S d 114 5 L (.int x :: st) h Q) := RR.ldi_n rfl rfl rfl
theorem r114_5 : RR S d 114 5 L st h Q = kA (ai_look L 0) (fun x => RR S d 114 6 L (x :: st) h Q) := RR.lda_n rfl rfl rfl
theorem r114_6 {a : Nat} : RR S d 114 6 L (.ref a :: st) h Q = kO (ai_fld h a 10 3) (fun w => RR S d 114 9 L (w :: st) h Q) := RR.get rfl rfl rfl
theorem r114_9 {x y : Int32} : RR S d 114 9 L (.int y :: .int x :: st) h Q = if y ≤ x then RR S d 114 16 L st h Q else RR S d 114 12 L st h Q := RR.b2 (c := .ge) (off := 7) rfl rfl (by decide) rfl
theorem r114_12 : RR S d 114 12 L st h Q = RR S d 114 13 L (.int 1 :: st) h Q := RR.icn (n := 1) rfl (by decide) rfl
theorem r114_13 : RR S d 114 13 L st h Q = RR S d 114 17 L st h Q := RR.jmp (off := 4) rfl (by decide)
theorem r114_16 : RR S d 114 16 L st h Q = RR S d 114 17 L (.int 0 :: st) h Q := RR.icn (n := 0) rfl (by decide) rfl
theorem r114_17f : RR S d 114 17 L [.int 0] h Q = Q (some (.int 0)) h := RR.zrt rfl rfl (by decide)
theorem r114_17t : RR S d 114 17 L [.int 1] h Q = Q (some (.int 1)) h := RR.zrt rfl rfl (by decide)
theorem r115_0 : RR S d 115 0 L st h Q = kA (ai_look L 0) (fun x => RR S d 115 1 L (x :: st) h Q) := RR.lda_n rfl rfl rfl
theorem r115_1 {a : Nat} : RR S d 115 1 L (.ref a :: st) h Q = kO (ai_fld h a 10 0) (fun w => RR S d 115 4 L (w :: st) h Q) := RR.get rfl rfl rfl
theorem r115_4 : RR S d 115 4 L st h Q = RR S d 115 6 L (.int 6 :: st) h Q := RR.bip (n := 6) rfl (by decide) rfl
theorem r115_6 {x y : Int32} : RR S d 115 6 L (.int y :: .int x :: st) h Q = if x = y then RR S d 115 18 L st h Q else RR S d 115 9 L st h Q := RR.b2 (c := .eq) (off := 12) rfl rfl (by decide) rfl
theorem r115_9 : RR S d 115 9 L st h Q = kI (ai_look L 1) (fun x => RR S d 115 10 L (.int x :: st) h Q) := RR.ldi_n rfl rfl rfl
theorem r115_10 {x : Int32} : RR S d 115 10 L (.int x :: st) h Q = if x < 0 then RR S d 115 18 L st h Q else RR S d 115 13 L st h Q := RR.b1 (c := .lt) (off := 8) rfl rfl (by decide) rfl
theorem r115_13 : RR S d 115 13 L st h Q = kI (ai_look L 1) (fun x => RR S d 115 14 L (.int x :: st) h Q) := RR.ldi_n rfl rfl rfl
theorem r115_14 : RR S d 115 14 L st h Q = RR S d 115 15 L (.int 5 :: st) h Q := RR.icn (n := 5) rfl (by decide) rfl
theorem r115_15 {x y : Int32} : RR S d 115 15 L (.int y :: .int x :: st) h Q = if x ≤ y then RR S d 115 20 L st h Q else RR S d 115 18 L st h Q := RR.b2 (c := .le) (off := 5) rfl rfl (by decide) rfl
theorem r115_18 : RR S d 115 18 L st h Q = RR S d 115 19 L (.int (-1) :: st) h Q := RR.icn (n := (-1)) rfl (by decide) rfl
theorem r115_19 {x : Int32} : RR S d 115 19 L [.int x] h Q = Q (some (.int x)) h := RR.rt rfl rfl rfl
theorem r115_20 : RR S d 115 20 L st h Q = kA (ai_look L 0) (fun x => RR S d 115 21 L (x :: st) h Q) := RR.lda_n rfl rfl rfl
theorem r115_21 {a : Nat} : RR S d 115 21 L (.ref a :: st) h Q = kO (ai_fld h a 10 1) (fun w => RR S d 115 24 L (w :: st) h Q) := RR.get rfl rfl rfl
theorem r115_24 : RR S d 115 24 L st h Q = kA (ai_look L 0) (fun x => RR S d 115 25 L (x :: st) h Q) := RR.lda_n rfl rfl rfl
theorem r115_25 {a : Nat} : RR S d 115 25 L (.ref a :: st) h Q = kO (ai_fld h a 10 0) (fun w => RR S d 115 28 L (w :: st) h Q) := RR.get rfl rfl rfl
theorem r115_28 : RR S d 115 28 L st h Q = kI (ai_look L 1) (fun x => RR S d 115 29 L (.int x :: st) h Q) := RR.ldi_n rfl rfl rfl
theorem r115_29 {x y : Int32} {a : Nat} : RR S d 115 29 L (.int y :: .int x :: .ref a :: st) h Q = kO (ai_arr h a 0) (fun q => kB (ai_in x q.1) (RR S d 115 30 L st (h.1.set a (.inl (0, q.1, .inl (upd q.2 x.toNatClampNeg y))), h.2) Q)) := RR.ias rfl rfl
theorem r115_30 : RR S d 115 30 L st h Q = kA (ai_look L 0) (fun x => RR S d 115 31 L (x :: st) h Q) := RR.lda_n rfl rfl rfl
theorem r115_31 {v : Value} (hv : v.category = 1) : RR S d 115 31 L (v :: st) h Q = RR S d 115 32 L (v :: v :: st) h Q := RR.dup rfl hv rfl
theorem r115_32 {a : Nat} : RR S d 115 32 L (.ref a :: st) h Q = kO (ai_fld h a 10 0) (fun w => RR S d 115 35 L (w :: st) h Q) := RR.get rfl rfl rfl
theorem r115_35 : RR S d 115 35 L st h Q = RR S d 115 36 L (.int 1 :: st) h Q := RR.icn (n := 1) rfl (by decide) rfl
theorem r115_36 {x y : Int32} : RR S d 115 36 L (.int y :: .int x :: st) h Q = RR S d 115 37 L (.int (x + y) :: st) h Q := RR.do1 (37, L, .int (x + y) :: st, h) rfl rfl rfl
theorem r115_37 {x : Int32} {a : Nat} : RR S d 115 37 L (.int x :: .ref a :: st) h Q = kO (ai_obj h a 10) (fun fs => kB (decide (0 < fs.length)) (RR S d 115 40 L st (h.1.set a (.inr (10, fs.set 0 (.int x))), h.2) Q)) := RR.put rfl rfl (ai_okp_i rfl (by decide +kernel)) rfl
theorem r115_40 : RR S d 115 40 L st h Q = kA (ai_look L 0) (fun x => RR S d 115 41 L (x :: st) h Q) := RR.lda_n rfl rfl rfl
theorem r115_41 : RR S d 115 41 L st h Q = RR S d 115 42 L (.int 1 :: st) h Q := RR.icn (n := 1) rfl (by decide) rfl
theorem r115_42t {a : Nat} : RR S d 115 42 L (.int 1 :: .ref a :: st) h Q = kO (ai_obj h a 10) (fun fs => kB (decide (35 < fs.length)) (RR S d 115 45 L st (h.1.set a (.inr (10, fs.set 35 (.int 1))), h.2) Q)) := RR.put rfl rfl (by decide +kernel) rfl
theorem r115_42f {a : Nat} : RR S d 115 42 L (.int 0 :: .ref a :: st) h Q = kO (ai_obj h a 10) (fun fs => kB (decide (35 < fs.length)) (RR S d 115 45 L st (h.1.set a (.inr (10, fs.set 35 (.int 0))), h.2) Q)) := RR.put rfl rfl (by decide +kernel) rfl
theorem r115_45 : RR S d 115 45 L st h Q = kA (ai_look L 0) (fun x => RR S d 115 46 L (x :: st) h Q) := RR.lda_n rfl rfl rfl
theorem r115_46 {a : Nat} : RR S d 115 46 L (.ref a :: st) h Q = kO (ai_fld h a 10 0) (fun w => RR S d 115 49 L (w :: st) h Q) := RR.get rfl rfl rfl
theorem r115_49 : RR S d 115 49 L st h Q = RR S d 115 50 L (.int 1 :: st) h Q := RR.icn (n := 1) rfl (by decide) rfl
theorem r115_50 {x y : Int32} : RR S d 115 50 L (.int y :: .int x :: st) h Q = RR S d 115 51 L (.int (x - y) :: st) h Q := RR.do1 (51, L, .int (x - y) :: st, h) rfl rfl rfl
theorem r115_51 {x : Int32} : RR S d 115 51 L [.int x] h Q = Q (some (.int x)) h := RR.rt rfl rfl rfl
theorem r116_0 : RR S d 116 0 L st h Q = kA (ai_look L 0) (fun x => RR S d 116 1 L (x :: st) h Q) := RR.lda_n rfl rfl rfl
theorem r116_1 {a : Nat} : RR S d 116 1 L (.ref a :: st) h Q = kO (ai_fld h a 10 3) (fun w => RR S d 116 4 L (w :: st) h Q) := RR.get rfl rfl rfl
theorem r116_4 : RR S d 116 4 L st h Q = RR S d 116 6 L (.int 12 :: st) h Q := RR.bip (n := 12) rfl (by decide) rfl
theorem r116_6 {x y : Int32} : RR S d 116 6 L (.int y :: .int x :: st) h Q = if x = y then RR S d 116 66 L st h Q else RR S d 116 9 L st h Q := RR.b2 (c := .eq) (off := 60) rfl rfl (by decide) rfl
theorem r116_9 : RR S d 116 9 L st h Q = kA (ai_look L 0) (fun x => RR S d 116 10 L (x :: st) h Q) := RR.lda_n rfl rfl rfl
theorem r116_10 : RR S d 116 10 L st h Q = kI (ai_look L 1) (fun x => RR S d 116 11 L (.int x :: st) h Q) := RR.ldi_n rfl rfl rfl
theorem r116_11 {p0 : Int32} {a : Nat} : RR S (d + 1) 116 11 L (.int p0 :: .ref a :: st) h Q = kB (decide (ai_sum st ≤ 8)) (kB ((ai_obj h a 10).isSome) (RR S d 113 0 [(0, .ref a), (1, .int p0)] [] h (fun r h1 => RR S (d + 1) 116 14 L (r.toList ++ st) h1 Q))) := RR.cv (j := 121) (mn' := 113) (n := 1) rfl rfl rfl rfl rfl rfl
theorem r116_14 {x : Int32} : RR S d 116 14 L (.int x :: st) h Q = if x = 0 then RR S d 116 66 L st h Q else RR S d 116 17 L st h Q := RR.b1 (c := .eq) (off := 52) rfl rfl (by decide) rfl
theorem r116_17 : RR S d 116 17 L st h Q = kA (ai_look L 0) (fun x => RR S d 116 18 L (x :: st) h Q) := RR.lda_n rfl rfl rfl
theorem r116_18 : RR S d 116 18 L st h Q = kI (ai_look L 2) (fun x => RR S d 116 19 L (.int x :: st) h Q) := RR.ldi_n rfl rfl rfl
theorem r116_19 {p0 : Int32} {a : Nat} : RR S (d + 1) 116 19 L (.int p0 :: .ref a :: st) h Q = kB (decide (ai_sum st ≤ 8)) (kB ((ai_obj h a 10).isSome) (RR S d 113 0 [(0, .ref a), (1, .int p0)] [] h (fun r h1 => RR S (d + 1) 116 22 L (r.toList ++ st) h1 Q))) := RR.cv (j := 121) (mn' := 113) (n := 1) rfl rfl rfl rfl rfl rfl
theorem r116_22 {x : Int32} : RR S d 116 22 L (.int x :: st) h Q = if x = 0 then RR S d 116 66 L st h Q else RR S d 116 25 L st h Q := RR.b1 (c := .eq) (off := 44) rfl rfl (by decide) rfl
theorem r116_25 : RR S d 116 25 L st h Q = kI (ai_look L 1) (fun x => RR S d 116 26 L (.int x :: st) h Q) := RR.ldi_n rfl rfl rfl
theorem r116_26 : RR S d 116 26 L st h Q = kI (ai_look L 2) (fun x => RR S d 116 27 L (.int x :: st) h Q) := RR.ldi_n rfl rfl rfl
theorem r116_27 {x y : Int32} : RR S d 116 27 L (.int y :: .int x :: st) h Q = if x = y then RR S d 116 66 L st h Q else RR S d 116 30 L st h Q := RR.b2 (c := .eq) (off := 39) rfl rfl (by decide) rfl
theorem r116_30 : RR S d 116 30 L st h Q = kI (ai_look L 3) (fun x => RR S d 116 31 L (.int x :: st) h Q) := RR.ldi_n rfl rfl rfl
theorem r116_31 {x : Int32} : RR S d 116 31 L (.int x :: st) h Q = if x < 0 then RR S d 116 66 L st h Q else RR S d 116 34 L st h Q := RR.b1 (c := .lt) (off := 35) rfl rfl (by decide) rfl
theorem r116_34 : RR S d 116 34 L st h Q = kI (ai_look L 3) (fun x => RR S d 116 35 L (.int x :: st) h Q) := RR.ldi_n rfl rfl rfl
theorem r116_35 : RR S d 116 35 L st h Q = RR S d 116 37 L (.int 9 :: st) h Q := RR.bip (n := 9) rfl (by decide) rfl
theorem r116_37 {x y : Int32} : RR S d 116 37 L (.int y :: .int x :: st) h Q = if y < x then RR S d 116 66 L st h Q else RR S d 116 40 L st h Q := RR.b2 (c := .gt) (off := 29) rfl rfl (by decide) rfl
theorem r116_40 : RR S d 116 40 L st h Q = kI (ai_look L 4) (fun x => RR S d 116 42 L (.int x :: st) h Q) := RR.ldi rfl rfl
theorem r116_42 : RR S d 116 42 L st h Q = RR S d 116 43 L (.int 1 :: st) h Q := RR.icn (n := 1) rfl (by decide) rfl
theorem r116_43 {x y : Int32} : RR S d 116 43 L (.int y :: .int x :: st) h Q = if x < y then RR S d 116 66 L st h Q else RR S d 116 46 L st h Q := RR.b2 (c := .lt) (off := 23) rfl rfl (by decide) rfl
theorem r116_46 : RR S d 116 46 L st h Q = kI (ai_look L 4) (fun x => RR S d 116 48 L (.int x :: st) h Q) := RR.ldi rfl rfl
theorem r116_48 : RR S d 116 48 L st h Q = RR S d 116 49 L (.int 3 :: st) h Q := RR.icn (n := 3) rfl (by decide) rfl
theorem r116_49 {x y : Int32} : RR S d 116 49 L (.int y :: .int x :: st) h Q = if y < x then RR S d 116 66 L st h Q else RR S d 116 52 L st h Q := RR.b2 (c := .gt) (off := 17) rfl rfl (by decide) rfl
theorem r116_52 : RR S d 116 52 L st h Q = kA (ai_look L 0) (fun x => RR S d 116 53 L (x :: st) h Q) := RR.lda_n rfl rfl rfl
theorem r116_53 {a : Nat} : RR S d 116 53 L (.ref a :: st) h Q = kO (ai_fld h a 10 10) (fun w => RR S d 116 56 L (w :: st) h Q) := RR.get rfl rfl rfl
theorem r116_56 {x : Int32} : RR S d 116 56 L (.int x :: st) h Q = if 0 < x then RR S d 116 66 L st h Q else RR S d 116 59 L st h Q := RR.b1 (c := .gt) (off := 10) rfl rfl (by decide) rfl
theorem r116_59 : RR S d 116 59 L st h Q = kA (ai_look L 0) (fun x => RR S d 116 60 L (x :: st) h Q) := RR.lda_n rfl rfl rfl
theorem r116_60 {a : Nat} : RR S d 116 60 L (.ref a :: st) h Q = kO (ai_fld h a 10 22) (fun w => RR S d 116 63 L (w :: st) h Q) := RR.get rfl rfl rfl
theorem r116_63 {x : Int32} : RR S d 116 63 L (.int x :: st) h Q = if x ≤ 0 then RR S d 116 68 L st h Q else RR S d 116 66 L st h Q := RR.b1 (c := .le) (off := 5) rfl rfl (by decide) rfl
theorem r116_66 : RR S d 116 66 L st h Q = RR S d 116 67 L (.int (-1) :: st) h Q := RR.icn (n := (-1)) rfl (by decide) rfl
theorem r116_67 {x : Int32} : RR S d 116 67 L [.int x] h Q = Q (some (.int x)) h := RR.rt rfl rfl rfl
theorem r116_68 : RR S d 116 68 L st h Q = kA (ai_look L 0) (fun x => RR S d 116 69 L (x :: st) h Q) := RR.lda_n rfl rfl rfl
theorem r116_69 {a : Nat} : RR S d 116 69 L (.ref a :: st) h Q = kO (ai_fld h a 10 4) (fun w => RR S d 116 72 L (w :: st) h Q) := RR.get rfl rfl rfl
theorem r116_72 : RR S d 116 72 L st h Q = kA (ai_look L 0) (fun x => RR S d 116 73 L (x :: st) h Q) := RR.lda_n rfl rfl rfl
theorem r116_73 {a : Nat} : RR S d 116 73 L (.ref a :: st) h Q = kO (ai_fld h a 10 3) (fun w => RR S d 116 76 L (w :: st) h Q) := RR.get rfl rfl rfl
theorem r116_76 : RR S d 116 76 L st h Q = kI (ai_look L 1) (fun x => RR S d 116 77 L (.int x :: st) h Q) := RR.ldi_n rfl rfl rfl
theorem r116_77 {x y : Int32} {a : Nat} : RR S d 116 77 L (.int y :: .int x :: .ref a :: st) h Q = kO (ai_arr h a 0) (fun q => kB (ai_in x q.1) (RR S d 116 78 L st (h.1.set a (.inl (0, q.1, .inl (upd q.2 x.toNatClampNeg y))), h.2) Q)) := RR.ias rfl rfl
theorem r116_78 : RR S d 116 78 L st h Q = kA (ai_look L 0) (fun x => RR S d 116 79 L (x :: st) h Q) := RR.lda_n rfl rfl rfl
theorem r116_79 {a : Nat} : RR S d 116 79 L (.ref a :: st) h Q = kO (ai_fld h a 10 5) (fun w => RR S d 116 82 L (w :: st) h Q) := RR.get rfl rfl rfl
theorem r116_82 : RR S d 116 82 L st h Q = kA (ai_look L 0) (fun x => RR S d 116 83 L (x :: st) h Q) := RR.lda_n rfl rfl rfl
theorem r116_83 {a : Nat} : RR S d 116 83 L (.ref a :: st) h Q = kO (ai_fld h a 10 3) (fun w => RR S d 116 86 L (w :: st) h Q) := RR.get rfl rfl rfl
theorem r116_86 : RR S d 116 86 L st h Q = kI (ai_look L 2) (fun x => RR S d 116 87 L (.int x :: st) h Q) := RR.ldi_n rfl rfl rfl
theorem r116_87 {x y : Int32} {a : Nat} : RR S d 116 87 L (.int y :: .int x :: .ref a :: st) h Q = kO (ai_arr h a 0) (fun q => kB (ai_in x q.1) (RR S d 116 88 L st (h.1.set a (.inl (0, q.1, .inl (upd q.2 x.toNatClampNeg y))), h.2) Q)) := RR.ias rfl rfl
theorem r116_88 : RR S d 116 88 L st h Q = kA (ai_look L 0) (fun x => RR S d 116 89 L (x :: st) h Q) := RR.lda_n rfl rfl rfl
theorem r116_89 {a : Nat} : RR S d 116 89 L (.ref a :: st) h Q = kO (ai_fld h a 10 6) (fun w => RR S d 116 92 L (w :: st) h Q) := RR.get rfl rfl rfl
theorem r116_92 : RR S d 116 92 L st h Q = kA (ai_look L 0) (fun x => RR S d 116 93 L (x :: st) h Q) := RR.lda_n rfl rfl rfl
theorem r116_93 {a : Nat} : RR S d 116 93 L (.ref a :: st) h Q = kO (ai_fld h a 10 3) (fun w => RR S d 116 96 L (w :: st) h Q) := RR.get rfl rfl rfl
theorem r116_96 : RR S d 116 96 L st h Q = kI (ai_look L 3) (fun x => RR S d 116 97 L (.int x :: st) h Q) := RR.ldi_n rfl rfl rfl
theorem r116_97 {x y : Int32} {a : Nat} : RR S d 116 97 L (.int y :: .int x :: .ref a :: st) h Q = kO (ai_arr h a 0) (fun q => kB (ai_in x q.1) (RR S d 116 98 L st (h.1.set a (.inl (0, q.1, .inl (upd q.2 x.toNatClampNeg y))), h.2) Q)) := RR.ias rfl rfl
theorem r116_98 : RR S d 116 98 L st h Q = kA (ai_look L 0) (fun x => RR S d 116 99 L (x :: st) h Q) := RR.lda_n rfl rfl rfl
theorem r116_99 {a : Nat} : RR S d 116 99 L (.ref a :: st) h Q = kO (ai_fld h a 10 7) (fun w => RR S d 116 102 L (w :: st) h Q) := RR.get rfl rfl rfl
theorem r116_102 : RR S d 116 102 L st h Q = kA (ai_look L 0) (fun x => RR S d 116 103 L (x :: st) h Q) := RR.lda_n rfl rfl rfl
theorem r116_103 {a : Nat} : RR S d 116 103 L (.ref a :: st) h Q = kO (ai_fld h a 10 3) (fun w => RR S d 116 106 L (w :: st) h Q) := RR.get rfl rfl rfl
theorem r116_106 : RR S d 116 106 L st h Q = kI (ai_look L 4) (fun x => RR S d 116 108 L (.int x :: st) h Q) := RR.ldi rfl rfl
theorem r116_108 {x y : Int32} {a : Nat} : RR S d 116 108 L (.int y :: .int x :: .ref a :: st) h Q = kO (ai_arr h a 0) (fun q => kB (ai_in x q.1) (RR S d 116 109 L st (h.1.set a (.inl (0, q.1, .inl (upd q.2 x.toNatClampNeg y))), h.2) Q)) := RR.ias rfl rfl
theorem r116_109 : RR S d 116 109 L st h Q = kA (ai_look L 0) (fun x => RR S d 116 110 L (x :: st) h Q) := RR.lda_n rfl rfl rfl
theorem r116_110 {v : Value} (hv : v.category = 1) : RR S d 116 110 L (v :: st) h Q = RR S d 116 111 L (v :: v :: st) h Q := RR.dup rfl hv rfl
theorem r116_111 {a : Nat} : RR S d 116 111 L (.ref a :: st) h Q = kO (ai_fld h a 10 3) (fun w => RR S d 116 114 L (w :: st) h Q) := RR.get rfl rfl rfl
theorem r116_114 : RR S d 116 114 L st h Q = RR S d 116 115 L (.int 1 :: st) h Q := RR.icn (n := 1) rfl (by decide) rfl
theorem r116_115 {x y : Int32} : RR S d 116 115 L (.int y :: .int x :: st) h Q = RR S d 116 116 L (.int (x + y) :: st) h Q := RR.do1 (116, L, .int (x + y) :: st, h) rfl rfl rfl
theorem r116_116 {x : Int32} {a : Nat} : RR S d 116 116 L (.int x :: .ref a :: st) h Q = kO (ai_obj h a 10) (fun fs => kB (decide (3 < fs.length)) (RR S d 116 119 L st (h.1.set a (.inr (10, fs.set 3 (.int x))), h.2) Q)) := RR.put rfl rfl (ai_okp_i rfl (by decide +kernel)) rfl
theorem r116_119 : RR S d 116 119 L st h Q = kA (ai_look L 0) (fun x => RR S d 116 120 L (x :: st) h Q) := RR.lda_n rfl rfl rfl
theorem r116_120 {a : Nat} : RR S d 116 120 L (.ref a :: st) h Q = kO (ai_fld h a 10 3) (fun w => RR S d 116 123 L (w :: st) h Q) := RR.get rfl rfl rfl
theorem r116_123 : RR S d 116 123 L st h Q = RR S d 116 124 L (.int 1 :: st) h Q := RR.icn (n := 1) rfl (by decide) rfl
theorem r116_124 {x y : Int32} : RR S d 116 124 L (.int y :: .int x :: st) h Q = RR S d 116 125 L (.int (x - y) :: st) h Q := RR.do1 (125, L, .int (x - y) :: st, h) rfl rfl rfl
theorem r116_125 {x : Int32} : RR S d 116 125 L [.int x] h Q = Q (some (.int x)) h := RR.rt rfl rfl rfl
theorem r117_0 : RR S d 117 0 L st h Q = kA (ai_look L 0) (fun x => RR S d 117 1 L (x :: st) h Q) := RR.lda_n rfl rfl rfl
theorem r117_1 {a : Nat} : RR S d 117 1 L (.ref a :: st) h Q = kO (ai_fld h a 10 10) (fun w => RR S d 117 4 L (w :: st) h Q) := RR.get rfl rfl rfl
theorem r117_4 {x : Int32} : RR S d 117 4 L (.int x :: st) h Q = if 0 < x then RR S d 117 37 L st h Q else RR S d 117 7 L st h Q := RR.b1 (c := .gt) (off := 33) rfl rfl (by decide) rfl
theorem r117_7 : RR S d 117 7 L st h Q = kI (ai_look L 1) (fun x => RR S d 117 8 L (.int x :: st) h Q) := RR.ldi_n rfl rfl rfl
theorem r117_8 : RR S d 117 8 L st h Q = RR S d 117 10 L (.int 12 :: st) h Q := RR.bip (n := 12) rfl (by decide) rfl
theorem r117_10 {x y : Int32} : RR S d 117 10 L (.int y :: .int x :: st) h Q = if x = y then RR S d 117 39 L st h Q else RR S d 117 13 L st h Q := RR.b2 (c := .eq) (off := 29) rfl rfl (by decide) rfl
theorem r117_13 : RR S d 117 13 L st h Q = kI (ai_look L 1) (fun x => RR S d 117 14 L (.int x :: st) h Q) := RR.ldi_n rfl rfl rfl
theorem r117_14 : RR S d 117 14 L st h Q = RR S d 117 16 L (.int 24 :: st) h Q := RR.bip (n := 24) rfl (by decide) rfl
theorem r117_16 {x y : Int32} : RR S d 117 16 L (.int y :: .int x :: st) h Q = if x = y then RR S d 117 39 L st h Q else RR S d 117 19 L st h Q := RR.b2 (c := .eq) (off := 23) rfl rfl (by decide) rfl
theorem r117_19 : RR S d 117 19 L st h Q = kI (ai_look L 1) (fun x => RR S d 117 20 L (.int x :: st) h Q) := RR.ldi_n rfl rfl rfl
theorem r117_20 : RR S d 117 20 L st h Q = RR S d 117 22 L (.int 48 :: st) h Q := RR.bip (n := 48) rfl (by decide) rfl
theorem r117_22 {x y : Int32} : RR S d 117 22 L (.int y :: .int x :: st) h Q = if x = y then RR S d 117 39 L st h Q else RR S d 117 25 L st h Q := RR.b2 (c := .eq) (off := 17) rfl rfl (by decide) rfl
theorem r117_25 : RR S d 117 25 L st h Q = kI (ai_look L 1) (fun x => RR S d 117 26 L (.int x :: st) h Q) := RR.ldi_n rfl rfl rfl
theorem r117_26 : RR S d 117 26 L st h Q = RR S d 117 28 L (.int 60 :: st) h Q := RR.bip (n := 60) rfl (by decide) rfl
theorem r117_28 {x y : Int32} : RR S d 117 28 L (.int y :: .int x :: st) h Q = if x = y then RR S d 117 39 L st h Q else RR S d 117 31 L st h Q := RR.b2 (c := .eq) (off := 11) rfl rfl (by decide) rfl
theorem r117_31 : RR S d 117 31 L st h Q = kI (ai_look L 1) (fun x => RR S d 117 32 L (.int x :: st) h Q) := RR.ldi_n rfl rfl rfl
theorem r117_32 : RR S d 117 32 L st h Q = RR S d 117 34 L (.int 120 :: st) h Q := RR.bip (n := 120) rfl (by decide) rfl
theorem r117_34 {x y : Int32} : RR S d 117 34 L (.int y :: .int x :: st) h Q = if x = y then RR S d 117 39 L st h Q else RR S d 117 37 L st h Q := RR.b2 (c := .eq) (off := 5) rfl rfl (by decide) rfl
theorem r117_37 : RR S d 117 37 L st h Q = RR S d 117 38 L (.int 0 :: st) h Q := RR.icn (n := 0) rfl (by decide) rfl
theorem r117_38f : RR S d 117 38 L [.int 0] h Q = Q (some (.int 0)) h := RR.zrt rfl rfl (by decide)
theorem r117_38t : RR S d 117 38 L [.int 1] h Q = Q (some (.int 1)) h := RR.zrt rfl rfl (by decide)
theorem r117_39 : RR S d 117 39 L st h Q = kA (ai_look L 0) (fun x => RR S d 117 40 L (x :: st) h Q) := RR.lda_n rfl rfl rfl
theorem r117_40 : RR S d 117 40 L st h Q = kI (ai_look L 1) (fun x => RR S d 117 41 L (.int x :: st) h Q) := RR.ldi_n rfl rfl rfl
theorem r117_41 {x : Int32} {a : Nat} : RR S d 117 41 L (.int x :: .ref a :: st) h Q = kO (ai_obj h a 10) (fun fs => kB (decide (8 < fs.length)) (RR S d 117 44 L st (h.1.set a (.inr (10, fs.set 8 (.int x))), h.2) Q)) := RR.put rfl rfl (ai_okp_i rfl (by decide +kernel)) rfl
theorem r117_44 : RR S d 117 44 L st h Q = kA (ai_look L 0) (fun x => RR S d 117 45 L (x :: st) h Q) := RR.lda_n rfl rfl rfl
theorem r117_45 : RR S d 117 45 L st h Q = RR S d 117 46 L (.int 1 :: st) h Q := RR.icn (n := 1) rfl (by decide) rfl
theorem r117_46t {a : Nat} : RR S d 117 46 L (.int 1 :: .ref a :: st) h Q = kO (ai_obj h a 10) (fun fs => kB (decide (35 < fs.length)) (RR S d 117 49 L st (h.1.set a (.inr (10, fs.set 35 (.int 1))), h.2) Q)) := RR.put rfl rfl (by decide +kernel) rfl
theorem r117_46f {a : Nat} : RR S d 117 46 L (.int 0 :: .ref a :: st) h Q = kO (ai_obj h a 10) (fun fs => kB (decide (35 < fs.length)) (RR S d 117 49 L st (h.1.set a (.inr (10, fs.set 35 (.int 0))), h.2) Q)) := RR.put rfl rfl (by decide +kernel) rfl
theorem r117_49 : RR S d 117 49 L st h Q = RR S d 117 50 L (.int 1 :: st) h Q := RR.icn (n := 1) rfl (by decide) rfl
theorem r117_50f : RR S d 117 50 L [.int 0] h Q = Q (some (.int 0)) h := RR.zrt rfl rfl (by decide)
theorem r117_50t : RR S d 117 50 L [.int 1] h Q = Q (some (.int 1)) h := RR.zrt rfl rfl (by decide)
theorem r118_0 : RR S d 118 0 L st h Q = kA (ai_look L 0) (fun x => RR S d 118 1 L (x :: st) h Q) := RR.lda_n rfl rfl rfl
theorem r118_1 {a : Nat} : RR S d 118 1 L (.ref a :: st) h Q = kO (ai_fld h a 10 10) (fun w => RR S d 118 4 L (w :: st) h Q) := RR.get rfl rfl rfl
theorem r118_4 {x : Int32} : RR S d 118 4 L (.int x :: st) h Q = if 0 < x then RR S d 118 16 L st h Q else RR S d 118 7 L st h Q := RR.b1 (c := .gt) (off := 12) rfl rfl (by decide) rfl
theorem r118_7 : RR S d 118 7 L st h Q = kI (ai_look L 1) (fun x => RR S d 118 8 L (.int x :: st) h Q) := RR.ldi_n rfl rfl rfl
theorem r118_8 {x : Int32} : RR S d 118 8 L (.int x :: st) h Q = if x < 0 then RR S d 118 16 L st h Q else RR S d 118 11 L st h Q := RR.b1 (c := .lt) (off := 8) rfl rfl (by decide) rfl
theorem r118_11 : RR S d 118 11 L st h Q = kI (ai_look L 1) (fun x => RR S d 118 12 L (.int x :: st) h Q) := RR.ldi_n rfl rfl rfl
theorem r118_12 : RR S d 118 12 L st h Q = RR S d 118 13 L (.int 3 :: st) h Q := RR.icn (n := 3) rfl (by decide) rfl
theorem r118_13 {x y : Int32} : RR S d 118 13 L (.int y :: .int x :: st) h Q = if x ≤ y then RR S d 118 18 L st h Q else RR S d 118 16 L st h Q := RR.b2 (c := .le) (off := 5) rfl rfl (by decide) rfl
theorem r118_16 : RR S d 118 16 L st h Q = RR S d 118 17 L (.int 0 :: st) h Q := RR.icn (n := 0) rfl (by decide) rfl
theorem r118_17f : RR S d 118 17 L [.int 0] h Q = Q (some (.int 0)) h := RR.zrt rfl rfl (by decide)
theorem r118_17t : RR S d 118 17 L [.int 1] h Q = Q (some (.int 1)) h := RR.zrt rfl rfl (by decide)
theorem r118_18 : RR S d 118 18 L st h Q = kA (ai_look L 0) (fun x => RR S d 118 19 L (x :: st) h Q) := RR.lda_n rfl rfl rfl
theorem r118_19 : RR S d 118 19 L st h Q = kI (ai_look L 1) (fun x => RR S d 118 20 L (.int x :: st) h Q) := RR.ldi_n rfl rfl rfl
theorem r118_20 {x : Int32} {a : Nat} : RR S d 118 20 L (.int x :: .ref a :: st) h Q = kO (ai_obj h a 10) (fun fs => kB (decide (9 < fs.length)) (RR S d 118 23 L st (h.1.set a (.inr (10, fs.set 9 (.int x))), h.2) Q)) := RR.put rfl rfl (ai_okp_i rfl (by decide +kernel)) rfl
theorem r118_23 : RR S d 118 23 L st h Q = RR S d 118 24 L (.int 0 :: st) h Q := RR.icn (n := 0) rfl (by decide) rfl
theorem r118_24 {x : Int32} : RR S d 118 24 L (.int x :: st) h Q = RR S d 118 25 (ai_put 2 (.int x) L) st h Q := RR.do1 (25, ai_put 2 (.int x) L, st, h) rfl rfl rfl
theorem r118_25 : RR S d 118 25 L st h Q = kI (ai_look L 2) (fun x => RR S d 118 26 L (.int x :: st) h Q) := RR.ldi_n rfl rfl rfl
theorem r118_26 : RR S d 118 26 L st h Q = RR S d 118 28 L (.int 6 :: st) h Q := RR.bip (n := 6) rfl (by decide) rfl
theorem r118_28 {x y : Int32} : RR S d 118 28 L (.int y :: .int x :: st) h Q = if y ≤ x then RR S d 118 44 L st h Q else RR S d 118 31 L st h Q := RR.b2 (c := .ge) (off := 16) rfl rfl (by decide) rfl
theorem r118_31 : RR S d 118 31 L st h Q = kA (ai_look L 0) (fun x => RR S d 118 32 L (x :: st) h Q) := RR.lda_n rfl rfl rfl
theorem r118_32 {a : Nat} : RR S d 118 32 L (.ref a :: st) h Q = kO (ai_fld h a 10 2) (fun w => RR S d 118 35 L (w :: st) h Q) := RR.get rfl rfl rfl
theorem r118_35 : RR S d 118 35 L st h Q = kI (ai_look L 2) (fun x => RR S d 118 36 L (.int x :: st) h Q) := RR.ldi_n rfl rfl rfl
theorem r118_36 : RR S d 118 36 L st h Q = RR S d 118 37 L (.int 0 :: st) h Q := RR.icn (n := 0) rfl (by decide) rfl
theorem r118_37 {x y : Int32} {a : Nat} : RR S d 118 37 L (.int y :: .int x :: .ref a :: st) h Q = kO (ai_arr h a 0) (fun q => kB (ai_in x q.1) (RR S d 118 38 L st (h.1.set a (.inl (0, q.1, .inl (upd q.2 x.toNatClampNeg y))), h.2) Q)) := RR.ias rfl rfl
theorem r118_38 : RR S d 118 38 L st h Q = kI (ai_look L 2) (fun x => RR S d 118 41 (ai_put 2 (.int (x + 1)) L) st h Q) := RR.iinc (k := 2) (n := 1) rfl (by decide) (by decide) rfl
theorem r118_41 : RR S d 118 41 L st h Q = RR S d 118 25 L st h Q := RR.jmp (off := (-16)) rfl (by decide)
theorem r118_44 : RR S d 118 44 L st h Q = kA (ai_look L 0) (fun x => RR S d 118 45 L (x :: st) h Q) := RR.lda_n rfl rfl rfl
theorem r118_45 : RR S d 118 45 L st h Q = RR S d 118 46 L (.int 1 :: st) h Q := RR.icn (n := 1) rfl (by decide) rfl
theorem r118_46t {a : Nat} : RR S d 118 46 L (.int 1 :: .ref a :: st) h Q = kO (ai_obj h a 10) (fun fs => kB (decide (35 < fs.length)) (RR S d 118 49 L st (h.1.set a (.inr (10, fs.set 35 (.int 1))), h.2) Q)) := RR.put rfl rfl (by decide +kernel) rfl
theorem r118_46f {a : Nat} : RR S d 118 46 L (.int 0 :: .ref a :: st) h Q = kO (ai_obj h a 10) (fun fs => kB (decide (35 < fs.length)) (RR S d 118 49 L st (h.1.set a (.inr (10, fs.set 35 (.int 0))), h.2) Q)) := RR.put rfl rfl (by decide +kernel) rfl
theorem r118_49 : RR S d 118 49 L st h Q = RR S d 118 50 L (.int 1 :: st) h Q := RR.icn (n := 1) rfl (by decide) rfl
theorem r118_50f : RR S d 118 50 L [.int 0] h Q = Q (some (.int 0)) h := RR.zrt rfl rfl (by decide)
theorem r118_50t : RR S d 118 50 L [.int 1] h Q = Q (some (.int 1)) h := RR.zrt rfl rfl (by decide)
end Ru
