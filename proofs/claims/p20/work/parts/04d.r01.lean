section Ru
variable {S : ai_S} {d : Nat} {L : ai_L} {st : List Value} {h : ai_H} {Q : Option Value → ai_H → Prop}
theorem r32_0 : RR S d 32 0 L st h Q = kA (ai_look L 0) (fun x => RR S d 32 1 L (x :: st) h Q) := RR.lda_n rfl rfl rfl
theorem r32_1 {a : Nat} : RR S d 32 1 L (.ref a :: st) h Q = kO (ai_fld h a 3 1) (fun w => RR S d 32 4 L (w :: st) h Q) := RR.get rfl rfl rfl
theorem r32_4 {a : Nat} : RR S (d + 1) 32 4 L (.ref a :: st) h Q = kB (decide (ai_sum st ≤ 8)) (kB ((ai_obj h a 0).isSome) (RR S d 1 0 [(0, .ref a)] [] h (fun r h1 => RR S (d + 1) 32 7 L (r.toList ++ st) h1 Q))) := RR.cv (j := 69) (mn' := 1) (n := 0) rfl rfl rfl rfl rfl rfl
theorem r32_7 : RR S d 32 7 L st h Q = kA (ai_look L 0) (fun x => RR S d 32 8 L (x :: st) h Q) := RR.lda_n rfl rfl rfl
theorem r32_8 : RR S d 32 8 L st h Q = RR S d 32 9 L (.int 0 :: st) h Q := RR.icn (n := 0) rfl (by decide) rfl
theorem r32_9 {x : Int32} {a : Nat} : RR S d 32 9 L (.int x :: .ref a :: st) h Q = kO (ai_obj h a 3) (fun fs => kB (decide (6 < fs.length)) (RR S d 32 12 L st (h.1.set a (.inr (3, fs.set 6 (.int x))), h.2) Q)) := RR.put rfl rfl (ai_okp_i rfl (by decide +kernel)) rfl
theorem r32_12 : RR S d 32 12 L st h Q = RR S d 32 13 L (.int 0 :: st) h Q := RR.icn (n := 0) rfl (by decide) rfl
theorem r32_13 {x : Int32} : RR S d 32 13 L (.int x :: st) h Q = RR S d 32 14 (ai_put 2 (.int x) L) st h Q := RR.do1 (14, ai_put 2 (.int x) L, st, h) rfl rfl rfl
theorem r32_14 : RR S d 32 14 L st h Q = kI (ai_look L 2) (fun x => RR S d 32 15 L (.int x :: st) h Q) := RR.ldi_n rfl rfl rfl
theorem r32_15 : RR S d 32 15 L st h Q = kA (ai_look L 0) (fun x => RR S d 32 16 L (x :: st) h Q) := RR.lda_n rfl rfl rfl
theorem r32_16 {a : Nat} : RR S d 32 16 L (.ref a :: st) h Q = kO (ai_fld h a 3 0) (fun w => RR S d 32 19 L (w :: st) h Q) := RR.get rfl rfl rfl
theorem r32_19 {a : Nat} : RR S d 32 19 L (.ref a :: st) h Q = kO (ai_fld h a 7 1) (fun w => RR S d 32 22 L (w :: st) h Q) := RR.get rfl rfl rfl
theorem r32_22 {x y : Int32} : RR S d 32 22 L (.int y :: .int x :: st) h Q = if y ≤ x then RR S d 32 83 L st h Q else RR S d 32 25 L st h Q := RR.b2 (c := .ge) (off := 61) rfl rfl (by decide) rfl
theorem r32_25 : RR S d 32 25 L st h Q = kI (ai_look L 1) (fun x => RR S d 32 26 L (.int x :: st) h Q) := RR.ldi_n rfl rfl rfl
theorem r32_26 : RR S d 32 26 L st h Q = kI (ai_look L 2) (fun x => RR S d 32 27 L (.int x :: st) h Q) := RR.ldi_n rfl rfl rfl
theorem r32_27 {x y : Int32} : RR S d 32 27 L (.int y :: .int x :: st) h Q = RR S d 32 28 L (.int (x >>> (y &&& 31)) :: st) h Q := RR.do1 (28, L, .int (x >>> (y &&& 31)) :: st, h) rfl rfl rfl
theorem r32_28 : RR S d 32 28 L st h Q = RR S d 32 29 L (.int 1 :: st) h Q := RR.icn (n := 1) rfl (by decide) rfl
theorem r32_29 {x y : Int32} : RR S d 32 29 L (.int y :: .int x :: st) h Q = RR S d 32 30 L (.int (x &&& y) :: st) h Q := RR.do1 (30, L, .int (x &&& y) :: st, h) rfl rfl rfl
theorem r32_30 {x : Int32} : RR S d 32 30 L (.int x :: st) h Q = if ¬ x = 0 then RR S d 32 41 L st h Q else RR S d 32 33 L st h Q := RR.b1 (c := .ne) (off := 11) rfl rfl (by decide) rfl
theorem r32_33 : RR S d 32 33 L st h Q = kA (ai_look L 0) (fun x => RR S d 32 34 L (x :: st) h Q) := RR.lda_n rfl rfl rfl
theorem r32_34 : RR S d 32 34 L st h Q = kI (ai_look L 2) (fun x => RR S d 32 35 L (.int x :: st) h Q) := RR.ldi_n rfl rfl rfl
theorem r32_35 {p0 : Int32} {a : Nat} : RR S (d + 1) 32 35 L (.int p0 :: .ref a :: st) h Q = kB (decide (ai_sum st ≤ 8)) (kB ((ai_obj h a 3).isSome) (RR S d 34 0 [(0, .ref a), (1, .int p0)] [] h (fun r h1 => RR S (d + 1) 32 38 L (r.toList ++ st) h1 Q))) := RR.cv (j := 77) (mn' := 34) (n := 1) rfl rfl rfl rfl rfl rfl
theorem r32_38 : RR S d 32 38 L st h Q = RR S d 32 77 L st h Q := RR.jmp (off := 39) rfl (by decide)
theorem r32_41 : RR S d 32 41 L st h Q = kA (ai_look L 0) (fun x => RR S d 32 42 L (x :: st) h Q) := RR.lda_n rfl rfl rfl
theorem r32_42 {a : Nat} : RR S d 32 42 L (.ref a :: st) h Q = kO (ai_fld h a 3 6) (fun w => RR S d 32 45 L (w :: st) h Q) := RR.get rfl rfl rfl
theorem r32_45 : RR S d 32 45 L st h Q = RR S d 32 47 L (.int 8 :: st) h Q := RR.bip (n := 8) rfl (by decide) rfl
theorem r32_47 {x y : Int32} : RR S d 32 47 L (.int y :: .int x :: st) h Q = if y ≤ x then RR S d 32 77 L st h Q else RR S d 32 50 L st h Q := RR.b2 (c := .ge) (off := 30) rfl rfl (by decide) rfl
theorem r32_50 : RR S d 32 50 L st h Q = kA (ai_look L 0) (fun x => RR S d 32 51 L (x :: st) h Q) := RR.lda_n rfl rfl rfl
theorem r32_51 {a : Nat} : RR S d 32 51 L (.ref a :: st) h Q = kO (ai_fld h a 3 2) (fun w => RR S d 32 54 L (w :: st) h Q) := RR.get rfl rfl rfl
theorem r32_54 : RR S d 32 54 L st h Q = kA (ai_look L 0) (fun x => RR S d 32 55 L (x :: st) h Q) := RR.lda_n rfl rfl rfl
theorem r32_55 {a : Nat} : RR S d 32 55 L (.ref a :: st) h Q = kO (ai_fld h a 3 6) (fun w => RR S d 32 58 L (w :: st) h Q) := RR.get rfl rfl rfl
theorem r32_58 : RR S d 32 58 L st h Q = kA (ai_look L 0) (fun x => RR S d 32 59 L (x :: st) h Q) := RR.lda_n rfl rfl rfl
theorem r32_59 {a : Nat} : RR S d 32 59 L (.ref a :: st) h Q = kO (ai_fld h a 3 0) (fun w => RR S d 32 62 L (w :: st) h Q) := RR.get rfl rfl rfl
theorem r32_62 : RR S d 32 62 L st h Q = kI (ai_look L 2) (fun x => RR S d 32 63 L (.int x :: st) h Q) := RR.ldi_n rfl rfl rfl
theorem r32_63 {p0 : Int32} {a : Nat} : RR S (d + 1) 32 63 L (.int p0 :: .ref a :: st) h Q = kB (decide (ai_sum st ≤ 8)) (kB ((ai_obj h a 7).isSome) (RR S d 66 0 [(0, .ref a), (1, .int p0)] [] h (fun r h1 => RR S (d + 1) 32 66 L (r.toList ++ st) h1 Q))) := RR.cv (j := 81) (mn' := 66) (n := 1) rfl rfl rfl rfl rfl rfl
theorem r32_66n {x : Int32} {a : Nat} : RR S d 32 66 L (.null :: .int x :: .ref a :: st) h Q = kO (ai_arq h a) (fun q => kB (ai_in x q.2.1 && (decide (2 ≤ q.1) && decide (q.1 < 5))) (RR S d 32 67 L st (h.1.set a (.inl (q.1, q.2.1, .inr (va_up q.2.2 x.toNatClampNeg none))), h.2) Q)) := RR.aasn rfl rfl
theorem r32_66 {x : Int32} {a w : Nat} : RR S d 32 66 L (.ref w :: .int x :: .ref a :: st) h Q = kO (ai_arq h a) (fun q => kB (ai_in x q.2.1 && (decide (2 ≤ q.1) && decide (q.1 < 5))) (kO (ai_cno h w) (fun c => kB (decide (ai_ao c = some q.1)) (RR S d 32 67 L st (h.1.set a (.inl (q.1, q.2.1, .inr (va_up q.2.2 x.toNatClampNeg (some w)))), h.2) Q)))) := RR.aasr rfl rfl
theorem r32_67 : RR S d 32 67 L st h Q = kA (ai_look L 0) (fun x => RR S d 32 68 L (x :: st) h Q) := RR.lda_n rfl rfl rfl
theorem r32_68 {v : Value} (hv : v.category = 1) : RR S d 32 68 L (v :: st) h Q = RR S d 32 69 L (v :: v :: st) h Q := RR.dup rfl hv rfl
theorem r32_69 {a : Nat} : RR S d 32 69 L (.ref a :: st) h Q = kO (ai_fld h a 3 6) (fun w => RR S d 32 72 L (w :: st) h Q) := RR.get rfl rfl rfl
theorem r32_72 : RR S d 32 72 L st h Q = RR S d 32 73 L (.int 1 :: st) h Q := RR.icn (n := 1) rfl (by decide) rfl
theorem r32_73 {x y : Int32} : RR S d 32 73 L (.int y :: .int x :: st) h Q = RR S d 32 74 L (.int (x + y) :: st) h Q := RR.do1 (74, L, .int (x + y) :: st, h) rfl rfl rfl
theorem r32_74 {x : Int32} {a : Nat} : RR S d 32 74 L (.int x :: .ref a :: st) h Q = kO (ai_obj h a 3) (fun fs => kB (decide (6 < fs.length)) (RR S d 32 77 L st (h.1.set a (.inr (3, fs.set 6 (.int x))), h.2) Q)) := RR.put rfl rfl (ai_okp_i rfl (by decide +kernel)) rfl
theorem r32_77 : RR S d 32 77 L st h Q = kI (ai_look L 2) (fun x => RR S d 32 80 (ai_put 2 (.int (x + 1)) L) st h Q) := RR.iinc (k := 2) (n := 1) rfl (by decide) (by decide) rfl
theorem r32_80 : RR S d 32 80 L st h Q = RR S d 32 14 L st h Q := RR.jmp (off := (-66)) rfl (by decide)
theorem r32_83 : RR S d 32 83 L st h Q = kA (ai_look L 0) (fun x => RR S d 32 84 L (x :: st) h Q) := RR.lda_n rfl rfl rfl
theorem r32_84 : RR S d 32 84 L st h Q = RR S d 32 85 L (.int 0 :: st) h Q := RR.icn (n := 0) rfl (by decide) rfl
theorem r32_85 {p0 : Int32} {a : Nat} : RR S (d + 1) 32 85 L (.int p0 :: .ref a :: st) h Q = kB (decide (ai_sum st ≤ 8)) (kB ((ai_obj h a 3).isSome) (RR S d 36 0 [(0, .ref a), (1, .int p0)] [] h (fun r h1 => RR S (d + 1) 32 88 L (r.toList ++ st) h1 Q))) := RR.cv (j := 85) (mn' := 36) (n := 1) rfl rfl rfl rfl rfl rfl
theorem r32_88 {x : Int32} : RR S d 32 88 L (.int x :: st) h Q = RR S d 32 89 (ai_put 2 (.int x) L) st h Q := RR.do1 (89, ai_put 2 (.int x) L, st, h) rfl rfl rfl
theorem r32_89 : RR S d 32 89 L st h Q = kI (ai_look L 2) (fun x => RR S d 32 90 L (.int x :: st) h Q) := RR.ldi_n rfl rfl rfl
theorem r32_90 : RR S d 32 90 L st h Q = RR S d 32 91 L (.int 1 :: st) h Q := RR.icn (n := 1) rfl (by decide) rfl
theorem r32_91 {x y : Int32} : RR S d 32 91 L (.int y :: .int x :: st) h Q = if ¬ x = y then RR S d 32 98 L st h Q else RR S d 32 94 L st h Q := RR.b2 (c := .ne) (off := 7) rfl rfl (by decide) rfl
theorem r32_94 : RR S d 32 94 L st h Q = kA (ai_look L 0) (fun x => RR S d 32 95 L (x :: st) h Q) := RR.lda_n rfl rfl rfl
theorem r32_95 {a : Nat} : RR S (d + 1) 32 95 L (.ref a :: st) h Q = kB (decide (ai_sum st ≤ 8)) (kB ((ai_obj h a 3).isSome) (RR S d 35 0 [(0, .ref a)] [] h (fun r h1 => RR S (d + 1) 32 98 L (r.toList ++ st) h1 Q))) := RR.cv (j := 88) (mn' := 35) (n := 0) rfl rfl rfl rfl rfl rfl
theorem r32_98 : RR S d 32 98 L st h Q = kA (ai_look L 0) (fun x => RR S d 32 99 L (x :: st) h Q) := RR.lda_n rfl rfl rfl
theorem r32_99 {a : Nat} : RR S (d + 1) 32 99 L (.ref a :: st) h Q = kB (decide (ai_sum st ≤ 8)) (kB ((ai_obj h a 3).isSome) (RR S d 33 0 [(0, .ref a)] [] h (fun r h1 => RR S (d + 1) 32 102 L (r.toList ++ st) h1 Q))) := RR.cv (j := 91) (mn' := 33) (n := 0) rfl rfl rfl rfl rfl rfl
theorem r32_102 : RR S d 32 102 L st h Q = kI (ai_look L 2) (fun x => RR S d 32 103 L (.int x :: st) h Q) := RR.ldi_n rfl rfl rfl
theorem r32_103 {x : Int32} : RR S d 32 103 L [.int x] h Q = Q (some (.int x)) h := RR.rt rfl rfl rfl
theorem r33_0 : RR S d 33 0 L st h Q = kA (ai_look L 0) (fun x => RR S d 33 1 L (x :: st) h Q) := RR.lda_n rfl rfl rfl
theorem r33_1 {a : Nat} : RR S d 33 1 L (.ref a :: st) h Q = kO (ai_fld h a 3 1) (fun w => RR S d 33 4 L (w :: st) h Q) := RR.get rfl rfl rfl
theorem r33_4 {a : Nat} : RR S (d + 1) 33 4 L (.ref a :: st) h Q = kB (decide (ai_sum st ≤ 8)) (kB ((ai_obj h a 0).isSome) (RR S d 1 0 [(0, .ref a)] [] h (fun r h1 => RR S (d + 1) 33 7 L (r.toList ++ st) h1 Q))) := RR.cv (j := 69) (mn' := 1) (n := 0) rfl rfl rfl rfl rfl rfl
theorem r33_7 : RR S d 33 7 L st h Q = RR S d 33 8 L (.int 0 :: st) h Q := RR.icn (n := 0) rfl (by decide) rfl
theorem r33_8 {x : Int32} : RR S d 33 8 L (.int x :: st) h Q = RR S d 33 9 (ai_put 1 (.int x) L) st h Q := RR.do1 (9, ai_put 1 (.int x) L, st, h) rfl rfl rfl
theorem r33_9 : RR S d 33 9 L st h Q = kI (ai_look L 1) (fun x => RR S d 33 10 L (.int x :: st) h Q) := RR.ldi_n rfl rfl rfl
theorem r33_10 : RR S d 33 10 L st h Q = kA (ai_look L 0) (fun x => RR S d 33 11 L (x :: st) h Q) := RR.lda_n rfl rfl rfl
theorem r33_11 {a : Nat} : RR S d 33 11 L (.ref a :: st) h Q = kO (ai_fld h a 3 0) (fun w => RR S d 33 14 L (w :: st) h Q) := RR.get rfl rfl rfl
theorem r33_14 {a : Nat} : RR S d 33 14 L (.ref a :: st) h Q = kO (ai_fld h a 7 1) (fun w => RR S d 33 17 L (w :: st) h Q) := RR.get rfl rfl rfl
theorem r33_17 {x y : Int32} : RR S d 33 17 L (.int y :: .int x :: st) h Q = if y ≤ x then RR S d 33 31 L st h Q else RR S d 33 20 L st h Q := RR.b2 (c := .ge) (off := 14) rfl rfl (by decide) rfl
theorem r33_20 : RR S d 33 20 L st h Q = kA (ai_look L 0) (fun x => RR S d 33 21 L (x :: st) h Q) := RR.lda_n rfl rfl rfl
theorem r33_21 : RR S d 33 21 L st h Q = kI (ai_look L 1) (fun x => RR S d 33 22 L (.int x :: st) h Q) := RR.ldi_n rfl rfl rfl
theorem r33_22 {p0 : Int32} {a : Nat} : RR S (d + 1) 33 22 L (.int p0 :: .ref a :: st) h Q = kB (decide (ai_sum st ≤ 8)) (kB ((ai_obj h a 3).isSome) (RR S d 34 0 [(0, .ref a), (1, .int p0)] [] h (fun r h1 => RR S (d + 1) 33 25 L (r.toList ++ st) h1 Q))) := RR.cv (j := 77) (mn' := 34) (n := 1) rfl rfl rfl rfl rfl rfl
theorem r33_25 : RR S d 33 25 L st h Q = kI (ai_look L 1) (fun x => RR S d 33 28 (ai_put 1 (.int (x + 1)) L) st h Q) := RR.iinc (k := 1) (n := 1) rfl (by decide) (by decide) rfl
theorem r33_28 : RR S d 33 28 L st h Q = RR S d 33 9 L st h Q := RR.jmp (off := (-19)) rfl (by decide)
theorem r33_31 : RR S d 33 31 L [] h Q = Q none h := RR.rt rfl rfl rfl
theorem r34_0 : RR S d 34 0 L st h Q = kA (ai_look L 0) (fun x => RR S d 34 1 L (x :: st) h Q) := RR.lda_n rfl rfl rfl
theorem r34_1 {a : Nat} : RR S d 34 1 L (.ref a :: st) h Q = kO (ai_fld h a 3 0) (fun w => RR S d 34 4 L (w :: st) h Q) := RR.get rfl rfl rfl
theorem r34_4 : RR S d 34 4 L st h Q = kI (ai_look L 1) (fun x => RR S d 34 5 L (.int x :: st) h Q) := RR.ldi_n rfl rfl rfl
theorem r34_5 {p0 : Int32} {a : Nat} : RR S (d + 1) 34 5 L (.int p0 :: .ref a :: st) h Q = kB (decide (ai_sum st ≤ 8)) (kB ((ai_obj h a 7).isSome) (RR S d 67 0 [(0, .ref a), (1, .int p0)] [] h (fun r h1 => RR S (d + 1) 34 8 L (r.toList ++ st) h1 Q))) := RR.cv (j := 94) (mn' := 67) (n := 1) rfl rfl rfl rfl rfl rfl
theorem r34_8 {x : Nat} : RR S d 34 8 L (.ref x :: st) h Q = RR S d 34 9 (ai_put 2 (.ref x) L) st h Q := RR.do1 (9, ai_put 2 (.ref x) L, st, h) rfl rfl rfl
theorem r34_8n : RR S d 34 8 L (.null :: st) h Q = RR S d 34 9 (ai_put 2 .null L) st h Q := RR.do1 (9, ai_put 2 .null L, st, h) rfl rfl rfl
theorem r34_9 : RR S d 34 9 L st h Q = kA (ai_look L 2) (fun x => RR S d 34 10 L (x :: st) h Q) := RR.lda_n rfl rfl rfl
theorem r34_10 {x : Nat} : RR S d 34 10 L (.ref x :: st) h Q = RR S d 34 13 L st h Q := RR.nul (b := false) (off := 20) (tgt := 30) rfl rfl rfl (by decide) rfl rfl
theorem r34_10n : RR S d 34 10 L (.null :: st) h Q = RR S d 34 30 L st h Q := RR.nul (b := true) (off := 20) (tgt := 30) rfl rfl rfl (by decide) rfl rfl
theorem r34_13 : RR S d 34 13 L st h Q = kA (ai_look L 0) (fun x => RR S d 34 14 L (x :: st) h Q) := RR.lda_n rfl rfl rfl
theorem r34_14 {a : Nat} : RR S d 34 14 L (.ref a :: st) h Q = kO (ai_fld h a 3 1) (fun w => RR S d 34 17 L (w :: st) h Q) := RR.get rfl rfl rfl
theorem r34_17 : RR S d 34 17 L st h Q = kA (ai_look L 2) (fun x => RR S d 34 18 L (x :: st) h Q) := RR.lda_n rfl rfl rfl
theorem r34_18 : RR S d 34 18 L st h Q = kA (ai_look L 2) (fun x => RR S d 34 19 L (x :: st) h Q) := RR.lda_n rfl rfl rfl
theorem r34_19 {a : Nat} : RR S (d + 1) 34 19 L (.ref a :: st) h Q = kB (decide (ai_sum st ≤ 8)) (kB ((ai_obj h a 6).isSome) (RR S d 63 0 [(0, .ref a)] [] h (fun r h1 => RR S (d + 1) 34 22 L (r.toList ++ st) h1 Q))) := RR.cv (j := 97) (mn' := 63) (n := 0) rfl rfl rfl rfl rfl rfl
theorem r34_22 : RR S d 34 22 L st h Q = kA (ai_look L 2) (fun x => RR S d 34 23 L (x :: st) h Q) := RR.lda_n rfl rfl rfl
theorem r34_23 {a : Nat} : RR S d 34 23 L (.ref a :: st) h Q = kO (ai_fld h a 6 5) (fun w => RR S d 34 26 L (w :: st) h Q) := RR.get rfl rfl rfl
theorem r34_26 : RR S d 34 26 L st h Q = RR S d 34 27 L (.int 1 :: st) h Q := RR.icn (n := 1) rfl (by decide) rfl
theorem r34_27 {p0 : Nat} {p1 : Int32} {p2 : Int32} {p3 : Int32} {a : Nat} : RR S (d + 1) 34 27 L (.int p3 :: .int p2 :: .int p1 :: .ref p0 :: .ref a :: st) h Q = kB (decide (ai_sum st ≤ 8)) (kB ((ai_obj h a 0).isSome) (RR S d 2 0 [(0, .ref a), (1, .ref p0), (2, .int p1), (3, .int p2), (4, .int p3)] [] h (fun r h1 => RR S (d + 1) 34 30 L (r.toList ++ st) h1 Q))) := RR.cv (j := 103) (mn' := 2) (n := 4) rfl rfl rfl rfl rfl rfl
theorem r34_30 : RR S d 34 30 L [] h Q = Q none h := RR.rt rfl rfl rfl
theorem r35_0 : RR S d 35 0 L st h Q = RR S d 35 1 L (.int 0 :: st) h Q := RR.icn (n := 0) rfl (by decide) rfl
theorem r35_1 {x : Int32} : RR S d 35 1 L (.int x :: st) h Q = RR S d 35 2 (ai_put 1 (.int x) L) st h Q := RR.do1 (2, ai_put 1 (.int x) L, st, h) rfl rfl rfl
theorem r35_2 : RR S d 35 2 L st h Q = kI (ai_look L 1) (fun x => RR S d 35 3 L (.int x :: st) h Q) := RR.ldi_n rfl rfl rfl
theorem r35_3 : RR S d 35 3 L st h Q = kA (ai_look L 0) (fun x => RR S d 35 4 L (x :: st) h Q) := RR.lda_n rfl rfl rfl
theorem r35_4 {a : Nat} : RR S d 35 4 L (.ref a :: st) h Q = kO (ai_fld h a 3 6) (fun w => RR S d 35 7 L (w :: st) h Q) := RR.get rfl rfl rfl
theorem r35_7 {x y : Int32} : RR S d 35 7 L (.int y :: .int x :: st) h Q = if y ≤ x then RR S d 35 47 L st h Q else RR S d 35 10 L st h Q := RR.b2 (c := .ge) (off := 40) rfl rfl (by decide) rfl
theorem r35_10 : RR S d 35 10 L st h Q = kA (ai_look L 0) (fun x => RR S d 35 11 L (x :: st) h Q) := RR.lda_n rfl rfl rfl
theorem r35_11 {a : Nat} : RR S d 35 11 L (.ref a :: st) h Q = kO (ai_fld h a 3 2) (fun w => RR S d 35 14 L (w :: st) h Q) := RR.get rfl rfl rfl
theorem r35_14 : RR S d 35 14 L st h Q = kI (ai_look L 1) (fun x => RR S d 35 15 L (.int x :: st) h Q) := RR.ldi_n rfl rfl rfl
theorem r35_15 {x : Int32} {a : Nat} : RR S d 35 15 L (.int x :: .ref a :: st) h Q = kO (ai_arq h a) (fun q => kB (ai_in x q.2.1 && (decide (2 ≤ q.1) && decide (q.1 < 5))) (RR S d 35 16 L (va_rf (q.2.2 x.toNatClampNeg) :: st) h Q)) := RR.aal rfl rfl
theorem r35_16 {x : Nat} : RR S d 35 16 L (.ref x :: st) h Q = RR S d 35 17 (ai_put 2 (.ref x) L) st h Q := RR.do1 (17, ai_put 2 (.ref x) L, st, h) rfl rfl rfl
theorem r35_16n : RR S d 35 16 L (.null :: st) h Q = RR S d 35 17 (ai_put 2 .null L) st h Q := RR.do1 (17, ai_put 2 .null L, st, h) rfl rfl rfl
theorem r35_17 : RR S d 35 17 L st h Q = kA (ai_look L 2) (fun x => RR S d 35 18 L (x :: st) h Q) := RR.lda_n rfl rfl rfl
theorem r35_18 {x : Nat} : RR S d 35 18 L (.ref x :: st) h Q = RR S d 35 21 L st h Q := RR.nul (b := false) (off := 23) (tgt := 41) rfl rfl rfl (by decide) rfl rfl
theorem r35_18n : RR S d 35 18 L (.null :: st) h Q = RR S d 35 41 L st h Q := RR.nul (b := true) (off := 23) (tgt := 41) rfl rfl rfl (by decide) rfl rfl
theorem r35_21 : RR S d 35 21 L st h Q = kA (ai_look L 2) (fun x => RR S d 35 22 L (x :: st) h Q) := RR.lda_n rfl rfl rfl
theorem r35_22 : RR S d 35 22 L st h Q = kA (ai_look L 0) (fun x => RR S d 35 23 L (x :: st) h Q) := RR.lda_n rfl rfl rfl
theorem r35_23 {a : Nat} : RR S d 35 23 L (.ref a :: st) h Q = kO (ai_fld h a 3 4) (fun w => RR S d 35 26 L (w :: st) h Q) := RR.get rfl rfl rfl
theorem r35_26 : RR S d 35 26 L st h Q = kI (ai_look L 1) (fun x => RR S d 35 27 L (.int x :: st) h Q) := RR.ldi_n rfl rfl rfl
theorem r35_27 {x : Int32} {a : Nat} : RR S d 35 27 L (.int x :: .ref a :: st) h Q = kO (ai_arr h a 0) (fun q => kB (ai_in x q.1) (RR S d 35 28 L (.int (q.2 x.toNatClampNeg) :: st) h Q)) := RR.ial rfl rfl
theorem r35_28 {x : Int32} {a : Nat} : RR S d 35 28 L (.int x :: .ref a :: st) h Q = kO (ai_obj h a 6) (fun fs => kB (decide (4 < fs.length)) (RR S d 35 31 L st (h.1.set a (.inr (6, fs.set 4 (.int x))), h.2) Q)) := RR.put rfl rfl (ai_okp_i rfl (by decide +kernel)) rfl
theorem r35_31 : RR S d 35 31 L st h Q = kA (ai_look L 2) (fun x => RR S d 35 32 L (x :: st) h Q) := RR.lda_n rfl rfl rfl
theorem r35_32 : RR S d 35 32 L st h Q = kA (ai_look L 0) (fun x => RR S d 35 33 L (x :: st) h Q) := RR.lda_n rfl rfl rfl
theorem r35_33 {a : Nat} : RR S d 35 33 L (.ref a :: st) h Q = kO (ai_fld h a 3 5) (fun w => RR S d 35 36 L (w :: st) h Q) := RR.get rfl rfl rfl
theorem r35_36 : RR S d 35 36 L st h Q = kI (ai_look L 1) (fun x => RR S d 35 37 L (.int x :: st) h Q) := RR.ldi_n rfl rfl rfl
theorem r35_37 {x : Int32} {a : Nat} : RR S d 35 37 L (.int x :: .ref a :: st) h Q = kO (ai_arr h a 0) (fun q => kB (ai_in x q.1) (RR S d 35 38 L (.int (q.2 x.toNatClampNeg) :: st) h Q)) := RR.ial rfl rfl
theorem r35_38 {x : Int32} {a : Nat} : RR S d 35 38 L (.int x :: .ref a :: st) h Q = kO (ai_obj h a 6) (fun fs => kB (decide (5 < fs.length)) (RR S d 35 41 L st (h.1.set a (.inr (6, fs.set 5 (.int x))), h.2) Q)) := RR.put rfl rfl (ai_okp_i rfl (by decide +kernel)) rfl
theorem r35_41 : RR S d 35 41 L st h Q = kI (ai_look L 1) (fun x => RR S d 35 44 (ai_put 1 (.int (x + 1)) L) st h Q) := RR.iinc (k := 1) (n := 1) rfl (by decide) (by decide) rfl
theorem r35_44 : RR S d 35 44 L st h Q = RR S d 35 2 L st h Q := RR.jmp (off := (-42)) rfl (by decide)
theorem r35_47 : RR S d 35 47 L [] h Q = Q none h := RR.rt rfl rfl rfl
theorem r36_0 : RR S d 36 0 L st h Q = kI (ai_look L 1) (fun x => RR S d 36 1 L (.int x :: st) h Q) := RR.ldi_n rfl rfl rfl
theorem r36_1 : RR S d 36 1 L st h Q = kA (ai_look L 0) (fun x => RR S d 36 2 L (x :: st) h Q) := RR.lda_n rfl rfl rfl
theorem r36_2 {a : Nat} : RR S d 36 2 L (.ref a :: st) h Q = kO (ai_fld h a 3 6) (fun w => RR S d 36 5 L (w :: st) h Q) := RR.get rfl rfl rfl
theorem r36_5 {x y : Int32} : RR S d 36 5 L (.int y :: .int x :: st) h Q = if y ≤ x then RR S d 36 23 L st h Q else RR S d 36 8 L st h Q := RR.b2 (c := .ge) (off := 18) rfl rfl (by decide) rfl
theorem r36_8 : RR S d 36 8 L st h Q = kI (ai_look L 1) (fun x => RR S d 36 9 L (.int x :: st) h Q) := RR.ldi_n rfl rfl rfl
theorem r36_9 : RR S d 36 9 L st h Q = RR S d 36 11 L (.int 8 :: st) h Q := RR.bip (n := 8) rfl (by decide) rfl
theorem r36_11 {x y : Int32} : RR S d 36 11 L (.int y :: .int x :: st) h Q = if y ≤ x then RR S d 36 23 L st h Q else RR S d 36 14 L st h Q := RR.b2 (c := .ge) (off := 12) rfl rfl (by decide) rfl
theorem r36_14 : RR S d 36 14 L st h Q = kA (ai_look L 0) (fun x => RR S d 36 15 L (x :: st) h Q) := RR.lda_n rfl rfl rfl
theorem r36_15 {a : Nat} : RR S d 36 15 L (.ref a :: st) h Q = kO (ai_fld h a 3 2) (fun w => RR S d 36 18 L (w :: st) h Q) := RR.get rfl rfl rfl
theorem r36_18 : RR S d 36 18 L st h Q = kI (ai_look L 1) (fun x => RR S d 36 19 L (.int x :: st) h Q) := RR.ldi_n rfl rfl rfl
theorem r36_19 {x : Int32} {a : Nat} : RR S d 36 19 L (.int x :: .ref a :: st) h Q = kO (ai_arq h a) (fun q => kB (ai_in x q.2.1 && (decide (2 ≤ q.1) && decide (q.1 < 5))) (RR S d 36 20 L (va_rf (q.2.2 x.toNatClampNeg) :: st) h Q)) := RR.aal rfl rfl
theorem r36_20 {x : Nat} : RR S d 36 20 L (.ref x :: st) h Q = RR S d 36 25 L st h Q := RR.nul (b := true) (off := 5) (tgt := 25) rfl rfl rfl (by decide) rfl rfl
theorem r36_20n : RR S d 36 20 L (.null :: st) h Q = RR S d 36 23 L st h Q := RR.nul (b := false) (off := 5) (tgt := 25) rfl rfl rfl (by decide) rfl rfl
theorem r36_23 : RR S d 36 23 L st h Q = RR S d 36 24 L (.int 1 :: st) h Q := RR.icn (n := 1) rfl (by decide) rfl
theorem r36_24 {x : Int32} : RR S d 36 24 L [.int x] h Q = Q (some (.int x)) h := RR.rt rfl rfl rfl
theorem r36_25 : RR S d 36 25 L st h Q = kA (ai_look L 0) (fun x => RR S d 36 26 L (x :: st) h Q) := RR.lda_n rfl rfl rfl
theorem r36_26 {a : Nat} : RR S d 36 26 L (.ref a :: st) h Q = kO (ai_fld h a 3 2) (fun w => RR S d 36 29 L (w :: st) h Q) := RR.get rfl rfl rfl
theorem r36_29 : RR S d 36 29 L st h Q = kI (ai_look L 1) (fun x => RR S d 36 30 L (.int x :: st) h Q) := RR.ldi_n rfl rfl rfl
theorem r36_30 {x : Int32} {a : Nat} : RR S d 36 30 L (.int x :: .ref a :: st) h Q = kO (ai_arq h a) (fun q => kB (ai_in x q.2.1 && (decide (2 ≤ q.1) && decide (q.1 < 5))) (RR S d 36 31 L (va_rf (q.2.2 x.toNatClampNeg) :: st) h Q)) := RR.aal rfl rfl
theorem r36_31 {x : Nat} : RR S d 36 31 L (.ref x :: st) h Q = RR S d 36 32 (ai_put 2 (.ref x) L) st h Q := RR.do1 (32, ai_put 2 (.ref x) L, st, h) rfl rfl rfl
theorem r36_31n : RR S d 36 31 L (.null :: st) h Q = RR S d 36 32 (ai_put 2 .null L) st h Q := RR.do1 (32, ai_put 2 .null L, st, h) rfl rfl rfl
theorem r36_32 : RR S d 36 32 L st h Q = RR S d 36 33 L (.int 0 :: st) h Q := RR.icn (n := 0) rfl (by decide) rfl
theorem r36_33 {x : Int32} : RR S d 36 33 L (.int x :: st) h Q = RR S d 36 34 (ai_put 3 (.int x) L) st h Q := RR.do1 (34, ai_put 3 (.int x) L, st, h) rfl rfl rfl
theorem r36_34 : RR S d 36 34 L st h Q = kI (ai_look L 3) (fun x => RR S d 36 35 L (.int x :: st) h Q) := RR.ldi_n rfl rfl rfl
theorem r36_35 : RR S d 36 35 L st h Q = kA (ai_look L 2) (fun x => RR S d 36 36 L (x :: st) h Q) := RR.lda_n rfl rfl rfl
theorem r36_36 {a : Nat} : RR S d 36 36 L (.ref a :: st) h Q = kO (ai_fld h a 6 3) (fun w => RR S d 36 39 L (w :: st) h Q) := RR.get rfl rfl rfl
theorem r36_39 {x y : Int32} : RR S d 36 39 L (.int y :: .int x :: st) h Q = if y ≤ x then RR S d 36 95 L st h Q else RR S d 36 42 L st h Q := RR.b2 (c := .ge) (off := 56) rfl rfl (by decide) rfl
theorem r36_42 : RR S d 36 42 L st h Q = kA (ai_look L 0) (fun x => RR S d 36 43 L (x :: st) h Q) := RR.lda_n rfl rfl rfl
theorem r36_43 {a : Nat} : RR S d 36 43 L (.ref a :: st) h Q = kO (ai_fld h a 3 4) (fun w => RR S d 36 46 L (w :: st) h Q) := RR.get rfl rfl rfl
theorem r36_46 : RR S d 36 46 L st h Q = kI (ai_look L 1) (fun x => RR S d 36 47 L (.int x :: st) h Q) := RR.ldi_n rfl rfl rfl
theorem r36_47 : RR S d 36 47 L st h Q = kI (ai_look L 3) (fun x => RR S d 36 48 L (.int x :: st) h Q) := RR.ldi_n rfl rfl rfl
theorem r36_48 {x y : Int32} {a : Nat} : RR S d 36 48 L (.int y :: .int x :: .ref a :: st) h Q = kO (ai_arr h a 0) (fun q => kB (ai_in x q.1) (RR S d 36 49 L st (h.1.set a (.inl (0, q.1, .inl (upd q.2 x.toNatClampNeg y))), h.2) Q)) := RR.ias rfl rfl
theorem r36_49 : RR S d 36 49 L st h Q = kA (ai_look L 0) (fun x => RR S d 36 50 L (x :: st) h Q) := RR.lda_n rfl rfl rfl
theorem r36_50 {a : Nat} : RR S d 36 50 L (.ref a :: st) h Q = kO (ai_fld h a 3 1) (fun w => RR S d 36 53 L (w :: st) h Q) := RR.get rfl rfl rfl
theorem r36_53 : RR S d 36 53 L st h Q = kA (ai_look L 0) (fun x => RR S d 36 54 L (x :: st) h Q) := RR.lda_n rfl rfl rfl
theorem r36_54 {a : Nat} : RR S d 36 54 L (.ref a :: st) h Q = kO (ai_fld h a 3 3) (fun w => RR S d 36 57 L (w :: st) h Q) := RR.get rfl rfl rfl
theorem r36_57 : RR S d 36 57 L st h Q = kI (ai_look L 1) (fun x => RR S d 36 58 L (.int x :: st) h Q) := RR.ldi_n rfl rfl rfl
theorem r36_58 {x : Int32} {a : Nat} : RR S d 36 58 L (.int x :: .ref a :: st) h Q = kO (ai_arq h a) (fun q => kB (ai_in x q.2.1 && (decide (2 ≤ q.1) && decide (q.1 < 5))) (RR S d 36 59 L (va_rf (q.2.2 x.toNatClampNeg) :: st) h Q)) := RR.aal rfl rfl
theorem r36_59 : RR S d 36 59 L st h Q = kA (ai_look L 2) (fun x => RR S d 36 60 L (x :: st) h Q) := RR.lda_n rfl rfl rfl
theorem r36_60 : RR S d 36 60 L st h Q = kA (ai_look L 2) (fun x => RR S d 36 61 L (x :: st) h Q) := RR.lda_n rfl rfl rfl
theorem r36_61 : RR S d 36 61 L st h Q = kI (ai_look L 3) (fun x => RR S d 36 62 L (.int x :: st) h Q) := RR.ldi_n rfl rfl rfl
theorem r36_62 {p0 : Int32} {a : Nat} : RR S (d + 1) 36 62 L (.int p0 :: .ref a :: st) h Q = kB (decide (ai_sum st ≤ 8)) (kB ((ai_obj h a 6).isSome) (RR S d 62 0 [(0, .ref a), (1, .int p0)] [] h (fun r h1 => RR S (d + 1) 36 65 L (r.toList ++ st) h1 Q))) := RR.cv (j := 112) (mn' := 62) (n := 1) rfl rfl rfl rfl rfl rfl
theorem r36_65 {p0 : Nat} {p1 : Nat} {p2 : Int32} {a : Nat} : RR S (d + 1) 36 65 L (.int p2 :: .ref p1 :: .ref p0 :: .ref a :: st) h Q = kB (decide (ai_sum st ≤ 8)) (kB ((ai_obj h a 0).isSome) (RR S d 3 0 [(0, .ref a), (1, .ref p0), (2, .ref p1), (3, .int p2)] [] h (fun r h1 => RR S (d + 1) 36 68 L (r.toList ++ st) h1 Q))) := RR.cv (j := 115) (mn' := 3) (n := 3) rfl rfl rfl rfl rfl rfl
theorem r36_68 : RR S d 36 68 L st h Q = kA (ai_look L 0) (fun x => RR S d 36 69 L (x :: st) h Q) := RR.lda_n rfl rfl rfl
theorem r36_69 : RR S d 36 69 L st h Q = kI (ai_look L 1) (fun x => RR S d 36 70 L (.int x :: st) h Q) := RR.ldi_n rfl rfl rfl
theorem r36_70 : RR S d 36 70 L st h Q = kA (ai_look L 2) (fun x => RR S d 36 71 L (x :: st) h Q) := RR.lda_n rfl rfl rfl
theorem r36_71 : RR S d 36 71 L st h Q = kA (ai_look L 2) (fun x => RR S d 36 72 L (x :: st) h Q) := RR.lda_n rfl rfl rfl
theorem r36_72 : RR S d 36 72 L st h Q = kI (ai_look L 3) (fun x => RR S d 36 73 L (.int x :: st) h Q) := RR.ldi_n rfl rfl rfl
theorem r36_73 {p0 : Int32} {a : Nat} : RR S (d + 1) 36 73 L (.int p0 :: .ref a :: st) h Q = kB (decide (ai_sum st ≤ 8)) (kB ((ai_obj h a 6).isSome) (RR S d 62 0 [(0, .ref a), (1, .int p0)] [] h (fun r h1 => RR S (d + 1) 36 76 L (r.toList ++ st) h1 Q))) := RR.cv (j := 112) (mn' := 62) (n := 1) rfl rfl rfl rfl rfl rfl
theorem r36_76 {p0 : Int32} {p1 : Nat} {p2 : Int32} {a : Nat} : RR S (d + 1) 36 76 L (.int p2 :: .ref p1 :: .int p0 :: .ref a :: st) h Q = kB (decide (ai_sum st ≤ 8)) (kB ((ai_obj h a 3).isSome) (RR S d 37 0 [(0, .ref a), (1, .int p0), (2, .ref p1), (3, .int p2)] [] h (fun r h1 => RR S (d + 1) 36 79 L (r.toList ++ st) h1 Q))) := RR.cv (j := 119) (mn' := 37) (n := 3) rfl rfl rfl rfl rfl rfl
theorem r36_79 {x : Int32} : RR S d 36 79 L (.int x :: st) h Q = RR S d 36 81 (ai_put 4 (.int x) L) st h Q := RR.do1 (81, ai_put 4 (.int x) L, st, h) rfl rfl rfl
theorem r36_81 : RR S d 36 81 L st h Q = kI (ai_look L 4) (fun x => RR S d 36 83 L (.int x :: st) h Q) := RR.ldi rfl rfl
theorem r36_83 {x : Int32} : RR S d 36 83 L (.int x :: st) h Q = if x = 0 then RR S d 36 89 L st h Q else RR S d 36 86 L st h Q := RR.b1 (c := .eq) (off := 6) rfl rfl (by decide) rfl
theorem r36_86 : RR S d 36 86 L st h Q = kI (ai_look L 4) (fun x => RR S d 36 88 L (.int x :: st) h Q) := RR.ldi rfl rfl
theorem r36_88 {x : Int32} : RR S d 36 88 L [.int x] h Q = Q (some (.int x)) h := RR.rt rfl rfl rfl
theorem r36_89 : RR S d 36 89 L st h Q = kI (ai_look L 3) (fun x => RR S d 36 92 (ai_put 3 (.int (x + 1)) L) st h Q) := RR.iinc (k := 3) (n := 1) rfl (by decide) (by decide) rfl
theorem r36_92 : RR S d 36 92 L st h Q = RR S d 36 34 L st h Q := RR.jmp (off := (-58)) rfl (by decide)
theorem r36_95 : RR S d 36 95 L st h Q = RR S d 36 96 L (.int 0 :: st) h Q := RR.icn (n := 0) rfl (by decide) rfl
theorem r36_96 {x : Int32} : RR S d 36 96 L [.int x] h Q = Q (some (.int x)) h := RR.rt rfl rfl rfl
theorem r37_0 : RR S d 37 0 L st h Q = RR S d 37 1 L (.int 0 :: st) h Q := RR.icn (n := 0) rfl (by decide) rfl
theorem r37_1 {x : Int32} : RR S d 37 1 L (.int x :: st) h Q = RR S d 37 3 (ai_put 4 (.int x) L) st h Q := RR.do1 (3, ai_put 4 (.int x) L, st, h) rfl rfl rfl
theorem r37_3 : RR S d 37 3 L st h Q = kI (ai_look L 4) (fun x => RR S d 37 5 L (.int x :: st) h Q) := RR.ldi rfl rfl
theorem r37_5 : RR S d 37 5 L st h Q = kA (ai_look L 2) (fun x => RR S d 37 6 L (x :: st) h Q) := RR.lda_n rfl rfl rfl
theorem r37_6 {a : Nat} : RR S d 37 6 L (.ref a :: st) h Q = kO (ai_fld h a 6 1) (fun w => RR S d 37 9 L (w :: st) h Q) := RR.get rfl rfl rfl
theorem r37_9 {x y : Int32} : RR S d 37 9 L (.int y :: .int x :: st) h Q = if y ≤ x then RR S d 37 106 L st h Q else RR S d 37 12 L st h Q := RR.b2 (c := .ge) (off := 97) rfl rfl (by decide) rfl
theorem r37_12 : RR S d 37 12 L st h Q = kA (ai_look L 0) (fun x => RR S d 37 13 L (x :: st) h Q) := RR.lda_n rfl rfl rfl
theorem r37_13 {a : Nat} : RR S d 37 13 L (.ref a :: st) h Q = kO (ai_fld h a 3 7) (fun w => RR S d 37 16 L (w :: st) h Q) := RR.get rfl rfl rfl
theorem r37_16 : RR S d 37 16 L st h Q = RR S d 37 18 L (.int 40000 :: st) h Q := RR.do1 (18, L, .int 40000 :: st, h) rfl rfl rfl
theorem r37_18 {x y : Int32} : RR S d 37 18 L (.int y :: .int x :: st) h Q = if x < y then RR S d 37 24 L st h Q else RR S d 37 21 L st h Q := RR.b2 (c := .lt) (off := 6) rfl rfl (by decide) rfl
theorem r37_21 : RR S d 37 21 L st h Q = RR S d 37 23 L (.int (-2) :: st) h Q := RR.bip (n := (-2)) rfl (by decide) rfl
theorem r37_23 {x : Int32} : RR S d 37 23 L [.int x] h Q = Q (some (.int x)) h := RR.rt rfl rfl rfl
theorem r37_24 : RR S d 37 24 L st h Q = kA (ai_look L 0) (fun x => RR S d 37 25 L (x :: st) h Q) := RR.lda_n rfl rfl rfl
theorem r37_25 {v : Value} (hv : v.category = 1) : RR S d 37 25 L (v :: st) h Q = RR S d 37 26 L (v :: v :: st) h Q := RR.dup rfl hv rfl
theorem r37_26 {a : Nat} : RR S d 37 26 L (.ref a :: st) h Q = kO (ai_fld h a 3 7) (fun w => RR S d 37 29 L (w :: st) h Q) := RR.get rfl rfl rfl
theorem r37_29 : RR S d 37 29 L st h Q = RR S d 37 30 L (.int 1 :: st) h Q := RR.icn (n := 1) rfl (by decide) rfl
theorem r37_30 {x y : Int32} : RR S d 37 30 L (.int y :: .int x :: st) h Q = RR S d 37 31 L (.int (x + y) :: st) h Q := RR.do1 (31, L, .int (x + y) :: st, h) rfl rfl rfl
theorem r37_31 {x : Int32} {a : Nat} : RR S d 37 31 L (.int x :: .ref a :: st) h Q = kO (ai_obj h a 3) (fun fs => kB (decide (7 < fs.length)) (RR S d 37 34 L st (h.1.set a (.inr (3, fs.set 7 (.int x))), h.2) Q)) := RR.put rfl rfl (ai_okp_i rfl (by decide +kernel)) rfl
theorem r37_34 : RR S d 37 34 L st h Q = kA (ai_look L 0) (fun x => RR S d 37 35 L (x :: st) h Q) := RR.lda_n rfl rfl rfl
theorem r37_35 {a : Nat} : RR S d 37 35 L (.ref a :: st) h Q = kO (ai_fld h a 3 3) (fun w => RR S d 37 38 L (w :: st) h Q) := RR.get rfl rfl rfl
theorem r37_38 : RR S d 37 38 L st h Q = kI (ai_look L 1) (fun x => RR S d 37 39 L (.int x :: st) h Q) := RR.ldi_n rfl rfl rfl
theorem r37_39 {x : Int32} {a : Nat} : RR S d 37 39 L (.int x :: .ref a :: st) h Q = kO (ai_arq h a) (fun q => kB (ai_in x q.2.1 && (decide (2 ≤ q.1) && decide (q.1 < 5))) (RR S d 37 40 L (va_rf (q.2.2 x.toNatClampNeg) :: st) h Q)) := RR.aal rfl rfl
theorem r37_40 : RR S d 37 40 L st h Q = kI (ai_look L 4) (fun x => RR S d 37 42 L (.int x :: st) h Q) := RR.ldi rfl rfl
theorem r37_42 {p0 : Int32} {a : Nat} : RR S (d + 1) 37 42 L (.int p0 :: .ref a :: st) h Q = kB (decide (ai_sum st ≤ 8)) (kB ((ai_obj h a 5).isSome) (RR S d 53 0 [(0, .ref a), (1, .int p0)] [] h (fun r h1 => RR S (d + 1) 37 45 L (r.toList ++ st) h1 Q))) := RR.cv (j := 127) (mn' := 53) (n := 1) rfl rfl rfl rfl rfl rfl
theorem r37_45 {x : Int32} : RR S d 37 45 L (.int x :: st) h Q = if x = 0 then RR S d 37 51 L st h Q else RR S d 37 48 L st h Q := RR.b1 (c := .eq) (off := 6) rfl rfl (by decide) rfl
theorem r37_48 : RR S d 37 48 L st h Q = RR S d 37 100 L st h Q := RR.jmp (off := 52) rfl (by decide)
theorem r37_51 : RR S d 37 51 L st h Q = kA (ai_look L 0) (fun x => RR S d 37 52 L (x :: st) h Q) := RR.lda_n rfl rfl rfl
theorem r37_52 {a : Nat} : RR S d 37 52 L (.ref a :: st) h Q = kO (ai_fld h a 3 5) (fun w => RR S d 37 55 L (w :: st) h Q) := RR.get rfl rfl rfl
theorem r37_55 : RR S d 37 55 L st h Q = kI (ai_look L 1) (fun x => RR S d 37 56 L (.int x :: st) h Q) := RR.ldi_n rfl rfl rfl
theorem r37_56 : RR S d 37 56 L st h Q = kI (ai_look L 4) (fun x => RR S d 37 58 L (.int x :: st) h Q) := RR.ldi rfl rfl
theorem r37_58 {x y : Int32} {a : Nat} : RR S d 37 58 L (.int y :: .int x :: .ref a :: st) h Q = kO (ai_arr h a 0) (fun q => kB (ai_in x q.1) (RR S d 37 59 L st (h.1.set a (.inl (0, q.1, .inl (upd q.2 x.toNatClampNeg y))), h.2) Q)) := RR.ias rfl rfl
theorem r37_59 : RR S d 37 59 L st h Q = kA (ai_look L 0) (fun x => RR S d 37 60 L (x :: st) h Q) := RR.lda_n rfl rfl rfl
theorem r37_60 {a : Nat} : RR S d 37 60 L (.ref a :: st) h Q = kO (ai_fld h a 3 1) (fun w => RR S d 37 63 L (w :: st) h Q) := RR.get rfl rfl rfl
theorem r37_63 : RR S d 37 63 L st h Q = kA (ai_look L 2) (fun x => RR S d 37 64 L (x :: st) h Q) := RR.lda_n rfl rfl rfl
theorem r37_64 : RR S d 37 64 L st h Q = kI (ai_look L 3) (fun x => RR S d 37 65 L (.int x :: st) h Q) := RR.ldi_n rfl rfl rfl
theorem r37_65 : RR S d 37 65 L st h Q = kI (ai_look L 4) (fun x => RR S d 37 67 L (.int x :: st) h Q) := RR.ldi rfl rfl
theorem r37_67 : RR S d 37 67 L st h Q = RR S d 37 68 L (.int 1 :: st) h Q := RR.icn (n := 1) rfl (by decide) rfl
theorem r37_68 {p0 : Nat} {p1 : Int32} {p2 : Int32} {p3 : Int32} {a : Nat} : RR S (d + 1) 37 68 L (.int p3 :: .int p2 :: .int p1 :: .ref p0 :: .ref a :: st) h Q = kB (decide (ai_sum st ≤ 8)) (kB ((ai_obj h a 0).isSome) (RR S d 2 0 [(0, .ref a), (1, .ref p0), (2, .int p1), (3, .int p2), (4, .int p3)] [] h (fun r h1 => RR S (d + 1) 37 71 L (r.toList ++ st) h1 Q))) := RR.cv (j := 103) (mn' := 2) (n := 4) rfl rfl rfl rfl rfl rfl
theorem r37_71 : RR S d 37 71 L st h Q = kA (ai_look L 0) (fun x => RR S d 37 72 L (x :: st) h Q) := RR.lda_n rfl rfl rfl
theorem r37_72 : RR S d 37 72 L st h Q = kI (ai_look L 1) (fun x => RR S d 37 73 L (.int x :: st) h Q) := RR.ldi_n rfl rfl rfl
theorem r37_73 : RR S d 37 73 L st h Q = RR S d 37 74 L (.int 1 :: st) h Q := RR.icn (n := 1) rfl (by decide) rfl
theorem r37_74 {x y : Int32} : RR S d 37 74 L (.int y :: .int x :: st) h Q = RR S d 37 75 L (.int (x + y) :: st) h Q := RR.do1 (75, L, .int (x + y) :: st, h) rfl rfl rfl
theorem r37_75 {p0 : Int32} {a : Nat} : RR S (d + 1) 37 75 L (.int p0 :: .ref a :: st) h Q = kB (decide (ai_sum st ≤ 8)) (kB ((ai_obj h a 3).isSome) (RR S d 36 0 [(0, .ref a), (1, .int p0)] [] h (fun r h1 => RR S (d + 1) 37 78 L (r.toList ++ st) h1 Q))) := RR.cv (j := 85) (mn' := 36) (n := 1) rfl rfl rfl rfl rfl rfl
theorem r37_78 {x : Int32} : RR S d 37 78 L (.int x :: st) h Q = RR S d 37 80 (ai_put 5 (.int x) L) st h Q := RR.do1 (80, ai_put 5 (.int x) L, st, h) rfl rfl rfl
theorem r37_80 : RR S d 37 80 L st h Q = kI (ai_look L 5) (fun x => RR S d 37 82 L (.int x :: st) h Q) := RR.ldi rfl rfl
theorem r37_82 {x : Int32} : RR S d 37 82 L (.int x :: st) h Q = if x = 0 then RR S d 37 88 L st h Q else RR S d 37 85 L st h Q := RR.b1 (c := .eq) (off := 6) rfl rfl (by decide) rfl
theorem r37_85 : RR S d 37 85 L st h Q = kI (ai_look L 5) (fun x => RR S d 37 87 L (.int x :: st) h Q) := RR.ldi rfl rfl
theorem r37_87 {x : Int32} : RR S d 37 87 L [.int x] h Q = Q (some (.int x)) h := RR.rt rfl rfl rfl
theorem r37_88 : RR S d 37 88 L st h Q = kA (ai_look L 0) (fun x => RR S d 37 89 L (x :: st) h Q) := RR.lda_n rfl rfl rfl
theorem r37_89 {a : Nat} : RR S d 37 89 L (.ref a :: st) h Q = kO (ai_fld h a 3 1) (fun w => RR S d 37 92 L (w :: st) h Q) := RR.get rfl rfl rfl
theorem r37_92 : RR S d 37 92 L st h Q = kA (ai_look L 2) (fun x => RR S d 37 93 L (x :: st) h Q) := RR.lda_n rfl rfl rfl
theorem r37_93 : RR S d 37 93 L st h Q = kI (ai_look L 3) (fun x => RR S d 37 94 L (.int x :: st) h Q) := RR.ldi_n rfl rfl rfl
theorem r37_94 : RR S d 37 94 L st h Q = kI (ai_look L 4) (fun x => RR S d 37 96 L (.int x :: st) h Q) := RR.ldi rfl rfl
theorem r37_96 : RR S d 37 96 L st h Q = RR S d 37 97 L (.int 0 :: st) h Q := RR.icn (n := 0) rfl (by decide) rfl
theorem r37_97 {p0 : Nat} {p1 : Int32} {p2 : Int32} {p3 : Int32} {a : Nat} : RR S (d + 1) 37 97 L (.int p3 :: .int p2 :: .int p1 :: .ref p0 :: .ref a :: st) h Q = kB (decide (ai_sum st ≤ 8)) (kB ((ai_obj h a 0).isSome) (RR S d 2 0 [(0, .ref a), (1, .ref p0), (2, .int p1), (3, .int p2), (4, .int p3)] [] h (fun r h1 => RR S (d + 1) 37 100 L (r.toList ++ st) h1 Q))) := RR.cv (j := 103) (mn' := 2) (n := 4) rfl rfl rfl rfl rfl rfl
theorem r37_100 : RR S d 37 100 L st h Q = kI (ai_look L 4) (fun x => RR S d 37 103 (ai_put 4 (.int (x + 1)) L) st h Q) := RR.iinc (k := 4) (n := 1) rfl (by decide) (by decide) rfl
theorem r37_103 : RR S d 37 103 L st h Q = RR S d 37 3 L st h Q := RR.jmp (off := (-100)) rfl (by decide)
theorem r37_106 : RR S d 37 106 L st h Q = RR S d 37 107 L (.int 0 :: st) h Q := RR.icn (n := 0) rfl (by decide) rfl
theorem r37_107 {x : Int32} : RR S d 37 107 L [.int x] h Q = Q (some (.int x)) h := RR.rt rfl rfl rfl
theorem r38_0 : RR S d 38 0 L st h Q = kA (ai_look L 0) (fun x => RR S d 38 1 L (x :: st) h Q) := RR.lda_n rfl rfl rfl
theorem r38_1 {a : Nat} : RR S d 38 1 L (.ref a :: st) h Q = kB (decide (ai_sum st ≤ 8)) (RR S d 38 4 L st h Q) := RR.oin (j := 3) rfl rfl rfl
theorem r38_4 : RR S d 38 4 L st h Q = kA (ai_look L 0) (fun x => RR S d 38 5 L (x :: st) h Q) := RR.lda_n rfl rfl rfl
theorem r38_5 : RR S d 38 5 L st h Q = RR S d 38 7 L (.int 60 :: st) h Q := RR.bip (n := 60) rfl (by decide) rfl
theorem r38_7 {n : Int32} : RR S d 38 7 L (.int n :: st) h Q = kB (decide (¬ n < 0) && decide (n.toNatClampNeg ≤ 100000)) (RR S d 38 10 L (.ref h.1.length :: st) (h.1 ++ [.inl (4, n.toNatClampNeg, .inr (fun _ => none))], h.2 + n.toNatClampNeg) Q) := RR.newq rfl rfl rfl rfl
theorem r38_10 {x : Nat} {a : Nat} : RR S d 38 10 L (.ref x :: .ref a :: st) h Q = kO (ai_obj h a 4) (fun fs => kB (decide (3 < fs.length)) (RR S d 38 13 L st (h.1.set a (.inr (4, fs.set 3 (.ref x))), h.2) Q)) := RR.put rfl rfl (ai_okp_r (by decide +kernel)) rfl
theorem r38_13 : RR S d 38 13 L st h Q = kA (ai_look L 0) (fun x => RR S d 38 14 L (x :: st) h Q) := RR.lda_n rfl rfl rfl
theorem r38_14 : RR S d 38 14 L st h Q = RR S d 38 16 L (.int 12 :: st) h Q := RR.bip (n := 12) rfl (by decide) rfl
theorem r38_16 {n : Int32} : RR S d 38 16 L (.int n :: st) h Q = kB (decide (¬ n < 0) && decide (n.toNatClampNeg ≤ 100000)) (RR S d 38 19 L (.ref h.1.length :: st) (h.1 ++ [.inl (4, n.toNatClampNeg, .inr (fun _ => none))], h.2 + n.toNatClampNeg) Q) := RR.newq rfl rfl rfl rfl
theorem r38_19 {x : Nat} {a : Nat} : RR S d 38 19 L (.ref x :: .ref a :: st) h Q = kO (ai_obj h a 4) (fun fs => kB (decide (4 < fs.length)) (RR S d 38 22 L st (h.1.set a (.inr (4, fs.set 4 (.ref x))), h.2) Q)) := RR.put rfl rfl (ai_okp_r (by decide +kernel)) rfl
theorem r38_22 : RR S d 38 22 L st h Q = kA (ai_look L 0) (fun x => RR S d 38 23 L (x :: st) h Q) := RR.lda_n rfl rfl rfl
theorem r38_23 : RR S d 38 23 L st h Q = RR S d 38 25 L (.int 12 :: st) h Q := RR.bip (n := 12) rfl (by decide) rfl
theorem r38_25 {n : Int32} : RR S d 38 25 L (.int n :: st) h Q = kB (decide (¬ n < 0) && decide (n.toNatClampNeg ≤ 100000)) (RR S d 38 27 L (.ref h.1.length :: st) (h.1 ++ [.inl (0, n.toNatClampNeg, .inl (fun _ => 0))], h.2 + n.toNatClampNeg) Q) := RR.newa0 rfl rfl
theorem r38_27 {x : Nat} {a : Nat} : RR S d 38 27 L (.ref x :: .ref a :: st) h Q = kO (ai_obj h a 4) (fun fs => kB (decide (5 < fs.length)) (RR S d 38 30 L st (h.1.set a (.inr (4, fs.set 5 (.ref x))), h.2) Q)) := RR.put rfl rfl (ai_okp_r (by decide +kernel)) rfl
theorem r38_30 : RR S d 38 30 L st h Q = kA (ai_look L 0) (fun x => RR S d 38 31 L (x :: st) h Q) := RR.lda_n rfl rfl rfl
theorem r38_31 : RR S d 38 31 L st h Q = RR S d 38 33 L (.int 12 :: st) h Q := RR.bip (n := 12) rfl (by decide) rfl
theorem r38_33 {n : Int32} : RR S d 38 33 L (.int n :: st) h Q = kB (decide (¬ n < 0) && decide (n.toNatClampNeg ≤ 100000)) (RR S d 38 35 L (.ref h.1.length :: st) (h.1 ++ [.inl (0, n.toNatClampNeg, .inl (fun _ => 0))], h.2 + n.toNatClampNeg) Q) := RR.newa0 rfl rfl
theorem r38_35 {x : Nat} {a : Nat} : RR S d 38 35 L (.ref x :: .ref a :: st) h Q = kO (ai_obj h a 4) (fun fs => kB (decide (6 < fs.length)) (RR S d 38 38 L st (h.1.set a (.inr (4, fs.set 6 (.ref x))), h.2) Q)) := RR.put rfl rfl (ai_okp_r (by decide +kernel)) rfl
theorem r38_38 : RR S d 38 38 L st h Q = kA (ai_look L 0) (fun x => RR S d 38 39 L (x :: st) h Q) := RR.lda_n rfl rfl rfl
theorem r38_39 : RR S d 38 39 L st h Q = RR S d 38 40 L (.int 0 :: st) h Q := RR.icn (n := 0) rfl (by decide) rfl
theorem r38_40 {x : Int32} {a : Nat} : RR S d 38 40 L (.int x :: .ref a :: st) h Q = kO (ai_obj h a 4) (fun fs => kB (decide (7 < fs.length)) (RR S d 38 43 L st (h.1.set a (.inr (4, fs.set 7 (.int x))), h.2) Q)) := RR.put rfl rfl (ai_okp_i rfl (by decide +kernel)) rfl
theorem r38_43 : RR S d 38 43 L st h Q = kA (ai_look L 0) (fun x => RR S d 38 44 L (x :: st) h Q) := RR.lda_n rfl rfl rfl
theorem r38_44 : RR S d 38 44 L st h Q = RR S d 38 45 L (.int 0 :: st) h Q := RR.icn (n := 0) rfl (by decide) rfl
theorem r38_45t {a : Nat} : RR S d 38 45 L (.int 1 :: .ref a :: st) h Q = kO (ai_obj h a 4) (fun fs => kB (decide (8 < fs.length)) (RR S d 38 48 L st (h.1.set a (.inr (4, fs.set 8 (.int 1))), h.2) Q)) := RR.put rfl rfl (by decide +kernel) rfl
theorem r38_45f {a : Nat} : RR S d 38 45 L (.int 0 :: .ref a :: st) h Q = kO (ai_obj h a 4) (fun fs => kB (decide (8 < fs.length)) (RR S d 38 48 L st (h.1.set a (.inr (4, fs.set 8 (.int 0))), h.2) Q)) := RR.put rfl rfl (by decide +kernel) rfl
theorem r38_48 : RR S d 38 48 L st h Q = kA (ai_look L 0) (fun x => RR S d 38 49 L (x :: st) h Q) := RR.lda_n rfl rfl rfl
theorem r38_49 : RR S d 38 49 L st h Q = kA (ai_look L 1) (fun x => RR S d 38 50 L (x :: st) h Q) := RR.lda_n rfl rfl rfl
theorem r38_50 {x : Nat} {a : Nat} : RR S d 38 50 L (.ref x :: .ref a :: st) h Q = kO (ai_obj h a 4) (fun fs => kB (decide (0 < fs.length)) (RR S d 38 53 L st (h.1.set a (.inr (4, fs.set 0 (.ref x))), h.2) Q)) := RR.put rfl rfl (ai_okp_r (by decide +kernel)) rfl
theorem r38_53 : RR S d 38 53 L st h Q = kA (ai_look L 0) (fun x => RR S d 38 54 L (x :: st) h Q) := RR.lda_n rfl rfl rfl
theorem r38_54 : RR S d 38 54 L st h Q = kA (ai_look L 2) (fun x => RR S d 38 55 L (x :: st) h Q) := RR.lda_n rfl rfl rfl
theorem r38_55 {x : Nat} {a : Nat} : RR S d 38 55 L (.ref x :: .ref a :: st) h Q = kO (ai_obj h a 4) (fun fs => kB (decide (1 < fs.length)) (RR S d 38 58 L st (h.1.set a (.inr (4, fs.set 1 (.ref x))), h.2) Q)) := RR.put rfl rfl (ai_okp_r (by decide +kernel)) rfl
theorem r38_58 : RR S d 38 58 L st h Q = kA (ai_look L 0) (fun x => RR S d 38 59 L (x :: st) h Q) := RR.lda_n rfl rfl rfl
theorem r38_59 : RR S d 38 59 L st h Q = kA (ai_look L 3) (fun x => RR S d 38 60 L (x :: st) h Q) := RR.lda_n rfl rfl rfl
theorem r38_60 {x : Nat} {a : Nat} : RR S d 38 60 L (.ref x :: .ref a :: st) h Q = kO (ai_obj h a 4) (fun fs => kB (decide (2 < fs.length)) (RR S d 38 63 L st (h.1.set a (.inr (4, fs.set 2 (.ref x))), h.2) Q)) := RR.put rfl rfl (ai_okp_r (by decide +kernel)) rfl
theorem r38_63 : RR S d 38 63 L [] h Q = Q none h := RR.rt rfl rfl rfl
theorem r39_0 : RR S d 39 0 L st h Q = kA (ai_look L 0) (fun x => RR S d 39 1 L (x :: st) h Q) := RR.lda_n rfl rfl rfl
theorem r39_1 {a : Nat} : RR S d 39 1 L (.ref a :: st) h Q = kO (ai_fld h a 4 7) (fun w => RR S d 39 4 L (w :: st) h Q) := RR.get rfl rfl rfl
theorem r39_4 : RR S d 39 4 L st h Q = RR S d 39 6 L (.int 60 :: st) h Q := RR.bip (n := 60) rfl (by decide) rfl
theorem r39_6 {x y : Int32} : RR S d 39 6 L (.int y :: .int x :: st) h Q = if x < y then RR S d 39 11 L st h Q else RR S d 39 9 L st h Q := RR.b2 (c := .lt) (off := 5) rfl rfl (by decide) rfl
theorem r39_9 : RR S d 39 9 L st h Q = RR S d 39 10 L (.int (-1) :: st) h Q := RR.icn (n := (-1)) rfl (by decide) rfl
theorem r39_10 {x : Int32} : RR S d 39 10 L [.int x] h Q = Q (some (.int x)) h := RR.rt rfl rfl rfl
theorem r39_11 : RR S d 39 11 L st h Q = kA (ai_look L 0) (fun x => RR S d 39 12 L (x :: st) h Q) := RR.lda_n rfl rfl rfl
theorem r39_12 {a : Nat} : RR S d 39 12 L (.ref a :: st) h Q = kO (ai_fld h a 4 3) (fun w => RR S d 39 15 L (w :: st) h Q) := RR.get rfl rfl rfl
theorem r39_15 : RR S d 39 15 L st h Q = kA (ai_look L 0) (fun x => RR S d 39 16 L (x :: st) h Q) := RR.lda_n rfl rfl rfl
theorem r39_16 {a : Nat} : RR S d 39 16 L (.ref a :: st) h Q = kO (ai_fld h a 4 7) (fun w => RR S d 39 19 L (w :: st) h Q) := RR.get rfl rfl rfl
theorem r39_19 : RR S d 39 19 L st h Q = kA (ai_look L 1) (fun x => RR S d 39 20 L (x :: st) h Q) := RR.lda_n rfl rfl rfl
theorem r39_20n {x : Int32} {a : Nat} : RR S d 39 20 L (.null :: .int x :: .ref a :: st) h Q = kO (ai_arq h a) (fun q => kB (ai_in x q.2.1 && (decide (2 ≤ q.1) && decide (q.1 < 5))) (RR S d 39 21 L st (h.1.set a (.inl (q.1, q.2.1, .inr (va_up q.2.2 x.toNatClampNeg none))), h.2) Q)) := RR.aasn rfl rfl
theorem r39_20 {x : Int32} {a w : Nat} : RR S d 39 20 L (.ref w :: .int x :: .ref a :: st) h Q = kO (ai_arq h a) (fun q => kB (ai_in x q.2.1 && (decide (2 ≤ q.1) && decide (q.1 < 5))) (kO (ai_cno h w) (fun c => kB (decide (ai_ao c = some q.1)) (RR S d 39 21 L st (h.1.set a (.inl (q.1, q.2.1, .inr (va_up q.2.2 x.toNatClampNeg (some w)))), h.2) Q)))) := RR.aasr rfl rfl
theorem r39_21 : RR S d 39 21 L st h Q = kA (ai_look L 0) (fun x => RR S d 39 22 L (x :: st) h Q) := RR.lda_n rfl rfl rfl
theorem r39_22 {v : Value} (hv : v.category = 1) : RR S d 39 22 L (v :: st) h Q = RR S d 39 23 L (v :: v :: st) h Q := RR.dup rfl hv rfl
theorem r39_23 {a : Nat} : RR S d 39 23 L (.ref a :: st) h Q = kO (ai_fld h a 4 7) (fun w => RR S d 39 26 L (w :: st) h Q) := RR.get rfl rfl rfl
theorem r39_26 : RR S d 39 26 L st h Q = RR S d 39 27 L (.int 1 :: st) h Q := RR.icn (n := 1) rfl (by decide) rfl
theorem r39_27 {x y : Int32} : RR S d 39 27 L (.int y :: .int x :: st) h Q = RR S d 39 28 L (.int (x + y) :: st) h Q := RR.do1 (28, L, .int (x + y) :: st, h) rfl rfl rfl
theorem r39_28 {x : Int32} {a : Nat} : RR S d 39 28 L (.int x :: .ref a :: st) h Q = kO (ai_obj h a 4) (fun fs => kB (decide (7 < fs.length)) (RR S d 39 31 L st (h.1.set a (.inr (4, fs.set 7 (.int x))), h.2) Q)) := RR.put rfl rfl (ai_okp_i rfl (by decide +kernel)) rfl
theorem r39_31 : RR S d 39 31 L st h Q = kA (ai_look L 0) (fun x => RR S d 39 32 L (x :: st) h Q) := RR.lda_n rfl rfl rfl
theorem r39_32 : RR S d 39 32 L st h Q = RR S d 39 33 L (.int 1 :: st) h Q := RR.icn (n := 1) rfl (by decide) rfl
theorem r39_33t {a : Nat} : RR S d 39 33 L (.int 1 :: .ref a :: st) h Q = kO (ai_obj h a 4) (fun fs => kB (decide (8 < fs.length)) (RR S d 39 36 L st (h.1.set a (.inr (4, fs.set 8 (.int 1))), h.2) Q)) := RR.put rfl rfl (by decide +kernel) rfl
theorem r39_33f {a : Nat} : RR S d 39 33 L (.int 0 :: .ref a :: st) h Q = kO (ai_obj h a 4) (fun fs => kB (decide (8 < fs.length)) (RR S d 39 36 L st (h.1.set a (.inr (4, fs.set 8 (.int 0))), h.2) Q)) := RR.put rfl rfl (by decide +kernel) rfl
theorem r39_36 : RR S d 39 36 L st h Q = kA (ai_look L 0) (fun x => RR S d 39 37 L (x :: st) h Q) := RR.lda_n rfl rfl rfl
theorem r39_37 {a : Nat} : RR S d 39 37 L (.ref a :: st) h Q = kO (ai_fld h a 4 7) (fun w => RR S d 39 40 L (w :: st) h Q) := RR.get rfl rfl rfl
theorem r39_40 : RR S d 39 40 L st h Q = RR S d 39 41 L (.int 1 :: st) h Q := RR.icn (n := 1) rfl (by decide) rfl
theorem r39_41 {x y : Int32} : RR S d 39 41 L (.int y :: .int x :: st) h Q = RR S d 39 42 L (.int (x - y) :: st) h Q := RR.do1 (42, L, .int (x - y) :: st, h) rfl rfl rfl
theorem r39_42 {x : Int32} : RR S d 39 42 L [.int x] h Q = Q (some (.int x)) h := RR.rt rfl rfl rfl
theorem r40_0 : RR S d 40 0 L st h Q = kI (ai_look L 1) (fun x => RR S d 40 1 L (.int x :: st) h Q) := RR.ldi_n rfl rfl rfl
theorem r40_1 {x : Int32} : RR S d 40 1 L (.int x :: st) h Q = if x < 0 then RR S d 40 21 L st h Q else RR S d 40 4 L st h Q := RR.b1 (c := .lt) (off := 20) rfl rfl (by decide) rfl
theorem r40_4 : RR S d 40 4 L st h Q = kI (ai_look L 1) (fun x => RR S d 40 5 L (.int x :: st) h Q) := RR.ldi_n rfl rfl rfl
theorem r40_5 : RR S d 40 5 L st h Q = kA (ai_look L 0) (fun x => RR S d 40 6 L (x :: st) h Q) := RR.lda_n rfl rfl rfl
theorem r40_6 {a : Nat} : RR S d 40 6 L (.ref a :: st) h Q = kO (ai_fld h a 4 7) (fun w => RR S d 40 9 L (w :: st) h Q) := RR.get rfl rfl rfl
theorem r40_9 {x y : Int32} : RR S d 40 9 L (.int y :: .int x :: st) h Q = if y ≤ x then RR S d 40 21 L st h Q else RR S d 40 12 L st h Q := RR.b2 (c := .ge) (off := 12) rfl rfl (by decide) rfl
theorem r40_12 : RR S d 40 12 L st h Q = kA (ai_look L 0) (fun x => RR S d 40 13 L (x :: st) h Q) := RR.lda_n rfl rfl rfl
theorem r40_13 {a : Nat} : RR S d 40 13 L (.ref a :: st) h Q = kO (ai_fld h a 4 3) (fun w => RR S d 40 16 L (w :: st) h Q) := RR.get rfl rfl rfl
theorem r40_16 : RR S d 40 16 L st h Q = kI (ai_look L 1) (fun x => RR S d 40 17 L (.int x :: st) h Q) := RR.ldi_n rfl rfl rfl
theorem r40_17 {x : Int32} {a : Nat} : RR S d 40 17 L (.int x :: .ref a :: st) h Q = kO (ai_arq h a) (fun q => kB (ai_in x q.2.1 && (decide (2 ≤ q.1) && decide (q.1 < 5))) (RR S d 40 18 L (va_rf (q.2.2 x.toNatClampNeg) :: st) h Q)) := RR.aal rfl rfl
theorem r40_18 : RR S d 40 18 L st h Q = RR S d 40 22 L st h Q := RR.jmp (off := 4) rfl (by decide)
theorem r40_21 : RR S d 40 21 L st h Q = RR S d 40 22 L (.null :: st) h Q := RR.do1 (22, L, .null :: st, h) rfl rfl rfl
theorem r40_22 {a : Nat} : RR S d 40 22 L [.ref a] h Q = Q (some (.ref a)) h := RR.rt rfl rfl rfl
theorem r40_22n : RR S d 40 22 L [.null] h Q = Q (some .null) h := RR.rt rfl rfl rfl
theorem r41_0 : RR S d 41 0 L st h Q = kA (ai_look L 0) (fun x => RR S d 41 1 L (x :: st) h Q) := RR.lda_n rfl rfl rfl
theorem r41_1 {a : Nat} : RR S d 41 1 L (.ref a :: st) h Q = kO (ai_fld h a 4 8) (fun w => RR S d 41 4 L (w :: st) h Q) := RR.get rfl rfl rfl
theorem r41_4 {x : Int32} : RR S d 41 4 L (.int x :: st) h Q = if ¬ x = 0 then RR S d 41 8 L st h Q else RR S d 41 7 L st h Q := RR.b1 (c := .ne) (off := 4) rfl rfl (by decide) rfl
theorem r41_7 : RR S d 41 7 L [] h Q = Q none h := RR.rt rfl rfl rfl
theorem r41_8 : RR S d 41 8 L st h Q = kA (ai_look L 0) (fun x => RR S d 41 9 L (x :: st) h Q) := RR.lda_n rfl rfl rfl
theorem r41_9 : RR S d 41 9 L st h Q = RR S d 41 10 L (.int 0 :: st) h Q := RR.icn (n := 0) rfl (by decide) rfl
theorem r41_10t {a : Nat} : RR S d 41 10 L (.int 1 :: .ref a :: st) h Q = kO (ai_obj h a 4) (fun fs => kB (decide (8 < fs.length)) (RR S d 41 13 L st (h.1.set a (.inr (4, fs.set 8 (.int 1))), h.2) Q)) := RR.put rfl rfl (by decide +kernel) rfl
theorem r41_10f {a : Nat} : RR S d 41 10 L (.int 0 :: .ref a :: st) h Q = kO (ai_obj h a 4) (fun fs => kB (decide (8 < fs.length)) (RR S d 41 13 L st (h.1.set a (.inr (4, fs.set 8 (.int 0))), h.2) Q)) := RR.put rfl rfl (by decide +kernel) rfl
theorem r41_13 : RR S d 41 13 L st h Q = kA (ai_look L 0) (fun x => RR S d 41 14 L (x :: st) h Q) := RR.lda_n rfl rfl rfl
theorem r41_14 {a : Nat} : RR S (d + 1) 41 14 L (.ref a :: st) h Q = kB (decide (ai_sum st ≤ 8)) (kB ((ai_obj h a 4).isSome) (RR S d 42 0 [(0, .ref a)] [] h (fun r h1 => RR S (d + 1) 41 17 L (r.toList ++ st) h1 Q))) := RR.cv (j := 47) (mn' := 42) (n := 0) rfl rfl rfl rfl rfl rfl
theorem r41_17 : RR S d 41 17 L st h Q = RR S d 41 18 L (.int 0 :: st) h Q := RR.icn (n := 0) rfl (by decide) rfl
theorem r41_18 {x : Int32} : RR S d 41 18 L (.int x :: st) h Q = RR S d 41 19 (ai_put 1 (.int x) L) st h Q := RR.do1 (19, ai_put 1 (.int x) L, st, h) rfl rfl rfl
theorem r41_19 : RR S d 41 19 L st h Q = kI (ai_look L 1) (fun x => RR S d 41 20 L (.int x :: st) h Q) := RR.ldi_n rfl rfl rfl
theorem r41_20 : RR S d 41 20 L st h Q = RR S d 41 23 L (.int 240 :: st) h Q := RR.sip (n := 240) rfl (by decide) rfl
theorem r41_23 {x y : Int32} : RR S d 41 23 L (.int y :: .int x :: st) h Q = if y ≤ x then RR S d 41 48 L st h Q else RR S d 41 26 L st h Q := RR.b2 (c := .ge) (off := 25) rfl rfl (by decide) rfl
theorem r41_26 : RR S d 41 26 L st h Q = kA (ai_look L 0) (fun x => RR S d 41 27 L (x :: st) h Q) := RR.lda_n rfl rfl rfl
theorem r41_27 {a : Nat} : RR S (d + 1) 41 27 L (.ref a :: st) h Q = kB (decide (ai_sum st ≤ 8)) (kB ((ai_obj h a 4).isSome) (RR S d 45 0 [(0, .ref a)] [] h (fun r h1 => RR S (d + 1) 41 30 L (r.toList ++ st) h1 Q))) := RR.cv (j := 50) (mn' := 45) (n := 0) rfl rfl rfl rfl rfl rfl
theorem r41_30 {x : Int32} : RR S d 41 30 L (.int x :: st) h Q = RR S d 41 31 (ai_put 2 (.int x) L) st h Q := RR.do1 (31, ai_put 2 (.int x) L, st, h) rfl rfl rfl
theorem r41_31 : RR S d 41 31 L st h Q = kI (ai_look L 2) (fun x => RR S d 41 32 L (.int x :: st) h Q) := RR.ldi_n rfl rfl rfl
theorem r41_32 : RR S d 41 32 L st h Q = RR S d 41 33 L (.int (-1) :: st) h Q := RR.icn (n := (-1)) rfl (by decide) rfl
theorem r41_33 {x y : Int32} : RR S d 41 33 L (.int y :: .int x :: st) h Q = if ¬ x = y then RR S d 41 37 L st h Q else RR S d 41 36 L st h Q := RR.b2 (c := .ne) (off := 4) rfl rfl (by decide) rfl
theorem r41_36 : RR S d 41 36 L [] h Q = Q none h := RR.rt rfl rfl rfl
theorem r41_37 : RR S d 41 37 L st h Q = kA (ai_look L 0) (fun x => RR S d 41 38 L (x :: st) h Q) := RR.lda_n rfl rfl rfl
theorem r41_38 : RR S d 41 38 L st h Q = kI (ai_look L 2) (fun x => RR S d 41 39 L (.int x :: st) h Q) := RR.ldi_n rfl rfl rfl
theorem r41_39 {p0 : Int32} {a : Nat} : RR S (d + 1) 41 39 L (.int p0 :: .ref a :: st) h Q = kB (decide (ai_sum st ≤ 8)) (kB ((ai_obj h a 4).isSome) (RR S d 46 0 [(0, .ref a), (1, .int p0)] [] h (fun r h1 => RR S (d + 1) 41 42 L (r.toList ++ st) h1 Q))) := RR.cv (j := 54) (mn' := 46) (n := 1) rfl rfl rfl rfl rfl rfl
theorem r41_42 : RR S d 41 42 L st h Q = kI (ai_look L 1) (fun x => RR S d 41 45 (ai_put 1 (.int (x + 1)) L) st h Q) := RR.iinc (k := 1) (n := 1) rfl (by decide) (by decide) rfl
theorem r41_45 : RR S d 41 45 L st h Q = RR S d 41 19 L st h Q := RR.jmp (off := (-26)) rfl (by decide)
theorem r41_48 : RR S d 41 48 L [] h Q = Q none h := RR.rt rfl rfl rfl
theorem r42_0 : RR S d 42 0 L st h Q = RR S d 42 1 L (.int 0 :: st) h Q := RR.icn (n := 0) rfl (by decide) rfl
theorem r42_1 {x : Int32} : RR S d 42 1 L (.int x :: st) h Q = RR S d 42 2 (ai_put 1 (.int x) L) st h Q := RR.do1 (2, ai_put 1 (.int x) L, st, h) rfl rfl rfl
theorem r42_2 : RR S d 42 2 L st h Q = kI (ai_look L 1) (fun x => RR S d 42 3 L (.int x :: st) h Q) := RR.ldi_n rfl rfl rfl
theorem r42_3 : RR S d 42 3 L st h Q = kA (ai_look L 0) (fun x => RR S d 42 4 L (x :: st) h Q) := RR.lda_n rfl rfl rfl
theorem r42_4 {a : Nat} : RR S d 42 4 L (.ref a :: st) h Q = kO (ai_fld h a 4 7) (fun w => RR S d 42 7 L (w :: st) h Q) := RR.get rfl rfl rfl
theorem r42_7 {x y : Int32} : RR S d 42 7 L (.int y :: .int x :: st) h Q = if y ≤ x then RR S d 42 54 L st h Q else RR S d 42 10 L st h Q := RR.b2 (c := .ge) (off := 47) rfl rfl (by decide) rfl
theorem r42_10 : RR S d 42 10 L st h Q = kA (ai_look L 0) (fun x => RR S d 42 11 L (x :: st) h Q) := RR.lda_n rfl rfl rfl
theorem r42_11 : RR S d 42 11 L st h Q = kI (ai_look L 1) (fun x => RR S d 42 12 L (.int x :: st) h Q) := RR.ldi_n rfl rfl rfl
theorem r42_12 {p0 : Int32} {a : Nat} : RR S (d + 1) 42 12 L (.int p0 :: .ref a :: st) h Q = kB (decide (ai_sum st ≤ 8)) (kB ((ai_obj h a 4).isSome) (RR S d 40 0 [(0, .ref a), (1, .int p0)] [] h (fun r h1 => RR S (d + 1) 42 15 L (r.toList ++ st) h1 Q))) := RR.cv (j := 58) (mn' := 40) (n := 1) rfl rfl rfl rfl rfl rfl
theorem r42_15 {x : Nat} : RR S d 42 15 L (.ref x :: st) h Q = RR S d 42 16 (ai_put 2 (.ref x) L) st h Q := RR.do1 (16, ai_put 2 (.ref x) L, st, h) rfl rfl rfl
theorem r42_15n : RR S d 42 15 L (.null :: st) h Q = RR S d 42 16 (ai_put 2 .null L) st h Q := RR.do1 (16, ai_put 2 .null L, st, h) rfl rfl rfl
theorem r42_16 : RR S d 42 16 L st h Q = kA (ai_look L 2) (fun x => RR S d 42 17 L (x :: st) h Q) := RR.lda_n rfl rfl rfl
theorem r42_17 {x : Nat} : RR S d 42 17 L (.ref x :: st) h Q = RR S d 42 20 L st h Q := RR.nul (b := false) (off := 31) (tgt := 48) rfl rfl rfl (by decide) rfl rfl
theorem r42_17n : RR S d 42 17 L (.null :: st) h Q = RR S d 42 48 L st h Q := RR.nul (b := true) (off := 31) (tgt := 48) rfl rfl rfl (by decide) rfl rfl
theorem r42_20 : RR S d 42 20 L st h Q = kA (ai_look L 2) (fun x => RR S d 42 21 L (x :: st) h Q) := RR.lda_n rfl rfl rfl
theorem r42_21 : RR S d 42 21 L st h Q = kA (ai_look L 0) (fun x => RR S d 42 22 L (x :: st) h Q) := RR.lda_n rfl rfl rfl
theorem r42_22 {a : Nat} : RR S d 42 22 L (.ref a :: st) h Q = kO (ai_fld h a 4 1) (fun w => RR S d 42 25 L (w :: st) h Q) := RR.get rfl rfl rfl
theorem r42_25 : RR S d 42 25 L st h Q = kA (ai_look L 2) (fun x => RR S d 42 26 L (x :: st) h Q) := RR.lda_n rfl rfl rfl
theorem r42_26 {a : Nat} : RR S d 42 26 L (.ref a :: st) h Q = kO (ai_fld h a 1 1) (fun w => RR S d 42 29 L (w :: st) h Q) := RR.get rfl rfl rfl
theorem r42_29 : RR S d 42 29 L st h Q = kA (ai_look L 2) (fun x => RR S d 42 30 L (x :: st) h Q) := RR.lda_n rfl rfl rfl
theorem r42_30 {a : Nat} : RR S d 42 30 L (.ref a :: st) h Q = kO (ai_fld h a 1 2) (fun w => RR S d 42 33 L (w :: st) h Q) := RR.get rfl rfl rfl
theorem r42_33 : RR S d 42 33 L st h Q = kA (ai_look L 2) (fun x => RR S d 42 34 L (x :: st) h Q) := RR.lda_n rfl rfl rfl
theorem r42_34 {a : Nat} : RR S d 42 34 L (.ref a :: st) h Q = kO (ai_fld h a 1 3) (fun w => RR S d 42 37 L (w :: st) h Q) := RR.get rfl rfl rfl
theorem r42_37 : RR S d 42 37 L st h Q = RR S d 42 38 L (.int (-1) :: st) h Q := RR.icn (n := (-1)) rfl (by decide) rfl
theorem r42_38 {p0 : Int32} {p1 : Int32} {p2 : Int32} {p3 : Int32} {a : Nat} : RR S (d + 1) 42 38 L (.int p3 :: .int p2 :: .int p1 :: .int p0 :: .ref a :: st) h Q = kB (decide (ai_sum st ≤ 8)) (kB ((ai_obj h a 8).isSome) (RR S d 79 0 [(0, .ref a), (1, .int p0), (2, .int p1), (3, .int p2), (4, .int p3)] [] h (fun r h1 => RR S (d + 1) 42 41 L (r.toList ++ st) h1 Q))) := RR.cv (j := 71) (mn' := 79) (n := 4) rfl rfl rfl rfl rfl rfl
theorem r42_41 : RR S d 42 41 L st h Q = RR S d 42 42 L (.int 0 :: st) h Q := RR.icn (n := 0) rfl (by decide) rfl
theorem r42_42 {p0 : Int32} {p1 : Int32} : RR S (d + 1) 42 42 L (.int p1 :: .int p0 :: st) h Q = kB (decide (ai_sum st ≤ 8)) (RR S d 163 0 [(0, .int p0), (1, .int p1)] [] h (fun r h1 => RR S (d + 1) 42 45 L (r.toList ++ st) h1 Q)) := RR.cs (j := 77) (mn' := 163) (n := 2) rfl rfl rfl rfl (by simp) rfl rfl
theorem r42_45 {p0 : Int32} {a : Nat} : RR S (d + 1) 42 45 L (.int p0 :: .ref a :: st) h Q = kB (decide (ai_sum st ≤ 8)) (kB ((ai_obj h a 1).isSome) (RR S d 6 0 [(0, .ref a), (1, .int p0)] [] h (fun r h1 => RR S (d + 1) 42 48 L (r.toList ++ st) h1 Q))) := RR.cv (j := 83) (mn' := 6) (n := 1) rfl rfl rfl rfl rfl rfl
theorem r42_48 : RR S d 42 48 L st h Q = kI (ai_look L 1) (fun x => RR S d 42 51 (ai_put 1 (.int (x + 1)) L) st h Q) := RR.iinc (k := 1) (n := 1) rfl (by decide) (by decide) rfl
theorem r42_51 : RR S d 42 51 L st h Q = RR S d 42 2 L st h Q := RR.jmp (off := (-49)) rfl (by decide)
theorem r42_54 : RR S d 42 54 L st h Q = RR S d 42 55 L (.int 0 :: st) h Q := RR.icn (n := 0) rfl (by decide) rfl
theorem r42_55 {x : Int32} : RR S d 42 55 L (.int x :: st) h Q = RR S d 42 56 (ai_put 1 (.int x) L) st h Q := RR.do1 (56, ai_put 1 (.int x) L, st, h) rfl rfl rfl
theorem r42_56 : RR S d 42 56 L st h Q = kI (ai_look L 1) (fun x => RR S d 42 57 L (.int x :: st) h Q) := RR.ldi_n rfl rfl rfl
theorem r42_57 : RR S d 42 57 L st h Q = kA (ai_look L 0) (fun x => RR S d 42 58 L (x :: st) h Q) := RR.lda_n rfl rfl rfl
theorem r42_58 {a : Nat} : RR S d 42 58 L (.ref a :: st) h Q = kO (ai_fld h a 4 0) (fun w => RR S d 42 61 L (w :: st) h Q) := RR.get rfl rfl rfl
theorem r42_61 {a : Nat} : RR S d 42 61 L (.ref a :: st) h Q = kO (ai_fld h a 2 7) (fun w => RR S d 42 64 L (w :: st) h Q) := RR.get rfl rfl rfl
theorem r42_64 {x y : Int32} : RR S d 42 64 L (.int y :: .int x :: st) h Q = if y ≤ x then RR S d 42 85 L st h Q else RR S d 42 67 L st h Q := RR.b2 (c := .ge) (off := 21) rfl rfl (by decide) rfl
theorem r42_67 : RR S d 42 67 L st h Q = kA (ai_look L 0) (fun x => RR S d 42 68 L (x :: st) h Q) := RR.lda_n rfl rfl rfl
theorem r42_68 {a : Nat} : RR S d 42 68 L (.ref a :: st) h Q = kO (ai_fld h a 4 6) (fun w => RR S d 42 71 L (w :: st) h Q) := RR.get rfl rfl rfl
theorem r42_71 : RR S d 42 71 L st h Q = kI (ai_look L 1) (fun x => RR S d 42 72 L (.int x :: st) h Q) := RR.ldi_n rfl rfl rfl
theorem r42_72 : RR S d 42 72 L st h Q = RR S d 42 73 L (.int 0 :: st) h Q := RR.icn (n := 0) rfl (by decide) rfl
theorem r42_73 {x y : Int32} {a : Nat} : RR S d 42 73 L (.int y :: .int x :: .ref a :: st) h Q = kO (ai_arr h a 0) (fun q => kB (ai_in x q.1) (RR S d 42 74 L st (h.1.set a (.inl (0, q.1, .inl (upd q.2 x.toNatClampNeg y))), h.2) Q)) := RR.ias rfl rfl
theorem r42_74 : RR S d 42 74 L st h Q = kA (ai_look L 0) (fun x => RR S d 42 75 L (x :: st) h Q) := RR.lda_n rfl rfl rfl
theorem r42_75 : RR S d 42 75 L st h Q = kI (ai_look L 1) (fun x => RR S d 42 76 L (.int x :: st) h Q) := RR.ldi_n rfl rfl rfl
theorem r42_76 {p0 : Int32} {a : Nat} : RR S (d + 1) 42 76 L (.int p0 :: .ref a :: st) h Q = kB (decide (ai_sum st ≤ 8)) (kB ((ai_obj h a 4).isSome) (RR S d 43 0 [(0, .ref a), (1, .int p0)] [] h (fun r h1 => RR S (d + 1) 42 79 L (r.toList ++ st) h1 Q))) := RR.cv (j := 91) (mn' := 43) (n := 1) rfl rfl rfl rfl rfl rfl
theorem r42_79 : RR S d 42 79 L st h Q = kI (ai_look L 1) (fun x => RR S d 42 82 (ai_put 1 (.int (x + 1)) L) st h Q) := RR.iinc (k := 1) (n := 1) rfl (by decide) (by decide) rfl
theorem r42_82 : RR S d 42 82 L st h Q = RR S d 42 56 L st h Q := RR.jmp (off := (-26)) rfl (by decide)
theorem r42_85 : RR S d 42 85 L [] h Q = Q none h := RR.rt rfl rfl rfl
theorem r43_0 : RR S d 43 0 L st h Q = RR S d 43 1 L (.null :: st) h Q := RR.do1 (1, L, .null :: st, h) rfl rfl rfl
theorem r43_1 {x : Nat} : RR S d 43 1 L (.ref x :: st) h Q = RR S d 43 2 (ai_put 2 (.ref x) L) st h Q := RR.do1 (2, ai_put 2 (.ref x) L, st, h) rfl rfl rfl
theorem r43_1n : RR S d 43 1 L (.null :: st) h Q = RR S d 43 2 (ai_put 2 .null L) st h Q := RR.do1 (2, ai_put 2 .null L, st, h) rfl rfl rfl
theorem r43_2 : RR S d 43 2 L st h Q = RR S d 43 3 L (.int 0 :: st) h Q := RR.icn (n := 0) rfl (by decide) rfl
theorem r43_3 {x : Int32} : RR S d 43 3 L (.int x :: st) h Q = RR S d 43 4 (ai_put 3 (.int x) L) st h Q := RR.do1 (4, ai_put 3 (.int x) L, st, h) rfl rfl rfl
theorem r43_4 : RR S d 43 4 L st h Q = kI (ai_look L 3) (fun x => RR S d 43 5 L (.int x :: st) h Q) := RR.ldi_n rfl rfl rfl
theorem r43_5 : RR S d 43 5 L st h Q = kA (ai_look L 0) (fun x => RR S d 43 6 L (x :: st) h Q) := RR.lda_n rfl rfl rfl
theorem r43_6 {a : Nat} : RR S d 43 6 L (.ref a :: st) h Q = kO (ai_fld h a 4 7) (fun w => RR S d 43 9 L (w :: st) h Q) := RR.get rfl rfl rfl
theorem r43_9 {x y : Int32} : RR S d 43 9 L (.int y :: .int x :: st) h Q = if y ≤ x then RR S d 43 51 L st h Q else RR S d 43 12 L st h Q := RR.b2 (c := .ge) (off := 42) rfl rfl (by decide) rfl
theorem r43_12 : RR S d 43 12 L st h Q = kA (ai_look L 0) (fun x => RR S d 43 13 L (x :: st) h Q) := RR.lda_n rfl rfl rfl
theorem r43_13 : RR S d 43 13 L st h Q = kI (ai_look L 3) (fun x => RR S d 43 14 L (.int x :: st) h Q) := RR.ldi_n rfl rfl rfl
theorem r43_14 {p0 : Int32} {a : Nat} : RR S (d + 1) 43 14 L (.int p0 :: .ref a :: st) h Q = kB (decide (ai_sum st ≤ 8)) (kB ((ai_obj h a 4).isSome) (RR S d 40 0 [(0, .ref a), (1, .int p0)] [] h (fun r h1 => RR S (d + 1) 43 17 L (r.toList ++ st) h1 Q))) := RR.cv (j := 58) (mn' := 40) (n := 1) rfl rfl rfl rfl rfl rfl
theorem r43_17 {x : Nat} : RR S d 43 17 L (.ref x :: st) h Q = RR S d 43 19 (ai_put 4 (.ref x) L) st h Q := RR.do1 (19, ai_put 4 (.ref x) L, st, h) rfl rfl rfl
theorem r43_17n : RR S d 43 17 L (.null :: st) h Q = RR S d 43 19 (ai_put 4 .null L) st h Q := RR.do1 (19, ai_put 4 .null L, st, h) rfl rfl rfl
theorem r43_19 : RR S d 43 19 L st h Q = kA (ai_look L 4) (fun x => RR S d 43 21 L (x :: st) h Q) := RR.lda rfl rfl
theorem r43_21 {x : Nat} : RR S d 43 21 L (.ref x :: st) h Q = RR S d 43 24 L st h Q := RR.nul (b := false) (off := 24) (tgt := 45) rfl rfl rfl (by decide) rfl rfl
theorem r43_21n : RR S d 43 21 L (.null :: st) h Q = RR S d 43 45 L st h Q := RR.nul (b := true) (off := 24) (tgt := 45) rfl rfl rfl (by decide) rfl rfl
theorem r43_24 : RR S d 43 24 L st h Q = kA (ai_look L 4) (fun x => RR S d 43 26 L (x :: st) h Q) := RR.lda rfl rfl
theorem r43_26 {a : Nat} : RR S (d + 1) 43 26 L (.ref a :: st) h Q = kB (decide (ai_sum st ≤ 8)) (kB ((ai_obj h a 1).isSome) (RR S d 7 0 [(0, .ref a)] [] h (fun r h1 => RR S (d + 1) 43 29 L (r.toList ++ st) h1 Q))) := RR.cv (j := 94) (mn' := 7) (n := 0) rfl rfl rfl rfl rfl rfl
theorem r43_29 : RR S d 43 29 L st h Q = kI (ai_look L 1) (fun x => RR S d 43 30 L (.int x :: st) h Q) := RR.ldi_n rfl rfl rfl
theorem r43_30 {x y : Int32} : RR S d 43 30 L (.int y :: .int x :: st) h Q = if ¬ x = y then RR S d 43 45 L st h Q else RR S d 43 33 L st h Q := RR.b2 (c := .ne) (off := 15) rfl rfl (by decide) rfl
theorem r43_33 : RR S d 43 33 L st h Q = kA (ai_look L 4) (fun x => RR S d 43 35 L (x :: st) h Q) := RR.lda rfl rfl
theorem r43_35 : RR S d 43 35 L st h Q = kA (ai_look L 2) (fun x => RR S d 43 36 L (x :: st) h Q) := RR.lda_n rfl rfl rfl
theorem r43_36 {p0 : Nat} {a : Nat} : RR S (d + 1) 43 36 L (.ref p0 :: .ref a :: st) h Q = kB (decide (ai_sum st ≤ 8)) (kB ((ai_obj h a 1).isSome) (RR S d 9 0 [(0, .ref a), (1, .ref p0)] [] h (fun r h1 => RR S (d + 1) 43 39 L (r.toList ++ st) h1 Q))) := RR.cv (j := 97) (mn' := 9) (n := 1) rfl rfl rfl rfl rfl rfl
theorem r43_36n {a : Nat} : RR S (d + 1) 43 36 L (.null :: .ref a :: st) h Q = kB (decide (ai_sum st ≤ 8)) (kB ((ai_obj h a 1).isSome) (RR S d 9 0 [(0, .ref a), (1, .null)] [] h (fun r h1 => RR S (d + 1) 43 39 L (r.toList ++ st) h1 Q))) := RR.cv (j := 97) (mn' := 9) (n := 1) rfl rfl rfl rfl rfl rfl
theorem r43_39 {x : Int32} : RR S d 43 39 L (.int x :: st) h Q = if x = 0 then RR S d 43 45 L st h Q else RR S d 43 42 L st h Q := RR.b1 (c := .eq) (off := 6) rfl rfl (by decide) rfl
theorem r43_42 : RR S d 43 42 L st h Q = kA (ai_look L 4) (fun x => RR S d 43 44 L (x :: st) h Q) := RR.lda rfl rfl
theorem r43_44 {x : Nat} : RR S d 43 44 L (.ref x :: st) h Q = RR S d 43 45 (ai_put 2 (.ref x) L) st h Q := RR.do1 (45, ai_put 2 (.ref x) L, st, h) rfl rfl rfl
theorem r43_44n : RR S d 43 44 L (.null :: st) h Q = RR S d 43 45 (ai_put 2 .null L) st h Q := RR.do1 (45, ai_put 2 .null L, st, h) rfl rfl rfl
theorem r43_45 : RR S d 43 45 L st h Q = kI (ai_look L 3) (fun x => RR S d 43 48 (ai_put 3 (.int (x + 1)) L) st h Q) := RR.iinc (k := 3) (n := 1) rfl (by decide) (by decide) rfl
theorem r43_48 : RR S d 43 48 L st h Q = RR S d 43 4 L st h Q := RR.jmp (off := (-44)) rfl (by decide)
theorem r43_51 : RR S d 43 51 L st h Q = kA (ai_look L 0) (fun x => RR S d 43 52 L (x :: st) h Q) := RR.lda_n rfl rfl rfl
theorem r43_52 {a : Nat} : RR S d 43 52 L (.ref a :: st) h Q = kO (ai_fld h a 4 4) (fun w => RR S d 43 55 L (w :: st) h Q) := RR.get rfl rfl rfl
theorem r43_55 : RR S d 43 55 L st h Q = kI (ai_look L 1) (fun x => RR S d 43 56 L (.int x :: st) h Q) := RR.ldi_n rfl rfl rfl
theorem r43_56 : RR S d 43 56 L st h Q = kA (ai_look L 2) (fun x => RR S d 43 57 L (x :: st) h Q) := RR.lda_n rfl rfl rfl
theorem r43_57n {x : Int32} {a : Nat} : RR S d 43 57 L (.null :: .int x :: .ref a :: st) h Q = kO (ai_arq h a) (fun q => kB (ai_in x q.2.1 && (decide (2 ≤ q.1) && decide (q.1 < 5))) (RR S d 43 58 L st (h.1.set a (.inl (q.1, q.2.1, .inr (va_up q.2.2 x.toNatClampNeg none))), h.2) Q)) := RR.aasn rfl rfl
theorem r43_57 {x : Int32} {a w : Nat} : RR S d 43 57 L (.ref w :: .int x :: .ref a :: st) h Q = kO (ai_arq h a) (fun q => kB (ai_in x q.2.1 && (decide (2 ≤ q.1) && decide (q.1 < 5))) (kO (ai_cno h w) (fun c => kB (decide (ai_ao c = some q.1)) (RR S d 43 58 L st (h.1.set a (.inl (q.1, q.2.1, .inr (va_up q.2.2 x.toNatClampNeg (some w)))), h.2) Q)))) := RR.aasr rfl rfl
theorem r43_58 : RR S d 43 58 L st h Q = kA (ai_look L 0) (fun x => RR S d 43 59 L (x :: st) h Q) := RR.lda_n rfl rfl rfl
theorem r43_59 {a : Nat} : RR S d 43 59 L (.ref a :: st) h Q = kO (ai_fld h a 4 5) (fun w => RR S d 43 62 L (w :: st) h Q) := RR.get rfl rfl rfl
theorem r43_62 : RR S d 43 62 L st h Q = kI (ai_look L 1) (fun x => RR S d 43 63 L (.int x :: st) h Q) := RR.ldi_n rfl rfl rfl
theorem r43_63 : RR S d 43 63 L st h Q = kA (ai_look L 2) (fun x => RR S d 43 64 L (x :: st) h Q) := RR.lda_n rfl rfl rfl
theorem r43_64 {x : Nat} : RR S d 43 64 L (.ref x :: st) h Q = RR S d 43 73 L st h Q := RR.nul (b := true) (off := 9) (tgt := 73) rfl rfl rfl (by decide) rfl rfl
theorem r43_64n : RR S d 43 64 L (.null :: st) h Q = RR S d 43 67 L st h Q := RR.nul (b := false) (off := 9) (tgt := 73) rfl rfl rfl (by decide) rfl rfl
theorem r43_67 : RR S d 43 67 L st h Q = RR S d 43 70 L (.int 3000 :: st) h Q := RR.sip (n := 3000) rfl (by decide) rfl
theorem r43_70 : RR S d 43 70 L st h Q = RR S d 43 79 L st h Q := RR.jmp (off := 9) rfl (by decide)
theorem r43_73 : RR S d 43 73 L st h Q = kA (ai_look L 0) (fun x => RR S d 43 74 L (x :: st) h Q) := RR.lda_n rfl rfl rfl
theorem r43_74 : RR S d 43 74 L st h Q = kA (ai_look L 2) (fun x => RR S d 43 75 L (x :: st) h Q) := RR.lda_n rfl rfl rfl
theorem r43_75 : RR S d 43 75 L st h Q = kI (ai_look L 1) (fun x => RR S d 43 76 L (.int x :: st) h Q) := RR.ldi_n rfl rfl rfl
theorem r43_76 {p0 : Nat} {p1 : Int32} {a : Nat} : RR S (d + 1) 43 76 L (.int p1 :: .ref p0 :: .ref a :: st) h Q = kB (decide (ai_sum st ≤ 8)) (kB ((ai_obj h a 4).isSome) (RR S d 44 0 [(0, .ref a), (1, .ref p0), (2, .int p1)] [] h (fun r h1 => RR S (d + 1) 43 79 L (r.toList ++ st) h1 Q))) := RR.cv (j := 101) (mn' := 44) (n := 2) rfl rfl rfl rfl rfl rfl
theorem r43_79 {x y : Int32} {a : Nat} : RR S d 43 79 L (.int y :: .int x :: .ref a :: st) h Q = kO (ai_arr h a 0) (fun q => kB (ai_in x q.1) (RR S d 43 80 L st (h.1.set a (.inl (0, q.1, .inl (upd q.2 x.toNatClampNeg y))), h.2) Q)) := RR.ias rfl rfl
theorem r43_80 : RR S d 43 80 L [] h Q = Q none h := RR.rt rfl rfl rfl
theorem r44_0 : RR S d 44 0 L st h Q = kA (ai_look L 1) (fun x => RR S d 44 1 L (x :: st) h Q) := RR.lda_n rfl rfl rfl
theorem r44_1 {a : Nat} : RR S (d + 1) 44 1 L (.ref a :: st) h Q = kB (decide (ai_sum st ≤ 8)) (kB ((ai_obj h a 1).isSome) (RR S d 8 0 [(0, .ref a)] [] h (fun r h1 => RR S (d + 1) 44 4 L (r.toList ++ st) h1 Q))) := RR.cv (j := 105) (mn' := 8) (n := 0) rfl rfl rfl rfl rfl rfl
theorem r44_4 : RR S d 44 4 L st h Q = kA (ai_look L 0) (fun x => RR S d 44 5 L (x :: st) h Q) := RR.lda_n rfl rfl rfl
theorem r44_5 {a : Nat} : RR S d 44 5 L (.ref a :: st) h Q = kO (ai_fld h a 4 6) (fun w => RR S d 44 8 L (w :: st) h Q) := RR.get rfl rfl rfl
theorem r44_8 : RR S d 44 8 L st h Q = kI (ai_look L 2) (fun x => RR S d 44 9 L (.int x :: st) h Q) := RR.ldi_n rfl rfl rfl
theorem r44_9 {x : Int32} {a : Nat} : RR S d 44 9 L (.int x :: .ref a :: st) h Q = kO (ai_arr h a 0) (fun q => kB (ai_in x q.1) (RR S d 44 10 L (.int (q.2 x.toNatClampNeg) :: st) h Q)) := RR.ial rfl rfl
theorem r44_10 {p0 : Int32} {p1 : Int32} : RR S (d + 1) 44 10 L (.int p1 :: .int p0 :: st) h Q = kB (decide (ai_sum st ≤ 8)) (RR S d 163 0 [(0, .int p0), (1, .int p1)] [] h (fun r h1 => RR S (d + 1) 44 13 L (r.toList ++ st) h1 Q)) := RR.cs (j := 77) (mn' := 163) (n := 2) rfl rfl rfl rfl (by simp) rfl rfl
theorem r44_13 {x : Int32} : RR S d 44 13 L (.int x :: st) h Q = RR S d 44 14 (ai_put 3 (.int x) L) st h Q := RR.do1 (14, ai_put 3 (.int x) L, st, h) rfl rfl rfl
theorem r44_14 : RR S d 44 14 L st h Q = kI (ai_look L 3) (fun x => RR S d 44 15 L (.int x :: st) h Q) := RR.ldi_n rfl rfl rfl
theorem r44_15 : RR S d 44 15 L st h Q = kA (ai_look L 0) (fun x => RR S d 44 16 L (x :: st) h Q) := RR.lda_n rfl rfl rfl
theorem r44_16 {a : Nat} : RR S d 44 16 L (.ref a :: st) h Q = kO (ai_fld h a 4 0) (fun w => RR S d 44 19 L (w :: st) h Q) := RR.get rfl rfl rfl
theorem r44_19 : RR S d 44 19 L st h Q = kI (ai_look L 2) (fun x => RR S d 44 20 L (.int x :: st) h Q) := RR.ldi_n rfl rfl rfl
theorem r44_20 {p0 : Int32} {a : Nat} : RR S (d + 1) 44 20 L (.int p0 :: .ref a :: st) h Q = kB (decide (ai_sum st ≤ 8)) (kB ((ai_obj h a 2).isSome) (RR S d 24 0 [(0, .ref a), (1, .int p0)] [] h (fun r h1 => RR S (d + 1) 44 23 L (r.toList ++ st) h1 Q))) := RR.cv (j := 108) (mn' := 24) (n := 1) rfl rfl rfl rfl rfl rfl
theorem r44_23 {x y : Int32} : RR S d 44 23 L (.int y :: .int x :: st) h Q = RR S d 44 24 L (.int (x - y) :: st) h Q := RR.do1 (24, L, .int (x - y) :: st, h) rfl rfl rfl
theorem r44_24 : RR S d 44 24 L st h Q = kA (ai_look L 0) (fun x => RR S d 44 25 L (x :: st) h Q) := RR.lda_n rfl rfl rfl
theorem r44_25 {a : Nat} : RR S d 44 25 L (.ref a :: st) h Q = kO (ai_fld h a 4 0) (fun w => RR S d 44 28 L (w :: st) h Q) := RR.get rfl rfl rfl
theorem r44_28 {a : Nat} : RR S d 44 28 L (.ref a :: st) h Q = kO (ai_fld h a 2 8) (fun w => RR S d 44 31 L (w :: st) h Q) := RR.get rfl rfl rfl
theorem r44_31 {p0 : Int32} {p1 : Int32} : RR S (d + 1) 44 31 L (.int p1 :: .int p0 :: st) h Q = kB (decide (ai_sum st ≤ 8)) (RR S d 162 0 [(0, .int p0), (1, .int p1)] [] h (fun r h1 => RR S (d + 1) 44 34 L (r.toList ++ st) h1 Q)) := RR.cs (j := 115) (mn' := 162) (n := 2) rfl rfl rfl rfl (by simp) rfl rfl
theorem r44_34 {x : Int32} : RR S d 44 34 L (.int x :: st) h Q = RR S d 44 36 (ai_put 4 (.int x) L) st h Q := RR.do1 (36, ai_put 4 (.int x) L, st, h) rfl rfl rfl
theorem r44_36 : RR S d 44 36 L st h Q = kA (ai_look L 0) (fun x => RR S d 44 37 L (x :: st) h Q) := RR.lda_n rfl rfl rfl
theorem r44_37 {a : Nat} : RR S d 44 37 L (.ref a :: st) h Q = kO (ai_fld h a 4 2) (fun w => RR S d 44 40 L (w :: st) h Q) := RR.get rfl rfl rfl
theorem r44_40 : RR S d 44 40 L st h Q = kI (ai_look L 2) (fun x => RR S d 44 41 L (.int x :: st) h Q) := RR.ldi_n rfl rfl rfl
theorem r44_41 : RR S d 44 41 L st h Q = kI (ai_look L 4) (fun x => RR S d 44 43 L (.int x :: st) h Q) := RR.ldi rfl rfl
theorem r44_43 : RR S d 44 43 L st h Q = kA (ai_look L 0) (fun x => RR S d 44 44 L (x :: st) h Q) := RR.lda_n rfl rfl rfl
theorem r44_44 {a : Nat} : RR S d 44 44 L (.ref a :: st) h Q = kO (ai_fld h a 4 0) (fun w => RR S d 44 47 L (w :: st) h Q) := RR.get rfl rfl rfl
theorem r44_47 : RR S d 44 47 L st h Q = kI (ai_look L 2) (fun x => RR S d 44 48 L (.int x :: st) h Q) := RR.ldi_n rfl rfl rfl
theorem r44_48 : RR S d 44 48 L st h Q = kA (ai_look L 1) (fun x => RR S d 44 49 L (x :: st) h Q) := RR.lda_n rfl rfl rfl
theorem r44_49 {a : Nat} : RR S d 44 49 L (.ref a :: st) h Q = kO (ai_fld h a 1 3) (fun w => RR S d 44 52 L (w :: st) h Q) := RR.get rfl rfl rfl
theorem r44_52 {p0 : Int32} {p1 : Int32} {a : Nat} : RR S (d + 1) 44 52 L (.int p1 :: .int p0 :: .ref a :: st) h Q = kB (decide (ai_sum st ≤ 8)) (kB ((ai_obj h a 2).isSome) (RR S d 20 0 [(0, .ref a), (1, .int p0), (2, .int p1)] [] h (fun r h1 => RR S (d + 1) 44 55 L (r.toList ++ st) h1 Q))) := RR.cv (j := 118) (mn' := 20) (n := 2) rfl rfl rfl rfl rfl rfl
theorem r44_55 {p0 : Int32} {p1 : Int32} {p2 : Int32} {a : Nat} : RR S (d + 1) 44 55 L (.int p2 :: .int p1 :: .int p0 :: .ref a :: st) h Q = kB (decide (ai_sum st ≤ 8)) (kB ((ai_obj h a 0).isSome) (RR S d 4 0 [(0, .ref a), (1, .int p0), (2, .int p1), (3, .int p2)] [] h (fun r h1 => RR S (d + 1) 44 58 L (r.toList ++ st) h1 Q))) := RR.cv (j := 121) (mn' := 4) (n := 3) rfl rfl rfl rfl rfl rfl
theorem r44_58 {x : Int32} : RR S d 44 58 L (.int x :: st) h Q = RR S d 44 60 (ai_put 5 (.int x) L) st h Q := RR.do1 (60, ai_put 5 (.int x) L, st, h) rfl rfl rfl
theorem r44_60 : RR S d 44 60 L st h Q = kI (ai_look L 5) (fun x => RR S d 44 62 L (.int x :: st) h Q) := RR.ldi rfl rfl
theorem r44_62 : RR S d 44 62 L st h Q = RR S d 44 63 L (.int (-1) :: st) h Q := RR.icn (n := (-1)) rfl (by decide) rfl
theorem r44_63 {x y : Int32} : RR S d 44 63 L (.int y :: .int x :: st) h Q = if ¬ x = y then RR S d 44 72 L st h Q else RR S d 44 66 L st h Q := RR.b2 (c := .ne) (off := 9) rfl rfl (by decide) rfl
theorem r44_66 : RR S d 44 66 L st h Q = RR S d 44 69 L (.int 3000 :: st) h Q := RR.sip (n := 3000) rfl (by decide) rfl
theorem r44_69 : RR S d 44 69 L st h Q = RR S d 44 82 L st h Q := RR.jmp (off := 13) rfl (by decide)
theorem r44_72 : RR S d 44 72 L st h Q = kI (ai_look L 3) (fun x => RR S d 44 73 L (.int x :: st) h Q) := RR.ldi_n rfl rfl rfl
theorem r44_73 : RR S d 44 73 L st h Q = kI (ai_look L 5) (fun x => RR S d 44 75 L (.int x :: st) h Q) := RR.ldi rfl rfl
theorem r44_75 {x y : Int32} : RR S d 44 75 L (.int y :: .int x :: st) h Q = RR S d 44 76 L (.int (x + y) :: st) h Q := RR.do1 (76, L, .int (x + y) :: st, h) rfl rfl rfl
theorem r44_76 : RR S d 44 76 L st h Q = RR S d 44 79 L (.int 3000 :: st) h Q := RR.sip (n := 3000) rfl (by decide) rfl
theorem r44_79 {p0 : Int32} {p1 : Int32} : RR S (d + 1) 44 79 L (.int p1 :: .int p0 :: st) h Q = kB (decide (ai_sum st ≤ 8)) (RR S d 164 0 [(0, .int p0), (1, .int p1)] [] h (fun r h1 => RR S (d + 1) 44 82 L (r.toList ++ st) h1 Q)) := RR.cs (j := 127) (mn' := 164) (n := 2) rfl rfl rfl rfl (by simp) rfl rfl
theorem r44_82 {x : Int32} : RR S d 44 82 L [.int x] h Q = Q (some (.int x)) h := RR.rt rfl rfl rfl
theorem r45_0 : RR S d 45 0 L st h Q = RR S d 45 1 L (.int (-1) :: st) h Q := RR.icn (n := (-1)) rfl (by decide) rfl
theorem r45_1 {x : Int32} : RR S d 45 1 L (.int x :: st) h Q = RR S d 45 2 (ai_put 1 (.int x) L) st h Q := RR.do1 (2, ai_put 1 (.int x) L, st, h) rfl rfl rfl
theorem r45_2 : RR S d 45 2 L st h Q = RR S d 45 5 L (.int 3000 :: st) h Q := RR.sip (n := 3000) rfl (by decide) rfl
theorem r45_5 {x : Int32} : RR S d 45 5 L (.int x :: st) h Q = RR S d 45 6 (ai_put 2 (.int x) L) st h Q := RR.do1 (6, ai_put 2 (.int x) L, st, h) rfl rfl rfl
theorem r45_6 : RR S d 45 6 L st h Q = RR S d 45 7 L (.int 0 :: st) h Q := RR.icn (n := 0) rfl (by decide) rfl
theorem r45_7 {x : Int32} : RR S d 45 7 L (.int x :: st) h Q = RR S d 45 8 (ai_put 3 (.int x) L) st h Q := RR.do1 (8, ai_put 3 (.int x) L, st, h) rfl rfl rfl
theorem r45_8 : RR S d 45 8 L st h Q = kI (ai_look L 3) (fun x => RR S d 45 9 L (.int x :: st) h Q) := RR.ldi_n rfl rfl rfl
theorem r45_9 : RR S d 45 9 L st h Q = kA (ai_look L 0) (fun x => RR S d 45 10 L (x :: st) h Q) := RR.lda_n rfl rfl rfl
theorem r45_10 {a : Nat} : RR S d 45 10 L (.ref a :: st) h Q = kO (ai_fld h a 4 0) (fun w => RR S d 45 13 L (w :: st) h Q) := RR.get rfl rfl rfl
theorem r45_13 {a : Nat} : RR S d 45 13 L (.ref a :: st) h Q = kO (ai_fld h a 2 7) (fun w => RR S d 45 16 L (w :: st) h Q) := RR.get rfl rfl rfl
theorem r45_16 {x y : Int32} : RR S d 45 16 L (.int y :: .int x :: st) h Q = if y ≤ x then RR S d 45 44 L st h Q else RR S d 45 19 L st h Q := RR.b2 (c := .ge) (off := 28) rfl rfl (by decide) rfl
theorem r45_19 : RR S d 45 19 L st h Q = kA (ai_look L 0) (fun x => RR S d 45 20 L (x :: st) h Q) := RR.lda_n rfl rfl rfl
theorem r45_20 {a : Nat} : RR S d 45 20 L (.ref a :: st) h Q = kO (ai_fld h a 4 5) (fun w => RR S d 45 23 L (w :: st) h Q) := RR.get rfl rfl rfl
theorem r45_23 : RR S d 45 23 L st h Q = kI (ai_look L 3) (fun x => RR S d 45 24 L (.int x :: st) h Q) := RR.ldi_n rfl rfl rfl
theorem r45_24 {x : Int32} {a : Nat} : RR S d 45 24 L (.int x :: .ref a :: st) h Q = kO (ai_arr h a 0) (fun q => kB (ai_in x q.1) (RR S d 45 25 L (.int (q.2 x.toNatClampNeg) :: st) h Q)) := RR.ial rfl rfl
theorem r45_25 : RR S d 45 25 L st h Q = kI (ai_look L 2) (fun x => RR S d 45 26 L (.int x :: st) h Q) := RR.ldi_n rfl rfl rfl
theorem r45_26 {x y : Int32} : RR S d 45 26 L (.int y :: .int x :: st) h Q = if y ≤ x then RR S d 45 38 L st h Q else RR S d 45 29 L st h Q := RR.b2 (c := .ge) (off := 12) rfl rfl (by decide) rfl
theorem r45_29 : RR S d 45 29 L st h Q = kA (ai_look L 0) (fun x => RR S d 45 30 L (x :: st) h Q) := RR.lda_n rfl rfl rfl
theorem r45_30 {a : Nat} : RR S d 45 30 L (.ref a :: st) h Q = kO (ai_fld h a 4 5) (fun w => RR S d 45 33 L (w :: st) h Q) := RR.get rfl rfl rfl
theorem r45_33 : RR S d 45 33 L st h Q = kI (ai_look L 3) (fun x => RR S d 45 34 L (.int x :: st) h Q) := RR.ldi_n rfl rfl rfl
theorem r45_34 {x : Int32} {a : Nat} : RR S d 45 34 L (.int x :: .ref a :: st) h Q = kO (ai_arr h a 0) (fun q => kB (ai_in x q.1) (RR S d 45 35 L (.int (q.2 x.toNatClampNeg) :: st) h Q)) := RR.ial rfl rfl
theorem r45_35 {x : Int32} : RR S d 45 35 L (.int x :: st) h Q = RR S d 45 36 (ai_put 2 (.int x) L) st h Q := RR.do1 (36, ai_put 2 (.int x) L, st, h) rfl rfl rfl
theorem r45_36 : RR S d 45 36 L st h Q = kI (ai_look L 3) (fun x => RR S d 45 37 L (.int x :: st) h Q) := RR.ldi_n rfl rfl rfl
theorem r45_37 {x : Int32} : RR S d 45 37 L (.int x :: st) h Q = RR S d 45 38 (ai_put 1 (.int x) L) st h Q := RR.do1 (38, ai_put 1 (.int x) L, st, h) rfl rfl rfl
theorem r45_38 : RR S d 45 38 L st h Q = kI (ai_look L 3) (fun x => RR S d 45 41 (ai_put 3 (.int (x + 1)) L) st h Q) := RR.iinc (k := 3) (n := 1) rfl (by decide) (by decide) rfl
theorem r45_41 : RR S d 45 41 L st h Q = RR S d 45 8 L st h Q := RR.jmp (off := (-33)) rfl (by decide)
theorem r45_44 : RR S d 45 44 L st h Q = kI (ai_look L 1) (fun x => RR S d 45 45 L (.int x :: st) h Q) := RR.ldi_n rfl rfl rfl
theorem r45_45 {x : Int32} : RR S d 45 45 L [.int x] h Q = Q (some (.int x)) h := RR.rt rfl rfl rfl
theorem r46_0 : RR S d 46 0 L st h Q = kA (ai_look L 0) (fun x => RR S d 46 1 L (x :: st) h Q) := RR.lda_n rfl rfl rfl
theorem r46_1 {a : Nat} : RR S d 46 1 L (.ref a :: st) h Q = kO (ai_fld h a 4 4) (fun w => RR S d 46 4 L (w :: st) h Q) := RR.get rfl rfl rfl
theorem r46_4 : RR S d 46 4 L st h Q = kI (ai_look L 1) (fun x => RR S d 46 5 L (.int x :: st) h Q) := RR.ldi_n rfl rfl rfl
theorem r46_5 {x : Int32} {a : Nat} : RR S d 46 5 L (.int x :: .ref a :: st) h Q = kO (ai_arq h a) (fun q => kB (ai_in x q.2.1 && (decide (2 ≤ q.1) && decide (q.1 < 5))) (RR S d 46 6 L (va_rf (q.2.2 x.toNatClampNeg) :: st) h Q)) := RR.aal rfl rfl
theorem r46_6 {x : Nat} : RR S d 46 6 L (.ref x :: st) h Q = RR S d 46 7 (ai_put 2 (.ref x) L) st h Q := RR.do1 (7, ai_put 2 (.ref x) L, st, h) rfl rfl rfl
theorem r46_6n : RR S d 46 6 L (.null :: st) h Q = RR S d 46 7 (ai_put 2 .null L) st h Q := RR.do1 (7, ai_put 2 .null L, st, h) rfl rfl rfl
theorem r46_7 : RR S d 46 7 L st h Q = kA (ai_look L 2) (fun x => RR S d 46 8 L (x :: st) h Q) := RR.lda_n rfl rfl rfl
theorem r46_8 {x : Nat} : RR S d 46 8 L (.ref x :: st) h Q = RR S d 46 11 L st h Q := RR.nul (b := false) (off := 11) (tgt := 19) rfl rfl rfl (by decide) rfl rfl
theorem r46_8n : RR S d 46 8 L (.null :: st) h Q = RR S d 46 19 L st h Q := RR.nul (b := true) (off := 11) (tgt := 19) rfl rfl rfl (by decide) rfl rfl
theorem r46_11 : RR S d 46 11 L st h Q = kA (ai_look L 2) (fun x => RR S d 46 12 L (x :: st) h Q) := RR.lda_n rfl rfl rfl
theorem r46_12 {a : Nat} : RR S d 46 12 L (.ref a :: st) h Q = kO (ai_fld h a 1 7) (fun w => RR S d 46 15 L (w :: st) h Q) := RR.get rfl rfl rfl
theorem r46_15 : RR S d 46 15 L st h Q = RR S d 46 16 L (.int 4 :: st) h Q := RR.icn (n := 4) rfl (by decide) rfl
theorem r46_16 {x y : Int32} : RR S d 46 16 L (.int y :: .int x :: st) h Q = if x < y then RR S d 46 20 L st h Q else RR S d 46 19 L st h Q := RR.b2 (c := .lt) (off := 4) rfl rfl (by decide) rfl
theorem r46_19 : RR S d 46 19 L [] h Q = Q none h := RR.rt rfl rfl rfl
theorem r46_20 : RR S d 46 20 L st h Q = kA (ai_look L 0) (fun x => RR S d 46 21 L (x :: st) h Q) := RR.lda_n rfl rfl rfl
theorem r46_21 {a : Nat} : RR S d 46 21 L (.ref a :: st) h Q = kO (ai_fld h a 4 5) (fun w => RR S d 46 24 L (w :: st) h Q) := RR.get rfl rfl rfl
theorem r46_24 : RR S d 46 24 L st h Q = kI (ai_look L 1) (fun x => RR S d 46 25 L (.int x :: st) h Q) := RR.ldi_n rfl rfl rfl
theorem r46_25 {x : Int32} {a : Nat} : RR S d 46 25 L (.int x :: .ref a :: st) h Q = kO (ai_arr h a 0) (fun q => kB (ai_in x q.1) (RR S d 46 26 L (.int (q.2 x.toNatClampNeg) :: st) h Q)) := RR.ial rfl rfl
theorem r46_26 {x : Int32} : RR S d 46 26 L (.int x :: st) h Q = RR S d 46 27 (ai_put 3 (.int x) L) st h Q := RR.do1 (27, ai_put 3 (.int x) L, st, h) rfl rfl rfl
theorem r46_27 : RR S d 46 27 L st h Q = kI (ai_look L 3) (fun x => RR S d 46 28 L (.int x :: st) h Q) := RR.ldi_n rfl rfl rfl
theorem r46_28 : RR S d 46 28 L st h Q = kA (ai_look L 0) (fun x => RR S d 46 29 L (x :: st) h Q) := RR.lda_n rfl rfl rfl
theorem r46_29 {a : Nat} : RR S d 46 29 L (.ref a :: st) h Q = kO (ai_fld h a 4 0) (fun w => RR S d 46 32 L (w :: st) h Q) := RR.get rfl rfl rfl
theorem r46_32 : RR S d 46 32 L st h Q = kI (ai_look L 1) (fun x => RR S d 46 33 L (.int x :: st) h Q) := RR.ldi_n rfl rfl rfl
theorem r46_33 : RR S d 46 33 L st h Q = kA (ai_look L 2) (fun x => RR S d 46 34 L (x :: st) h Q) := RR.lda_n rfl rfl rfl
theorem r46_34 {a : Nat} : RR S d 46 34 L (.ref a :: st) h Q = kO (ai_fld h a 1 3) (fun w => RR S d 46 37 L (w :: st) h Q) := RR.get rfl rfl rfl
theorem r46_37 {p0 : Int32} {p1 : Int32} {a : Nat} : RR S (d + 1) 46 37 L (.int p1 :: .int p0 :: .ref a :: st) h Q = kB (decide (ai_sum st ≤ 8)) (kB ((ai_obj h a 2).isSome) (RR S d 21 0 [(0, .ref a), (1, .int p0), (2, .int p1)] [] h (fun r h1 => RR S (d + 1) 46 40 L (r.toList ++ st) h1 Q))) := RR.cv (j := 133) (mn' := 21) (n := 2) rfl rfl rfl rfl rfl rfl
theorem r46_40 {x y : Int32} : RR S d 46 40 L (.int y :: .int x :: st) h Q = RR S d 46 41 L (.int (x + y) :: st) h Q := RR.do1 (41, L, .int (x + y) :: st, h) rfl rfl rfl
theorem r46_41 {x : Int32} : RR S d 46 41 L (.int x :: st) h Q = RR S d 46 43 (ai_put 4 (.int x) L) st h Q := RR.do1 (43, ai_put 4 (.int x) L, st, h) rfl rfl rfl
theorem r46_43 : RR S d 46 43 L st h Q = kA (ai_look L 2) (fun x => RR S d 46 44 L (x :: st) h Q) := RR.lda_n rfl rfl rfl
theorem r46_44 {a : Nat} : RR S d 46 44 L (.ref a :: st) h Q = kO (ai_fld h a 1 5) (fun w => RR S d 46 47 L (w :: st) h Q) := RR.get rfl rfl rfl
theorem r46_47 : RR S d 46 47 L st h Q = kA (ai_look L 2) (fun x => RR S d 46 48 L (x :: st) h Q) := RR.lda_n rfl rfl rfl
theorem r46_48 {a : Nat} : RR S d 46 48 L (.ref a :: st) h Q = kO (ai_fld h a 1 7) (fun w => RR S d 46 51 L (w :: st) h Q) := RR.get rfl rfl rfl
theorem r46_51 : RR S d 46 51 L st h Q = kI (ai_look L 3) (fun x => RR S d 46 52 L (.int x :: st) h Q) := RR.ldi_n rfl rfl rfl
theorem r46_52 {x y : Int32} {a : Nat} : RR S d 46 52 L (.int y :: .int x :: .ref a :: st) h Q = kO (ai_arr h a 0) (fun q => kB (ai_in x q.1) (RR S d 46 53 L st (h.1.set a (.inl (0, q.1, .inl (upd q.2 x.toNatClampNeg y))), h.2) Q)) := RR.ias rfl rfl
theorem r46_53 : RR S d 46 53 L st h Q = kA (ai_look L 2) (fun x => RR S d 46 54 L (x :: st) h Q) := RR.lda_n rfl rfl rfl
theorem r46_54 {v : Value} (hv : v.category = 1) : RR S d 46 54 L (v :: st) h Q = RR S d 46 55 L (v :: v :: st) h Q := RR.dup rfl hv rfl
theorem r46_55 {a : Nat} : RR S d 46 55 L (.ref a :: st) h Q = kO (ai_fld h a 1 7) (fun w => RR S d 46 58 L (w :: st) h Q) := RR.get rfl rfl rfl
theorem r46_58 : RR S d 46 58 L st h Q = RR S d 46 59 L (.int 1 :: st) h Q := RR.icn (n := 1) rfl (by decide) rfl
theorem r46_59 {x y : Int32} : RR S d 46 59 L (.int y :: .int x :: st) h Q = RR S d 46 60 L (.int (x + y) :: st) h Q := RR.do1 (60, L, .int (x + y) :: st, h) rfl rfl rfl
theorem r46_60 {x : Int32} {a : Nat} : RR S d 46 60 L (.int x :: .ref a :: st) h Q = kO (ai_obj h a 1) (fun fs => kB (decide (7 < fs.length)) (RR S d 46 63 L st (h.1.set a (.inr (1, fs.set 7 (.int x))), h.2) Q)) := RR.put rfl rfl (ai_okp_i rfl (by decide +kernel)) rfl
theorem r46_63 : RR S d 46 63 L st h Q = kA (ai_look L 0) (fun x => RR S d 46 64 L (x :: st) h Q) := RR.lda_n rfl rfl rfl
theorem r46_64 {a : Nat} : RR S d 46 64 L (.ref a :: st) h Q = kO (ai_fld h a 4 6) (fun w => RR S d 46 67 L (w :: st) h Q) := RR.get rfl rfl rfl
theorem r46_67 : RR S d 46 67 L st h Q = kI (ai_look L 1) (fun x => RR S d 46 68 L (.int x :: st) h Q) := RR.ldi_n rfl rfl rfl
theorem r46_68 : RR S d 46 68 L st h Q = kI (ai_look L 3) (fun x => RR S d 46 69 L (.int x :: st) h Q) := RR.ldi_n rfl rfl rfl
theorem r46_69 : RR S d 46 69 L st h Q = kA (ai_look L 0) (fun x => RR S d 46 70 L (x :: st) h Q) := RR.lda_n rfl rfl rfl
theorem r46_70 {a : Nat} : RR S d 46 70 L (.ref a :: st) h Q = kO (ai_fld h a 4 0) (fun w => RR S d 46 73 L (w :: st) h Q) := RR.get rfl rfl rfl
theorem r46_73 : RR S d 46 73 L st h Q = kI (ai_look L 1) (fun x => RR S d 46 74 L (.int x :: st) h Q) := RR.ldi_n rfl rfl rfl
theorem r46_74 : RR S d 46 74 L st h Q = kA (ai_look L 2) (fun x => RR S d 46 75 L (x :: st) h Q) := RR.lda_n rfl rfl rfl
theorem r46_75 {a : Nat} : RR S d 46 75 L (.ref a :: st) h Q = kO (ai_fld h a 1 3) (fun w => RR S d 46 78 L (w :: st) h Q) := RR.get rfl rfl rfl
theorem r46_78 {p0 : Int32} {p1 : Int32} {a : Nat} : RR S (d + 1) 46 78 L (.int p1 :: .int p0 :: .ref a :: st) h Q = kB (decide (ai_sum st ≤ 8)) (kB ((ai_obj h a 2).isSome) (RR S d 20 0 [(0, .ref a), (1, .int p0), (2, .int p1)] [] h (fun r h1 => RR S (d + 1) 46 81 L (r.toList ++ st) h1 Q))) := RR.cv (j := 118) (mn' := 20) (n := 2) rfl rfl rfl rfl rfl rfl
theorem r46_81 {x y : Int32} : RR S d 46 81 L (.int y :: .int x :: st) h Q = RR S d 46 82 L (.int (x + y) :: st) h Q := RR.do1 (82, L, .int (x + y) :: st, h) rfl rfl rfl
theorem r46_82 {x y : Int32} {a : Nat} : RR S d 46 82 L (.int y :: .int x :: .ref a :: st) h Q = kO (ai_arr h a 0) (fun q => kB (ai_in x q.1) (RR S d 46 83 L st (h.1.set a (.inl (0, q.1, .inl (upd q.2 x.toNatClampNeg y))), h.2) Q)) := RR.ias rfl rfl
theorem r46_83 : RR S d 46 83 L st h Q = kA (ai_look L 0) (fun x => RR S d 46 84 L (x :: st) h Q) := RR.lda_n rfl rfl rfl
theorem r46_84 : RR S d 46 84 L st h Q = kI (ai_look L 1) (fun x => RR S d 46 85 L (.int x :: st) h Q) := RR.ldi_n rfl rfl rfl
theorem r46_85 {p0 : Int32} {a : Nat} : RR S (d + 1) 46 85 L (.int p0 :: .ref a :: st) h Q = kB (decide (ai_sum st ≤ 8)) (kB ((ai_obj h a 4).isSome) (RR S d 43 0 [(0, .ref a), (1, .int p0)] [] h (fun r h1 => RR S (d + 1) 46 88 L (r.toList ++ st) h1 Q))) := RR.cv (j := 91) (mn' := 43) (n := 1) rfl rfl rfl rfl rfl rfl
theorem r46_88 : RR S d 46 88 L st h Q = kA (ai_look L 2) (fun x => RR S d 46 89 L (x :: st) h Q) := RR.lda_n rfl rfl rfl
theorem r46_89 {a : Nat} : RR S (d + 1) 46 89 L (.ref a :: st) h Q = kB (decide (ai_sum st ≤ 8)) (kB ((ai_obj h a 1).isSome) (RR S d 7 0 [(0, .ref a)] [] h (fun r h1 => RR S (d + 1) 46 92 L (r.toList ++ st) h1 Q))) := RR.cv (j := 94) (mn' := 7) (n := 0) rfl rfl rfl rfl rfl rfl
theorem r46_92 {x : Int32} : RR S d 46 92 L (.int x :: st) h Q = RR S d 46 94 (ai_put 5 (.int x) L) st h Q := RR.do1 (94, ai_put 5 (.int x) L, st, h) rfl rfl rfl
theorem r46_94 : RR S d 46 94 L st h Q = kA (ai_look L 0) (fun x => RR S d 46 95 L (x :: st) h Q) := RR.lda_n rfl rfl rfl
theorem r46_95 {a : Nat} : RR S d 46 95 L (.ref a :: st) h Q = kO (ai_fld h a 4 0) (fun w => RR S d 46 98 L (w :: st) h Q) := RR.get rfl rfl rfl
theorem r46_98 : RR S d 46 98 L st h Q = kI (ai_look L 5) (fun x => RR S d 46 100 L (.int x :: st) h Q) := RR.ldi rfl rfl
theorem r46_100 {p0 : Int32} {a : Nat} : RR S (d + 1) 46 100 L (.int p0 :: .ref a :: st) h Q = kB (decide (ai_sum st ≤ 8)) (kB ((ai_obj h a 2).isSome) (RR S d 15 0 [(0, .ref a), (1, .int p0)] [] h (fun r h1 => RR S (d + 1) 46 103 L (r.toList ++ st) h1 Q))) := RR.cv (j := 139) (mn' := 15) (n := 1) rfl rfl rfl rfl rfl rfl
theorem r46_103 {x : Int32} : RR S d 46 103 L (.int x :: st) h Q = if ¬ x = 0 then RR S d 46 113 L st h Q else RR S d 46 106 L st h Q := RR.b1 (c := .ne) (off := 10) rfl rfl (by decide) rfl
theorem r46_106 : RR S d 46 106 L st h Q = kA (ai_look L 2) (fun x => RR S d 46 107 L (x :: st) h Q) := RR.lda_n rfl rfl rfl
theorem r46_107 : RR S d 46 107 L st h Q = kI (ai_look L 4) (fun x => RR S d 46 109 L (.int x :: st) h Q) := RR.ldi rfl rfl
theorem r46_109 {x : Int32} {a : Nat} : RR S d 46 109 L (.int x :: .ref a :: st) h Q = kO (ai_obj h a 1) (fun fs => kB (decide (8 < fs.length)) (RR S d 46 112 L st (h.1.set a (.inr (1, fs.set 8 (.int x))), h.2) Q)) := RR.put rfl rfl (ai_okp_i rfl (by decide +kernel)) rfl
theorem r46_112 : RR S d 46 112 L [] h Q = Q none h := RR.rt rfl rfl rfl
theorem r46_113 : RR S d 46 113 L st h Q = kA (ai_look L 2) (fun x => RR S d 46 114 L (x :: st) h Q) := RR.lda_n rfl rfl rfl
theorem r46_114 {a : Nat} : RR S d 46 114 L (.ref a :: st) h Q = kO (ai_fld h a 1 4) (fun w => RR S d 46 117 L (w :: st) h Q) := RR.get rfl rfl rfl
theorem r46_117 : RR S d 46 117 L st h Q = kA (ai_look L 2) (fun x => RR S d 46 118 L (x :: st) h Q) := RR.lda_n rfl rfl rfl
theorem r46_118 {a : Nat} : RR S d 46 118 L (.ref a :: st) h Q = kO (ai_fld h a 1 7) (fun w => RR S d 46 121 L (w :: st) h Q) := RR.get rfl rfl rfl
theorem r46_121 : RR S d 46 121 L st h Q = kI (ai_look L 4) (fun x => RR S d 46 123 L (.int x :: st) h Q) := RR.ldi rfl rfl
theorem r46_123 : RR S d 46 123 L st h Q = kA (ai_look L 0) (fun x => RR S d 46 124 L (x :: st) h Q) := RR.lda_n rfl rfl rfl
theorem r46_124 {a : Nat} : RR S d 46 124 L (.ref a :: st) h Q = kO (ai_fld h a 4 0) (fun w => RR S d 46 127 L (w :: st) h Q) := RR.get rfl rfl rfl
theorem r46_127 : RR S d 46 127 L st h Q = kI (ai_look L 1) (fun x => RR S d 46 128 L (.int x :: st) h Q) := RR.ldi_n rfl rfl rfl
theorem r46_128 {p0 : Int32} {a : Nat} : RR S (d + 1) 46 128 L (.int p0 :: .ref a :: st) h Q = kB (decide (ai_sum st ≤ 8)) (kB ((ai_obj h a 2).isSome) (RR S d 22 0 [(0, .ref a), (1, .int p0)] [] h (fun r h1 => RR S (d + 1) 46 131 L (r.toList ++ st) h1 Q))) := RR.cv (j := 149) (mn' := 22) (n := 1) rfl rfl rfl rfl rfl rfl
theorem r46_131 {x y : Int32} : RR S d 46 131 L (.int y :: .int x :: st) h Q = RR S d 46 132 L (.int (x + y) :: st) h Q := RR.do1 (132, L, .int (x + y) :: st, h) rfl rfl rfl
theorem r46_132 {x y : Int32} {a : Nat} : RR S d 46 132 L (.int y :: .int x :: .ref a :: st) h Q = kO (ai_arr h a 0) (fun q => kB (ai_in x q.1) (RR S d 46 133 L st (h.1.set a (.inl (0, q.1, .inl (upd q.2 x.toNatClampNeg y))), h.2) Q)) := RR.ias rfl rfl
theorem r46_133 : RR S d 46 133 L st h Q = kA (ai_look L 0) (fun x => RR S d 46 134 L (x :: st) h Q) := RR.lda_n rfl rfl rfl
theorem r46_134 : RR S d 46 134 L st h Q = kI (ai_look L 5) (fun x => RR S d 46 136 L (.int x :: st) h Q) := RR.ldi rfl rfl
theorem r46_136 {p0 : Int32} {a : Nat} : RR S (d + 1) 46 136 L (.int p0 :: .ref a :: st) h Q = kB (decide (ai_sum st ≤ 8)) (kB ((ai_obj h a 4).isSome) (RR S d 43 0 [(0, .ref a), (1, .int p0)] [] h (fun r h1 => RR S (d + 1) 46 139 L (r.toList ++ st) h1 Q))) := RR.cv (j := 91) (mn' := 43) (n := 1) rfl rfl rfl rfl rfl rfl
theorem r46_139 : RR S d 46 139 L [] h Q = Q none h := RR.rt rfl rfl rfl
theorem r47_0 : RR S d 47 0 L st h Q = RR S d 47 1 L (.int 0 :: st) h Q := RR.icn (n := 0) rfl (by decide) rfl
theorem r47_1 {x : Int32} : RR S d 47 1 L (.int x :: st) h Q = RR S d 47 2 (ai_put 2 (.int x) L) st h Q := RR.do1 (2, ai_put 2 (.int x) L, st, h) rfl rfl rfl
theorem r47_2 : RR S d 47 2 L st h Q = RR S d 47 3 L (.int 0 :: st) h Q := RR.icn (n := 0) rfl (by decide) rfl
theorem r47_3 {x : Int32} : RR S d 47 3 L (.int x :: st) h Q = RR S d 47 4 (ai_put 3 (.int x) L) st h Q := RR.do1 (4, ai_put 3 (.int x) L, st, h) rfl rfl rfl
theorem r47_4 : RR S d 47 4 L st h Q = kI (ai_look L 3) (fun x => RR S d 47 5 L (.int x :: st) h Q) := RR.ldi_n rfl rfl rfl
theorem r47_5 : RR S d 47 5 L st h Q = kA (ai_look L 0) (fun x => RR S d 47 6 L (x :: st) h Q) := RR.lda_n rfl rfl rfl
theorem r47_6 {a : Nat} : RR S d 47 6 L (.ref a :: st) h Q = kO (ai_fld h a 4 7) (fun w => RR S d 47 9 L (w :: st) h Q) := RR.get rfl rfl rfl
theorem r47_9 {x y : Int32} : RR S d 47 9 L (.int y :: .int x :: st) h Q = if y ≤ x then RR S d 47 46 L st h Q else RR S d 47 12 L st h Q := RR.b2 (c := .ge) (off := 37) rfl rfl (by decide) rfl
theorem r47_12 : RR S d 47 12 L st h Q = kA (ai_look L 0) (fun x => RR S d 47 13 L (x :: st) h Q) := RR.lda_n rfl rfl rfl
theorem r47_13 : RR S d 47 13 L st h Q = kI (ai_look L 3) (fun x => RR S d 47 14 L (.int x :: st) h Q) := RR.ldi_n rfl rfl rfl
theorem r47_14 {p0 : Int32} {a : Nat} : RR S (d + 1) 47 14 L (.int p0 :: .ref a :: st) h Q = kB (decide (ai_sum st ≤ 8)) (kB ((ai_obj h a 4).isSome) (RR S d 40 0 [(0, .ref a), (1, .int p0)] [] h (fun r h1 => RR S (d + 1) 47 17 L (r.toList ++ st) h1 Q))) := RR.cv (j := 58) (mn' := 40) (n := 1) rfl rfl rfl rfl rfl rfl
theorem r47_17 {x : Nat} : RR S d 47 17 L (.ref x :: st) h Q = RR S d 47 19 (ai_put 4 (.ref x) L) st h Q := RR.do1 (19, ai_put 4 (.ref x) L, st, h) rfl rfl rfl
theorem r47_17n : RR S d 47 17 L (.null :: st) h Q = RR S d 47 19 (ai_put 4 .null L) st h Q := RR.do1 (19, ai_put 4 .null L, st, h) rfl rfl rfl
theorem r47_19 : RR S d 47 19 L st h Q = kA (ai_look L 4) (fun x => RR S d 47 21 L (x :: st) h Q) := RR.lda rfl rfl
theorem r47_21 {x : Nat} : RR S d 47 21 L (.ref x :: st) h Q = RR S d 47 24 L st h Q := RR.nul (b := false) (off := 19) (tgt := 40) rfl rfl rfl (by decide) rfl rfl
theorem r47_21n : RR S d 47 21 L (.null :: st) h Q = RR S d 47 40 L st h Q := RR.nul (b := true) (off := 19) (tgt := 40) rfl rfl rfl (by decide) rfl rfl
theorem r47_24 : RR S d 47 24 L st h Q = kI (ai_look L 2) (fun x => RR S d 47 25 L (.int x :: st) h Q) := RR.ldi_n rfl rfl rfl
theorem r47_25 : RR S d 47 25 L st h Q = kA (ai_look L 0) (fun x => RR S d 47 26 L (x :: st) h Q) := RR.lda_n rfl rfl rfl
theorem r47_26 : RR S d 47 26 L st h Q = kI (ai_look L 1) (fun x => RR S d 47 27 L (.int x :: st) h Q) := RR.ldi_n rfl rfl rfl
theorem r47_27 : RR S d 47 27 L st h Q = kA (ai_look L 4) (fun x => RR S d 47 29 L (x :: st) h Q) := RR.lda rfl rfl
theorem r47_29 : RR S d 47 29 L st h Q = kI (ai_look L 1) (fun x => RR S d 47 30 L (.int x :: st) h Q) := RR.ldi_n rfl rfl rfl
theorem r47_30 {p0 : Int32} {a : Nat} : RR S (d + 1) 47 30 L (.int p0 :: .ref a :: st) h Q = kB (decide (ai_sum st ≤ 8)) (kB ((ai_obj h a 1).isSome) (RR S d 10 0 [(0, .ref a), (1, .int p0)] [] h (fun r h1 => RR S (d + 1) 47 33 L (r.toList ++ st) h1 Q))) := RR.cv (j := 152) (mn' := 10) (n := 1) rfl rfl rfl rfl rfl rfl
theorem r47_33 {p0 : Int32} {p1 : Int32} {a : Nat} : RR S (d + 1) 47 33 L (.int p1 :: .int p0 :: .ref a :: st) h Q = kB (decide (ai_sum st ≤ 8)) (kB ((ai_obj h a 4).isSome) (RR S d 48 0 [(0, .ref a), (1, .int p0), (2, .int p1)] [] h (fun r h1 => RR S (d + 1) 47 36 L (r.toList ++ st) h1 Q))) := RR.cv (j := 155) (mn' := 48) (n := 2) rfl rfl rfl rfl rfl rfl
theorem r47_36 {p0 : Int32} {p1 : Int32} : RR S (d + 1) 47 36 L (.int p1 :: .int p0 :: st) h Q = kB (decide (ai_sum st ≤ 8)) (RR S d 163 0 [(0, .int p0), (1, .int p1)] [] h (fun r h1 => RR S (d + 1) 47 39 L (r.toList ++ st) h1 Q)) := RR.cs (j := 77) (mn' := 163) (n := 2) rfl rfl rfl rfl (by simp) rfl rfl
theorem r47_39 {x : Int32} : RR S d 47 39 L (.int x :: st) h Q = RR S d 47 40 (ai_put 2 (.int x) L) st h Q := RR.do1 (40, ai_put 2 (.int x) L, st, h) rfl rfl rfl
theorem r47_40 : RR S d 47 40 L st h Q = kI (ai_look L 3) (fun x => RR S d 47 43 (ai_put 3 (.int (x + 1)) L) st h Q) := RR.iinc (k := 3) (n := 1) rfl (by decide) (by decide) rfl
theorem r47_43 : RR S d 47 43 L st h Q = RR S d 47 4 L st h Q := RR.jmp (off := (-39)) rfl (by decide)
theorem r47_46 : RR S d 47 46 L st h Q = kI (ai_look L 2) (fun x => RR S d 47 47 L (.int x :: st) h Q) := RR.ldi_n rfl rfl rfl
theorem r47_47 {x : Int32} : RR S d 47 47 L [.int x] h Q = Q (some (.int x)) h := RR.rt rfl rfl rfl
theorem r48_0 : RR S d 48 0 L st h Q = RR S d 48 1 L (.int 0 :: st) h Q := RR.icn (n := 0) rfl (by decide) rfl
theorem r48_1 {x : Int32} : RR S d 48 1 L (.int x :: st) h Q = RR S d 48 2 (ai_put 3 (.int x) L) st h Q := RR.do1 (2, ai_put 3 (.int x) L, st, h) rfl rfl rfl
theorem r48_2 : RR S d 48 2 L st h Q = RR S d 48 3 L (.int 0 :: st) h Q := RR.icn (n := 0) rfl (by decide) rfl
theorem r48_3 {x : Int32} : RR S d 48 3 L (.int x :: st) h Q = RR S d 48 5 (ai_put 4 (.int x) L) st h Q := RR.do1 (5, ai_put 4 (.int x) L, st, h) rfl rfl rfl
theorem r48_5 : RR S d 48 5 L st h Q = kI (ai_look L 4) (fun x => RR S d 48 7 L (.int x :: st) h Q) := RR.ldi rfl rfl
theorem r48_7 : RR S d 48 7 L st h Q = kA (ai_look L 0) (fun x => RR S d 48 8 L (x :: st) h Q) := RR.lda_n rfl rfl rfl
theorem r48_8 {a : Nat} : RR S d 48 8 L (.ref a :: st) h Q = kO (ai_fld h a 4 7) (fun w => RR S d 48 11 L (w :: st) h Q) := RR.get rfl rfl rfl
theorem r48_11 {x y : Int32} : RR S d 48 11 L (.int y :: .int x :: st) h Q = if y ≤ x then RR S d 48 53 L st h Q else RR S d 48 14 L st h Q := RR.b2 (c := .ge) (off := 42) rfl rfl (by decide) rfl
theorem r48_14 : RR S d 48 14 L st h Q = kA (ai_look L 0) (fun x => RR S d 48 15 L (x :: st) h Q) := RR.lda_n rfl rfl rfl
theorem r48_15 : RR S d 48 15 L st h Q = kI (ai_look L 4) (fun x => RR S d 48 17 L (.int x :: st) h Q) := RR.ldi rfl rfl
theorem r48_17 {p0 : Int32} {a : Nat} : RR S (d + 1) 48 17 L (.int p0 :: .ref a :: st) h Q = kB (decide (ai_sum st ≤ 8)) (kB ((ai_obj h a 4).isSome) (RR S d 40 0 [(0, .ref a), (1, .int p0)] [] h (fun r h1 => RR S (d + 1) 48 20 L (r.toList ++ st) h1 Q))) := RR.cv (j := 58) (mn' := 40) (n := 1) rfl rfl rfl rfl rfl rfl
theorem r48_20 {x : Nat} : RR S d 48 20 L (.ref x :: st) h Q = RR S d 48 22 (ai_put 5 (.ref x) L) st h Q := RR.do1 (22, ai_put 5 (.ref x) L, st, h) rfl rfl rfl
theorem r48_20n : RR S d 48 20 L (.null :: st) h Q = RR S d 48 22 (ai_put 5 .null L) st h Q := RR.do1 (22, ai_put 5 .null L, st, h) rfl rfl rfl
theorem r48_22 : RR S d 48 22 L st h Q = kA (ai_look L 5) (fun x => RR S d 48 24 L (x :: st) h Q) := RR.lda rfl rfl
theorem r48_24 {x : Nat} : RR S d 48 24 L (.ref x :: st) h Q = RR S d 48 27 L st h Q := RR.nul (b := false) (off := 23) (tgt := 47) rfl rfl rfl (by decide) rfl rfl
theorem r48_24n : RR S d 48 24 L (.null :: st) h Q = RR S d 48 47 L st h Q := RR.nul (b := true) (off := 23) (tgt := 47) rfl rfl rfl (by decide) rfl rfl
theorem r48_27 : RR S d 48 27 L st h Q = kI (ai_look L 2) (fun x => RR S d 48 28 L (.int x :: st) h Q) := RR.ldi_n rfl rfl rfl
theorem r48_28 : RR S d 48 28 L st h Q = RR S d 48 31 L (.int 3000 :: st) h Q := RR.sip (n := 3000) rfl (by decide) rfl
theorem r48_31 {x y : Int32} : RR S d 48 31 L (.int y :: .int x :: st) h Q = if y ≤ x then RR S d 48 47 L st h Q else RR S d 48 34 L st h Q := RR.b2 (c := .ge) (off := 16) rfl rfl (by decide) rfl
theorem r48_34 : RR S d 48 34 L st h Q = kA (ai_look L 5) (fun x => RR S d 48 36 L (x :: st) h Q) := RR.lda rfl rfl
theorem r48_36 : RR S d 48 36 L st h Q = kI (ai_look L 1) (fun x => RR S d 48 37 L (.int x :: st) h Q) := RR.ldi_n rfl rfl rfl
theorem r48_37 : RR S d 48 37 L st h Q = kI (ai_look L 2) (fun x => RR S d 48 38 L (.int x :: st) h Q) := RR.ldi_n rfl rfl rfl
theorem r48_38 {p0 : Int32} {p1 : Int32} {a : Nat} : RR S (d + 1) 48 38 L (.int p1 :: .int p0 :: .ref a :: st) h Q = kB (decide (ai_sum st ≤ 8)) (kB ((ai_obj h a 1).isSome) (RR S d 11 0 [(0, .ref a), (1, .int p0), (2, .int p1)] [] h (fun r h1 => RR S (d + 1) 48 41 L (r.toList ++ st) h1 Q))) := RR.cv (j := 158) (mn' := 11) (n := 2) rfl rfl rfl rfl rfl rfl
theorem r48_41 {x : Int32} : RR S d 48 41 L (.int x :: st) h Q = if x = 0 then RR S d 48 47 L st h Q else RR S d 48 44 L st h Q := RR.b1 (c := .eq) (off := 6) rfl rfl (by decide) rfl
theorem r48_44 : RR S d 48 44 L st h Q = kI (ai_look L 3) (fun x => RR S d 48 47 (ai_put 3 (.int (x + 1)) L) st h Q) := RR.iinc (k := 3) (n := 1) rfl (by decide) (by decide) rfl
theorem r48_47 : RR S d 48 47 L st h Q = kI (ai_look L 4) (fun x => RR S d 48 50 (ai_put 4 (.int (x + 1)) L) st h Q) := RR.iinc (k := 4) (n := 1) rfl (by decide) (by decide) rfl
theorem r48_50 : RR S d 48 50 L st h Q = RR S d 48 5 L st h Q := RR.jmp (off := (-45)) rfl (by decide)
theorem r48_53 : RR S d 48 53 L st h Q = kI (ai_look L 3) (fun x => RR S d 48 54 L (.int x :: st) h Q) := RR.ldi_n rfl rfl rfl
theorem r48_54 {x : Int32} : RR S d 48 54 L [.int x] h Q = Q (some (.int x)) h := RR.rt rfl rfl rfl
theorem r49_0 : RR S d 49 0 L st h Q = RR S d 49 1 L (.int 0 :: st) h Q := RR.icn (n := 0) rfl (by decide) rfl
theorem r49_1 {x : Int32} : RR S d 49 1 L (.int x :: st) h Q = RR S d 49 2 (ai_put 1 (.int x) L) st h Q := RR.do1 (2, ai_put 1 (.int x) L, st, h) rfl rfl rfl
theorem r49_2 : RR S d 49 2 L st h Q = RR S d 49 3 L (.int 0 :: st) h Q := RR.icn (n := 0) rfl (by decide) rfl
theorem r49_3 {x : Int32} : RR S d 49 3 L (.int x :: st) h Q = RR S d 49 4 (ai_put 2 (.int x) L) st h Q := RR.do1 (4, ai_put 2 (.int x) L, st, h) rfl rfl rfl
theorem r49_4 : RR S d 49 4 L st h Q = kI (ai_look L 2) (fun x => RR S d 49 5 L (.int x :: st) h Q) := RR.ldi_n rfl rfl rfl
theorem r49_5 : RR S d 49 5 L st h Q = kA (ai_look L 0) (fun x => RR S d 49 6 L (x :: st) h Q) := RR.lda_n rfl rfl rfl
theorem r49_6 {a : Nat} : RR S d 49 6 L (.ref a :: st) h Q = kO (ai_fld h a 4 7) (fun w => RR S d 49 9 L (w :: st) h Q) := RR.get rfl rfl rfl
theorem r49_9 {x y : Int32} : RR S d 49 9 L (.int y :: .int x :: st) h Q = if y ≤ x then RR S d 49 41 L st h Q else RR S d 49 12 L st h Q := RR.b2 (c := .ge) (off := 32) rfl rfl (by decide) rfl
theorem r49_12 : RR S d 49 12 L st h Q = kA (ai_look L 0) (fun x => RR S d 49 13 L (x :: st) h Q) := RR.lda_n rfl rfl rfl
theorem r49_13 : RR S d 49 13 L st h Q = kI (ai_look L 2) (fun x => RR S d 49 14 L (.int x :: st) h Q) := RR.ldi_n rfl rfl rfl
theorem r49_14 {p0 : Int32} {a : Nat} : RR S (d + 1) 49 14 L (.int p0 :: .ref a :: st) h Q = kB (decide (ai_sum st ≤ 8)) (kB ((ai_obj h a 4).isSome) (RR S d 40 0 [(0, .ref a), (1, .int p0)] [] h (fun r h1 => RR S (d + 1) 49 17 L (r.toList ++ st) h1 Q))) := RR.cv (j := 58) (mn' := 40) (n := 1) rfl rfl rfl rfl rfl rfl
theorem r49_17 {x : Nat} : RR S d 49 17 L (.ref x :: st) h Q = RR S d 49 18 (ai_put 3 (.ref x) L) st h Q := RR.do1 (18, ai_put 3 (.ref x) L, st, h) rfl rfl rfl
theorem r49_17n : RR S d 49 17 L (.null :: st) h Q = RR S d 49 18 (ai_put 3 .null L) st h Q := RR.do1 (18, ai_put 3 .null L, st, h) rfl rfl rfl
theorem r49_18 : RR S d 49 18 L st h Q = kA (ai_look L 3) (fun x => RR S d 49 19 L (x :: st) h Q) := RR.lda_n rfl rfl rfl
theorem r49_19 {x : Nat} : RR S d 49 19 L (.ref x :: st) h Q = RR S d 49 22 L st h Q := RR.nul (b := false) (off := 16) (tgt := 35) rfl rfl rfl (by decide) rfl rfl
theorem r49_19n : RR S d 49 19 L (.null :: st) h Q = RR S d 49 35 L st h Q := RR.nul (b := true) (off := 16) (tgt := 35) rfl rfl rfl (by decide) rfl rfl
theorem r49_22 : RR S d 49 22 L st h Q = kA (ai_look L 3) (fun x => RR S d 49 23 L (x :: st) h Q) := RR.lda_n rfl rfl rfl
theorem r49_23 {a : Nat} : RR S d 49 23 L (.ref a :: st) h Q = kO (ai_fld h a 1 8) (fun w => RR S d 49 26 L (w :: st) h Q) := RR.get rfl rfl rfl
theorem r49_26 : RR S d 49 26 L st h Q = RR S d 49 29 L (.int 3000 :: st) h Q := RR.sip (n := 3000) rfl (by decide) rfl
theorem r49_29 {x y : Int32} : RR S d 49 29 L (.int y :: .int x :: st) h Q = if y ≤ x then RR S d 49 35 L st h Q else RR S d 49 32 L st h Q := RR.b2 (c := .ge) (off := 6) rfl rfl (by decide) rfl
theorem r49_32 : RR S d 49 32 L st h Q = kI (ai_look L 1) (fun x => RR S d 49 35 (ai_put 1 (.int (x + 1)) L) st h Q) := RR.iinc (k := 1) (n := 1) rfl (by decide) (by decide) rfl
theorem r49_35 : RR S d 49 35 L st h Q = kI (ai_look L 2) (fun x => RR S d 49 38 (ai_put 2 (.int (x + 1)) L) st h Q) := RR.iinc (k := 2) (n := 1) rfl (by decide) (by decide) rfl
theorem r49_38 : RR S d 49 38 L st h Q = RR S d 49 4 L st h Q := RR.jmp (off := (-34)) rfl (by decide)
theorem r49_41 : RR S d 49 41 L st h Q = kI (ai_look L 1) (fun x => RR S d 49 42 L (.int x :: st) h Q) := RR.ldi_n rfl rfl rfl
theorem r49_42 {x : Int32} : RR S d 49 42 L [.int x] h Q = Q (some (.int x)) h := RR.rt rfl rfl rfl
theorem r50_0 : RR S d 50 0 L st h Q = kA (ai_look L 0) (fun x => RR S d 50 1 L (x :: st) h Q) := RR.lda_n rfl rfl rfl
theorem r50_1 {a : Nat} : RR S d 50 1 L (.ref a :: st) h Q = kB (decide (ai_sum st ≤ 8)) (RR S d 50 4 L st h Q) := RR.oin (j := 1) rfl rfl rfl
theorem r50_4 : RR S d 50 4 L st h Q = kA (ai_look L 0) (fun x => RR S d 50 5 L (x :: st) h Q) := RR.lda_n rfl rfl rfl
theorem r50_5 : RR S d 50 5 L st h Q = RR S d 50 6 L (.long 0 :: st) h Q := RR.lcn (n := 0) rfl (by decide) rfl
theorem r50_6 {x : Int64} {a : Nat} : RR S d 50 6 L (.long x :: .ref a :: st) h Q = kO (ai_obj h a 5) (fun fs => kB (decide (1 < fs.length)) (RR S d 50 9 L st (h.1.set a (.inr (5, fs.set 1 (.long x))), h.2) Q)) := RR.put rfl rfl (ai_okp_j rfl (by decide +kernel)) rfl
theorem r50_9 : RR S d 50 9 L st h Q = kA (ai_look L 0) (fun x => RR S d 50 10 L (x :: st) h Q) := RR.lda_n rfl rfl rfl
theorem r50_10 : RR S d 50 10 L st h Q = RR S d 50 11 L (.long 0 :: st) h Q := RR.lcn (n := 0) rfl (by decide) rfl
theorem r50_11 {x : Int64} {a : Nat} : RR S d 50 11 L (.long x :: .ref a :: st) h Q = kO (ai_obj h a 5) (fun fs => kB (decide (2 < fs.length)) (RR S d 50 14 L st (h.1.set a (.inr (5, fs.set 2 (.long x))), h.2) Q)) := RR.put rfl rfl (ai_okp_j rfl (by decide +kernel)) rfl
theorem r50_14 : RR S d 50 14 L st h Q = kA (ai_look L 0) (fun x => RR S d 50 15 L (x :: st) h Q) := RR.lda_n rfl rfl rfl
theorem r50_15 : RR S d 50 15 L st h Q = kA (ai_look L 1) (fun x => RR S d 50 16 L (x :: st) h Q) := RR.lda_n rfl rfl rfl
theorem r50_16 {x : Nat} {a : Nat} : RR S d 50 16 L (.ref x :: .ref a :: st) h Q = kO (ai_obj h a 5) (fun fs => kB (decide (0 < fs.length)) (RR S d 50 19 L st (h.1.set a (.inr (5, fs.set 0 (.ref x))), h.2) Q)) := RR.put rfl rfl (ai_okp_r (by decide +kernel)) rfl
theorem r50_19 : RR S d 50 19 L [] h Q = Q none h := RR.rt rfl rfl rfl
theorem r51_0 : RR S d 51 0 L st h Q = kA (ai_look L 0) (fun x => RR S d 51 1 L (x :: st) h Q) := RR.lda_n rfl rfl rfl
theorem r51_1 : RR S d 51 1 L st h Q = RR S d 51 2 L (.long 0 :: st) h Q := RR.lcn (n := 0) rfl (by decide) rfl
theorem r51_2 {x : Int64} {a : Nat} : RR S d 51 2 L (.long x :: .ref a :: st) h Q = kO (ai_obj h a 5) (fun fs => kB (decide (1 < fs.length)) (RR S d 51 5 L st (h.1.set a (.inr (5, fs.set 1 (.long x))), h.2) Q)) := RR.put rfl rfl (ai_okp_j rfl (by decide +kernel)) rfl
theorem r51_5 : RR S d 51 5 L st h Q = kA (ai_look L 0) (fun x => RR S d 51 6 L (x :: st) h Q) := RR.lda_n rfl rfl rfl
theorem r51_6 : RR S d 51 6 L st h Q = RR S d 51 7 L (.long 0 :: st) h Q := RR.lcn (n := 0) rfl (by decide) rfl
theorem r51_7 {x : Int64} {a : Nat} : RR S d 51 7 L (.long x :: .ref a :: st) h Q = kO (ai_obj h a 5) (fun fs => kB (decide (2 < fs.length)) (RR S d 51 10 L st (h.1.set a (.inr (5, fs.set 2 (.long x))), h.2) Q)) := RR.put rfl rfl (ai_okp_j rfl (by decide +kernel)) rfl
theorem r51_10 : RR S d 51 10 L [] h Q = Q none h := RR.rt rfl rfl rfl
theorem r52_0 : RR S d 52 0 L st h Q = kA (ai_look L 0) (fun x => RR S d 52 1 L (x :: st) h Q) := RR.lda_n rfl rfl rfl
theorem r52_1 : RR S d 52 1 L st h Q = RR S d 52 2 L (.long 1 :: st) h Q := RR.lcn (n := 1) rfl (by decide) rfl
theorem r52_2 : RR S d 52 2 L st h Q = kA (ai_look L 0) (fun x => RR S d 52 3 L (x :: st) h Q) := RR.lda_n rfl rfl rfl
theorem r52_3 {a : Nat} : RR S d 52 3 L (.ref a :: st) h Q = kO (ai_fld h a 5 0) (fun w => RR S d 52 6 L (w :: st) h Q) := RR.get rfl rfl rfl
theorem r52_6 {a : Nat} : RR S d 52 6 L (.ref a :: st) h Q = kO (ai_fld h a 2 8) (fun w => RR S d 52 9 L (w :: st) h Q) := RR.get rfl rfl rfl
theorem r52_9 : RR S d 52 9 L st h Q = RR S d 52 10 L (.int 2 :: st) h Q := RR.icn (n := 2) rfl (by decide) rfl
theorem r52_10 {x y : Int32} : RR S d 52 10 L (.int y :: .int x :: st) h Q = kB (decide (¬ y = 0)) (RR S d 52 11 L (.int (x / y) :: st) h Q) := RR.idiv rfl rfl
theorem r52_11 {x : Int64} {y : Int32} : RR S d 52 11 L (.int y :: .long x :: st) h Q = RR S d 52 12 L (.long (x <<< (y.toInt64 &&& 63)) :: st) h Q := RR.do1 (12, L, .long (x <<< (y.toInt64 &&& 63)) :: st, h) rfl rfl rfl
theorem r52_12 : RR S d 52 12 L st h Q = RR S d 52 13 L (.long 1 :: st) h Q := RR.lcn (n := 1) rfl (by decide) rfl
theorem r52_13 {x y : Int64} : RR S d 52 13 L (.long y :: .long x :: st) h Q = RR S d 52 14 L (.long (x - y) :: st) h Q := RR.do1 (14, L, .long (x - y) :: st, h) rfl rfl rfl
theorem r52_14 {x : Int64} {a : Nat} : RR S d 52 14 L (.long x :: .ref a :: st) h Q = kO (ai_obj h a 5) (fun fs => kB (decide (1 < fs.length)) (RR S d 52 17 L st (h.1.set a (.inr (5, fs.set 1 (.long x))), h.2) Q)) := RR.put rfl rfl (ai_okp_j rfl (by decide +kernel)) rfl
theorem r52_17 : RR S d 52 17 L st h Q = kA (ai_look L 0) (fun x => RR S d 52 18 L (x :: st) h Q) := RR.lda_n rfl rfl rfl
theorem r52_18 : RR S d 52 18 L st h Q = kA (ai_look L 0) (fun x => RR S d 52 19 L (x :: st) h Q) := RR.lda_n rfl rfl rfl
theorem r52_19 {a : Nat} : RR S d 52 19 L (.ref a :: st) h Q = kO (ai_fld h a 5 1) (fun w => RR S d 52 22 L (w :: st) h Q) := RR.get rfl rfl rfl
theorem r52_22 {x : Int64} {a : Nat} : RR S d 52 22 L (.long x :: .ref a :: st) h Q = kO (ai_obj h a 5) (fun fs => kB (decide (2 < fs.length)) (RR S d 52 25 L st (h.1.set a (.inr (5, fs.set 2 (.long x))), h.2) Q)) := RR.put rfl rfl (ai_okp_j rfl (by decide +kernel)) rfl
theorem r52_25 : RR S d 52 25 L [] h Q = Q none h := RR.rt rfl rfl rfl
theorem r53_0 : RR S d 53 0 L st h Q = kA (ai_look L 0) (fun x => RR S d 53 1 L (x :: st) h Q) := RR.lda_n rfl rfl rfl
theorem r53_1 {a : Nat} : RR S d 53 1 L (.ref a :: st) h Q = kO (ai_fld h a 5 0) (fun w => RR S d 53 4 L (w :: st) h Q) := RR.get rfl rfl rfl
theorem r53_4 {a : Nat} : RR S d 53 4 L (.ref a :: st) h Q = kO (ai_fld h a 2 8) (fun w => RR S d 53 7 L (w :: st) h Q) := RR.get rfl rfl rfl
theorem r53_7 : RR S d 53 7 L st h Q = RR S d 53 8 L (.int 2 :: st) h Q := RR.icn (n := 2) rfl (by decide) rfl
theorem r53_8 {x y : Int32} : RR S d 53 8 L (.int y :: .int x :: st) h Q = kB (decide (¬ y = 0)) (RR S d 53 9 L (.int (x / y) :: st) h Q) := RR.idiv rfl rfl
theorem r53_9 {x : Int32} : RR S d 53 9 L (.int x :: st) h Q = RR S d 53 10 (ai_put 2 (.int x) L) st h Q := RR.do1 (10, ai_put 2 (.int x) L, st, h) rfl rfl rfl
theorem r53_10 : RR S d 53 10 L st h Q = kI (ai_look L 1) (fun x => RR S d 53 11 L (.int x :: st) h Q) := RR.ldi_n rfl rfl rfl
theorem r53_11 : RR S d 53 11 L st h Q = kI (ai_look L 2) (fun x => RR S d 53 12 L (.int x :: st) h Q) := RR.ldi_n rfl rfl rfl
theorem r53_12 {x y : Int32} : RR S d 53 12 L (.int y :: .int x :: st) h Q = if y ≤ x then RR S d 53 24 L st h Q else RR S d 53 15 L st h Q := RR.b2 (c := .ge) (off := 12) rfl rfl (by decide) rfl
theorem r53_15 : RR S d 53 15 L st h Q = kA (ai_look L 0) (fun x => RR S d 53 16 L (x :: st) h Q) := RR.lda_n rfl rfl rfl
theorem r53_16 {a : Nat} : RR S d 53 16 L (.ref a :: st) h Q = kO (ai_fld h a 5 1) (fun w => RR S d 53 19 L (w :: st) h Q) := RR.get rfl rfl rfl
theorem r53_19 : RR S d 53 19 L st h Q = kI (ai_look L 1) (fun x => RR S d 53 20 L (.int x :: st) h Q) := RR.ldi_n rfl rfl rfl
theorem r53_20 {x : Int64} {y : Int32} : RR S d 53 20 L (.int y :: .long x :: st) h Q = RR S d 53 21 L (.long (x >>> (y.toInt64 &&& 63)) :: st) h Q := RR.do1 (21, L, .long (x >>> (y.toInt64 &&& 63)) :: st, h) rfl rfl rfl
theorem r53_21 : RR S d 53 21 L st h Q = RR S d 53 32 L st h Q := RR.jmp (off := 11) rfl (by decide)
theorem r53_24 : RR S d 53 24 L st h Q = kA (ai_look L 0) (fun x => RR S d 53 25 L (x :: st) h Q) := RR.lda_n rfl rfl rfl
theorem r53_25 {a : Nat} : RR S d 53 25 L (.ref a :: st) h Q = kO (ai_fld h a 5 2) (fun w => RR S d 53 28 L (w :: st) h Q) := RR.get rfl rfl rfl
theorem r53_28 : RR S d 53 28 L st h Q = kI (ai_look L 1) (fun x => RR S d 53 29 L (.int x :: st) h Q) := RR.ldi_n rfl rfl rfl
theorem r53_29 : RR S d 53 29 L st h Q = kI (ai_look L 2) (fun x => RR S d 53 30 L (.int x :: st) h Q) := RR.ldi_n rfl rfl rfl
theorem r53_30 {x y : Int32} : RR S d 53 30 L (.int y :: .int x :: st) h Q = RR S d 53 31 L (.int (x - y) :: st) h Q := RR.do1 (31, L, .int (x - y) :: st, h) rfl rfl rfl
theorem r53_31 {x : Int64} {y : Int32} : RR S d 53 31 L (.int y :: .long x :: st) h Q = RR S d 53 32 L (.long (x >>> (y.toInt64 &&& 63)) :: st) h Q := RR.do1 (32, L, .long (x >>> (y.toInt64 &&& 63)) :: st, h) rfl rfl rfl
theorem r53_32 : RR S d 53 32 L st h Q = RR S d 53 33 L (.long 1 :: st) h Q := RR.lcn (n := 1) rfl (by decide) rfl
theorem r53_33 {x y : Int64} : RR S d 53 33 L (.long y :: .long x :: st) h Q = RR S d 53 34 L (.long (x &&& y) :: st) h Q := RR.do1 (34, L, .long (x &&& y) :: st, h) rfl rfl rfl
theorem r53_34 : RR S d 53 34 L st h Q = RR S d 53 35 L (.long 1 :: st) h Q := RR.lcn (n := 1) rfl (by decide) rfl
theorem r53_35 {x y : Int64} : RR S d 53 35 L (.long y :: .long x :: st) h Q = RR S d 53 36 L (.int (lg_cmp x y) :: st) h Q := RR.do1 (36, L, .int (lg_cmp x y) :: st, h) rfl rfl rfl
theorem r53_36 {x : Int32} : RR S d 53 36 L (.int x :: st) h Q = if ¬ x = 0 then RR S d 53 43 L st h Q else RR S d 53 39 L st h Q := RR.b1 (c := .ne) (off := 7) rfl rfl (by decide) rfl
theorem r53_39 : RR S d 53 39 L st h Q = RR S d 53 40 L (.int 1 :: st) h Q := RR.icn (n := 1) rfl (by decide) rfl
theorem r53_40 : RR S d 53 40 L st h Q = RR S d 53 44 L st h Q := RR.jmp (off := 4) rfl (by decide)
theorem r53_43 : RR S d 53 43 L st h Q = RR S d 53 44 L (.int 0 :: st) h Q := RR.icn (n := 0) rfl (by decide) rfl
theorem r53_44f : RR S d 53 44 L [.int 0] h Q = Q (some (.int 0)) h := RR.zrt rfl rfl (by decide)
theorem r53_44t : RR S d 53 44 L [.int 1] h Q = Q (some (.int 1)) h := RR.zrt rfl rfl (by decide)
theorem r54_0 : RR S d 54 0 L st h Q = kA (ai_look L 0) (fun x => RR S d 54 1 L (x :: st) h Q) := RR.lda_n rfl rfl rfl
theorem r54_1 {v : Value} (hv : v.category = 1) : RR S d 54 1 L (v :: st) h Q = RR S d 54 2 L (v :: v :: st) h Q := RR.dup rfl hv rfl
theorem r54_2 {a : Nat} : RR S d 54 2 L (.ref a :: st) h Q = kO (ai_fld h a 5 1) (fun w => RR S d 54 5 L (w :: st) h Q) := RR.get rfl rfl rfl
theorem r54_5 : RR S d 54 5 L st h Q = kA (ai_look L 1) (fun x => RR S d 54 6 L (x :: st) h Q) := RR.lda_n rfl rfl rfl
theorem r54_6 {a : Nat} : RR S d 54 6 L (.ref a :: st) h Q = kO (ai_fld h a 5 1) (fun w => RR S d 54 9 L (w :: st) h Q) := RR.get rfl rfl rfl
theorem r54_9 {x y : Int64} : RR S d 54 9 L (.long y :: .long x :: st) h Q = RR S d 54 10 L (.long (x ||| y) :: st) h Q := RR.do1 (10, L, .long (x ||| y) :: st, h) rfl rfl rfl
theorem r54_10 {x : Int64} {a : Nat} : RR S d 54 10 L (.long x :: .ref a :: st) h Q = kO (ai_obj h a 5) (fun fs => kB (decide (1 < fs.length)) (RR S d 54 13 L st (h.1.set a (.inr (5, fs.set 1 (.long x))), h.2) Q)) := RR.put rfl rfl (ai_okp_j rfl (by decide +kernel)) rfl
theorem r54_13 : RR S d 54 13 L st h Q = kA (ai_look L 0) (fun x => RR S d 54 14 L (x :: st) h Q) := RR.lda_n rfl rfl rfl
theorem r54_14 {v : Value} (hv : v.category = 1) : RR S d 54 14 L (v :: st) h Q = RR S d 54 15 L (v :: v :: st) h Q := RR.dup rfl hv rfl
theorem r54_15 {a : Nat} : RR S d 54 15 L (.ref a :: st) h Q = kO (ai_fld h a 5 2) (fun w => RR S d 54 18 L (w :: st) h Q) := RR.get rfl rfl rfl
theorem r54_18 : RR S d 54 18 L st h Q = kA (ai_look L 1) (fun x => RR S d 54 19 L (x :: st) h Q) := RR.lda_n rfl rfl rfl
theorem r54_19 {a : Nat} : RR S d 54 19 L (.ref a :: st) h Q = kO (ai_fld h a 5 2) (fun w => RR S d 54 22 L (w :: st) h Q) := RR.get rfl rfl rfl
theorem r54_22 {x y : Int64} : RR S d 54 22 L (.long y :: .long x :: st) h Q = RR S d 54 23 L (.long (x ||| y) :: st) h Q := RR.do1 (23, L, .long (x ||| y) :: st, h) rfl rfl rfl
theorem r54_23 {x : Int64} {a : Nat} : RR S d 54 23 L (.long x :: .ref a :: st) h Q = kO (ai_obj h a 5) (fun fs => kB (decide (2 < fs.length)) (RR S d 54 26 L st (h.1.set a (.inr (5, fs.set 2 (.long x))), h.2) Q)) := RR.put rfl rfl (ai_okp_j rfl (by decide +kernel)) rfl
theorem r54_26 : RR S d 54 26 L [] h Q = Q none h := RR.rt rfl rfl rfl
theorem r55_0 : RR S d 55 0 L st h Q = kA (ai_look L 0) (fun x => RR S d 55 1 L (x :: st) h Q) := RR.lda_n rfl rfl rfl
theorem r55_1 : RR S d 55 1 L st h Q = kA (ai_look L 0) (fun x => RR S d 55 2 L (x :: st) h Q) := RR.lda_n rfl rfl rfl
theorem r55_2 {a : Nat} : RR S d 55 2 L (.ref a :: st) h Q = kO (ai_fld h a 5 1) (fun w => RR S d 55 5 L (w :: st) h Q) := RR.get rfl rfl rfl
theorem r55_5 : RR S d 55 5 L st h Q = kA (ai_look L 1) (fun x => RR S d 55 6 L (x :: st) h Q) := RR.lda_n rfl rfl rfl
theorem r55_6 {a : Nat} : RR S d 55 6 L (.ref a :: st) h Q = kO (ai_fld h a 5 1) (fun w => RR S d 55 9 L (w :: st) h Q) := RR.get rfl rfl rfl
theorem r55_9 : RR S d 55 9 L st h Q = RR S d 55 12 L (.long (-1) :: st) h Q := RR.do1 (12, L, .long (-1) :: st, h) rfl rfl rfl
theorem r55_12 {x y : Int64} : RR S d 55 12 L (.long y :: .long x :: st) h Q = RR S d 55 13 L (.long (x ^^^ y) :: st) h Q := RR.do1 (13, L, .long (x ^^^ y) :: st, h) rfl rfl rfl
theorem r55_13 {x y : Int64} : RR S d 55 13 L (.long y :: .long x :: st) h Q = RR S d 55 14 L (.long (x &&& y) :: st) h Q := RR.do1 (14, L, .long (x &&& y) :: st, h) rfl rfl rfl
theorem r55_14 {x : Int64} {a : Nat} : RR S d 55 14 L (.long x :: .ref a :: st) h Q = kO (ai_obj h a 5) (fun fs => kB (decide (1 < fs.length)) (RR S d 55 17 L st (h.1.set a (.inr (5, fs.set 1 (.long x))), h.2) Q)) := RR.put rfl rfl (ai_okp_j rfl (by decide +kernel)) rfl
theorem r55_17 : RR S d 55 17 L st h Q = kA (ai_look L 0) (fun x => RR S d 55 18 L (x :: st) h Q) := RR.lda_n rfl rfl rfl
theorem r55_18 : RR S d 55 18 L st h Q = kA (ai_look L 0) (fun x => RR S d 55 19 L (x :: st) h Q) := RR.lda_n rfl rfl rfl
theorem r55_19 {a : Nat} : RR S d 55 19 L (.ref a :: st) h Q = kO (ai_fld h a 5 2) (fun w => RR S d 55 22 L (w :: st) h Q) := RR.get rfl rfl rfl
theorem r55_22 : RR S d 55 22 L st h Q = kA (ai_look L 1) (fun x => RR S d 55 23 L (x :: st) h Q) := RR.lda_n rfl rfl rfl
theorem r55_23 {a : Nat} : RR S d 55 23 L (.ref a :: st) h Q = kO (ai_fld h a 5 2) (fun w => RR S d 55 26 L (w :: st) h Q) := RR.get rfl rfl rfl
theorem r55_26 : RR S d 55 26 L st h Q = RR S d 55 29 L (.long (-1) :: st) h Q := RR.do1 (29, L, .long (-1) :: st, h) rfl rfl rfl
theorem r55_29 {x y : Int64} : RR S d 55 29 L (.long y :: .long x :: st) h Q = RR S d 55 30 L (.long (x ^^^ y) :: st) h Q := RR.do1 (30, L, .long (x ^^^ y) :: st, h) rfl rfl rfl
theorem r55_30 {x y : Int64} : RR S d 55 30 L (.long y :: .long x :: st) h Q = RR S d 55 31 L (.long (x &&& y) :: st) h Q := RR.do1 (31, L, .long (x &&& y) :: st, h) rfl rfl rfl
theorem r55_31 {x : Int64} {a : Nat} : RR S d 55 31 L (.long x :: .ref a :: st) h Q = kO (ai_obj h a 5) (fun fs => kB (decide (2 < fs.length)) (RR S d 55 34 L st (h.1.set a (.inr (5, fs.set 2 (.long x))), h.2) Q)) := RR.put rfl rfl (ai_okp_j rfl (by decide +kernel)) rfl
theorem r55_34 : RR S d 55 34 L [] h Q = Q none h := RR.rt rfl rfl rfl
theorem r56_0 : RR S d 56 0 L st h Q = kA (ai_look L 0) (fun x => RR S d 56 1 L (x :: st) h Q) := RR.lda_n rfl rfl rfl
theorem r56_1 : RR S d 56 1 L st h Q = kA (ai_look L 1) (fun x => RR S d 56 2 L (x :: st) h Q) := RR.lda_n rfl rfl rfl
theorem r56_2 {a : Nat} : RR S d 56 2 L (.ref a :: st) h Q = kO (ai_fld h a 5 1) (fun w => RR S d 56 5 L (w :: st) h Q) := RR.get rfl rfl rfl
theorem r56_5 : RR S d 56 5 L st h Q = kA (ai_look L 1) (fun x => RR S d 56 6 L (x :: st) h Q) := RR.lda_n rfl rfl rfl
theorem r56_6 {a : Nat} : RR S d 56 6 L (.ref a :: st) h Q = kO (ai_fld h a 5 2) (fun w => RR S d 56 9 L (w :: st) h Q) := RR.get rfl rfl rfl
theorem r56_9 : RR S d 56 9 L st h Q = kI (ai_look L 2) (fun x => RR S d 56 10 L (.int x :: st) h Q) := RR.ldi_n rfl rfl rfl
theorem r56_10 {p0 : Int64} {p1 : Int64} {p2 : Int32} {a : Nat} : RR S (d + 1) 56 10 L (.int p2 :: .long p1 :: .long p0 :: .ref a :: st) h Q = kB (decide (ai_sum st ≤ 8)) (kB ((ai_obj h a 5).isSome) (RR S d 59 0 [(0, .ref a), (1, .long p0), (3, .long p1), (5, .int p2)] [] h (fun r h1 => RR S (d + 1) 56 13 L (r.toList ++ st) h1 Q))) := RR.cv (j := 28) (mn' := 59) (n := 3) rfl rfl rfl rfl rfl rfl
theorem r56_13 : RR S d 56 13 L [] h Q = Q none h := RR.rt rfl rfl rfl
theorem r57_0 : RR S d 57 0 L st h Q = kA (ai_look L 0) (fun x => RR S d 57 1 L (x :: st) h Q) := RR.lda_n rfl rfl rfl
theorem r57_1 {a : Nat} : RR S (d + 1) 57 1 L (.ref a :: st) h Q = kB (decide (ai_sum st ≤ 8)) (kB ((ai_obj h a 5).isSome) (RR S d 51 0 [(0, .ref a)] [] h (fun r h1 => RR S (d + 1) 57 4 L (r.toList ++ st) h1 Q))) := RR.cv (j := 32) (mn' := 51) (n := 0) rfl rfl rfl rfl rfl rfl
theorem r57_4 : RR S d 57 4 L st h Q = kA (ai_look L 0) (fun x => RR S d 57 5 L (x :: st) h Q) := RR.lda_n rfl rfl rfl
theorem r57_5 {a : Nat} : RR S d 57 5 L (.ref a :: st) h Q = kO (ai_fld h a 5 0) (fun w => RR S d 57 8 L (w :: st) h Q) := RR.get rfl rfl rfl
theorem r57_8 {a : Nat} : RR S d 57 8 L (.ref a :: st) h Q = kO (ai_fld h a 2 8) (fun w => RR S d 57 11 L (w :: st) h Q) := RR.get rfl rfl rfl
theorem r57_11 : RR S d 57 11 L st h Q = RR S d 57 12 L (.int 2 :: st) h Q := RR.icn (n := 2) rfl (by decide) rfl
theorem r57_12 {x y : Int32} : RR S d 57 12 L (.int y :: .int x :: st) h Q = kB (decide (¬ y = 0)) (RR S d 57 13 L (.int (x / y) :: st) h Q) := RR.idiv rfl rfl
theorem r57_13 {x : Int32} : RR S d 57 13 L (.int x :: st) h Q = RR S d 57 15 (ai_put 4 (.int x) L) st h Q := RR.do1 (15, ai_put 4 (.int x) L, st, h) rfl rfl rfl
theorem r57_15 : RR S d 57 15 L st h Q = RR S d 57 16 L (.long 1 :: st) h Q := RR.lcn (n := 1) rfl (by decide) rfl
theorem r57_16 : RR S d 57 16 L st h Q = kI (ai_look L 2) (fun x => RR S d 57 17 L (.int x :: st) h Q) := RR.ldi_n rfl rfl rfl
theorem r57_17 : RR S d 57 17 L st h Q = kI (ai_look L 4) (fun x => RR S d 57 19 L (.int x :: st) h Q) := RR.ldi rfl rfl
theorem r57_19 {p0 : Int32} {p1 : Int32} : RR S (d + 1) 57 19 L (.int p1 :: .int p0 :: st) h Q = kB (decide (ai_sum st ≤ 8)) (RR S d 164 0 [(0, .int p0), (1, .int p1)] [] h (fun r h1 => RR S (d + 1) 57 22 L (r.toList ++ st) h1 Q)) := RR.cs (j := 35) (mn' := 164) (n := 2) rfl rfl rfl rfl (by simp) rfl rfl
theorem r57_22 {x : Int64} {y : Int32} : RR S d 57 22 L (.int y :: .long x :: st) h Q = RR S d 57 23 L (.long (x <<< (y.toInt64 &&& 63)) :: st) h Q := RR.do1 (23, L, .long (x <<< (y.toInt64 &&& 63)) :: st, h) rfl rfl rfl
theorem r57_23 : RR S d 57 23 L st h Q = RR S d 57 24 L (.long 1 :: st) h Q := RR.lcn (n := 1) rfl (by decide) rfl
theorem r57_24 {x y : Int64} : RR S d 57 24 L (.long y :: .long x :: st) h Q = RR S d 57 25 L (.long (x - y) :: st) h Q := RR.do1 (25, L, .long (x - y) :: st, h) rfl rfl rfl
theorem r57_25 {x : Int64} : RR S d 57 25 L (.long x :: st) h Q = RR S d 57 27 (ai_put2 5 (.long x) L) st h Q := RR.do1 (27, ai_put2 5 (.long x) L, st, h) rfl rfl rfl
theorem r57_27 : RR S d 57 27 L st h Q = RR S d 57 28 L (.long 1 :: st) h Q := RR.lcn (n := 1) rfl (by decide) rfl
theorem r57_28 : RR S d 57 28 L st h Q = kI (ai_look L 2) (fun x => RR S d 57 29 L (.int x :: st) h Q) := RR.ldi_n rfl rfl rfl
theorem r57_29 : RR S d 57 29 L st h Q = kI (ai_look L 4) (fun x => RR S d 57 31 L (.int x :: st) h Q) := RR.ldi rfl rfl
theorem r57_31 {x y : Int32} : RR S d 57 31 L (.int y :: .int x :: st) h Q = RR S d 57 32 L (.int (x - y) :: st) h Q := RR.do1 (32, L, .int (x - y) :: st, h) rfl rfl rfl
theorem r57_32 : RR S d 57 32 L st h Q = RR S d 57 33 L (.int 0 :: st) h Q := RR.icn (n := 0) rfl (by decide) rfl
theorem r57_33 {p0 : Int32} {p1 : Int32} : RR S (d + 1) 57 33 L (.int p1 :: .int p0 :: st) h Q = kB (decide (ai_sum st ≤ 8)) (RR S d 163 0 [(0, .int p0), (1, .int p1)] [] h (fun r h1 => RR S (d + 1) 57 36 L (r.toList ++ st) h1 Q)) := RR.cs (j := 41) (mn' := 163) (n := 2) rfl rfl rfl rfl (by simp) rfl rfl
theorem r57_36 {x : Int64} {y : Int32} : RR S d 57 36 L (.int y :: .long x :: st) h Q = RR S d 57 37 L (.long (x <<< (y.toInt64 &&& 63)) :: st) h Q := RR.do1 (37, L, .long (x <<< (y.toInt64 &&& 63)) :: st, h) rfl rfl rfl
theorem r57_37 : RR S d 57 37 L st h Q = RR S d 57 38 L (.long 1 :: st) h Q := RR.lcn (n := 1) rfl (by decide) rfl
theorem r57_38 {x y : Int64} : RR S d 57 38 L (.long y :: .long x :: st) h Q = RR S d 57 39 L (.long (x - y) :: st) h Q := RR.do1 (39, L, .long (x - y) :: st, h) rfl rfl rfl
theorem r57_39 {x : Int64} : RR S d 57 39 L (.long x :: st) h Q = RR S d 57 41 (ai_put2 7 (.long x) L) st h Q := RR.do1 (41, ai_put2 7 (.long x) L, st, h) rfl rfl rfl
theorem r57_41 : RR S d 57 41 L st h Q = RR S d 57 42 L (.int 0 :: st) h Q := RR.icn (n := 0) rfl (by decide) rfl
theorem r57_42 {x : Int32} : RR S d 57 42 L (.int x :: st) h Q = RR S d 57 44 (ai_put 9 (.int x) L) st h Q := RR.do1 (44, ai_put 9 (.int x) L, st, h) rfl rfl rfl
theorem r57_44 : RR S d 57 44 L st h Q = kI (ai_look L 9) (fun x => RR S d 57 46 L (.int x :: st) h Q) := RR.ldi rfl rfl
theorem r57_46 : RR S d 57 46 L st h Q = kA (ai_look L 0) (fun x => RR S d 57 47 L (x :: st) h Q) := RR.lda_n rfl rfl rfl
theorem r57_47 : RR S d 57 47 L st h Q = kI (ai_look L 3) (fun x => RR S d 57 48 L (.int x :: st) h Q) := RR.ldi_n rfl rfl rfl
theorem r57_48 {p0 : Int32} {a : Nat} : RR S (d + 1) 57 48 L (.int p0 :: .ref a :: st) h Q = kB (decide (ai_sum st ≤ 8)) (kB ((ai_obj h a 5).isSome) (RR S d 58 0 [(0, .ref a), (1, .int p0)] [] h (fun r h1 => RR S (d + 1) 57 51 L (r.toList ++ st) h1 Q))) := RR.cv (j := 44) (mn' := 58) (n := 1) rfl rfl rfl rfl rfl rfl
theorem r57_51 {x y : Int32} : RR S d 57 51 L (.int y :: .int x :: st) h Q = if y ≤ x then RR S d 57 74 L st h Q else RR S d 57 54 L st h Q := RR.b2 (c := .ge) (off := 23) rfl rfl (by decide) rfl
theorem r57_54 : RR S d 57 54 L st h Q = kA (ai_look L 0) (fun x => RR S d 57 55 L (x :: st) h Q) := RR.lda_n rfl rfl rfl
theorem r57_55 : RR S d 57 55 L st h Q = kJ (ai_look L 5) (fun x => RR S d 57 57 L (.long x :: st) h Q) := RR.ldl rfl rfl
theorem r57_57 : RR S d 57 57 L st h Q = kJ (ai_look L 7) (fun x => RR S d 57 59 L (.long x :: st) h Q) := RR.ldl rfl rfl
theorem r57_59 : RR S d 57 59 L st h Q = kI (ai_look L 1) (fun x => RR S d 57 60 L (.int x :: st) h Q) := RR.ldi_n rfl rfl rfl
theorem r57_60 : RR S d 57 60 L st h Q = kI (ai_look L 9) (fun x => RR S d 57 62 L (.int x :: st) h Q) := RR.ldi rfl rfl
theorem r57_62 : RR S d 57 62 L st h Q = kI (ai_look L 3) (fun x => RR S d 57 63 L (.int x :: st) h Q) := RR.ldi_n rfl rfl rfl
theorem r57_63 {x y : Int32} : RR S d 57 63 L (.int y :: .int x :: st) h Q = RR S d 57 64 L (.int (x * y) :: st) h Q := RR.do1 (64, L, .int (x * y) :: st, h) rfl rfl rfl
theorem r57_64 {x y : Int32} : RR S d 57 64 L (.int y :: .int x :: st) h Q = RR S d 57 65 L (.int (x + y) :: st) h Q := RR.do1 (65, L, .int (x + y) :: st, h) rfl rfl rfl
theorem r57_65 {p0 : Int64} {p1 : Int64} {p2 : Int32} {a : Nat} : RR S (d + 1) 57 65 L (.int p2 :: .long p1 :: .long p0 :: .ref a :: st) h Q = kB (decide (ai_sum st ≤ 8)) (kB ((ai_obj h a 5).isSome) (RR S d 59 0 [(0, .ref a), (1, .long p0), (3, .long p1), (5, .int p2)] [] h (fun r h1 => RR S (d + 1) 57 68 L (r.toList ++ st) h1 Q))) := RR.cv (j := 28) (mn' := 59) (n := 3) rfl rfl rfl rfl rfl rfl
theorem r57_68 : RR S d 57 68 L st h Q = kI (ai_look L 9) (fun x => RR S d 57 71 (ai_put 9 (.int (x + 1)) L) st h Q) := RR.iinc (k := 9) (n := 1) rfl (by decide) (by decide) rfl
theorem r57_71 : RR S d 57 71 L st h Q = RR S d 57 44 L st h Q := RR.jmp (off := (-27)) rfl (by decide)
theorem r57_74 : RR S d 57 74 L [] h Q = Q none h := RR.rt rfl rfl rfl
theorem r58_0 : RR S d 58 0 L st h Q = kI (ai_look L 1) (fun x => RR S d 58 1 L (.int x :: st) h Q) := RR.ldi_n rfl rfl rfl
theorem r58_1 {x : Int32} : RR S d 58 1 L (.int x :: st) h Q = if x ≤ 0 then RR S d 58 16 L st h Q else RR S d 58 4 L st h Q := RR.b1 (c := .le) (off := 15) rfl rfl (by decide) rfl
theorem r58_4 : RR S d 58 4 L st h Q = kA (ai_look L 0) (fun x => RR S d 58 5 L (x :: st) h Q) := RR.lda_n rfl rfl rfl
theorem r58_5 {a : Nat} : RR S d 58 5 L (.ref a :: st) h Q = kO (ai_fld h a 5 0) (fun w => RR S d 58 8 L (w :: st) h Q) := RR.get rfl rfl rfl
theorem r58_8 {a : Nat} : RR S d 58 8 L (.ref a :: st) h Q = kO (ai_fld h a 2 8) (fun w => RR S d 58 11 L (w :: st) h Q) := RR.get rfl rfl rfl
theorem r58_11 : RR S d 58 11 L st h Q = kI (ai_look L 1) (fun x => RR S d 58 12 L (.int x :: st) h Q) := RR.ldi_n rfl rfl rfl
theorem r58_12 {x y : Int32} : RR S d 58 12 L (.int y :: .int x :: st) h Q = kB (decide (¬ y = 0)) (RR S d 58 13 L (.int (x / y) :: st) h Q) := RR.idiv rfl rfl
theorem r58_13 : RR S d 58 13 L st h Q = RR S d 58 17 L st h Q := RR.jmp (off := 4) rfl (by decide)
theorem r58_16 : RR S d 58 16 L st h Q = RR S d 58 17 L (.int 0 :: st) h Q := RR.icn (n := 0) rfl (by decide) rfl
theorem r58_17 {x : Int32} : RR S d 58 17 L [.int x] h Q = Q (some (.int x)) h := RR.rt rfl rfl rfl
end Ru
