section Ru
variable {S : ai_S} {d : Nat} {L : ai_L} {st : List Value} {h : ai_H} {Q : Option Value → ai_H → Prop}
theorem r0_0 : RR S d 0 0 L st h Q = kA (ai_look L 0) (fun x => RR S d 0 1 L (x :: st) h Q) := RR.lda_n rfl rfl rfl
theorem r0_1 {a : Nat} : RR S d 0 1 L (.ref a :: st) h Q = kB (decide (ai_sum st ≤ 8)) (RR S d 0 4 L st h Q) := RR.oin (j := 3) rfl rfl rfl
theorem r0_4 : RR S d 0 4 L st h Q = kA (ai_look L 0) (fun x => RR S d 0 5 L (x :: st) h Q) := RR.lda_n rfl rfl rfl
theorem r0_5 : RR S d 0 5 L st h Q = RR S d 0 7 L (.int 12 :: st) h Q := RR.bip (n := 12) rfl (by decide) rfl
theorem r0_7 {n : Int32} : RR S d 0 7 L (.int n :: st) h Q = kB (decide (¬ n < 0) && decide (n.toNatClampNeg ≤ 100000)) (RR S d 0 10 L (.ref h.1.length :: st) (h.1 ++ [.inl (2, n.toNatClampNeg, .inr (fun _ => none))], h.2 + n.toNatClampNeg) Q) := RR.newq rfl rfl rfl rfl
theorem r0_10 {x : Nat} {a : Nat} : RR S d 0 10 L (.ref x :: .ref a :: st) h Q = kO (ai_obj h a 0) (fun fs => kB (decide (1 < fs.length)) (RR S d 0 13 L st (h.1.set a (.inr (0, fs.set 1 (.ref x))), h.2) Q)) := RR.put rfl rfl (ai_okp_r (by decide +kernel)) rfl
theorem r0_13 : RR S d 0 13 L st h Q = kA (ai_look L 0) (fun x => RR S d 0 14 L (x :: st) h Q) := RR.lda_n rfl rfl rfl
theorem r0_14 : RR S d 0 14 L st h Q = kA (ai_look L 1) (fun x => RR S d 0 15 L (x :: st) h Q) := RR.lda_n rfl rfl rfl
theorem r0_15 {x : Nat} {a : Nat} : RR S d 0 15 L (.ref x :: .ref a :: st) h Q = kO (ai_obj h a 0) (fun fs => kB (decide (0 < fs.length)) (RR S d 0 18 L st (h.1.set a (.inr (0, fs.set 0 (.ref x))), h.2) Q)) := RR.put rfl rfl (ai_okp_r (by decide +kernel)) rfl
theorem r0_18 : RR S d 0 18 L st h Q = kA (ai_look L 0) (fun x => RR S d 0 19 L (x :: st) h Q) := RR.lda_n rfl rfl rfl
theorem r0_19 : RR S d 0 19 L st h Q = RR S d 0 22 L (.ref h.1.length :: st) (h.1 ++ [.inr (5, [.null, .long 0, .long 0])], h.2 + 3) Q := RR.do1 (22, L, .ref h.1.length :: st, (h.1 ++ [.inr (5, [.null, .long 0, .long 0])], h.2 + 3)) rfl rfl rfl
theorem r0_22 {v : Value} (hv : v.category = 1) : RR S d 0 22 L (v :: st) h Q = RR S d 0 23 L (v :: v :: st) h Q := RR.dup rfl hv rfl
theorem r0_23 : RR S d 0 23 L st h Q = kA (ai_look L 1) (fun x => RR S d 0 24 L (x :: st) h Q) := RR.lda_n rfl rfl rfl
theorem r0_24 {p0 : Nat} {a : Nat} : RR S (d + 1) 0 24 L (.ref p0 :: .ref a :: st) h Q = kB (decide (ai_sum st ≤ 8)) (RR S d 50 0 [(0, .ref a), (1, .ref p0)] [] h (fun r h1 => RR S (d + 1) 0 27 L (r.toList ++ st) h1 Q)) := RR.ci (j := 21) (mn' := 50) (n := 1) rfl rfl rfl rfl rfl rfl rfl
theorem r0_27 {x : Nat} {a : Nat} : RR S d 0 27 L (.ref x :: .ref a :: st) h Q = kO (ai_obj h a 0) (fun fs => kB (decide (2 < fs.length)) (RR S d 0 30 L st (h.1.set a (.inr (0, fs.set 2 (.ref x))), h.2) Q)) := RR.put rfl rfl (ai_okp_r (by decide +kernel)) rfl
theorem r0_30 : RR S d 0 30 L st h Q = kA (ai_look L 0) (fun x => RR S d 0 31 L (x :: st) h Q) := RR.lda_n rfl rfl rfl
theorem r0_31 : RR S d 0 31 L st h Q = RR S d 0 34 L (.ref h.1.length :: st) (h.1 ++ [.inr (5, [.null, .long 0, .long 0])], h.2 + 3) Q := RR.do1 (34, L, .ref h.1.length :: st, (h.1 ++ [.inr (5, [.null, .long 0, .long 0])], h.2 + 3)) rfl rfl rfl
theorem r0_34 {v : Value} (hv : v.category = 1) : RR S d 0 34 L (v :: st) h Q = RR S d 0 35 L (v :: v :: st) h Q := RR.dup rfl hv rfl
theorem r0_35 : RR S d 0 35 L st h Q = kA (ai_look L 1) (fun x => RR S d 0 36 L (x :: st) h Q) := RR.lda_n rfl rfl rfl
theorem r0_36 {p0 : Nat} {a : Nat} : RR S (d + 1) 0 36 L (.ref p0 :: .ref a :: st) h Q = kB (decide (ai_sum st ≤ 8)) (RR S d 50 0 [(0, .ref a), (1, .ref p0)] [] h (fun r h1 => RR S (d + 1) 0 39 L (r.toList ++ st) h1 Q)) := RR.ci (j := 21) (mn' := 50) (n := 1) rfl rfl rfl rfl rfl rfl rfl
theorem r0_39 {x : Nat} {a : Nat} : RR S d 0 39 L (.ref x :: .ref a :: st) h Q = kO (ai_obj h a 0) (fun fs => kB (decide (3 < fs.length)) (RR S d 0 42 L st (h.1.set a (.inr (0, fs.set 3 (.ref x))), h.2) Q)) := RR.put rfl rfl (ai_okp_r (by decide +kernel)) rfl
theorem r0_42 : RR S d 0 42 L st h Q = RR S d 0 43 L (.int 0 :: st) h Q := RR.icn (n := 0) rfl (by decide) rfl
theorem r0_43 {x : Int32} : RR S d 0 43 L (.int x :: st) h Q = RR S d 0 44 (ai_put 2 (.int x) L) st h Q := RR.do1 (44, ai_put 2 (.int x) L, st, h) rfl rfl rfl
theorem r0_44 : RR S d 0 44 L st h Q = kI (ai_look L 2) (fun x => RR S d 0 45 L (.int x :: st) h Q) := RR.ldi_n rfl rfl rfl
theorem r0_45 : RR S d 0 45 L st h Q = RR S d 0 47 L (.int 12 :: st) h Q := RR.bip (n := 12) rfl (by decide) rfl
theorem r0_47 {x y : Int32} : RR S d 0 47 L (.int y :: .int x :: st) h Q = if y ≤ x then RR S d 0 70 L st h Q else RR S d 0 50 L st h Q := RR.b2 (c := .ge) (off := 23) rfl rfl (by decide) rfl
theorem r0_50 : RR S d 0 50 L st h Q = kA (ai_look L 0) (fun x => RR S d 0 51 L (x :: st) h Q) := RR.lda_n rfl rfl rfl
theorem r0_51 {a : Nat} : RR S d 0 51 L (.ref a :: st) h Q = kO (ai_fld h a 0 1) (fun w => RR S d 0 54 L (w :: st) h Q) := RR.get rfl rfl rfl
theorem r0_54 : RR S d 0 54 L st h Q = kI (ai_look L 2) (fun x => RR S d 0 55 L (.int x :: st) h Q) := RR.ldi_n rfl rfl rfl
theorem r0_55 : RR S d 0 55 L st h Q = RR S d 0 58 L (.ref h.1.length :: st) (h.1 ++ [.inr (5, [.null, .long 0, .long 0])], h.2 + 3) Q := RR.do1 (58, L, .ref h.1.length :: st, (h.1 ++ [.inr (5, [.null, .long 0, .long 0])], h.2 + 3)) rfl rfl rfl
theorem r0_58 {v : Value} (hv : v.category = 1) : RR S d 0 58 L (v :: st) h Q = RR S d 0 59 L (v :: v :: st) h Q := RR.dup rfl hv rfl
theorem r0_59 : RR S d 0 59 L st h Q = kA (ai_look L 1) (fun x => RR S d 0 60 L (x :: st) h Q) := RR.lda_n rfl rfl rfl
theorem r0_60 {p0 : Nat} {a : Nat} : RR S (d + 1) 0 60 L (.ref p0 :: .ref a :: st) h Q = kB (decide (ai_sum st ≤ 8)) (RR S d 50 0 [(0, .ref a), (1, .ref p0)] [] h (fun r h1 => RR S (d + 1) 0 63 L (r.toList ++ st) h1 Q)) := RR.ci (j := 21) (mn' := 50) (n := 1) rfl rfl rfl rfl rfl rfl rfl
theorem r0_63n {x : Int32} {a : Nat} : RR S d 0 63 L (.null :: .int x :: .ref a :: st) h Q = kO (ai_arq h a) (fun q => kB (ai_in x q.2.1 && (decide (2 ≤ q.1) && decide (q.1 < 5))) (RR S d 0 64 L st (h.1.set a (.inl (q.1, q.2.1, .inr (va_up q.2.2 x.toNatClampNeg none))), h.2) Q)) := RR.aasn rfl rfl
theorem r0_63 {x : Int32} {a w : Nat} : RR S d 0 63 L (.ref w :: .int x :: .ref a :: st) h Q = kO (ai_arq h a) (fun q => kB (ai_in x q.2.1 && (decide (2 ≤ q.1) && decide (q.1 < 5))) (kO (ai_cno h w) (fun c => kB (decide (ai_ao c = some q.1)) (RR S d 0 64 L st (h.1.set a (.inl (q.1, q.2.1, .inr (va_up q.2.2 x.toNatClampNeg (some w)))), h.2) Q)))) := RR.aasr rfl rfl
theorem r0_64 : RR S d 0 64 L st h Q = kI (ai_look L 2) (fun x => RR S d 0 67 (ai_put 2 (.int (x + 1)) L) st h Q) := RR.iinc (k := 2) (n := 1) rfl (by decide) (by decide) rfl
theorem r0_67 : RR S d 0 67 L st h Q = RR S d 0 44 L st h Q := RR.jmp (off := (-23)) rfl (by decide)
theorem r0_70 : RR S d 0 70 L [] h Q = Q none h := RR.rt rfl rfl rfl
theorem r1_0 : RR S d 1 0 L st h Q = RR S d 1 1 L (.int 0 :: st) h Q := RR.icn (n := 0) rfl (by decide) rfl
theorem r1_1 {x : Int32} : RR S d 1 1 L (.int x :: st) h Q = RR S d 1 2 (ai_put 1 (.int x) L) st h Q := RR.do1 (2, ai_put 1 (.int x) L, st, h) rfl rfl rfl
theorem r1_2 : RR S d 1 2 L st h Q = kI (ai_look L 1) (fun x => RR S d 1 3 L (.int x :: st) h Q) := RR.ldi_n rfl rfl rfl
theorem r1_3 : RR S d 1 3 L st h Q = RR S d 1 5 L (.int 12 :: st) h Q := RR.bip (n := 12) rfl (by decide) rfl
theorem r1_5 {x y : Int32} : RR S d 1 5 L (.int y :: .int x :: st) h Q = if y ≤ x then RR S d 1 23 L st h Q else RR S d 1 8 L st h Q := RR.b2 (c := .ge) (off := 18) rfl rfl (by decide) rfl
theorem r1_8 : RR S d 1 8 L st h Q = kA (ai_look L 0) (fun x => RR S d 1 9 L (x :: st) h Q) := RR.lda_n rfl rfl rfl
theorem r1_9 {a : Nat} : RR S d 1 9 L (.ref a :: st) h Q = kO (ai_fld h a 0 1) (fun w => RR S d 1 12 L (w :: st) h Q) := RR.get rfl rfl rfl
theorem r1_12 : RR S d 1 12 L st h Q = kI (ai_look L 1) (fun x => RR S d 1 13 L (.int x :: st) h Q) := RR.ldi_n rfl rfl rfl
theorem r1_13 {x : Int32} {a : Nat} : RR S d 1 13 L (.int x :: .ref a :: st) h Q = kO (ai_arq h a) (fun q => kB (ai_in x q.2.1 && (decide (2 ≤ q.1) && decide (q.1 < 5))) (RR S d 1 14 L (va_rf (q.2.2 x.toNatClampNeg) :: st) h Q)) := RR.aal rfl rfl
theorem r1_14 {a : Nat} : RR S (d + 1) 1 14 L (.ref a :: st) h Q = kB (decide (ai_sum st ≤ 8)) (kB ((ai_obj h a 5).isSome) (RR S d 51 0 [(0, .ref a)] [] h (fun r h1 => RR S (d + 1) 1 17 L (r.toList ++ st) h1 Q))) := RR.cv (j := 31) (mn' := 51) (n := 0) rfl rfl rfl rfl rfl rfl
theorem r1_17 : RR S d 1 17 L st h Q = kI (ai_look L 1) (fun x => RR S d 1 20 (ai_put 1 (.int (x + 1)) L) st h Q) := RR.iinc (k := 1) (n := 1) rfl (by decide) (by decide) rfl
theorem r1_20 : RR S d 1 20 L st h Q = RR S d 1 2 L st h Q := RR.jmp (off := (-18)) rfl (by decide)
theorem r1_23 : RR S d 1 23 L [] h Q = Q none h := RR.rt rfl rfl rfl
theorem r2_0 : RR S d 2 0 L st h Q = kI (ai_look L 3) (fun x => RR S d 2 1 L (.int x :: st) h Q) := RR.ldi_n rfl rfl rfl
theorem r2_1 {x : Int32} : RR S d 2 1 L (.int x :: st) h Q = RR S d 2 3 (ai_put 5 (.int x) L) st h Q := RR.do1 (3, ai_put 5 (.int x) L, st, h) rfl rfl rfl
theorem r2_3 : RR S d 2 3 L st h Q = RR S d 2 4 L (.int 0 :: st) h Q := RR.icn (n := 0) rfl (by decide) rfl
theorem r2_4 {x : Int32} : RR S d 2 4 L (.int x :: st) h Q = RR S d 2 6 (ai_put 6 (.int x) L) st h Q := RR.do1 (6, ai_put 6 (.int x) L, st, h) rfl rfl rfl
theorem r2_6 : RR S d 2 6 L st h Q = kI (ai_look L 6) (fun x => RR S d 2 8 L (.int x :: st) h Q) := RR.ldi rfl rfl
theorem r2_8 : RR S d 2 8 L st h Q = RR S d 2 9 L (.int 4 :: st) h Q := RR.icn (n := 4) rfl (by decide) rfl
theorem r2_9 {x y : Int32} : RR S d 2 9 L (.int y :: .int x :: st) h Q = if y ≤ x then RR S d 2 129 L st h Q else RR S d 2 12 L st h Q := RR.b2 (c := .ge) (off := 120) rfl rfl (by decide) rfl
theorem r2_12 : RR S d 2 12 L st h Q = kI (ai_look L 2) (fun x => RR S d 2 13 L (.int x :: st) h Q) := RR.ldi_n rfl rfl rfl
theorem r2_13 : RR S d 2 13 L st h Q = kI (ai_look L 6) (fun x => RR S d 2 15 L (.int x :: st) h Q) := RR.ldi rfl rfl
theorem r2_15 {p0 : Int32} {p1 : Int32} : RR S (d + 1) 2 15 L (.int p1 :: .int p0 :: st) h Q = kB (decide (ai_sum st ≤ 8)) (RR S d 73 0 [(0, .int p0), (1, .int p1)] [] h (fun r h1 => RR S (d + 1) 2 18 L (r.toList ++ st) h1 Q)) := RR.cs (j := 34) (mn' := 73) (n := 2) rfl rfl rfl rfl (by simp) rfl rfl
theorem r2_18 {x : Int32} : RR S d 2 18 L (.int x :: st) h Q = RR S d 2 20 (ai_put 7 (.int x) L) st h Q := RR.do1 (20, ai_put 7 (.int x) L, st, h) rfl rfl rfl
theorem r2_20 : RR S d 2 20 L st h Q = kA (ai_look L 0) (fun x => RR S d 2 21 L (x :: st) h Q) := RR.lda_n rfl rfl rfl
theorem r2_21 {a : Nat} : RR S d 2 21 L (.ref a :: st) h Q = kO (ai_fld h a 0 0) (fun w => RR S d 2 24 L (w :: st) h Q) := RR.get rfl rfl rfl
theorem r2_24 : RR S d 2 24 L st h Q = kI (ai_look L 7) (fun x => RR S d 2 26 L (.int x :: st) h Q) := RR.ldi rfl rfl
theorem r2_26 {p0 : Int32} {a : Nat} : RR S (d + 1) 2 26 L (.int p0 :: .ref a :: st) h Q = kB (decide (ai_sum st ≤ 8)) (kB ((ai_obj h a 2).isSome) (RR S d 15 0 [(0, .ref a), (1, .int p0)] [] h (fun r h1 => RR S (d + 1) 2 29 L (r.toList ++ st) h1 Q))) := RR.cv (j := 40) (mn' := 15) (n := 1) rfl rfl rfl rfl rfl rfl
theorem r2_29 {x : Int32} : RR S d 2 29 L (.int x :: st) h Q = if ¬ x = 0 then RR S d 2 33 L st h Q else RR S d 2 32 L st h Q := RR.b1 (c := .ne) (off := 4) rfl rfl (by decide) rfl
theorem r2_32 : RR S d 2 32 L [] h Q = Q none h := RR.rt rfl rfl rfl
theorem r2_33 : RR S d 2 33 L st h Q = kA (ai_look L 0) (fun x => RR S d 2 34 L (x :: st) h Q) := RR.lda_n rfl rfl rfl
theorem r2_34 {a : Nat} : RR S d 2 34 L (.ref a :: st) h Q = kO (ai_fld h a 0 2) (fun w => RR S d 2 37 L (w :: st) h Q) := RR.get rfl rfl rfl
theorem r2_37 : RR S d 2 37 L st h Q = kI (ai_look L 5) (fun x => RR S d 2 39 L (.int x :: st) h Q) := RR.ldi rfl rfl
theorem r2_39 : RR S d 2 39 L st h Q = kA (ai_look L 0) (fun x => RR S d 2 40 L (x :: st) h Q) := RR.lda_n rfl rfl rfl
theorem r2_40 {a : Nat} : RR S d 2 40 L (.ref a :: st) h Q = kO (ai_fld h a 0 0) (fun w => RR S d 2 43 L (w :: st) h Q) := RR.get rfl rfl rfl
theorem r2_43 : RR S d 2 43 L st h Q = kI (ai_look L 7) (fun x => RR S d 2 45 L (.int x :: st) h Q) := RR.ldi rfl rfl
theorem r2_45 : RR S d 2 45 L st h Q = kA (ai_look L 1) (fun x => RR S d 2 46 L (x :: st) h Q) := RR.lda_n rfl rfl rfl
theorem r2_46 {a : Nat} : RR S d 2 46 L (.ref a :: st) h Q = kO (ai_fld h a 6 0) (fun w => RR S d 2 49 L (w :: st) h Q) := RR.get rfl rfl rfl
theorem r2_49 {p0 : Int32} {p1 : Int32} {a : Nat} : RR S (d + 1) 2 49 L (.int p1 :: .int p0 :: .ref a :: st) h Q = kB (decide (ai_sum st ≤ 8)) (kB ((ai_obj h a 2).isSome) (RR S d 20 0 [(0, .ref a), (1, .int p0), (2, .int p1)] [] h (fun r h1 => RR S (d + 1) 2 52 L (r.toList ++ st) h1 Q))) := RR.cv (j := 52) (mn' := 20) (n := 2) rfl rfl rfl rfl rfl rfl
theorem r2_52 : RR S d 2 52 L st h Q = kA (ai_look L 1) (fun x => RR S d 2 53 L (x :: st) h Q) := RR.lda_n rfl rfl rfl
theorem r2_53 {a : Nat} : RR S d 2 53 L (.ref a :: st) h Q = kO (ai_fld h a 6 1) (fun w => RR S d 2 56 L (w :: st) h Q) := RR.get rfl rfl rfl
theorem r2_56 {p0 : Int32} {p1 : Int32} {p2 : Int32} {a : Nat} : RR S (d + 1) 2 56 L (.int p2 :: .int p1 :: .int p0 :: .ref a :: st) h Q = kB (decide (ai_sum st ≤ 8)) (kB ((ai_obj h a 5).isSome) (RR S d 57 0 [(0, .ref a), (1, .int p0), (2, .int p1), (3, .int p2)] [] h (fun r h1 => RR S (d + 1) 2 59 L (r.toList ++ st) h1 Q))) := RR.cv (j := 58) (mn' := 57) (n := 3) rfl rfl rfl rfl rfl rfl
theorem r2_59 : RR S d 2 59 L st h Q = kI (ai_look L 4) (fun x => RR S d 2 61 L (.int x :: st) h Q) := RR.ldi rfl rfl
theorem r2_61 {x : Int32} : RR S d 2 61 L (.int x :: st) h Q = if x = 0 then RR S d 2 81 L st h Q else RR S d 2 64 L st h Q := RR.b1 (c := .eq) (off := 20) rfl rfl (by decide) rfl
theorem r2_64 : RR S d 2 64 L st h Q = kA (ai_look L 0) (fun x => RR S d 2 65 L (x :: st) h Q) := RR.lda_n rfl rfl rfl
theorem r2_65 {a : Nat} : RR S d 2 65 L (.ref a :: st) h Q = kO (ai_fld h a 0 1) (fun w => RR S d 2 68 L (w :: st) h Q) := RR.get rfl rfl rfl
theorem r2_68 : RR S d 2 68 L st h Q = kI (ai_look L 7) (fun x => RR S d 2 70 L (.int x :: st) h Q) := RR.ldi rfl rfl
theorem r2_70 {x : Int32} {a : Nat} : RR S d 2 70 L (.int x :: .ref a :: st) h Q = kO (ai_arq h a) (fun q => kB (ai_in x q.2.1 && (decide (2 ≤ q.1) && decide (q.1 < 5))) (RR S d 2 71 L (va_rf (q.2.2 x.toNatClampNeg) :: st) h Q)) := RR.aal rfl rfl
theorem r2_71 : RR S d 2 71 L st h Q = kA (ai_look L 0) (fun x => RR S d 2 72 L (x :: st) h Q) := RR.lda_n rfl rfl rfl
theorem r2_72 {a : Nat} : RR S d 2 72 L (.ref a :: st) h Q = kO (ai_fld h a 0 2) (fun w => RR S d 2 75 L (w :: st) h Q) := RR.get rfl rfl rfl
theorem r2_75 {p0 : Nat} {a : Nat} : RR S (d + 1) 2 75 L (.ref p0 :: .ref a :: st) h Q = kB (decide (ai_sum st ≤ 8)) (kB ((ai_obj h a 5).isSome) (RR S d 54 0 [(0, .ref a), (1, .ref p0)] [] h (fun r h1 => RR S (d + 1) 2 78 L (r.toList ++ st) h1 Q))) := RR.cv (j := 62) (mn' := 54) (n := 1) rfl rfl rfl rfl rfl rfl
theorem r2_78 : RR S d 2 78 L st h Q = RR S d 2 95 L st h Q := RR.jmp (off := 17) rfl (by decide)
theorem r2_81 : RR S d 2 81 L st h Q = kA (ai_look L 0) (fun x => RR S d 2 82 L (x :: st) h Q) := RR.lda_n rfl rfl rfl
theorem r2_82 {a : Nat} : RR S d 2 82 L (.ref a :: st) h Q = kO (ai_fld h a 0 1) (fun w => RR S d 2 85 L (w :: st) h Q) := RR.get rfl rfl rfl
theorem r2_85 : RR S d 2 85 L st h Q = kI (ai_look L 7) (fun x => RR S d 2 87 L (.int x :: st) h Q) := RR.ldi rfl rfl
theorem r2_87 {x : Int32} {a : Nat} : RR S d 2 87 L (.int x :: .ref a :: st) h Q = kO (ai_arq h a) (fun q => kB (ai_in x q.2.1 && (decide (2 ≤ q.1) && decide (q.1 < 5))) (RR S d 2 88 L (va_rf (q.2.2 x.toNatClampNeg) :: st) h Q)) := RR.aal rfl rfl
theorem r2_88 : RR S d 2 88 L st h Q = kA (ai_look L 0) (fun x => RR S d 2 89 L (x :: st) h Q) := RR.lda_n rfl rfl rfl
theorem r2_89 {a : Nat} : RR S d 2 89 L (.ref a :: st) h Q = kO (ai_fld h a 0 2) (fun w => RR S d 2 92 L (w :: st) h Q) := RR.get rfl rfl rfl
theorem r2_92 {p0 : Nat} {a : Nat} : RR S (d + 1) 2 92 L (.ref p0 :: .ref a :: st) h Q = kB (decide (ai_sum st ≤ 8)) (kB ((ai_obj h a 5).isSome) (RR S d 55 0 [(0, .ref a), (1, .ref p0)] [] h (fun r h1 => RR S (d + 1) 2 95 L (r.toList ++ st) h1 Q))) := RR.cv (j := 66) (mn' := 55) (n := 1) rfl rfl rfl rfl rfl rfl
theorem r2_95 : RR S d 2 95 L st h Q = kI (ai_look L 5) (fun x => RR S d 2 97 L (.int x :: st) h Q) := RR.ldi rfl rfl
theorem r2_97 : RR S d 2 97 L st h Q = kA (ai_look L 0) (fun x => RR S d 2 98 L (x :: st) h Q) := RR.lda_n rfl rfl rfl
theorem r2_98 {a : Nat} : RR S d 2 98 L (.ref a :: st) h Q = kO (ai_fld h a 0 0) (fun w => RR S d 2 101 L (w :: st) h Q) := RR.get rfl rfl rfl
theorem r2_101 : RR S d 2 101 L st h Q = kI (ai_look L 7) (fun x => RR S d 2 103 L (.int x :: st) h Q) := RR.ldi rfl rfl
theorem r2_103 : RR S d 2 103 L st h Q = kA (ai_look L 1) (fun x => RR S d 2 104 L (x :: st) h Q) := RR.lda_n rfl rfl rfl
theorem r2_104 {a : Nat} : RR S d 2 104 L (.ref a :: st) h Q = kO (ai_fld h a 6 0) (fun w => RR S d 2 107 L (w :: st) h Q) := RR.get rfl rfl rfl
theorem r2_107 {p0 : Int32} {p1 : Int32} {a : Nat} : RR S (d + 1) 2 107 L (.int p1 :: .int p0 :: .ref a :: st) h Q = kB (decide (ai_sum st ≤ 8)) (kB ((ai_obj h a 2).isSome) (RR S d 21 0 [(0, .ref a), (1, .int p0), (2, .int p1)] [] h (fun r h1 => RR S (d + 1) 2 110 L (r.toList ++ st) h1 Q))) := RR.cv (j := 69) (mn' := 21) (n := 2) rfl rfl rfl rfl rfl rfl
theorem r2_110 : RR S d 2 110 L st h Q = kA (ai_look L 0) (fun x => RR S d 2 111 L (x :: st) h Q) := RR.lda_n rfl rfl rfl
theorem r2_111 {a : Nat} : RR S d 2 111 L (.ref a :: st) h Q = kO (ai_fld h a 0 0) (fun w => RR S d 2 114 L (w :: st) h Q) := RR.get rfl rfl rfl
theorem r2_114 : RR S d 2 114 L st h Q = kI (ai_look L 7) (fun x => RR S d 2 116 L (.int x :: st) h Q) := RR.ldi rfl rfl
theorem r2_116 {p0 : Int32} {a : Nat} : RR S (d + 1) 2 116 L (.int p0 :: .ref a :: st) h Q = kB (decide (ai_sum st ≤ 8)) (kB ((ai_obj h a 2).isSome) (RR S d 23 0 [(0, .ref a), (1, .int p0)] [] h (fun r h1 => RR S (d + 1) 2 119 L (r.toList ++ st) h1 Q))) := RR.cv (j := 72) (mn' := 23) (n := 1) rfl rfl rfl rfl rfl rfl
theorem r2_119 {x y : Int32} : RR S d 2 119 L (.int y :: .int x :: st) h Q = RR S d 2 120 L (.int (x + y) :: st) h Q := RR.do1 (120, L, .int (x + y) :: st, h) rfl rfl rfl
theorem r2_120 {x y : Int32} : RR S d 2 120 L (.int y :: .int x :: st) h Q = RR S d 2 121 L (.int (x + y) :: st) h Q := RR.do1 (121, L, .int (x + y) :: st, h) rfl rfl rfl
theorem r2_121 {x : Int32} : RR S d 2 121 L (.int x :: st) h Q = RR S d 2 123 (ai_put 5 (.int x) L) st h Q := RR.do1 (123, ai_put 5 (.int x) L, st, h) rfl rfl rfl
theorem r2_123 : RR S d 2 123 L st h Q = kI (ai_look L 6) (fun x => RR S d 2 126 (ai_put 6 (.int (x + 1)) L) st h Q) := RR.iinc (k := 6) (n := 1) rfl (by decide) (by decide) rfl
theorem r2_126 : RR S d 2 126 L st h Q = RR S d 2 6 L st h Q := RR.jmp (off := (-120)) rfl (by decide)
theorem r2_129 : RR S d 2 129 L [] h Q = Q none h := RR.rt rfl rfl rfl
theorem r3_0 : RR S d 3 0 L st h Q = kA (ai_look L 1) (fun x => RR S d 3 1 L (x :: st) h Q) := RR.lda_n rfl rfl rfl
theorem r3_1 {a : Nat} : RR S (d + 1) 3 1 L (.ref a :: st) h Q = kB (decide (ai_sum st ≤ 8)) (kB ((ai_obj h a 5).isSome) (RR S d 51 0 [(0, .ref a)] [] h (fun r h1 => RR S (d + 1) 3 4 L (r.toList ++ st) h1 Q))) := RR.cv (j := 31) (mn' := 51) (n := 0) rfl rfl rfl rfl rfl rfl
theorem r3_4 : RR S d 3 4 L st h Q = kA (ai_look L 0) (fun x => RR S d 3 5 L (x :: st) h Q) := RR.lda_n rfl rfl rfl
theorem r3_5 {a : Nat} : RR S d 3 5 L (.ref a :: st) h Q = kO (ai_fld h a 0 3) (fun w => RR S d 3 8 L (w :: st) h Q) := RR.get rfl rfl rfl
theorem r3_8 {a : Nat} : RR S (d + 1) 3 8 L (.ref a :: st) h Q = kB (decide (ai_sum st ≤ 8)) (kB ((ai_obj h a 5).isSome) (RR S d 51 0 [(0, .ref a)] [] h (fun r h1 => RR S (d + 1) 3 11 L (r.toList ++ st) h1 Q))) := RR.cv (j := 31) (mn' := 51) (n := 0) rfl rfl rfl rfl rfl rfl
theorem r3_11 : RR S d 3 11 L st h Q = RR S d 3 12 L (.int 0 :: st) h Q := RR.icn (n := 0) rfl (by decide) rfl
theorem r3_12 {x : Int32} : RR S d 3 12 L (.int x :: st) h Q = RR S d 3 14 (ai_put 4 (.int x) L) st h Q := RR.do1 (14, ai_put 4 (.int x) L, st, h) rfl rfl rfl
theorem r3_14 : RR S d 3 14 L st h Q = RR S d 3 15 L (.int 0 :: st) h Q := RR.icn (n := 0) rfl (by decide) rfl
theorem r3_15 {x : Int32} : RR S d 3 15 L (.int x :: st) h Q = RR S d 3 17 (ai_put 5 (.int x) L) st h Q := RR.do1 (17, ai_put 5 (.int x) L, st, h) rfl rfl rfl
theorem r3_17 : RR S d 3 17 L st h Q = kI (ai_look L 5) (fun x => RR S d 3 19 L (.int x :: st) h Q) := RR.ldi rfl rfl
theorem r3_19 : RR S d 3 19 L st h Q = RR S d 3 20 L (.int 4 :: st) h Q := RR.icn (n := 4) rfl (by decide) rfl
theorem r3_20 {x y : Int32} : RR S d 3 20 L (.int y :: .int x :: st) h Q = if y ≤ x then RR S d 3 145 L st h Q else RR S d 3 23 L st h Q := RR.b2 (c := .ge) (off := 125) rfl rfl (by decide) rfl
theorem r3_23 : RR S d 3 23 L st h Q = kI (ai_look L 3) (fun x => RR S d 3 24 L (.int x :: st) h Q) := RR.ldi_n rfl rfl rfl
theorem r3_24 : RR S d 3 24 L st h Q = kI (ai_look L 5) (fun x => RR S d 3 26 L (.int x :: st) h Q) := RR.ldi rfl rfl
theorem r3_26 {p0 : Int32} {p1 : Int32} : RR S (d + 1) 3 26 L (.int p1 :: .int p0 :: st) h Q = kB (decide (ai_sum st ≤ 8)) (RR S d 73 0 [(0, .int p0), (1, .int p1)] [] h (fun r h1 => RR S (d + 1) 3 29 L (r.toList ++ st) h1 Q)) := RR.cs (j := 34) (mn' := 73) (n := 2) rfl rfl rfl rfl (by simp) rfl rfl
theorem r3_29 {x : Int32} : RR S d 3 29 L (.int x :: st) h Q = RR S d 3 31 (ai_put 6 (.int x) L) st h Q := RR.do1 (31, ai_put 6 (.int x) L, st, h) rfl rfl rfl
theorem r3_31 : RR S d 3 31 L st h Q = kA (ai_look L 0) (fun x => RR S d 3 32 L (x :: st) h Q) := RR.lda_n rfl rfl rfl
theorem r3_32 {a : Nat} : RR S d 3 32 L (.ref a :: st) h Q = kO (ai_fld h a 0 0) (fun w => RR S d 3 35 L (w :: st) h Q) := RR.get rfl rfl rfl
theorem r3_35 : RR S d 3 35 L st h Q = kI (ai_look L 6) (fun x => RR S d 3 37 L (.int x :: st) h Q) := RR.ldi rfl rfl
theorem r3_37 {p0 : Int32} {a : Nat} : RR S (d + 1) 3 37 L (.int p0 :: .ref a :: st) h Q = kB (decide (ai_sum st ≤ 8)) (kB ((ai_obj h a 2).isSome) (RR S d 15 0 [(0, .ref a), (1, .int p0)] [] h (fun r h1 => RR S (d + 1) 3 40 L (r.toList ++ st) h1 Q))) := RR.cv (j := 40) (mn' := 15) (n := 1) rfl rfl rfl rfl rfl rfl
theorem r3_40 {x : Int32} : RR S d 3 40 L (.int x :: st) h Q = if ¬ x = 0 then RR S d 3 46 L st h Q else RR S d 3 43 L st h Q := RR.b1 (c := .ne) (off := 6) rfl rfl (by decide) rfl
theorem r3_43 : RR S d 3 43 L st h Q = RR S d 3 145 L st h Q := RR.jmp (off := 102) rfl (by decide)
theorem r3_46 : RR S d 3 46 L st h Q = kA (ai_look L 0) (fun x => RR S d 3 47 L (x :: st) h Q) := RR.lda_n rfl rfl rfl
theorem r3_47 {a : Nat} : RR S d 3 47 L (.ref a :: st) h Q = kO (ai_fld h a 0 0) (fun w => RR S d 3 50 L (w :: st) h Q) := RR.get rfl rfl rfl
theorem r3_50 : RR S d 3 50 L st h Q = kI (ai_look L 6) (fun x => RR S d 3 52 L (.int x :: st) h Q) := RR.ldi rfl rfl
theorem r3_52 : RR S d 3 52 L st h Q = kA (ai_look L 2) (fun x => RR S d 3 53 L (x :: st) h Q) := RR.lda_n rfl rfl rfl
theorem r3_53 {a : Nat} : RR S d 3 53 L (.ref a :: st) h Q = kO (ai_fld h a 6 0) (fun w => RR S d 3 56 L (w :: st) h Q) := RR.get rfl rfl rfl
theorem r3_56 {p0 : Int32} {p1 : Int32} {a : Nat} : RR S (d + 1) 3 56 L (.int p1 :: .int p0 :: .ref a :: st) h Q = kB (decide (ai_sum st ≤ 8)) (kB ((ai_obj h a 2).isSome) (RR S d 20 0 [(0, .ref a), (1, .int p0), (2, .int p1)] [] h (fun r h1 => RR S (d + 1) 3 59 L (r.toList ++ st) h1 Q))) := RR.cv (j := 52) (mn' := 20) (n := 2) rfl rfl rfl rfl rfl rfl
theorem r3_59 {x : Int32} : RR S d 3 59 L (.int x :: st) h Q = RR S d 3 61 (ai_put 7 (.int x) L) st h Q := RR.do1 (61, ai_put 7 (.int x) L, st, h) rfl rfl rfl
theorem r3_61 : RR S d 3 61 L st h Q = kI (ai_look L 7) (fun x => RR S d 3 63 L (.int x :: st) h Q) := RR.ldi rfl rfl
theorem r3_63 : RR S d 3 63 L st h Q = kA (ai_look L 2) (fun x => RR S d 3 64 L (x :: st) h Q) := RR.lda_n rfl rfl rfl
theorem r3_64 {a : Nat} : RR S d 3 64 L (.ref a :: st) h Q = kO (ai_fld h a 6 1) (fun w => RR S d 3 67 L (w :: st) h Q) := RR.get rfl rfl rfl
theorem r3_67 {x y : Int32} : RR S d 3 67 L (.int y :: .int x :: st) h Q = if x ≤ y then RR S d 3 75 L st h Q else RR S d 3 70 L st h Q := RR.b2 (c := .le) (off := 8) rfl rfl (by decide) rfl
theorem r3_70 : RR S d 3 70 L st h Q = kA (ai_look L 1) (fun x => RR S d 3 71 L (x :: st) h Q) := RR.lda_n rfl rfl rfl
theorem r3_71 {a : Nat} : RR S (d + 1) 3 71 L (.ref a :: st) h Q = kB (decide (ai_sum st ≤ 8)) (kB ((ai_obj h a 5).isSome) (RR S d 52 0 [(0, .ref a)] [] h (fun r h1 => RR S (d + 1) 3 74 L (r.toList ++ st) h1 Q))) := RR.cv (j := 76) (mn' := 52) (n := 0) rfl rfl rfl rfl rfl rfl
theorem r3_74 : RR S d 3 74 L [] h Q = Q none h := RR.rt rfl rfl rfl
theorem r3_75 : RR S d 3 75 L st h Q = RR S d 3 76 L (.int 0 :: st) h Q := RR.icn (n := 0) rfl (by decide) rfl
theorem r3_76 {x : Int32} : RR S d 3 76 L (.int x :: st) h Q = RR S d 3 78 (ai_put 8 (.int x) L) st h Q := RR.do1 (78, ai_put 8 (.int x) L, st, h) rfl rfl rfl
theorem r3_78 : RR S d 3 78 L st h Q = kI (ai_look L 8) (fun x => RR S d 3 80 L (.int x :: st) h Q) := RR.ldi rfl rfl
theorem r3_80 : RR S d 3 80 L st h Q = kI (ai_look L 7) (fun x => RR S d 3 82 L (.int x :: st) h Q) := RR.ldi rfl rfl
theorem r3_82 {x y : Int32} : RR S d 3 82 L (.int y :: .int x :: st) h Q = if y ≤ x then RR S d 3 111 L st h Q else RR S d 3 85 L st h Q := RR.b2 (c := .ge) (off := 29) rfl rfl (by decide) rfl
theorem r3_85 : RR S d 3 85 L st h Q = kA (ai_look L 0) (fun x => RR S d 3 86 L (x :: st) h Q) := RR.lda_n rfl rfl rfl
theorem r3_86 {a : Nat} : RR S d 3 86 L (.ref a :: st) h Q = kO (ai_fld h a 0 3) (fun w => RR S d 3 89 L (w :: st) h Q) := RR.get rfl rfl rfl
theorem r3_89 : RR S d 3 89 L st h Q = kA (ai_look L 0) (fun x => RR S d 3 90 L (x :: st) h Q) := RR.lda_n rfl rfl rfl
theorem r3_90 {a : Nat} : RR S d 3 90 L (.ref a :: st) h Q = kO (ai_fld h a 0 1) (fun w => RR S d 3 93 L (w :: st) h Q) := RR.get rfl rfl rfl
theorem r3_93 : RR S d 3 93 L st h Q = kI (ai_look L 6) (fun x => RR S d 3 95 L (.int x :: st) h Q) := RR.ldi rfl rfl
theorem r3_95 {x : Int32} {a : Nat} : RR S d 3 95 L (.int x :: .ref a :: st) h Q = kO (ai_arq h a) (fun q => kB (ai_in x q.2.1 && (decide (2 ≤ q.1) && decide (q.1 < 5))) (RR S d 3 96 L (va_rf (q.2.2 x.toNatClampNeg) :: st) h Q)) := RR.aal rfl rfl
theorem r3_96 : RR S d 3 96 L st h Q = kI (ai_look L 4) (fun x => RR S d 3 98 L (.int x :: st) h Q) := RR.ldi rfl rfl
theorem r3_98 : RR S d 3 98 L st h Q = kI (ai_look L 8) (fun x => RR S d 3 100 L (.int x :: st) h Q) := RR.ldi rfl rfl
theorem r3_100 {x y : Int32} : RR S d 3 100 L (.int y :: .int x :: st) h Q = RR S d 3 101 L (.int (x + y) :: st) h Q := RR.do1 (101, L, .int (x + y) :: st, h) rfl rfl rfl
theorem r3_101 {x : Int32} : RR S d 3 101 L (.int x :: st) h Q = RR S d 3 102 L (.int (-x) :: st) h Q := RR.do1 (102, L, .int (-x) :: st, h) rfl rfl rfl
theorem r3_102 {p0 : Nat} {p1 : Int32} {a : Nat} : RR S (d + 1) 3 102 L (.int p1 :: .ref p0 :: .ref a :: st) h Q = kB (decide (ai_sum st ≤ 8)) (kB ((ai_obj h a 5).isSome) (RR S d 56 0 [(0, .ref a), (1, .ref p0), (2, .int p1)] [] h (fun r h1 => RR S (d + 1) 3 105 L (r.toList ++ st) h1 Q))) := RR.cv (j := 79) (mn' := 56) (n := 2) rfl rfl rfl rfl rfl rfl
theorem r3_105 : RR S d 3 105 L st h Q = kI (ai_look L 8) (fun x => RR S d 3 108 (ai_put 8 (.int (x + 1)) L) st h Q) := RR.iinc (k := 8) (n := 1) rfl (by decide) (by decide) rfl
theorem r3_108 : RR S d 3 108 L st h Q = RR S d 3 78 L st h Q := RR.jmp (off := (-30)) rfl (by decide)
theorem r3_111 : RR S d 3 111 L st h Q = kI (ai_look L 4) (fun x => RR S d 3 113 L (.int x :: st) h Q) := RR.ldi rfl rfl
theorem r3_113 : RR S d 3 113 L st h Q = kA (ai_look L 0) (fun x => RR S d 3 114 L (x :: st) h Q) := RR.lda_n rfl rfl rfl
theorem r3_114 {a : Nat} : RR S d 3 114 L (.ref a :: st) h Q = kO (ai_fld h a 0 0) (fun w => RR S d 3 117 L (w :: st) h Q) := RR.get rfl rfl rfl
theorem r3_117 : RR S d 3 117 L st h Q = kI (ai_look L 6) (fun x => RR S d 3 119 L (.int x :: st) h Q) := RR.ldi rfl rfl
theorem r3_119 : RR S d 3 119 L st h Q = kA (ai_look L 2) (fun x => RR S d 3 120 L (x :: st) h Q) := RR.lda_n rfl rfl rfl
theorem r3_120 {a : Nat} : RR S d 3 120 L (.ref a :: st) h Q = kO (ai_fld h a 6 0) (fun w => RR S d 3 123 L (w :: st) h Q) := RR.get rfl rfl rfl
theorem r3_123 {p0 : Int32} {p1 : Int32} {a : Nat} : RR S (d + 1) 3 123 L (.int p1 :: .int p0 :: .ref a :: st) h Q = kB (decide (ai_sum st ≤ 8)) (kB ((ai_obj h a 2).isSome) (RR S d 21 0 [(0, .ref a), (1, .int p0), (2, .int p1)] [] h (fun r h1 => RR S (d + 1) 3 126 L (r.toList ++ st) h1 Q))) := RR.cv (j := 69) (mn' := 21) (n := 2) rfl rfl rfl rfl rfl rfl
theorem r3_126 : RR S d 3 126 L st h Q = kA (ai_look L 0) (fun x => RR S d 3 127 L (x :: st) h Q) := RR.lda_n rfl rfl rfl
theorem r3_127 {a : Nat} : RR S d 3 127 L (.ref a :: st) h Q = kO (ai_fld h a 0 0) (fun w => RR S d 3 130 L (w :: st) h Q) := RR.get rfl rfl rfl
theorem r3_130 : RR S d 3 130 L st h Q = kI (ai_look L 6) (fun x => RR S d 3 132 L (.int x :: st) h Q) := RR.ldi rfl rfl
theorem r3_132 {p0 : Int32} {a : Nat} : RR S (d + 1) 3 132 L (.int p0 :: .ref a :: st) h Q = kB (decide (ai_sum st ≤ 8)) (kB ((ai_obj h a 2).isSome) (RR S d 23 0 [(0, .ref a), (1, .int p0)] [] h (fun r h1 => RR S (d + 1) 3 135 L (r.toList ++ st) h1 Q))) := RR.cv (j := 72) (mn' := 23) (n := 1) rfl rfl rfl rfl rfl rfl
theorem r3_135 {x y : Int32} : RR S d 3 135 L (.int y :: .int x :: st) h Q = RR S d 3 136 L (.int (x + y) :: st) h Q := RR.do1 (136, L, .int (x + y) :: st, h) rfl rfl rfl
theorem r3_136 {x y : Int32} : RR S d 3 136 L (.int y :: .int x :: st) h Q = RR S d 3 137 L (.int (x + y) :: st) h Q := RR.do1 (137, L, .int (x + y) :: st, h) rfl rfl rfl
theorem r3_137 {x : Int32} : RR S d 3 137 L (.int x :: st) h Q = RR S d 3 139 (ai_put 4 (.int x) L) st h Q := RR.do1 (139, ai_put 4 (.int x) L, st, h) rfl rfl rfl
theorem r3_139 : RR S d 3 139 L st h Q = kI (ai_look L 5) (fun x => RR S d 3 142 (ai_put 5 (.int (x + 1)) L) st h Q) := RR.iinc (k := 5) (n := 1) rfl (by decide) (by decide) rfl
theorem r3_142 : RR S d 3 142 L st h Q = RR S d 3 17 L st h Q := RR.jmp (off := (-125)) rfl (by decide)
theorem r3_145 : RR S d 3 145 L st h Q = RR S d 3 146 L (.int 0 :: st) h Q := RR.icn (n := 0) rfl (by decide) rfl
theorem r3_146 {x : Int32} : RR S d 3 146 L (.int x :: st) h Q = RR S d 3 148 (ai_put 5 (.int x) L) st h Q := RR.do1 (148, ai_put 5 (.int x) L, st, h) rfl rfl rfl
theorem r3_148 : RR S d 3 148 L st h Q = kI (ai_look L 5) (fun x => RR S d 3 150 L (.int x :: st) h Q) := RR.ldi rfl rfl
theorem r3_150 : RR S d 3 150 L st h Q = kA (ai_look L 0) (fun x => RR S d 3 151 L (x :: st) h Q) := RR.lda_n rfl rfl rfl
theorem r3_151 {a : Nat} : RR S d 3 151 L (.ref a :: st) h Q = kO (ai_fld h a 0 3) (fun w => RR S d 3 154 L (w :: st) h Q) := RR.get rfl rfl rfl
theorem r3_154 : RR S d 3 154 L st h Q = kA (ai_look L 2) (fun x => RR S d 3 155 L (x :: st) h Q) := RR.lda_n rfl rfl rfl
theorem r3_155 {a : Nat} : RR S d 3 155 L (.ref a :: st) h Q = kO (ai_fld h a 6 1) (fun w => RR S d 3 158 L (w :: st) h Q) := RR.get rfl rfl rfl
theorem r3_158 {p0 : Int32} {a : Nat} : RR S (d + 1) 3 158 L (.int p0 :: .ref a :: st) h Q = kB (decide (ai_sum st ≤ 8)) (kB ((ai_obj h a 5).isSome) (RR S d 58 0 [(0, .ref a), (1, .int p0)] [] h (fun r h1 => RR S (d + 1) 3 161 L (r.toList ++ st) h1 Q))) := RR.cv (j := 83) (mn' := 58) (n := 1) rfl rfl rfl rfl rfl rfl
theorem r3_161 {x y : Int32} : RR S d 3 161 L (.int y :: .int x :: st) h Q = if y ≤ x then RR S d 3 185 L st h Q else RR S d 3 164 L st h Q := RR.b2 (c := .ge) (off := 24) rfl rfl (by decide) rfl
theorem r3_164 : RR S d 3 164 L st h Q = kA (ai_look L 1) (fun x => RR S d 3 165 L (x :: st) h Q) := RR.lda_n rfl rfl rfl
theorem r3_165 : RR S d 3 165 L st h Q = kA (ai_look L 0) (fun x => RR S d 3 166 L (x :: st) h Q) := RR.lda_n rfl rfl rfl
theorem r3_166 {a : Nat} : RR S d 3 166 L (.ref a :: st) h Q = kO (ai_fld h a 0 3) (fun w => RR S d 3 169 L (w :: st) h Q) := RR.get rfl rfl rfl
theorem r3_169 : RR S d 3 169 L st h Q = kI (ai_look L 5) (fun x => RR S d 3 171 L (.int x :: st) h Q) := RR.ldi rfl rfl
theorem r3_171 : RR S d 3 171 L st h Q = kA (ai_look L 2) (fun x => RR S d 3 172 L (x :: st) h Q) := RR.lda_n rfl rfl rfl
theorem r3_172 {a : Nat} : RR S d 3 172 L (.ref a :: st) h Q = kO (ai_fld h a 6 1) (fun w => RR S d 3 175 L (w :: st) h Q) := RR.get rfl rfl rfl
theorem r3_175 {x y : Int32} : RR S d 3 175 L (.int y :: .int x :: st) h Q = RR S d 3 176 L (.int (x * y) :: st) h Q := RR.do1 (176, L, .int (x * y) :: st, h) rfl rfl rfl
theorem r3_176 {p0 : Nat} {p1 : Int32} {a : Nat} : RR S (d + 1) 3 176 L (.int p1 :: .ref p0 :: .ref a :: st) h Q = kB (decide (ai_sum st ≤ 8)) (kB ((ai_obj h a 5).isSome) (RR S d 56 0 [(0, .ref a), (1, .ref p0), (2, .int p1)] [] h (fun r h1 => RR S (d + 1) 3 179 L (r.toList ++ st) h1 Q))) := RR.cv (j := 79) (mn' := 56) (n := 2) rfl rfl rfl rfl rfl rfl
theorem r3_179 : RR S d 3 179 L st h Q = kI (ai_look L 5) (fun x => RR S d 3 182 (ai_put 5 (.int (x + 1)) L) st h Q) := RR.iinc (k := 5) (n := 1) rfl (by decide) (by decide) rfl
theorem r3_182 : RR S d 3 182 L st h Q = RR S d 3 148 L st h Q := RR.jmp (off := (-34)) rfl (by decide)
theorem r3_185 : RR S d 3 185 L [] h Q = Q none h := RR.rt rfl rfl rfl
theorem r4_0 : RR S d 4 0 L st h Q = kA (ai_look L 0) (fun x => RR S d 4 1 L (x :: st) h Q) := RR.lda_n rfl rfl rfl
theorem r4_1 {a : Nat} : RR S d 4 1 L (.ref a :: st) h Q = kO (ai_fld h a 0 0) (fun w => RR S d 4 4 L (w :: st) h Q) := RR.get rfl rfl rfl
theorem r4_4 : RR S d 4 4 L st h Q = kI (ai_look L 1) (fun x => RR S d 4 5 L (.int x :: st) h Q) := RR.ldi_n rfl rfl rfl
theorem r4_5 {p0 : Int32} {a : Nat} : RR S (d + 1) 4 5 L (.int p0 :: .ref a :: st) h Q = kB (decide (ai_sum st ≤ 8)) (kB ((ai_obj h a 2).isSome) (RR S d 15 0 [(0, .ref a), (1, .int p0)] [] h (fun r h1 => RR S (d + 1) 4 8 L (r.toList ++ st) h1 Q))) := RR.cv (j := 40) (mn' := 15) (n := 1) rfl rfl rfl rfl rfl rfl
theorem r4_8 {x : Int32} : RR S d 4 8 L (.int x :: st) h Q = if ¬ x = 0 then RR S d 4 13 L st h Q else RR S d 4 11 L st h Q := RR.b1 (c := .ne) (off := 5) rfl rfl (by decide) rfl
theorem r4_11 : RR S d 4 11 L st h Q = RR S d 4 12 L (.int (-1) :: st) h Q := RR.icn (n := (-1)) rfl (by decide) rfl
theorem r4_12 {x : Int32} : RR S d 4 12 L [.int x] h Q = Q (some (.int x)) h := RR.rt rfl rfl rfl
theorem r4_13 : RR S d 4 13 L st h Q = RR S d 4 14 L (.int 0 :: st) h Q := RR.icn (n := 0) rfl (by decide) rfl
theorem r4_14 {x : Int32} : RR S d 4 14 L (.int x :: st) h Q = RR S d 4 16 (ai_put 4 (.int x) L) st h Q := RR.do1 (16, ai_put 4 (.int x) L, st, h) rfl rfl rfl
theorem r4_16 : RR S d 4 16 L st h Q = RR S d 4 17 L (.int 0 :: st) h Q := RR.icn (n := 0) rfl (by decide) rfl
theorem r4_17 {x : Int32} : RR S d 4 17 L (.int x :: st) h Q = RR S d 4 19 (ai_put 5 (.int x) L) st h Q := RR.do1 (19, ai_put 5 (.int x) L, st, h) rfl rfl rfl
theorem r4_19 : RR S d 4 19 L st h Q = kI (ai_look L 5) (fun x => RR S d 4 21 L (.int x :: st) h Q) := RR.ldi rfl rfl
theorem r4_21 : RR S d 4 21 L st h Q = kA (ai_look L 0) (fun x => RR S d 4 22 L (x :: st) h Q) := RR.lda_n rfl rfl rfl
theorem r4_22 {a : Nat} : RR S d 4 22 L (.ref a :: st) h Q = kO (ai_fld h a 0 0) (fun w => RR S d 4 25 L (w :: st) h Q) := RR.get rfl rfl rfl
theorem r4_25 {a : Nat} : RR S d 4 25 L (.ref a :: st) h Q = kO (ai_fld h a 2 8) (fun w => RR S d 4 28 L (w :: st) h Q) := RR.get rfl rfl rfl
theorem r4_28 : RR S d 4 28 L st h Q = kI (ai_look L 3) (fun x => RR S d 4 29 L (.int x :: st) h Q) := RR.ldi_n rfl rfl rfl
theorem r4_29 {x y : Int32} : RR S d 4 29 L (.int y :: .int x :: st) h Q = RR S d 4 30 L (.int (x + y) :: st) h Q := RR.do1 (30, L, .int (x + y) :: st, h) rfl rfl rfl
theorem r4_30 {x y : Int32} : RR S d 4 30 L (.int y :: .int x :: st) h Q = if y ≤ x then RR S d 4 86 L st h Q else RR S d 4 33 L st h Q := RR.b2 (c := .ge) (off := 56) rfl rfl (by decide) rfl
theorem r4_33 : RR S d 4 33 L st h Q = kA (ai_look L 0) (fun x => RR S d 4 34 L (x :: st) h Q) := RR.lda_n rfl rfl rfl
theorem r4_34 {a : Nat} : RR S d 4 34 L (.ref a :: st) h Q = kO (ai_fld h a 0 1) (fun w => RR S d 4 37 L (w :: st) h Q) := RR.get rfl rfl rfl
theorem r4_37 : RR S d 4 37 L st h Q = kI (ai_look L 1) (fun x => RR S d 4 38 L (.int x :: st) h Q) := RR.ldi_n rfl rfl rfl
theorem r4_38 {x : Int32} {a : Nat} : RR S d 4 38 L (.int x :: .ref a :: st) h Q = kO (ai_arq h a) (fun q => kB (ai_in x q.2.1 && (decide (2 ≤ q.1) && decide (q.1 < 5))) (RR S d 4 39 L (va_rf (q.2.2 x.toNatClampNeg) :: st) h Q)) := RR.aal rfl rfl
theorem r4_39 : RR S d 4 39 L st h Q = kI (ai_look L 2) (fun x => RR S d 4 40 L (.int x :: st) h Q) := RR.ldi_n rfl rfl rfl
theorem r4_40 : RR S d 4 40 L st h Q = kI (ai_look L 5) (fun x => RR S d 4 42 L (.int x :: st) h Q) := RR.ldi rfl rfl
theorem r4_42 {x y : Int32} : RR S d 4 42 L (.int y :: .int x :: st) h Q = RR S d 4 43 L (.int (x + y) :: st) h Q := RR.do1 (43, L, .int (x + y) :: st, h) rfl rfl rfl
theorem r4_43 : RR S d 4 43 L st h Q = kA (ai_look L 0) (fun x => RR S d 4 44 L (x :: st) h Q) := RR.lda_n rfl rfl rfl
theorem r4_44 {a : Nat} : RR S d 4 44 L (.ref a :: st) h Q = kO (ai_fld h a 0 0) (fun w => RR S d 4 47 L (w :: st) h Q) := RR.get rfl rfl rfl
theorem r4_47 {a : Nat} : RR S d 4 47 L (.ref a :: st) h Q = kO (ai_fld h a 2 8) (fun w => RR S d 4 50 L (w :: st) h Q) := RR.get rfl rfl rfl
theorem r4_50 {x y : Int32} : RR S d 4 50 L (.int y :: .int x :: st) h Q = kB (decide (¬ y = 0)) (RR S d 4 51 L (.int (x - x / y * y) :: st) h Q) := RR.irem rfl rfl
theorem r4_51 {p0 : Int32} {a : Nat} : RR S (d + 1) 4 51 L (.int p0 :: .ref a :: st) h Q = kB (decide (ai_sum st ≤ 8)) (kB ((ai_obj h a 5).isSome) (RR S d 53 0 [(0, .ref a), (1, .int p0)] [] h (fun r h1 => RR S (d + 1) 4 54 L (r.toList ++ st) h1 Q))) := RR.cv (j := 89) (mn' := 53) (n := 1) rfl rfl rfl rfl rfl rfl
theorem r4_54 {x : Int32} : RR S d 4 54 L (.int x :: st) h Q = if x = 0 then RR S d 4 61 L st h Q else RR S d 4 57 L st h Q := RR.b1 (c := .eq) (off := 7) rfl rfl (by decide) rfl
theorem r4_57 : RR S d 4 57 L st h Q = RR S d 4 58 L (.int 0 :: st) h Q := RR.icn (n := 0) rfl (by decide) rfl
theorem r4_58 : RR S d 4 58 L st h Q = RR S d 4 65 L st h Q := RR.jmp (off := 7) rfl (by decide)
theorem r4_61 : RR S d 4 61 L st h Q = kI (ai_look L 4) (fun x => RR S d 4 63 L (.int x :: st) h Q) := RR.ldi rfl rfl
theorem r4_63 : RR S d 4 63 L st h Q = RR S d 4 64 L (.int 1 :: st) h Q := RR.icn (n := 1) rfl (by decide) rfl
theorem r4_64 {x y : Int32} : RR S d 4 64 L (.int y :: .int x :: st) h Q = RR S d 4 65 L (.int (x + y) :: st) h Q := RR.do1 (65, L, .int (x + y) :: st, h) rfl rfl rfl
theorem r4_65 {x : Int32} : RR S d 4 65 L (.int x :: st) h Q = RR S d 4 67 (ai_put 4 (.int x) L) st h Q := RR.do1 (67, ai_put 4 (.int x) L, st, h) rfl rfl rfl
theorem r4_67 : RR S d 4 67 L st h Q = kI (ai_look L 4) (fun x => RR S d 4 69 L (.int x :: st) h Q) := RR.ldi rfl rfl
theorem r4_69 : RR S d 4 69 L st h Q = kI (ai_look L 3) (fun x => RR S d 4 70 L (.int x :: st) h Q) := RR.ldi_n rfl rfl rfl
theorem r4_70 {x y : Int32} : RR S d 4 70 L (.int y :: .int x :: st) h Q = if x < y then RR S d 4 80 L st h Q else RR S d 4 73 L st h Q := RR.b2 (c := .lt) (off := 10) rfl rfl (by decide) rfl
theorem r4_73 : RR S d 4 73 L st h Q = kI (ai_look L 5) (fun x => RR S d 4 75 L (.int x :: st) h Q) := RR.ldi rfl rfl
theorem r4_75 : RR S d 4 75 L st h Q = RR S d 4 76 L (.int 1 :: st) h Q := RR.icn (n := 1) rfl (by decide) rfl
theorem r4_76 {x y : Int32} : RR S d 4 76 L (.int y :: .int x :: st) h Q = RR S d 4 77 L (.int (x + y) :: st) h Q := RR.do1 (77, L, .int (x + y) :: st, h) rfl rfl rfl
theorem r4_77 : RR S d 4 77 L st h Q = kI (ai_look L 3) (fun x => RR S d 4 78 L (.int x :: st) h Q) := RR.ldi_n rfl rfl rfl
theorem r4_78 {x y : Int32} : RR S d 4 78 L (.int y :: .int x :: st) h Q = RR S d 4 79 L (.int (x - y) :: st) h Q := RR.do1 (79, L, .int (x - y) :: st, h) rfl rfl rfl
theorem r4_79 {x : Int32} : RR S d 4 79 L [.int x] h Q = Q (some (.int x)) h := RR.rt rfl rfl rfl
theorem r4_80 : RR S d 4 80 L st h Q = kI (ai_look L 5) (fun x => RR S d 4 83 (ai_put 5 (.int (x + 1)) L) st h Q) := RR.iinc (k := 5) (n := 1) rfl (by decide) (by decide) rfl
theorem r4_83 : RR S d 4 83 L st h Q = RR S d 4 19 L st h Q := RR.jmp (off := (-64)) rfl (by decide)
theorem r4_86 : RR S d 4 86 L st h Q = RR S d 4 87 L (.int (-1) :: st) h Q := RR.icn (n := (-1)) rfl (by decide) rfl
theorem r4_87 {x : Int32} : RR S d 4 87 L [.int x] h Q = Q (some (.int x)) h := RR.rt rfl rfl rfl
theorem r5_0 : RR S d 5 0 L st h Q = kA (ai_look L 0) (fun x => RR S d 5 1 L (x :: st) h Q) := RR.lda_n rfl rfl rfl
theorem r5_1 {a : Nat} : RR S d 5 1 L (.ref a :: st) h Q = kB (decide (ai_sum st ≤ 8)) (RR S d 5 4 L st h Q) := RR.oin (j := 3) rfl rfl rfl
theorem r5_4 : RR S d 5 4 L st h Q = kA (ai_look L 0) (fun x => RR S d 5 5 L (x :: st) h Q) := RR.lda_n rfl rfl rfl
theorem r5_5 : RR S d 5 5 L st h Q = RR S d 5 6 L (.int 4 :: st) h Q := RR.icn (n := 4) rfl (by decide) rfl
theorem r5_6 {n : Int32} : RR S d 5 6 L (.int n :: st) h Q = kB (decide (¬ n < 0) && decide (n.toNatClampNeg ≤ 100000)) (RR S d 5 8 L (.ref h.1.length :: st) (h.1 ++ [.inl (0, n.toNatClampNeg, .inl (fun _ => 0))], h.2 + n.toNatClampNeg) Q) := RR.newa0 rfl rfl
theorem r5_8 {x : Nat} {a : Nat} : RR S d 5 8 L (.ref x :: .ref a :: st) h Q = kO (ai_obj h a 1) (fun fs => kB (decide (4 < fs.length)) (RR S d 5 11 L st (h.1.set a (.inr (1, fs.set 4 (.ref x))), h.2) Q)) := RR.put rfl rfl (ai_okp_r (by decide +kernel)) rfl
theorem r5_11 : RR S d 5 11 L st h Q = kA (ai_look L 0) (fun x => RR S d 5 12 L (x :: st) h Q) := RR.lda_n rfl rfl rfl
theorem r5_12 : RR S d 5 12 L st h Q = RR S d 5 13 L (.int 4 :: st) h Q := RR.icn (n := 4) rfl (by decide) rfl
theorem r5_13 {n : Int32} : RR S d 5 13 L (.int n :: st) h Q = kB (decide (¬ n < 0) && decide (n.toNatClampNeg ≤ 100000)) (RR S d 5 15 L (.ref h.1.length :: st) (h.1 ++ [.inl (0, n.toNatClampNeg, .inl (fun _ => 0))], h.2 + n.toNatClampNeg) Q) := RR.newa0 rfl rfl
theorem r5_15 {x : Nat} {a : Nat} : RR S d 5 15 L (.ref x :: .ref a :: st) h Q = kO (ai_obj h a 1) (fun fs => kB (decide (5 < fs.length)) (RR S d 5 18 L st (h.1.set a (.inr (1, fs.set 5 (.ref x))), h.2) Q)) := RR.put rfl rfl (ai_okp_r (by decide +kernel)) rfl
theorem r5_18 : RR S d 5 18 L st h Q = kA (ai_look L 0) (fun x => RR S d 5 19 L (x :: st) h Q) := RR.lda_n rfl rfl rfl
theorem r5_19 : RR S d 5 19 L st h Q = RR S d 5 20 L (.int 0 :: st) h Q := RR.icn (n := 0) rfl (by decide) rfl
theorem r5_20 {x : Int32} {a : Nat} : RR S d 5 20 L (.int x :: .ref a :: st) h Q = kO (ai_obj h a 1) (fun fs => kB (decide (6 < fs.length)) (RR S d 5 23 L st (h.1.set a (.inr (1, fs.set 6 (.int x))), h.2) Q)) := RR.put rfl rfl (ai_okp_i rfl (by decide +kernel)) rfl
theorem r5_23 : RR S d 5 23 L st h Q = kA (ai_look L 0) (fun x => RR S d 5 24 L (x :: st) h Q) := RR.lda_n rfl rfl rfl
theorem r5_24 : RR S d 5 24 L st h Q = RR S d 5 25 L (.int 0 :: st) h Q := RR.icn (n := 0) rfl (by decide) rfl
theorem r5_25 {x : Int32} {a : Nat} : RR S d 5 25 L (.int x :: .ref a :: st) h Q = kO (ai_obj h a 1) (fun fs => kB (decide (7 < fs.length)) (RR S d 5 28 L st (h.1.set a (.inr (1, fs.set 7 (.int x))), h.2) Q)) := RR.put rfl rfl (ai_okp_i rfl (by decide +kernel)) rfl
theorem r5_28 : RR S d 5 28 L st h Q = kA (ai_look L 0) (fun x => RR S d 5 29 L (x :: st) h Q) := RR.lda_n rfl rfl rfl
theorem r5_29 : RR S d 5 29 L st h Q = RR S d 5 32 L (.int 3000 :: st) h Q := RR.sip (n := 3000) rfl (by decide) rfl
theorem r5_32 {x : Int32} {a : Nat} : RR S d 5 32 L (.int x :: .ref a :: st) h Q = kO (ai_obj h a 1) (fun fs => kB (decide (8 < fs.length)) (RR S d 5 35 L st (h.1.set a (.inr (1, fs.set 8 (.int x))), h.2) Q)) := RR.put rfl rfl (ai_okp_i rfl (by decide +kernel)) rfl
theorem r5_35 : RR S d 5 35 L st h Q = kA (ai_look L 0) (fun x => RR S d 5 36 L (x :: st) h Q) := RR.lda_n rfl rfl rfl
theorem r5_36 : RR S d 5 36 L st h Q = kI (ai_look L 1) (fun x => RR S d 5 37 L (.int x :: st) h Q) := RR.ldi_n rfl rfl rfl
theorem r5_37 {x : Int32} {a : Nat} : RR S d 5 37 L (.int x :: .ref a :: st) h Q = kO (ai_obj h a 1) (fun fs => kB (decide (0 < fs.length)) (RR S d 5 40 L st (h.1.set a (.inr (1, fs.set 0 (.int x))), h.2) Q)) := RR.put rfl rfl (ai_okp_i rfl (by decide +kernel)) rfl
theorem r5_40 : RR S d 5 40 L st h Q = kA (ai_look L 0) (fun x => RR S d 5 41 L (x :: st) h Q) := RR.lda_n rfl rfl rfl
theorem r5_41 : RR S d 5 41 L st h Q = kI (ai_look L 2) (fun x => RR S d 5 42 L (.int x :: st) h Q) := RR.ldi_n rfl rfl rfl
theorem r5_42 {x : Int32} {a : Nat} : RR S d 5 42 L (.int x :: .ref a :: st) h Q = kO (ai_obj h a 1) (fun fs => kB (decide (1 < fs.length)) (RR S d 5 45 L st (h.1.set a (.inr (1, fs.set 1 (.int x))), h.2) Q)) := RR.put rfl rfl (ai_okp_i rfl (by decide +kernel)) rfl
theorem r5_45 : RR S d 5 45 L st h Q = kA (ai_look L 0) (fun x => RR S d 5 46 L (x :: st) h Q) := RR.lda_n rfl rfl rfl
theorem r5_46 : RR S d 5 46 L st h Q = kI (ai_look L 3) (fun x => RR S d 5 47 L (.int x :: st) h Q) := RR.ldi_n rfl rfl rfl
theorem r5_47 {x : Int32} {a : Nat} : RR S d 5 47 L (.int x :: .ref a :: st) h Q = kO (ai_obj h a 1) (fun fs => kB (decide (2 < fs.length)) (RR S d 5 50 L st (h.1.set a (.inr (1, fs.set 2 (.int x))), h.2) Q)) := RR.put rfl rfl (ai_okp_i rfl (by decide +kernel)) rfl
theorem r5_50 : RR S d 5 50 L st h Q = kA (ai_look L 0) (fun x => RR S d 5 51 L (x :: st) h Q) := RR.lda_n rfl rfl rfl
theorem r5_51 : RR S d 5 51 L st h Q = kI (ai_look L 4) (fun x => RR S d 5 53 L (.int x :: st) h Q) := RR.ldi rfl rfl
theorem r5_53 {x : Int32} {a : Nat} : RR S d 5 53 L (.int x :: .ref a :: st) h Q = kO (ai_obj h a 1) (fun fs => kB (decide (3 < fs.length)) (RR S d 5 56 L st (h.1.set a (.inr (1, fs.set 3 (.int x))), h.2) Q)) := RR.put rfl rfl (ai_okp_i rfl (by decide +kernel)) rfl
theorem r5_56 : RR S d 5 56 L [] h Q = Q none h := RR.rt rfl rfl rfl
theorem r6_0 : RR S d 6 0 L st h Q = kA (ai_look L 0) (fun x => RR S d 6 1 L (x :: st) h Q) := RR.lda_n rfl rfl rfl
theorem r6_1 : RR S d 6 1 L st h Q = kI (ai_look L 1) (fun x => RR S d 6 2 L (.int x :: st) h Q) := RR.ldi_n rfl rfl rfl
theorem r6_2 {x : Int32} {a : Nat} : RR S d 6 2 L (.int x :: .ref a :: st) h Q = kO (ai_obj h a 1) (fun fs => kB (decide (6 < fs.length)) (RR S d 6 5 L st (h.1.set a (.inr (1, fs.set 6 (.int x))), h.2) Q)) := RR.put rfl rfl (ai_okp_i rfl (by decide +kernel)) rfl
theorem r6_5 : RR S d 6 5 L st h Q = kA (ai_look L 0) (fun x => RR S d 6 6 L (x :: st) h Q) := RR.lda_n rfl rfl rfl
theorem r6_6 : RR S d 6 6 L st h Q = RR S d 6 7 L (.int 0 :: st) h Q := RR.icn (n := 0) rfl (by decide) rfl
theorem r6_7 {x : Int32} {a : Nat} : RR S d 6 7 L (.int x :: .ref a :: st) h Q = kO (ai_obj h a 1) (fun fs => kB (decide (7 < fs.length)) (RR S d 6 10 L st (h.1.set a (.inr (1, fs.set 7 (.int x))), h.2) Q)) := RR.put rfl rfl (ai_okp_i rfl (by decide +kernel)) rfl
theorem r6_10 : RR S d 6 10 L st h Q = kA (ai_look L 0) (fun x => RR S d 6 11 L (x :: st) h Q) := RR.lda_n rfl rfl rfl
theorem r6_11 : RR S d 6 11 L st h Q = RR S d 6 14 L (.int 3000 :: st) h Q := RR.sip (n := 3000) rfl (by decide) rfl
theorem r6_14 {x : Int32} {a : Nat} : RR S d 6 14 L (.int x :: .ref a :: st) h Q = kO (ai_obj h a 1) (fun fs => kB (decide (8 < fs.length)) (RR S d 6 17 L st (h.1.set a (.inr (1, fs.set 8 (.int x))), h.2) Q)) := RR.put rfl rfl (ai_okp_i rfl (by decide +kernel)) rfl
theorem r6_17 : RR S d 6 17 L st h Q = RR S d 6 18 L (.int 0 :: st) h Q := RR.icn (n := 0) rfl (by decide) rfl
theorem r6_18 {x : Int32} : RR S d 6 18 L (.int x :: st) h Q = RR S d 6 19 (ai_put 2 (.int x) L) st h Q := RR.do1 (19, ai_put 2 (.int x) L, st, h) rfl rfl rfl
theorem r6_19 : RR S d 6 19 L st h Q = kI (ai_look L 2) (fun x => RR S d 6 20 L (.int x :: st) h Q) := RR.ldi_n rfl rfl rfl
theorem r6_20 : RR S d 6 20 L st h Q = RR S d 6 21 L (.int 4 :: st) h Q := RR.icn (n := 4) rfl (by decide) rfl
theorem r6_21 {x y : Int32} : RR S d 6 21 L (.int y :: .int x :: st) h Q = if y ≤ x then RR S d 6 48 L st h Q else RR S d 6 24 L st h Q := RR.b2 (c := .ge) (off := 27) rfl rfl (by decide) rfl
theorem r6_24 : RR S d 6 24 L st h Q = kA (ai_look L 0) (fun x => RR S d 6 25 L (x :: st) h Q) := RR.lda_n rfl rfl rfl
theorem r6_25 {a : Nat} : RR S d 6 25 L (.ref a :: st) h Q = kO (ai_fld h a 1 4) (fun w => RR S d 6 28 L (w :: st) h Q) := RR.get rfl rfl rfl
theorem r6_28 : RR S d 6 28 L st h Q = kI (ai_look L 2) (fun x => RR S d 6 29 L (.int x :: st) h Q) := RR.ldi_n rfl rfl rfl
theorem r6_29 : RR S d 6 29 L st h Q = RR S d 6 32 L (.int 3000 :: st) h Q := RR.sip (n := 3000) rfl (by decide) rfl
theorem r6_32 {x y : Int32} {a : Nat} : RR S d 6 32 L (.int y :: .int x :: .ref a :: st) h Q = kO (ai_arr h a 0) (fun q => kB (ai_in x q.1) (RR S d 6 33 L st (h.1.set a (.inl (0, q.1, .inl (upd q.2 x.toNatClampNeg y))), h.2) Q)) := RR.ias rfl rfl
theorem r6_33 : RR S d 6 33 L st h Q = kA (ai_look L 0) (fun x => RR S d 6 34 L (x :: st) h Q) := RR.lda_n rfl rfl rfl
theorem r6_34 {a : Nat} : RR S d 6 34 L (.ref a :: st) h Q = kO (ai_fld h a 1 5) (fun w => RR S d 6 37 L (w :: st) h Q) := RR.get rfl rfl rfl
theorem r6_37 : RR S d 6 37 L st h Q = kI (ai_look L 2) (fun x => RR S d 6 38 L (.int x :: st) h Q) := RR.ldi_n rfl rfl rfl
theorem r6_38 : RR S d 6 38 L st h Q = RR S d 6 41 L (.int 3000 :: st) h Q := RR.sip (n := 3000) rfl (by decide) rfl
theorem r6_41 {x y : Int32} {a : Nat} : RR S d 6 41 L (.int y :: .int x :: .ref a :: st) h Q = kO (ai_arr h a 0) (fun q => kB (ai_in x q.1) (RR S d 6 42 L st (h.1.set a (.inl (0, q.1, .inl (upd q.2 x.toNatClampNeg y))), h.2) Q)) := RR.ias rfl rfl
theorem r6_42 : RR S d 6 42 L st h Q = kI (ai_look L 2) (fun x => RR S d 6 45 (ai_put 2 (.int (x + 1)) L) st h Q) := RR.iinc (k := 2) (n := 1) rfl (by decide) (by decide) rfl
theorem r6_45 : RR S d 6 45 L st h Q = RR S d 6 19 L st h Q := RR.jmp (off := (-26)) rfl (by decide)
theorem r6_48 : RR S d 6 48 L st h Q = kA (ai_look L 0) (fun x => RR S d 6 49 L (x :: st) h Q) := RR.lda_n rfl rfl rfl
theorem r6_49 {a : Nat} : RR S d 6 49 L (.ref a :: st) h Q = kO (ai_fld h a 1 4) (fun w => RR S d 6 52 L (w :: st) h Q) := RR.get rfl rfl rfl
theorem r6_52 : RR S d 6 52 L st h Q = RR S d 6 53 L (.int 0 :: st) h Q := RR.icn (n := 0) rfl (by decide) rfl
theorem r6_53 : RR S d 6 53 L st h Q = kA (ai_look L 0) (fun x => RR S d 6 54 L (x :: st) h Q) := RR.lda_n rfl rfl rfl
theorem r6_54 {a : Nat} : RR S d 6 54 L (.ref a :: st) h Q = kO (ai_fld h a 1 0) (fun w => RR S d 6 57 L (w :: st) h Q) := RR.get rfl rfl rfl
theorem r6_57 {x y : Int32} {a : Nat} : RR S d 6 57 L (.int y :: .int x :: .ref a :: st) h Q = kO (ai_arr h a 0) (fun q => kB (ai_in x q.1) (RR S d 6 58 L st (h.1.set a (.inl (0, q.1, .inl (upd q.2 x.toNatClampNeg y))), h.2) Q)) := RR.ias rfl rfl
theorem r6_58 : RR S d 6 58 L [] h Q = Q none h := RR.rt rfl rfl rfl
theorem r7_0 : RR S d 7 0 L st h Q = kA (ai_look L 0) (fun x => RR S d 7 1 L (x :: st) h Q) := RR.lda_n rfl rfl rfl
theorem r7_1 {a : Nat} : RR S d 7 1 L (.ref a :: st) h Q = kO (ai_fld h a 1 6) (fun w => RR S d 7 4 L (w :: st) h Q) := RR.get rfl rfl rfl
theorem r7_4 : RR S d 7 4 L st h Q = kA (ai_look L 0) (fun x => RR S d 7 5 L (x :: st) h Q) := RR.lda_n rfl rfl rfl
theorem r7_5 {a : Nat} : RR S d 7 5 L (.ref a :: st) h Q = kO (ai_fld h a 1 7) (fun w => RR S d 7 8 L (w :: st) h Q) := RR.get rfl rfl rfl
theorem r7_8 {p0 : Int32} {p1 : Int32} : RR S (d + 1) 7 8 L (.int p1 :: .int p0 :: st) h Q = kB (decide (ai_sum st ≤ 8)) (RR S d 73 0 [(0, .int p0), (1, .int p1)] [] h (fun r h1 => RR S (d + 1) 7 11 L (r.toList ++ st) h1 Q)) := RR.cs (j := 40) (mn' := 73) (n := 2) rfl rfl rfl rfl (by simp) rfl rfl
theorem r7_11 {x : Int32} : RR S d 7 11 L [.int x] h Q = Q (some (.int x)) h := RR.rt rfl rfl rfl
theorem r8_0 : RR S d 8 0 L st h Q = kA (ai_look L 0) (fun x => RR S d 8 1 L (x :: st) h Q) := RR.lda_n rfl rfl rfl
theorem r8_1 {a : Nat} : RR S d 8 1 L (.ref a :: st) h Q = kO (ai_fld h a 1 7) (fun w => RR S d 8 4 L (w :: st) h Q) := RR.get rfl rfl rfl
theorem r8_4 : RR S d 8 4 L st h Q = RR S d 8 5 L (.int 4 :: st) h Q := RR.icn (n := 4) rfl (by decide) rfl
theorem r8_5 {x y : Int32} : RR S d 8 5 L (.int y :: .int x :: st) h Q = if y ≤ x then RR S d 8 20 L st h Q else RR S d 8 8 L st h Q := RR.b2 (c := .ge) (off := 15) rfl rfl (by decide) rfl
theorem r8_8 : RR S d 8 8 L st h Q = kA (ai_look L 0) (fun x => RR S d 8 9 L (x :: st) h Q) := RR.lda_n rfl rfl rfl
theorem r8_9 {a : Nat} : RR S d 8 9 L (.ref a :: st) h Q = kO (ai_fld h a 1 4) (fun w => RR S d 8 12 L (w :: st) h Q) := RR.get rfl rfl rfl
theorem r8_12 : RR S d 8 12 L st h Q = kA (ai_look L 0) (fun x => RR S d 8 13 L (x :: st) h Q) := RR.lda_n rfl rfl rfl
theorem r8_13 {a : Nat} : RR S d 8 13 L (.ref a :: st) h Q = kO (ai_fld h a 1 7) (fun w => RR S d 8 16 L (w :: st) h Q) := RR.get rfl rfl rfl
theorem r8_16 {x : Int32} {a : Nat} : RR S d 8 16 L (.int x :: .ref a :: st) h Q = kO (ai_arr h a 0) (fun q => kB (ai_in x q.1) (RR S d 8 17 L (.int (q.2 x.toNatClampNeg) :: st) h Q)) := RR.ial rfl rfl
theorem r8_17 : RR S d 8 17 L st h Q = RR S d 8 23 L st h Q := RR.jmp (off := 6) rfl (by decide)
theorem r8_20 : RR S d 8 20 L st h Q = RR S d 8 23 L (.int 3000 :: st) h Q := RR.sip (n := 3000) rfl (by decide) rfl
theorem r8_23 {x : Int32} : RR S d 8 23 L [.int x] h Q = Q (some (.int x)) h := RR.rt rfl rfl rfl
theorem r9_0 : RR S d 9 0 L st h Q = kA (ai_look L 1) (fun x => RR S d 9 1 L (x :: st) h Q) := RR.lda_n rfl rfl rfl
theorem r9_1 {x : Nat} : RR S d 9 1 L (.ref x :: st) h Q = RR S d 9 4 L st h Q := RR.nul (b := false) (off := 14) (tgt := 15) rfl rfl rfl (by decide) rfl rfl
theorem r9_1n : RR S d 9 1 L (.null :: st) h Q = RR S d 9 15 L st h Q := RR.nul (b := true) (off := 14) (tgt := 15) rfl rfl rfl (by decide) rfl rfl
theorem r9_4 : RR S d 9 4 L st h Q = kA (ai_look L 0) (fun x => RR S d 9 5 L (x :: st) h Q) := RR.lda_n rfl rfl rfl
theorem r9_5 {a : Nat} : RR S (d + 1) 9 5 L (.ref a :: st) h Q = kB (decide (ai_sum st ≤ 8)) (kB ((ai_obj h a 1).isSome) (RR S d 8 0 [(0, .ref a)] [] h (fun r h1 => RR S (d + 1) 9 8 L (r.toList ++ st) h1 Q))) := RR.cv (j := 46) (mn' := 8) (n := 0) rfl rfl rfl rfl rfl rfl
theorem r9_8 : RR S d 9 8 L st h Q = kA (ai_look L 1) (fun x => RR S d 9 9 L (x :: st) h Q) := RR.lda_n rfl rfl rfl
theorem r9_9 {a : Nat} : RR S (d + 1) 9 9 L (.ref a :: st) h Q = kB (decide (ai_sum st ≤ 8)) (kB ((ai_obj h a 1).isSome) (RR S d 8 0 [(0, .ref a)] [] h (fun r h1 => RR S (d + 1) 9 12 L (r.toList ++ st) h1 Q))) := RR.cv (j := 46) (mn' := 8) (n := 0) rfl rfl rfl rfl rfl rfl
theorem r9_12 {x y : Int32} : RR S d 9 12 L (.int y :: .int x :: st) h Q = if y ≤ x then RR S d 9 19 L st h Q else RR S d 9 15 L st h Q := RR.b2 (c := .ge) (off := 7) rfl rfl (by decide) rfl
theorem r9_15 : RR S d 9 15 L st h Q = RR S d 9 16 L (.int 1 :: st) h Q := RR.icn (n := 1) rfl (by decide) rfl
theorem r9_16 : RR S d 9 16 L st h Q = RR S d 9 20 L st h Q := RR.jmp (off := 4) rfl (by decide)
theorem r9_19 : RR S d 9 19 L st h Q = RR S d 9 20 L (.int 0 :: st) h Q := RR.icn (n := 0) rfl (by decide) rfl
theorem r9_20f : RR S d 9 20 L [.int 0] h Q = Q (some (.int 0)) h := RR.zrt rfl rfl (by decide)
theorem r9_20t : RR S d 9 20 L [.int 1] h Q = Q (some (.int 1)) h := RR.zrt rfl rfl (by decide)
theorem r10_0 : RR S d 10 0 L st h Q = kA (ai_look L 0) (fun x => RR S d 10 1 L (x :: st) h Q) := RR.lda_n rfl rfl rfl
theorem r10_1 {a : Nat} : RR S d 10 1 L (.ref a :: st) h Q = kO (ai_fld h a 1 6) (fun w => RR S d 10 4 L (w :: st) h Q) := RR.get rfl rfl rfl
theorem r10_4 : RR S d 10 4 L st h Q = kI (ai_look L 1) (fun x => RR S d 10 5 L (.int x :: st) h Q) := RR.ldi_n rfl rfl rfl
theorem r10_5 {p0 : Int32} {p1 : Int32} : RR S (d + 1) 10 5 L (.int p1 :: .int p0 :: st) h Q = kB (decide (ai_sum st ≤ 8)) (RR S d 76 0 [(0, .int p0), (1, .int p1)] [] h (fun r h1 => RR S (d + 1) 10 8 L (r.toList ++ st) h1 Q)) := RR.cs (j := 50) (mn' := 76) (n := 2) rfl rfl rfl rfl (by simp) rfl rfl
theorem r10_8 {x : Int32} : RR S d 10 8 L (.int x :: st) h Q = RR S d 10 9 (ai_put 2 (.int x) L) st h Q := RR.do1 (9, ai_put 2 (.int x) L, st, h) rfl rfl rfl
theorem r10_9 : RR S d 10 9 L st h Q = kI (ai_look L 2) (fun x => RR S d 10 10 L (.int x :: st) h Q) := RR.ldi_n rfl rfl rfl
theorem r10_10 : RR S d 10 10 L st h Q = RR S d 10 11 L (.int (-1) :: st) h Q := RR.icn (n := (-1)) rfl (by decide) rfl
theorem r10_11 {x y : Int32} : RR S d 10 11 L (.int y :: .int x :: st) h Q = if ¬ x = y then RR S d 10 20 L st h Q else RR S d 10 14 L st h Q := RR.b2 (c := .ne) (off := 9) rfl rfl (by decide) rfl
theorem r10_14 : RR S d 10 14 L st h Q = RR S d 10 17 L (.int 3000 :: st) h Q := RR.sip (n := 3000) rfl (by decide) rfl
theorem r10_17 : RR S d 10 17 L st h Q = RR S d 10 26 L st h Q := RR.jmp (off := 9) rfl (by decide)
theorem r10_20 : RR S d 10 20 L st h Q = kA (ai_look L 0) (fun x => RR S d 10 21 L (x :: st) h Q) := RR.lda_n rfl rfl rfl
theorem r10_21 {a : Nat} : RR S d 10 21 L (.ref a :: st) h Q = kO (ai_fld h a 1 4) (fun w => RR S d 10 24 L (w :: st) h Q) := RR.get rfl rfl rfl
theorem r10_24 : RR S d 10 24 L st h Q = kI (ai_look L 2) (fun x => RR S d 10 25 L (.int x :: st) h Q) := RR.ldi_n rfl rfl rfl
theorem r10_25 {x : Int32} {a : Nat} : RR S d 10 25 L (.int x :: .ref a :: st) h Q = kO (ai_arr h a 0) (fun q => kB (ai_in x q.1) (RR S d 10 26 L (.int (q.2 x.toNatClampNeg) :: st) h Q)) := RR.ial rfl rfl
theorem r10_26 {x : Int32} : RR S d 10 26 L [.int x] h Q = Q (some (.int x)) h := RR.rt rfl rfl rfl
theorem r11_0 : RR S d 11 0 L st h Q = kA (ai_look L 0) (fun x => RR S d 11 1 L (x :: st) h Q) := RR.lda_n rfl rfl rfl
theorem r11_1 {a : Nat} : RR S d 11 1 L (.ref a :: st) h Q = kO (ai_fld h a 1 6) (fun w => RR S d 11 4 L (w :: st) h Q) := RR.get rfl rfl rfl
theorem r11_4 : RR S d 11 4 L st h Q = kI (ai_look L 1) (fun x => RR S d 11 5 L (.int x :: st) h Q) := RR.ldi_n rfl rfl rfl
theorem r11_5 {p0 : Int32} {p1 : Int32} : RR S (d + 1) 11 5 L (.int p1 :: .int p0 :: st) h Q = kB (decide (ai_sum st ≤ 8)) (RR S d 76 0 [(0, .int p0), (1, .int p1)] [] h (fun r h1 => RR S (d + 1) 11 8 L (r.toList ++ st) h1 Q)) := RR.cs (j := 50) (mn' := 76) (n := 2) rfl rfl rfl rfl (by simp) rfl rfl
theorem r11_8 {x : Int32} : RR S d 11 8 L (.int x :: st) h Q = RR S d 11 9 (ai_put 3 (.int x) L) st h Q := RR.do1 (9, ai_put 3 (.int x) L, st, h) rfl rfl rfl
theorem r11_9 : RR S d 11 9 L st h Q = kI (ai_look L 3) (fun x => RR S d 11 10 L (.int x :: st) h Q) := RR.ldi_n rfl rfl rfl
theorem r11_10 : RR S d 11 10 L st h Q = RR S d 11 11 L (.int (-1) :: st) h Q := RR.icn (n := (-1)) rfl (by decide) rfl
theorem r11_11 {x y : Int32} : RR S d 11 11 L (.int y :: .int x :: st) h Q = if x = y then RR S d 11 38 L st h Q else RR S d 11 14 L st h Q := RR.b2 (c := .eq) (off := 27) rfl rfl (by decide) rfl
theorem r11_14 : RR S d 11 14 L st h Q = kA (ai_look L 0) (fun x => RR S d 11 15 L (x :: st) h Q) := RR.lda_n rfl rfl rfl
theorem r11_15 {a : Nat} : RR S d 11 15 L (.ref a :: st) h Q = kO (ai_fld h a 1 4) (fun w => RR S d 11 18 L (w :: st) h Q) := RR.get rfl rfl rfl
theorem r11_18 : RR S d 11 18 L st h Q = kI (ai_look L 3) (fun x => RR S d 11 19 L (.int x :: st) h Q) := RR.ldi_n rfl rfl rfl
theorem r11_19 {x : Int32} {a : Nat} : RR S d 11 19 L (.int x :: .ref a :: st) h Q = kO (ai_arr h a 0) (fun q => kB (ai_in x q.1) (RR S d 11 20 L (.int (q.2 x.toNatClampNeg) :: st) h Q)) := RR.ial rfl rfl
theorem r11_20 : RR S d 11 20 L st h Q = kI (ai_look L 2) (fun x => RR S d 11 21 L (.int x :: st) h Q) := RR.ldi_n rfl rfl rfl
theorem r11_21 {x y : Int32} : RR S d 11 21 L (.int y :: .int x :: st) h Q = if y < x then RR S d 11 38 L st h Q else RR S d 11 24 L st h Q := RR.b2 (c := .gt) (off := 17) rfl rfl (by decide) rfl
theorem r11_24 : RR S d 11 24 L st h Q = kI (ai_look L 2) (fun x => RR S d 11 25 L (.int x :: st) h Q) := RR.ldi_n rfl rfl rfl
theorem r11_25 : RR S d 11 25 L st h Q = kA (ai_look L 0) (fun x => RR S d 11 26 L (x :: st) h Q) := RR.lda_n rfl rfl rfl
theorem r11_26 {a : Nat} : RR S d 11 26 L (.ref a :: st) h Q = kO (ai_fld h a 1 5) (fun w => RR S d 11 29 L (w :: st) h Q) := RR.get rfl rfl rfl
theorem r11_29 : RR S d 11 29 L st h Q = kI (ai_look L 3) (fun x => RR S d 11 30 L (.int x :: st) h Q) := RR.ldi_n rfl rfl rfl
theorem r11_30 {x : Int32} {a : Nat} : RR S d 11 30 L (.int x :: .ref a :: st) h Q = kO (ai_arr h a 0) (fun q => kB (ai_in x q.1) (RR S d 11 31 L (.int (q.2 x.toNatClampNeg) :: st) h Q)) := RR.ial rfl rfl
theorem r11_31 {x y : Int32} : RR S d 11 31 L (.int y :: .int x :: st) h Q = if y ≤ x then RR S d 11 38 L st h Q else RR S d 11 34 L st h Q := RR.b2 (c := .ge) (off := 7) rfl rfl (by decide) rfl
theorem r11_34 : RR S d 11 34 L st h Q = RR S d 11 35 L (.int 1 :: st) h Q := RR.icn (n := 1) rfl (by decide) rfl
theorem r11_35 : RR S d 11 35 L st h Q = RR S d 11 39 L st h Q := RR.jmp (off := 4) rfl (by decide)
theorem r11_38 : RR S d 11 38 L st h Q = RR S d 11 39 L (.int 0 :: st) h Q := RR.icn (n := 0) rfl (by decide) rfl
theorem r11_39f : RR S d 11 39 L [.int 0] h Q = Q (some (.int 0)) h := RR.zrt rfl rfl (by decide)
theorem r11_39t : RR S d 11 39 L [.int 1] h Q = Q (some (.int 1)) h := RR.zrt rfl rfl (by decide)
theorem r12_0 : RR S d 12 0 L st h Q = kA (ai_look L 0) (fun x => RR S d 12 1 L (x :: st) h Q) := RR.lda_n rfl rfl rfl
theorem r12_1 {a : Nat} : RR S d 12 1 L (.ref a :: st) h Q = kB (decide (ai_sum st ≤ 8)) (RR S d 12 4 L st h Q) := RR.oin (j := 3) rfl rfl rfl
theorem r12_4 : RR S d 12 4 L st h Q = kA (ai_look L 0) (fun x => RR S d 12 5 L (x :: st) h Q) := RR.lda_n rfl rfl rfl
theorem r12_5 : RR S d 12 5 L st h Q = RR S d 12 7 L (.int 6 :: st) h Q := RR.bip (n := 6) rfl (by decide) rfl
theorem r12_7 {n : Int32} : RR S d 12 7 L (.int n :: st) h Q = kB (decide (¬ n < 0) && decide (n.toNatClampNeg ≤ 100000)) (RR S d 12 9 L (.ref h.1.length :: st) (h.1 ++ [.inl (0, n.toNatClampNeg, .inl (fun _ => 0))], h.2 + n.toNatClampNeg) Q) := RR.newa0 rfl rfl
theorem r12_9 {x : Nat} {a : Nat} : RR S d 12 9 L (.ref x :: .ref a :: st) h Q = kO (ai_obj h a 2) (fun fs => kB (decide (0 < fs.length)) (RR S d 12 12 L st (h.1.set a (.inr (2, fs.set 0 (.ref x))), h.2) Q)) := RR.put rfl rfl (ai_okp_r (by decide +kernel)) rfl
theorem r12_12 : RR S d 12 12 L st h Q = kA (ai_look L 0) (fun x => RR S d 12 13 L (x :: st) h Q) := RR.lda_n rfl rfl rfl
theorem r12_13 : RR S d 12 13 L st h Q = RR S d 12 15 L (.int 6 :: st) h Q := RR.bip (n := 6) rfl (by decide) rfl
theorem r12_15 {n : Int32} : RR S d 12 15 L (.int n :: st) h Q = kB (decide (¬ n < 0) && decide (n.toNatClampNeg ≤ 100000)) (RR S d 12 17 L (.ref h.1.length :: st) (h.1 ++ [.inl (0, n.toNatClampNeg, .inl (fun _ => 0))], h.2 + n.toNatClampNeg) Q) := RR.newa0 rfl rfl
theorem r12_17 {x : Nat} {a : Nat} : RR S d 12 17 L (.ref x :: .ref a :: st) h Q = kO (ai_obj h a 2) (fun fs => kB (decide (1 < fs.length)) (RR S d 12 20 L st (h.1.set a (.inr (2, fs.set 1 (.ref x))), h.2) Q)) := RR.put rfl rfl (ai_okp_r (by decide +kernel)) rfl
theorem r12_20 : RR S d 12 20 L st h Q = kA (ai_look L 0) (fun x => RR S d 12 21 L (x :: st) h Q) := RR.lda_n rfl rfl rfl
theorem r12_21 : RR S d 12 21 L st h Q = RR S d 12 23 L (.int 12 :: st) h Q := RR.bip (n := 12) rfl (by decide) rfl
theorem r12_23 {n : Int32} : RR S d 12 23 L (.int n :: st) h Q = kB (decide (¬ n < 0) && decide (n.toNatClampNeg ≤ 100000)) (RR S d 12 25 L (.ref h.1.length :: st) (h.1 ++ [.inl (0, n.toNatClampNeg, .inl (fun _ => 0))], h.2 + n.toNatClampNeg) Q) := RR.newa0 rfl rfl
theorem r12_25 {x : Nat} {a : Nat} : RR S d 12 25 L (.ref x :: .ref a :: st) h Q = kO (ai_obj h a 2) (fun fs => kB (decide (2 < fs.length)) (RR S d 12 28 L st (h.1.set a (.inr (2, fs.set 2 (.ref x))), h.2) Q)) := RR.put rfl rfl (ai_okp_r (by decide +kernel)) rfl
theorem r12_28 : RR S d 12 28 L st h Q = kA (ai_look L 0) (fun x => RR S d 12 29 L (x :: st) h Q) := RR.lda_n rfl rfl rfl
theorem r12_29 : RR S d 12 29 L st h Q = RR S d 12 31 L (.int 12 :: st) h Q := RR.bip (n := 12) rfl (by decide) rfl
theorem r12_31 {n : Int32} : RR S d 12 31 L (.int n :: st) h Q = kB (decide (¬ n < 0) && decide (n.toNatClampNeg ≤ 100000)) (RR S d 12 33 L (.ref h.1.length :: st) (h.1 ++ [.inl (0, n.toNatClampNeg, .inl (fun _ => 0))], h.2 + n.toNatClampNeg) Q) := RR.newa0 rfl rfl
theorem r12_33 {x : Nat} {a : Nat} : RR S d 12 33 L (.ref x :: .ref a :: st) h Q = kO (ai_obj h a 2) (fun fs => kB (decide (3 < fs.length)) (RR S d 12 36 L st (h.1.set a (.inr (2, fs.set 3 (.ref x))), h.2) Q)) := RR.put rfl rfl (ai_okp_r (by decide +kernel)) rfl
theorem r12_36 : RR S d 12 36 L st h Q = kA (ai_look L 0) (fun x => RR S d 12 37 L (x :: st) h Q) := RR.lda_n rfl rfl rfl
theorem r12_37 : RR S d 12 37 L st h Q = RR S d 12 39 L (.int 12 :: st) h Q := RR.bip (n := 12) rfl (by decide) rfl
theorem r12_39 {n : Int32} : RR S d 12 39 L (.int n :: st) h Q = kB (decide (¬ n < 0) && decide (n.toNatClampNeg ≤ 100000)) (RR S d 12 41 L (.ref h.1.length :: st) (h.1 ++ [.inl (0, n.toNatClampNeg, .inl (fun _ => 0))], h.2 + n.toNatClampNeg) Q) := RR.newa0 rfl rfl
theorem r12_41 {x : Nat} {a : Nat} : RR S d 12 41 L (.ref x :: .ref a :: st) h Q = kO (ai_obj h a 2) (fun fs => kB (decide (4 < fs.length)) (RR S d 12 44 L st (h.1.set a (.inr (2, fs.set 4 (.ref x))), h.2) Q)) := RR.put rfl rfl (ai_okp_r (by decide +kernel)) rfl
theorem r12_44 : RR S d 12 44 L st h Q = kA (ai_look L 0) (fun x => RR S d 12 45 L (x :: st) h Q) := RR.lda_n rfl rfl rfl
theorem r12_45 : RR S d 12 45 L st h Q = RR S d 12 47 L (.int 12 :: st) h Q := RR.bip (n := 12) rfl (by decide) rfl
theorem r12_47 {n : Int32} : RR S d 12 47 L (.int n :: st) h Q = kB (decide (¬ n < 0) && decide (n.toNatClampNeg ≤ 100000)) (RR S d 12 49 L (.ref h.1.length :: st) (h.1 ++ [.inl (0, n.toNatClampNeg, .inl (fun _ => 0))], h.2 + n.toNatClampNeg) Q) := RR.newa0 rfl rfl
theorem r12_49 {x : Nat} {a : Nat} : RR S d 12 49 L (.ref x :: .ref a :: st) h Q = kO (ai_obj h a 2) (fun fs => kB (decide (5 < fs.length)) (RR S d 12 52 L st (h.1.set a (.inr (2, fs.set 5 (.ref x))), h.2) Q)) := RR.put rfl rfl (ai_okp_r (by decide +kernel)) rfl
theorem r12_52 : RR S d 12 52 L st h Q = kA (ai_look L 0) (fun x => RR S d 12 53 L (x :: st) h Q) := RR.lda_n rfl rfl rfl
theorem r12_53 : RR S d 12 53 L st h Q = RR S d 12 54 L (.int 0 :: st) h Q := RR.icn (n := 0) rfl (by decide) rfl
theorem r12_54 {x : Int32} {a : Nat} : RR S d 12 54 L (.int x :: .ref a :: st) h Q = kO (ai_obj h a 2) (fun fs => kB (decide (6 < fs.length)) (RR S d 12 57 L st (h.1.set a (.inr (2, fs.set 6 (.int x))), h.2) Q)) := RR.put rfl rfl (ai_okp_i rfl (by decide +kernel)) rfl
theorem r12_57 : RR S d 12 57 L st h Q = kA (ai_look L 0) (fun x => RR S d 12 58 L (x :: st) h Q) := RR.lda_n rfl rfl rfl
theorem r12_58 : RR S d 12 58 L st h Q = RR S d 12 59 L (.int 0 :: st) h Q := RR.icn (n := 0) rfl (by decide) rfl
theorem r12_59 {x : Int32} {a : Nat} : RR S d 12 59 L (.int x :: .ref a :: st) h Q = kO (ai_obj h a 2) (fun fs => kB (decide (7 < fs.length)) (RR S d 12 62 L st (h.1.set a (.inr (2, fs.set 7 (.int x))), h.2) Q)) := RR.put rfl rfl (ai_okp_i rfl (by decide +kernel)) rfl
theorem r12_62 : RR S d 12 62 L st h Q = kA (ai_look L 0) (fun x => RR S d 12 63 L (x :: st) h Q) := RR.lda_n rfl rfl rfl
theorem r12_63 : RR S d 12 63 L st h Q = RR S d 12 65 L (.int 12 :: st) h Q := RR.bip (n := 12) rfl (by decide) rfl
theorem r12_65 {x : Int32} {a : Nat} : RR S d 12 65 L (.int x :: .ref a :: st) h Q = kO (ai_obj h a 2) (fun fs => kB (decide (8 < fs.length)) (RR S d 12 68 L st (h.1.set a (.inr (2, fs.set 8 (.int x))), h.2) Q)) := RR.put rfl rfl (ai_okp_i rfl (by decide +kernel)) rfl
theorem r12_68 : RR S d 12 68 L st h Q = kA (ai_look L 0) (fun x => RR S d 12 69 L (x :: st) h Q) := RR.lda_n rfl rfl rfl
theorem r12_69 : RR S d 12 69 L st h Q = RR S d 12 70 L (.int 0 :: st) h Q := RR.icn (n := 0) rfl (by decide) rfl
theorem r12_70 {x : Int32} {a : Nat} : RR S d 12 70 L (.int x :: .ref a :: st) h Q = kO (ai_obj h a 2) (fun fs => kB (decide (9 < fs.length)) (RR S d 12 73 L st (h.1.set a (.inr (2, fs.set 9 (.int x))), h.2) Q)) := RR.put rfl rfl (ai_okp_i rfl (by decide +kernel)) rfl
theorem r12_73 : RR S d 12 73 L [] h Q = Q none h := RR.rt rfl rfl rfl
theorem r13_0 : RR S d 13 0 L st h Q = kI (ai_look L 1) (fun x => RR S d 13 1 L (.int x :: st) h Q) := RR.ldi_n rfl rfl rfl
theorem r13_1 {x : Int32} : RR S d 13 1 L (.int x :: st) h Q = if x < 0 then RR S d 13 16 L st h Q else RR S d 13 4 L st h Q := RR.b1 (c := .lt) (off := 15) rfl rfl (by decide) rfl
theorem r13_4 : RR S d 13 4 L st h Q = kI (ai_look L 1) (fun x => RR S d 13 5 L (.int x :: st) h Q) := RR.ldi_n rfl rfl rfl
theorem r13_5 : RR S d 13 5 L st h Q = kA (ai_look L 0) (fun x => RR S d 13 6 L (x :: st) h Q) := RR.lda_n rfl rfl rfl
theorem r13_6 {a : Nat} : RR S d 13 6 L (.ref a :: st) h Q = kO (ai_fld h a 2 6) (fun w => RR S d 13 9 L (w :: st) h Q) := RR.get rfl rfl rfl
theorem r13_9 {x y : Int32} : RR S d 13 9 L (.int y :: .int x :: st) h Q = if y ≤ x then RR S d 13 16 L st h Q else RR S d 13 12 L st h Q := RR.b2 (c := .ge) (off := 7) rfl rfl (by decide) rfl
theorem r13_12 : RR S d 13 12 L st h Q = RR S d 13 13 L (.int 1 :: st) h Q := RR.icn (n := 1) rfl (by decide) rfl
theorem r13_13 : RR S d 13 13 L st h Q = RR S d 13 17 L st h Q := RR.jmp (off := 4) rfl (by decide)
theorem r13_16 : RR S d 13 16 L st h Q = RR S d 13 17 L (.int 0 :: st) h Q := RR.icn (n := 0) rfl (by decide) rfl
theorem r13_17f : RR S d 13 17 L [.int 0] h Q = Q (some (.int 0)) h := RR.zrt rfl rfl (by decide)
theorem r13_17t : RR S d 13 17 L [.int 1] h Q = Q (some (.int 1)) h := RR.zrt rfl rfl (by decide)
theorem r14_0 : RR S d 14 0 L st h Q = kA (ai_look L 0) (fun x => RR S d 14 1 L (x :: st) h Q) := RR.lda_n rfl rfl rfl
theorem r14_1 : RR S d 14 1 L st h Q = kI (ai_look L 1) (fun x => RR S d 14 2 L (.int x :: st) h Q) := RR.ldi_n rfl rfl rfl
theorem r14_2 {p0 : Int32} {a : Nat} : RR S (d + 1) 14 2 L (.int p0 :: .ref a :: st) h Q = kB (decide (ai_sum st ≤ 8)) (kB ((ai_obj h a 2).isSome) (RR S d 13 0 [(0, .ref a), (1, .int p0)] [] h (fun r h1 => RR S (d + 1) 14 5 L (r.toList ++ st) h1 Q))) := RR.cv (j := 43) (mn' := 13) (n := 1) rfl rfl rfl rfl rfl rfl
theorem r14_5 {x : Int32} : RR S d 14 5 L (.int x :: st) h Q = if x = 0 then RR S d 14 25 L st h Q else RR S d 14 8 L st h Q := RR.b1 (c := .eq) (off := 20) rfl rfl (by decide) rfl
theorem r14_8 : RR S d 14 8 L st h Q = kA (ai_look L 0) (fun x => RR S d 14 9 L (x :: st) h Q) := RR.lda_n rfl rfl rfl
theorem r14_9 : RR S d 14 9 L st h Q = kI (ai_look L 2) (fun x => RR S d 14 10 L (.int x :: st) h Q) := RR.ldi_n rfl rfl rfl
theorem r14_10 {p0 : Int32} {a : Nat} : RR S (d + 1) 14 10 L (.int p0 :: .ref a :: st) h Q = kB (decide (ai_sum st ≤ 8)) (kB ((ai_obj h a 2).isSome) (RR S d 13 0 [(0, .ref a), (1, .int p0)] [] h (fun r h1 => RR S (d + 1) 14 13 L (r.toList ++ st) h1 Q))) := RR.cv (j := 43) (mn' := 13) (n := 1) rfl rfl rfl rfl rfl rfl
theorem r14_13 {x : Int32} : RR S d 14 13 L (.int x :: st) h Q = if x = 0 then RR S d 14 25 L st h Q else RR S d 14 16 L st h Q := RR.b1 (c := .eq) (off := 12) rfl rfl (by decide) rfl
theorem r14_16 : RR S d 14 16 L st h Q = kI (ai_look L 1) (fun x => RR S d 14 17 L (.int x :: st) h Q) := RR.ldi_n rfl rfl rfl
theorem r14_17 : RR S d 14 17 L st h Q = kI (ai_look L 2) (fun x => RR S d 14 18 L (.int x :: st) h Q) := RR.ldi_n rfl rfl rfl
theorem r14_18 {x y : Int32} : RR S d 14 18 L (.int y :: .int x :: st) h Q = if x = y then RR S d 14 25 L st h Q else RR S d 14 21 L st h Q := RR.b2 (c := .eq) (off := 7) rfl rfl (by decide) rfl
theorem r14_21 : RR S d 14 21 L st h Q = RR S d 14 22 L (.int 1 :: st) h Q := RR.icn (n := 1) rfl (by decide) rfl
theorem r14_22 : RR S d 14 22 L st h Q = RR S d 14 26 L st h Q := RR.jmp (off := 4) rfl (by decide)
theorem r14_25 : RR S d 14 25 L st h Q = RR S d 14 26 L (.int 0 :: st) h Q := RR.icn (n := 0) rfl (by decide) rfl
theorem r14_26f : RR S d 14 26 L [.int 0] h Q = Q (some (.int 0)) h := RR.zrt rfl rfl (by decide)
theorem r14_26t : RR S d 14 26 L [.int 1] h Q = Q (some (.int 1)) h := RR.zrt rfl rfl (by decide)
theorem r15_0 : RR S d 15 0 L st h Q = kI (ai_look L 1) (fun x => RR S d 15 1 L (.int x :: st) h Q) := RR.ldi_n rfl rfl rfl
theorem r15_1 {x : Int32} : RR S d 15 1 L (.int x :: st) h Q = if x < 0 then RR S d 15 16 L st h Q else RR S d 15 4 L st h Q := RR.b1 (c := .lt) (off := 15) rfl rfl (by decide) rfl
theorem r15_4 : RR S d 15 4 L st h Q = kI (ai_look L 1) (fun x => RR S d 15 5 L (.int x :: st) h Q) := RR.ldi_n rfl rfl rfl
theorem r15_5 : RR S d 15 5 L st h Q = kA (ai_look L 0) (fun x => RR S d 15 6 L (x :: st) h Q) := RR.lda_n rfl rfl rfl
theorem r15_6 {a : Nat} : RR S d 15 6 L (.ref a :: st) h Q = kO (ai_fld h a 2 7) (fun w => RR S d 15 9 L (w :: st) h Q) := RR.get rfl rfl rfl
theorem r15_9 {x y : Int32} : RR S d 15 9 L (.int y :: .int x :: st) h Q = if y ≤ x then RR S d 15 16 L st h Q else RR S d 15 12 L st h Q := RR.b2 (c := .ge) (off := 7) rfl rfl (by decide) rfl
theorem r15_12 : RR S d 15 12 L st h Q = RR S d 15 13 L (.int 1 :: st) h Q := RR.icn (n := 1) rfl (by decide) rfl
theorem r15_13 : RR S d 15 13 L st h Q = RR S d 15 17 L st h Q := RR.jmp (off := 4) rfl (by decide)
theorem r15_16 : RR S d 15 16 L st h Q = RR S d 15 17 L (.int 0 :: st) h Q := RR.icn (n := 0) rfl (by decide) rfl
theorem r15_17f : RR S d 15 17 L [.int 0] h Q = Q (some (.int 0)) h := RR.zrt rfl rfl (by decide)
theorem r15_17t : RR S d 15 17 L [.int 1] h Q = Q (some (.int 1)) h := RR.zrt rfl rfl (by decide)
theorem r16_0 : RR S d 16 0 L st h Q = kI (ai_look L 1) (fun x => RR S d 16 1 L (.int x :: st) h Q) := RR.ldi_n rfl rfl rfl
theorem r16_1 {x : Int32} : RR S d 16 1 L (.int x :: st) h Q = if x < 0 then RR S d 16 16 L st h Q else RR S d 16 4 L st h Q := RR.b1 (c := .lt) (off := 15) rfl rfl (by decide) rfl
theorem r16_4 : RR S d 16 4 L st h Q = kI (ai_look L 1) (fun x => RR S d 16 5 L (.int x :: st) h Q) := RR.ldi_n rfl rfl rfl
theorem r16_5 : RR S d 16 5 L st h Q = kA (ai_look L 0) (fun x => RR S d 16 6 L (x :: st) h Q) := RR.lda_n rfl rfl rfl
theorem r16_6 {a : Nat} : RR S d 16 6 L (.ref a :: st) h Q = kO (ai_fld h a 2 8) (fun w => RR S d 16 9 L (w :: st) h Q) := RR.get rfl rfl rfl
theorem r16_9 {x y : Int32} : RR S d 16 9 L (.int y :: .int x :: st) h Q = if y ≤ x then RR S d 16 16 L st h Q else RR S d 16 12 L st h Q := RR.b2 (c := .ge) (off := 7) rfl rfl (by decide) rfl
theorem r16_12 : RR S d 16 12 L st h Q = RR S d 16 13 L (.int 1 :: st) h Q := RR.icn (n := 1) rfl (by decide) rfl
theorem r16_13 : RR S d 16 13 L st h Q = RR S d 16 17 L st h Q := RR.jmp (off := 4) rfl (by decide)
theorem r16_16 : RR S d 16 16 L st h Q = RR S d 16 17 L (.int 0 :: st) h Q := RR.icn (n := 0) rfl (by decide) rfl
theorem r16_17f : RR S d 16 17 L [.int 0] h Q = Q (some (.int 0)) h := RR.zrt rfl rfl (by decide)
theorem r16_17t : RR S d 16 17 L [.int 1] h Q = Q (some (.int 1)) h := RR.zrt rfl rfl (by decide)
theorem r17_0 : RR S d 17 0 L st h Q = kA (ai_look L 0) (fun x => RR S d 17 1 L (x :: st) h Q) := RR.lda_n rfl rfl rfl
theorem r17_1 {a : Nat} : RR S d 17 1 L (.ref a :: st) h Q = kO (ai_fld h a 2 6) (fun w => RR S d 17 4 L (w :: st) h Q) := RR.get rfl rfl rfl
theorem r17_4 : RR S d 17 4 L st h Q = RR S d 17 6 L (.int 6 :: st) h Q := RR.bip (n := 6) rfl (by decide) rfl
theorem r17_6 {x y : Int32} : RR S d 17 6 L (.int y :: .int x :: st) h Q = if x < y then RR S d 17 11 L st h Q else RR S d 17 9 L st h Q := RR.b2 (c := .lt) (off := 5) rfl rfl (by decide) rfl
theorem r17_9 : RR S d 17 9 L st h Q = RR S d 17 10 L (.int (-1) :: st) h Q := RR.icn (n := (-1)) rfl (by decide) rfl
theorem r17_10 {x : Int32} : RR S d 17 10 L [.int x] h Q = Q (some (.int x)) h := RR.rt rfl rfl rfl
theorem r17_11 : RR S d 17 11 L st h Q = kA (ai_look L 0) (fun x => RR S d 17 12 L (x :: st) h Q) := RR.lda_n rfl rfl rfl
theorem r17_12 {a : Nat} : RR S d 17 12 L (.ref a :: st) h Q = kO (ai_fld h a 2 0) (fun w => RR S d 17 15 L (w :: st) h Q) := RR.get rfl rfl rfl
theorem r17_15 : RR S d 17 15 L st h Q = kA (ai_look L 0) (fun x => RR S d 17 16 L (x :: st) h Q) := RR.lda_n rfl rfl rfl
theorem r17_16 {a : Nat} : RR S d 17 16 L (.ref a :: st) h Q = kO (ai_fld h a 2 6) (fun w => RR S d 17 19 L (w :: st) h Q) := RR.get rfl rfl rfl
theorem r17_19 : RR S d 17 19 L st h Q = kI (ai_look L 1) (fun x => RR S d 17 20 L (.int x :: st) h Q) := RR.ldi_n rfl rfl rfl
theorem r17_20 {x y : Int32} {a : Nat} : RR S d 17 20 L (.int y :: .int x :: .ref a :: st) h Q = kO (ai_arr h a 0) (fun q => kB (ai_in x q.1) (RR S d 17 21 L st (h.1.set a (.inl (0, q.1, .inl (upd q.2 x.toNatClampNeg y))), h.2) Q)) := RR.ias rfl rfl
theorem r17_21 : RR S d 17 21 L st h Q = kA (ai_look L 0) (fun x => RR S d 17 22 L (x :: st) h Q) := RR.lda_n rfl rfl rfl
theorem r17_22 {v : Value} (hv : v.category = 1) : RR S d 17 22 L (v :: st) h Q = RR S d 17 23 L (v :: v :: st) h Q := RR.dup rfl hv rfl
theorem r17_23 {a : Nat} : RR S d 17 23 L (.ref a :: st) h Q = kO (ai_fld h a 2 6) (fun w => RR S d 17 26 L (w :: st) h Q) := RR.get rfl rfl rfl
theorem r17_26 : RR S d 17 26 L st h Q = RR S d 17 27 L (.int 1 :: st) h Q := RR.icn (n := 1) rfl (by decide) rfl
theorem r17_27 {x y : Int32} : RR S d 17 27 L (.int y :: .int x :: st) h Q = RR S d 17 28 L (.int (x + y) :: st) h Q := RR.do1 (28, L, .int (x + y) :: st, h) rfl rfl rfl
theorem r17_28 {x : Int32} {a : Nat} : RR S d 17 28 L (.int x :: .ref a :: st) h Q = kO (ai_obj h a 2) (fun fs => kB (decide (6 < fs.length)) (RR S d 17 31 L st (h.1.set a (.inr (2, fs.set 6 (.int x))), h.2) Q)) := RR.put rfl rfl (ai_okp_i rfl (by decide +kernel)) rfl
theorem r17_31 : RR S d 17 31 L st h Q = kA (ai_look L 0) (fun x => RR S d 17 32 L (x :: st) h Q) := RR.lda_n rfl rfl rfl
theorem r17_32 {a : Nat} : RR S d 17 32 L (.ref a :: st) h Q = kO (ai_fld h a 2 6) (fun w => RR S d 17 35 L (w :: st) h Q) := RR.get rfl rfl rfl
theorem r17_35 : RR S d 17 35 L st h Q = RR S d 17 36 L (.int 1 :: st) h Q := RR.icn (n := 1) rfl (by decide) rfl
theorem r17_36 {x y : Int32} : RR S d 17 36 L (.int y :: .int x :: st) h Q = RR S d 17 37 L (.int (x - y) :: st) h Q := RR.do1 (37, L, .int (x - y) :: st, h) rfl rfl rfl
theorem r17_37 {x : Int32} : RR S d 17 37 L [.int x] h Q = Q (some (.int x)) h := RR.rt rfl rfl rfl
theorem r18_0 : RR S d 18 0 L st h Q = kA (ai_look L 0) (fun x => RR S d 18 1 L (x :: st) h Q) := RR.lda_n rfl rfl rfl
theorem r18_1 {a : Nat} : RR S d 18 1 L (.ref a :: st) h Q = kO (ai_fld h a 2 7) (fun w => RR S d 18 4 L (w :: st) h Q) := RR.get rfl rfl rfl
theorem r18_4 : RR S d 18 4 L st h Q = RR S d 18 6 L (.int 12 :: st) h Q := RR.bip (n := 12) rfl (by decide) rfl
theorem r18_6 {x y : Int32} : RR S d 18 6 L (.int y :: .int x :: st) h Q = if x < y then RR S d 18 11 L st h Q else RR S d 18 9 L st h Q := RR.b2 (c := .lt) (off := 5) rfl rfl (by decide) rfl
theorem r18_9 : RR S d 18 9 L st h Q = RR S d 18 10 L (.int (-1) :: st) h Q := RR.icn (n := (-1)) rfl (by decide) rfl
theorem r18_10 {x : Int32} : RR S d 18 10 L [.int x] h Q = Q (some (.int x)) h := RR.rt rfl rfl rfl
theorem r18_11 : RR S d 18 11 L st h Q = kA (ai_look L 0) (fun x => RR S d 18 12 L (x :: st) h Q) := RR.lda_n rfl rfl rfl
theorem r18_12 {a : Nat} : RR S d 18 12 L (.ref a :: st) h Q = kO (ai_fld h a 2 2) (fun w => RR S d 18 15 L (w :: st) h Q) := RR.get rfl rfl rfl
theorem r18_15 : RR S d 18 15 L st h Q = kA (ai_look L 0) (fun x => RR S d 18 16 L (x :: st) h Q) := RR.lda_n rfl rfl rfl
theorem r18_16 {a : Nat} : RR S d 18 16 L (.ref a :: st) h Q = kO (ai_fld h a 2 7) (fun w => RR S d 18 19 L (w :: st) h Q) := RR.get rfl rfl rfl
theorem r18_19 : RR S d 18 19 L st h Q = kI (ai_look L 1) (fun x => RR S d 18 20 L (.int x :: st) h Q) := RR.ldi_n rfl rfl rfl
theorem r18_20 {x y : Int32} {a : Nat} : RR S d 18 20 L (.int y :: .int x :: .ref a :: st) h Q = kO (ai_arr h a 0) (fun q => kB (ai_in x q.1) (RR S d 18 21 L st (h.1.set a (.inl (0, q.1, .inl (upd q.2 x.toNatClampNeg y))), h.2) Q)) := RR.ias rfl rfl
theorem r18_21 : RR S d 18 21 L st h Q = kA (ai_look L 0) (fun x => RR S d 18 22 L (x :: st) h Q) := RR.lda_n rfl rfl rfl
theorem r18_22 {a : Nat} : RR S d 18 22 L (.ref a :: st) h Q = kO (ai_fld h a 2 3) (fun w => RR S d 18 25 L (w :: st) h Q) := RR.get rfl rfl rfl
theorem r18_25 : RR S d 18 25 L st h Q = kA (ai_look L 0) (fun x => RR S d 18 26 L (x :: st) h Q) := RR.lda_n rfl rfl rfl
theorem r18_26 {a : Nat} : RR S d 18 26 L (.ref a :: st) h Q = kO (ai_fld h a 2 7) (fun w => RR S d 18 29 L (w :: st) h Q) := RR.get rfl rfl rfl
theorem r18_29 : RR S d 18 29 L st h Q = kI (ai_look L 2) (fun x => RR S d 18 30 L (.int x :: st) h Q) := RR.ldi_n rfl rfl rfl
theorem r18_30 {x y : Int32} {a : Nat} : RR S d 18 30 L (.int y :: .int x :: .ref a :: st) h Q = kO (ai_arr h a 0) (fun q => kB (ai_in x q.1) (RR S d 18 31 L st (h.1.set a (.inl (0, q.1, .inl (upd q.2 x.toNatClampNeg y))), h.2) Q)) := RR.ias rfl rfl
theorem r18_31 : RR S d 18 31 L st h Q = kA (ai_look L 0) (fun x => RR S d 18 32 L (x :: st) h Q) := RR.lda_n rfl rfl rfl
theorem r18_32 {a : Nat} : RR S d 18 32 L (.ref a :: st) h Q = kO (ai_fld h a 2 4) (fun w => RR S d 18 35 L (w :: st) h Q) := RR.get rfl rfl rfl
theorem r18_35 : RR S d 18 35 L st h Q = kA (ai_look L 0) (fun x => RR S d 18 36 L (x :: st) h Q) := RR.lda_n rfl rfl rfl
theorem r18_36 {a : Nat} : RR S d 18 36 L (.ref a :: st) h Q = kO (ai_fld h a 2 7) (fun w => RR S d 18 39 L (w :: st) h Q) := RR.get rfl rfl rfl
theorem r18_39 : RR S d 18 39 L st h Q = kI (ai_look L 3) (fun x => RR S d 18 40 L (.int x :: st) h Q) := RR.ldi_n rfl rfl rfl
theorem r18_40 {x y : Int32} {a : Nat} : RR S d 18 40 L (.int y :: .int x :: .ref a :: st) h Q = kO (ai_arr h a 0) (fun q => kB (ai_in x q.1) (RR S d 18 41 L st (h.1.set a (.inl (0, q.1, .inl (upd q.2 x.toNatClampNeg y))), h.2) Q)) := RR.ias rfl rfl
theorem r18_41 : RR S d 18 41 L st h Q = kA (ai_look L 0) (fun x => RR S d 18 42 L (x :: st) h Q) := RR.lda_n rfl rfl rfl
theorem r18_42 {a : Nat} : RR S d 18 42 L (.ref a :: st) h Q = kO (ai_fld h a 2 5) (fun w => RR S d 18 45 L (w :: st) h Q) := RR.get rfl rfl rfl
theorem r18_45 : RR S d 18 45 L st h Q = kA (ai_look L 0) (fun x => RR S d 18 46 L (x :: st) h Q) := RR.lda_n rfl rfl rfl
theorem r18_46 {a : Nat} : RR S d 18 46 L (.ref a :: st) h Q = kO (ai_fld h a 2 7) (fun w => RR S d 18 49 L (w :: st) h Q) := RR.get rfl rfl rfl
theorem r18_49 : RR S d 18 49 L st h Q = kI (ai_look L 4) (fun x => RR S d 18 51 L (.int x :: st) h Q) := RR.ldi rfl rfl
theorem r18_51 {x y : Int32} {a : Nat} : RR S d 18 51 L (.int y :: .int x :: .ref a :: st) h Q = kO (ai_arr h a 0) (fun q => kB (ai_in x q.1) (RR S d 18 52 L st (h.1.set a (.inl (0, q.1, .inl (upd q.2 x.toNatClampNeg y))), h.2) Q)) := RR.ias rfl rfl
theorem r18_52 : RR S d 18 52 L st h Q = kA (ai_look L 0) (fun x => RR S d 18 53 L (x :: st) h Q) := RR.lda_n rfl rfl rfl
theorem r18_53 {v : Value} (hv : v.category = 1) : RR S d 18 53 L (v :: st) h Q = RR S d 18 54 L (v :: v :: st) h Q := RR.dup rfl hv rfl
theorem r18_54 {a : Nat} : RR S d 18 54 L (.ref a :: st) h Q = kO (ai_fld h a 2 7) (fun w => RR S d 18 57 L (w :: st) h Q) := RR.get rfl rfl rfl
theorem r18_57 : RR S d 18 57 L st h Q = RR S d 18 58 L (.int 1 :: st) h Q := RR.icn (n := 1) rfl (by decide) rfl
theorem r18_58 {x y : Int32} : RR S d 18 58 L (.int y :: .int x :: st) h Q = RR S d 18 59 L (.int (x + y) :: st) h Q := RR.do1 (59, L, .int (x + y) :: st, h) rfl rfl rfl
theorem r18_59 {x : Int32} {a : Nat} : RR S d 18 59 L (.int x :: .ref a :: st) h Q = kO (ai_obj h a 2) (fun fs => kB (decide (7 < fs.length)) (RR S d 18 62 L st (h.1.set a (.inr (2, fs.set 7 (.int x))), h.2) Q)) := RR.put rfl rfl (ai_okp_i rfl (by decide +kernel)) rfl
theorem r18_62 : RR S d 18 62 L st h Q = kA (ai_look L 0) (fun x => RR S d 18 63 L (x :: st) h Q) := RR.lda_n rfl rfl rfl
theorem r18_63 {a : Nat} : RR S d 18 63 L (.ref a :: st) h Q = kO (ai_fld h a 2 7) (fun w => RR S d 18 66 L (w :: st) h Q) := RR.get rfl rfl rfl
theorem r18_66 : RR S d 18 66 L st h Q = RR S d 18 67 L (.int 1 :: st) h Q := RR.icn (n := 1) rfl (by decide) rfl
theorem r18_67 {x y : Int32} : RR S d 18 67 L (.int y :: .int x :: st) h Q = RR S d 18 68 L (.int (x - y) :: st) h Q := RR.do1 (68, L, .int (x - y) :: st, h) rfl rfl rfl
theorem r18_68 {x : Int32} : RR S d 18 68 L [.int x] h Q = Q (some (.int x)) h := RR.rt rfl rfl rfl
theorem r19_0 : RR S d 19 0 L st h Q = RR S d 19 1 L (.int 0 :: st) h Q := RR.icn (n := 0) rfl (by decide) rfl
theorem r19_1 {x : Int32} : RR S d 19 1 L (.int x :: st) h Q = RR S d 19 2 (ai_put 1 (.int x) L) st h Q := RR.do1 (2, ai_put 1 (.int x) L, st, h) rfl rfl rfl
theorem r19_2 : RR S d 19 2 L st h Q = kI (ai_look L 1) (fun x => RR S d 19 3 L (.int x :: st) h Q) := RR.ldi_n rfl rfl rfl
theorem r19_3 : RR S d 19 3 L st h Q = RR S d 19 5 L (.int 6 :: st) h Q := RR.bip (n := 6) rfl (by decide) rfl
theorem r19_5 {x y : Int32} : RR S d 19 5 L (.int y :: .int x :: st) h Q = if y ≤ x then RR S d 19 21 L st h Q else RR S d 19 8 L st h Q := RR.b2 (c := .ge) (off := 16) rfl rfl (by decide) rfl
theorem r19_8 : RR S d 19 8 L st h Q = kA (ai_look L 0) (fun x => RR S d 19 9 L (x :: st) h Q) := RR.lda_n rfl rfl rfl
theorem r19_9 {a : Nat} : RR S d 19 9 L (.ref a :: st) h Q = kO (ai_fld h a 2 1) (fun w => RR S d 19 12 L (w :: st) h Q) := RR.get rfl rfl rfl
theorem r19_12 : RR S d 19 12 L st h Q = kI (ai_look L 1) (fun x => RR S d 19 13 L (.int x :: st) h Q) := RR.ldi_n rfl rfl rfl
theorem r19_13 : RR S d 19 13 L st h Q = RR S d 19 14 L (.int 0 :: st) h Q := RR.icn (n := 0) rfl (by decide) rfl
theorem r19_14 {x y : Int32} {a : Nat} : RR S d 19 14 L (.int y :: .int x :: .ref a :: st) h Q = kO (ai_arr h a 0) (fun q => kB (ai_in x q.1) (RR S d 19 15 L st (h.1.set a (.inl (0, q.1, .inl (upd q.2 x.toNatClampNeg y))), h.2) Q)) := RR.ias rfl rfl
theorem r19_15 : RR S d 19 15 L st h Q = kI (ai_look L 1) (fun x => RR S d 19 18 (ai_put 1 (.int (x + 1)) L) st h Q) := RR.iinc (k := 1) (n := 1) rfl (by decide) (by decide) rfl
theorem r19_18 : RR S d 19 18 L st h Q = RR S d 19 2 L st h Q := RR.jmp (off := (-16)) rfl (by decide)
theorem r19_21 : RR S d 19 21 L [] h Q = Q none h := RR.rt rfl rfl rfl
theorem r20_0 : RR S d 20 0 L st h Q = kA (ai_look L 0) (fun x => RR S d 20 1 L (x :: st) h Q) := RR.lda_n rfl rfl rfl
theorem r20_1 : RR S d 20 1 L st h Q = kI (ai_look L 1) (fun x => RR S d 20 2 L (.int x :: st) h Q) := RR.ldi_n rfl rfl rfl
theorem r20_2 {p0 : Int32} {a : Nat} : RR S (d + 1) 20 2 L (.int p0 :: .ref a :: st) h Q = kB (decide (ai_sum st ≤ 8)) (kB ((ai_obj h a 2).isSome) (RR S d 15 0 [(0, .ref a), (1, .int p0)] [] h (fun r h1 => RR S (d + 1) 20 5 L (r.toList ++ st) h1 Q))) := RR.cv (j := 47) (mn' := 15) (n := 1) rfl rfl rfl rfl rfl rfl
theorem r20_5 {x : Int32} : RR S d 20 5 L (.int x :: st) h Q = if x = 0 then RR S d 20 19 L st h Q else RR S d 20 8 L st h Q := RR.b1 (c := .eq) (off := 14) rfl rfl (by decide) rfl
theorem r20_8 : RR S d 20 8 L st h Q = kI (ai_look L 2) (fun x => RR S d 20 9 L (.int x :: st) h Q) := RR.ldi_n rfl rfl rfl
theorem r20_9 : RR S d 20 9 L st h Q = kA (ai_look L 0) (fun x => RR S d 20 10 L (x :: st) h Q) := RR.lda_n rfl rfl rfl
theorem r20_10 {a : Nat} : RR S d 20 10 L (.ref a :: st) h Q = kO (ai_fld h a 2 5) (fun w => RR S d 20 13 L (w :: st) h Q) := RR.get rfl rfl rfl
theorem r20_13 : RR S d 20 13 L st h Q = kI (ai_look L 1) (fun x => RR S d 20 14 L (.int x :: st) h Q) := RR.ldi_n rfl rfl rfl
theorem r20_14 {x : Int32} {a : Nat} : RR S d 20 14 L (.int x :: .ref a :: st) h Q = kO (ai_arr h a 0) (fun q => kB (ai_in x q.1) (RR S d 20 15 L (.int (q.2 x.toNatClampNeg) :: st) h Q)) := RR.ial rfl rfl
theorem r20_15 {x y : Int32} : RR S d 20 15 L (.int y :: .int x :: st) h Q = RR S d 20 16 L (.int (x * y) :: st) h Q := RR.do1 (16, L, .int (x * y) :: st, h) rfl rfl rfl
theorem r20_16 : RR S d 20 16 L st h Q = RR S d 20 20 L st h Q := RR.jmp (off := 4) rfl (by decide)
theorem r20_19 : RR S d 20 19 L st h Q = RR S d 20 20 L (.int 0 :: st) h Q := RR.icn (n := 0) rfl (by decide) rfl
theorem r20_20 {x : Int32} : RR S d 20 20 L [.int x] h Q = Q (some (.int x)) h := RR.rt rfl rfl rfl
theorem r21_0 : RR S d 21 0 L st h Q = kA (ai_look L 0) (fun x => RR S d 21 1 L (x :: st) h Q) := RR.lda_n rfl rfl rfl
theorem r21_1 : RR S d 21 1 L st h Q = kI (ai_look L 1) (fun x => RR S d 21 2 L (.int x :: st) h Q) := RR.ldi_n rfl rfl rfl
theorem r21_2 {p0 : Int32} {a : Nat} : RR S (d + 1) 21 2 L (.int p0 :: .ref a :: st) h Q = kB (decide (ai_sum st ≤ 8)) (kB ((ai_obj h a 2).isSome) (RR S d 15 0 [(0, .ref a), (1, .int p0)] [] h (fun r h1 => RR S (d + 1) 21 5 L (r.toList ++ st) h1 Q))) := RR.cv (j := 47) (mn' := 15) (n := 1) rfl rfl rfl rfl rfl rfl
theorem r21_5 {x : Int32} : RR S d 21 5 L (.int x :: st) h Q = if x = 0 then RR S d 21 26 L st h Q else RR S d 21 8 L st h Q := RR.b1 (c := .eq) (off := 21) rfl rfl (by decide) rfl
theorem r21_8 : RR S d 21 8 L st h Q = kI (ai_look L 2) (fun x => RR S d 21 9 L (.int x :: st) h Q) := RR.ldi_n rfl rfl rfl
theorem r21_9 : RR S d 21 9 L st h Q = kA (ai_look L 0) (fun x => RR S d 21 10 L (x :: st) h Q) := RR.lda_n rfl rfl rfl
theorem r21_10 {a : Nat} : RR S d 21 10 L (.ref a :: st) h Q = kO (ai_fld h a 2 5) (fun w => RR S d 21 13 L (w :: st) h Q) := RR.get rfl rfl rfl
theorem r21_13 : RR S d 21 13 L st h Q = kI (ai_look L 1) (fun x => RR S d 21 14 L (.int x :: st) h Q) := RR.ldi_n rfl rfl rfl
theorem r21_14 {x : Int32} {a : Nat} : RR S d 21 14 L (.int x :: .ref a :: st) h Q = kO (ai_arr h a 0) (fun q => kB (ai_in x q.1) (RR S d 21 15 L (.int (q.2 x.toNatClampNeg) :: st) h Q)) := RR.ial rfl rfl
theorem r21_15 {x y : Int32} : RR S d 21 15 L (.int y :: .int x :: st) h Q = RR S d 21 16 L (.int (x * y) :: st) h Q := RR.do1 (16, L, .int (x * y) :: st, h) rfl rfl rfl
theorem r21_16 : RR S d 21 16 L st h Q = kA (ai_look L 0) (fun x => RR S d 21 17 L (x :: st) h Q) := RR.lda_n rfl rfl rfl
theorem r21_17 {a : Nat} : RR S d 21 17 L (.ref a :: st) h Q = kO (ai_fld h a 2 4) (fun w => RR S d 21 20 L (w :: st) h Q) := RR.get rfl rfl rfl
theorem r21_20 : RR S d 21 20 L st h Q = kI (ai_look L 1) (fun x => RR S d 21 21 L (.int x :: st) h Q) := RR.ldi_n rfl rfl rfl
theorem r21_21 {x : Int32} {a : Nat} : RR S d 21 21 L (.int x :: .ref a :: st) h Q = kO (ai_arr h a 0) (fun q => kB (ai_in x q.1) (RR S d 21 22 L (.int (q.2 x.toNatClampNeg) :: st) h Q)) := RR.ial rfl rfl
theorem r21_22 {x y : Int32} : RR S d 21 22 L (.int y :: .int x :: st) h Q = RR S d 21 23 L (.int (x + y) :: st) h Q := RR.do1 (23, L, .int (x + y) :: st, h) rfl rfl rfl
theorem r21_23 : RR S d 21 23 L st h Q = RR S d 21 27 L st h Q := RR.jmp (off := 4) rfl (by decide)
theorem r21_26 : RR S d 21 26 L st h Q = RR S d 21 27 L (.int 0 :: st) h Q := RR.icn (n := 0) rfl (by decide) rfl
theorem r21_27 {x : Int32} : RR S d 21 27 L [.int x] h Q = Q (some (.int x)) h := RR.rt rfl rfl rfl
theorem r22_0 : RR S d 22 0 L st h Q = kA (ai_look L 0) (fun x => RR S d 22 1 L (x :: st) h Q) := RR.lda_n rfl rfl rfl
theorem r22_1 : RR S d 22 1 L st h Q = kI (ai_look L 1) (fun x => RR S d 22 2 L (.int x :: st) h Q) := RR.ldi_n rfl rfl rfl
theorem r22_2 {p0 : Int32} {a : Nat} : RR S (d + 1) 22 2 L (.int p0 :: .ref a :: st) h Q = kB (decide (ai_sum st ≤ 8)) (kB ((ai_obj h a 2).isSome) (RR S d 15 0 [(0, .ref a), (1, .int p0)] [] h (fun r h1 => RR S (d + 1) 22 5 L (r.toList ++ st) h1 Q))) := RR.cv (j := 47) (mn' := 15) (n := 1) rfl rfl rfl rfl rfl rfl
theorem r22_5 {x : Int32} : RR S d 22 5 L (.int x :: st) h Q = if x = 0 then RR S d 22 35 L st h Q else RR S d 22 8 L st h Q := RR.b1 (c := .eq) (off := 30) rfl rfl (by decide) rfl
theorem r22_8 : RR S d 22 8 L st h Q = kA (ai_look L 0) (fun x => RR S d 22 9 L (x :: st) h Q) := RR.lda_n rfl rfl rfl
theorem r22_9 : RR S d 22 9 L st h Q = kA (ai_look L 0) (fun x => RR S d 22 10 L (x :: st) h Q) := RR.lda_n rfl rfl rfl
theorem r22_10 {a : Nat} : RR S d 22 10 L (.ref a :: st) h Q = kO (ai_fld h a 2 3) (fun w => RR S d 22 13 L (w :: st) h Q) := RR.get rfl rfl rfl
theorem r22_13 : RR S d 22 13 L st h Q = kI (ai_look L 1) (fun x => RR S d 22 14 L (.int x :: st) h Q) := RR.ldi_n rfl rfl rfl
theorem r22_14 {x : Int32} {a : Nat} : RR S d 22 14 L (.int x :: .ref a :: st) h Q = kO (ai_arr h a 0) (fun q => kB (ai_in x q.1) (RR S d 22 15 L (.int (q.2 x.toNatClampNeg) :: st) h Q)) := RR.ial rfl rfl
theorem r22_15 {p0 : Int32} {a : Nat} : RR S (d + 1) 22 15 L (.int p0 :: .ref a :: st) h Q = kB (decide (ai_sum st ≤ 8)) (kB ((ai_obj h a 2).isSome) (RR S d 13 0 [(0, .ref a), (1, .int p0)] [] h (fun r h1 => RR S (d + 1) 22 18 L (r.toList ++ st) h1 Q))) := RR.cv (j := 43) (mn' := 13) (n := 1) rfl rfl rfl rfl rfl rfl
theorem r22_18 {x : Int32} : RR S d 22 18 L (.int x :: st) h Q = if x = 0 then RR S d 22 35 L st h Q else RR S d 22 21 L st h Q := RR.b1 (c := .eq) (off := 17) rfl rfl (by decide) rfl
theorem r22_21 : RR S d 22 21 L st h Q = kA (ai_look L 0) (fun x => RR S d 22 22 L (x :: st) h Q) := RR.lda_n rfl rfl rfl
theorem r22_22 {a : Nat} : RR S d 22 22 L (.ref a :: st) h Q = kO (ai_fld h a 2 0) (fun w => RR S d 22 25 L (w :: st) h Q) := RR.get rfl rfl rfl
theorem r22_25 : RR S d 22 25 L st h Q = kA (ai_look L 0) (fun x => RR S d 22 26 L (x :: st) h Q) := RR.lda_n rfl rfl rfl
theorem r22_26 {a : Nat} : RR S d 22 26 L (.ref a :: st) h Q = kO (ai_fld h a 2 3) (fun w => RR S d 22 29 L (w :: st) h Q) := RR.get rfl rfl rfl
theorem r22_29 : RR S d 22 29 L st h Q = kI (ai_look L 1) (fun x => RR S d 22 30 L (.int x :: st) h Q) := RR.ldi_n rfl rfl rfl
theorem r22_30 {x : Int32} {a : Nat} : RR S d 22 30 L (.int x :: .ref a :: st) h Q = kO (ai_arr h a 0) (fun q => kB (ai_in x q.1) (RR S d 22 31 L (.int (q.2 x.toNatClampNeg) :: st) h Q)) := RR.ial rfl rfl
theorem r22_31 {x : Int32} {a : Nat} : RR S d 22 31 L (.int x :: .ref a :: st) h Q = kO (ai_arr h a 0) (fun q => kB (ai_in x q.1) (RR S d 22 32 L (.int (q.2 x.toNatClampNeg) :: st) h Q)) := RR.ial rfl rfl
theorem r22_32 : RR S d 22 32 L st h Q = RR S d 22 36 L st h Q := RR.jmp (off := 4) rfl (by decide)
theorem r22_35 : RR S d 22 35 L st h Q = RR S d 22 36 L (.int 0 :: st) h Q := RR.icn (n := 0) rfl (by decide) rfl
theorem r22_36 {x : Int32} : RR S d 22 36 L [.int x] h Q = Q (some (.int x)) h := RR.rt rfl rfl rfl
theorem r23_0 : RR S d 23 0 L st h Q = kA (ai_look L 0) (fun x => RR S d 23 1 L (x :: st) h Q) := RR.lda_n rfl rfl rfl
theorem r23_1 : RR S d 23 1 L st h Q = kI (ai_look L 1) (fun x => RR S d 23 2 L (.int x :: st) h Q) := RR.ldi_n rfl rfl rfl
theorem r23_2 {p0 : Int32} {a : Nat} : RR S (d + 1) 23 2 L (.int p0 :: .ref a :: st) h Q = kB (decide (ai_sum st ≤ 8)) (kB ((ai_obj h a 2).isSome) (RR S d 15 0 [(0, .ref a), (1, .int p0)] [] h (fun r h1 => RR S (d + 1) 23 5 L (r.toList ++ st) h1 Q))) := RR.cv (j := 47) (mn' := 15) (n := 1) rfl rfl rfl rfl rfl rfl
theorem r23_5 {x : Int32} : RR S d 23 5 L (.int x :: st) h Q = if x = 0 then RR S d 23 42 L st h Q else RR S d 23 8 L st h Q := RR.b1 (c := .eq) (off := 37) rfl rfl (by decide) rfl
theorem r23_8 : RR S d 23 8 L st h Q = kA (ai_look L 0) (fun x => RR S d 23 9 L (x :: st) h Q) := RR.lda_n rfl rfl rfl
theorem r23_9 : RR S d 23 9 L st h Q = kA (ai_look L 0) (fun x => RR S d 23 10 L (x :: st) h Q) := RR.lda_n rfl rfl rfl
theorem r23_10 {a : Nat} : RR S d 23 10 L (.ref a :: st) h Q = kO (ai_fld h a 2 3) (fun w => RR S d 23 13 L (w :: st) h Q) := RR.get rfl rfl rfl
theorem r23_13 : RR S d 23 13 L st h Q = kI (ai_look L 1) (fun x => RR S d 23 14 L (.int x :: st) h Q) := RR.ldi_n rfl rfl rfl
theorem r23_14 {x : Int32} {a : Nat} : RR S d 23 14 L (.int x :: .ref a :: st) h Q = kO (ai_arr h a 0) (fun q => kB (ai_in x q.1) (RR S d 23 15 L (.int (q.2 x.toNatClampNeg) :: st) h Q)) := RR.ial rfl rfl
theorem r23_15 {p0 : Int32} {a : Nat} : RR S (d + 1) 23 15 L (.int p0 :: .ref a :: st) h Q = kB (decide (ai_sum st ≤ 8)) (kB ((ai_obj h a 2).isSome) (RR S d 13 0 [(0, .ref a), (1, .int p0)] [] h (fun r h1 => RR S (d + 1) 23 18 L (r.toList ++ st) h1 Q))) := RR.cv (j := 43) (mn' := 13) (n := 1) rfl rfl rfl rfl rfl rfl
theorem r23_18 {x : Int32} : RR S d 23 18 L (.int x :: st) h Q = if x = 0 then RR S d 23 42 L st h Q else RR S d 23 21 L st h Q := RR.b1 (c := .eq) (off := 24) rfl rfl (by decide) rfl
theorem r23_21 : RR S d 23 21 L st h Q = kA (ai_look L 0) (fun x => RR S d 23 22 L (x :: st) h Q) := RR.lda_n rfl rfl rfl
theorem r23_22 {a : Nat} : RR S d 23 22 L (.ref a :: st) h Q = kO (ai_fld h a 2 0) (fun w => RR S d 23 25 L (w :: st) h Q) := RR.get rfl rfl rfl
theorem r23_25 : RR S d 23 25 L st h Q = kA (ai_look L 0) (fun x => RR S d 23 26 L (x :: st) h Q) := RR.lda_n rfl rfl rfl
theorem r23_26 {a : Nat} : RR S d 23 26 L (.ref a :: st) h Q = kO (ai_fld h a 2 3) (fun w => RR S d 23 29 L (w :: st) h Q) := RR.get rfl rfl rfl
theorem r23_29 : RR S d 23 29 L st h Q = kI (ai_look L 1) (fun x => RR S d 23 30 L (.int x :: st) h Q) := RR.ldi_n rfl rfl rfl
theorem r23_30 {x : Int32} {a : Nat} : RR S d 23 30 L (.int x :: .ref a :: st) h Q = kO (ai_arr h a 0) (fun q => kB (ai_in x q.1) (RR S d 23 31 L (.int (q.2 x.toNatClampNeg) :: st) h Q)) := RR.ial rfl rfl
theorem r23_31 {x : Int32} {a : Nat} : RR S d 23 31 L (.int x :: .ref a :: st) h Q = kO (ai_arr h a 0) (fun q => kB (ai_in x q.1) (RR S d 23 32 L (.int (q.2 x.toNatClampNeg) :: st) h Q)) := RR.ial rfl rfl
theorem r23_32 : RR S d 23 32 L st h Q = RR S d 23 33 L (.int 2 :: st) h Q := RR.icn (n := 2) rfl (by decide) rfl
theorem r23_33 : RR S d 23 33 L st h Q = kA (ai_look L 0) (fun x => RR S d 23 34 L (x :: st) h Q) := RR.lda_n rfl rfl rfl
theorem r23_34 {a : Nat} : RR S d 23 34 L (.ref a :: st) h Q = kO (ai_fld h a 2 9) (fun w => RR S d 23 37 L (w :: st) h Q) := RR.get rfl rfl rfl
theorem r23_37 {x y : Int32} : RR S d 23 37 L (.int y :: .int x :: st) h Q = RR S d 23 38 L (.int (x * y) :: st) h Q := RR.do1 (38, L, .int (x * y) :: st, h) rfl rfl rfl
theorem r23_38 {x y : Int32} : RR S d 23 38 L (.int y :: .int x :: st) h Q = RR S d 23 39 L (.int (x + y) :: st) h Q := RR.do1 (39, L, .int (x + y) :: st, h) rfl rfl rfl
theorem r23_39 : RR S d 23 39 L st h Q = RR S d 23 43 L st h Q := RR.jmp (off := 4) rfl (by decide)
theorem r23_42 : RR S d 23 42 L st h Q = RR S d 23 43 L (.int 0 :: st) h Q := RR.icn (n := 0) rfl (by decide) rfl
theorem r23_43 {x : Int32} : RR S d 23 43 L [.int x] h Q = Q (some (.int x)) h := RR.rt rfl rfl rfl
theorem r24_0 : RR S d 24 0 L st h Q = kA (ai_look L 0) (fun x => RR S d 24 1 L (x :: st) h Q) := RR.lda_n rfl rfl rfl
theorem r24_1 : RR S d 24 1 L st h Q = kI (ai_look L 1) (fun x => RR S d 24 2 L (.int x :: st) h Q) := RR.ldi_n rfl rfl rfl
theorem r24_2 {p0 : Int32} {a : Nat} : RR S (d + 1) 24 2 L (.int p0 :: .ref a :: st) h Q = kB (decide (ai_sum st ≤ 8)) (kB ((ai_obj h a 2).isSome) (RR S d 15 0 [(0, .ref a), (1, .int p0)] [] h (fun r h1 => RR S (d + 1) 24 5 L (r.toList ++ st) h1 Q))) := RR.cv (j := 47) (mn' := 15) (n := 1) rfl rfl rfl rfl rfl rfl
theorem r24_5 {x : Int32} : RR S d 24 5 L (.int x :: st) h Q = if x = 0 then RR S d 24 35 L st h Q else RR S d 24 8 L st h Q := RR.b1 (c := .eq) (off := 30) rfl rfl (by decide) rfl
theorem r24_8 : RR S d 24 8 L st h Q = kA (ai_look L 0) (fun x => RR S d 24 9 L (x :: st) h Q) := RR.lda_n rfl rfl rfl
theorem r24_9 : RR S d 24 9 L st h Q = kA (ai_look L 0) (fun x => RR S d 24 10 L (x :: st) h Q) := RR.lda_n rfl rfl rfl
theorem r24_10 {a : Nat} : RR S d 24 10 L (.ref a :: st) h Q = kO (ai_fld h a 2 2) (fun w => RR S d 24 13 L (w :: st) h Q) := RR.get rfl rfl rfl
theorem r24_13 : RR S d 24 13 L st h Q = kI (ai_look L 1) (fun x => RR S d 24 14 L (.int x :: st) h Q) := RR.ldi_n rfl rfl rfl
theorem r24_14 {x : Int32} {a : Nat} : RR S d 24 14 L (.int x :: .ref a :: st) h Q = kO (ai_arr h a 0) (fun q => kB (ai_in x q.1) (RR S d 24 15 L (.int (q.2 x.toNatClampNeg) :: st) h Q)) := RR.ial rfl rfl
theorem r24_15 {p0 : Int32} {a : Nat} : RR S (d + 1) 24 15 L (.int p0 :: .ref a :: st) h Q = kB (decide (ai_sum st ≤ 8)) (kB ((ai_obj h a 2).isSome) (RR S d 13 0 [(0, .ref a), (1, .int p0)] [] h (fun r h1 => RR S (d + 1) 24 18 L (r.toList ++ st) h1 Q))) := RR.cv (j := 43) (mn' := 13) (n := 1) rfl rfl rfl rfl rfl rfl
theorem r24_18 {x : Int32} : RR S d 24 18 L (.int x :: st) h Q = if x = 0 then RR S d 24 35 L st h Q else RR S d 24 21 L st h Q := RR.b1 (c := .eq) (off := 17) rfl rfl (by decide) rfl
theorem r24_21 : RR S d 24 21 L st h Q = kA (ai_look L 0) (fun x => RR S d 24 22 L (x :: st) h Q) := RR.lda_n rfl rfl rfl
theorem r24_22 {a : Nat} : RR S d 24 22 L (.ref a :: st) h Q = kO (ai_fld h a 2 1) (fun w => RR S d 24 25 L (w :: st) h Q) := RR.get rfl rfl rfl
theorem r24_25 : RR S d 24 25 L st h Q = kA (ai_look L 0) (fun x => RR S d 24 26 L (x :: st) h Q) := RR.lda_n rfl rfl rfl
theorem r24_26 {a : Nat} : RR S d 24 26 L (.ref a :: st) h Q = kO (ai_fld h a 2 2) (fun w => RR S d 24 29 L (w :: st) h Q) := RR.get rfl rfl rfl
theorem r24_29 : RR S d 24 29 L st h Q = kI (ai_look L 1) (fun x => RR S d 24 30 L (.int x :: st) h Q) := RR.ldi_n rfl rfl rfl
theorem r24_30 {x : Int32} {a : Nat} : RR S d 24 30 L (.int x :: .ref a :: st) h Q = kO (ai_arr h a 0) (fun q => kB (ai_in x q.1) (RR S d 24 31 L (.int (q.2 x.toNatClampNeg) :: st) h Q)) := RR.ial rfl rfl
theorem r24_31 {x : Int32} {a : Nat} : RR S d 24 31 L (.int x :: .ref a :: st) h Q = kO (ai_arr h a 0) (fun q => kB (ai_in x q.1) (RR S d 24 32 L (.int (q.2 x.toNatClampNeg) :: st) h Q)) := RR.ial rfl rfl
theorem r24_32 : RR S d 24 32 L st h Q = RR S d 24 36 L st h Q := RR.jmp (off := 4) rfl (by decide)
theorem r24_35 : RR S d 24 35 L st h Q = RR S d 24 36 L (.int 0 :: st) h Q := RR.icn (n := 0) rfl (by decide) rfl
theorem r24_36 {x : Int32} : RR S d 24 36 L [.int x] h Q = Q (some (.int x)) h := RR.rt rfl rfl rfl
theorem r25_0 : RR S d 25 0 L st h Q = kA (ai_look L 1) (fun x => RR S d 25 1 L (x :: st) h Q) := RR.lda_n rfl rfl rfl
theorem r25_1 {a : Nat} : RR S d 25 1 L (.ref a :: st) h Q = kO (ai_fld h a 6 5) (fun w => RR S d 25 4 L (w :: st) h Q) := RR.get rfl rfl rfl
theorem r25_4 {x : Int32} : RR S d 25 4 L (.int x :: st) h Q = RR S d 25 5 (ai_put 3 (.int x) L) st h Q := RR.do1 (5, ai_put 3 (.int x) L, st, h) rfl rfl rfl
theorem r25_5 : RR S d 25 5 L st h Q = RR S d 25 6 L (.int 0 :: st) h Q := RR.icn (n := 0) rfl (by decide) rfl
theorem r25_6 {x : Int32} : RR S d 25 6 L (.int x :: st) h Q = RR S d 25 8 (ai_put 4 (.int x) L) st h Q := RR.do1 (8, ai_put 4 (.int x) L, st, h) rfl rfl rfl
theorem r25_8 : RR S d 25 8 L st h Q = kI (ai_look L 4) (fun x => RR S d 25 10 L (.int x :: st) h Q) := RR.ldi rfl rfl
theorem r25_10 : RR S d 25 10 L st h Q = kI (ai_look L 2) (fun x => RR S d 25 11 L (.int x :: st) h Q) := RR.ldi_n rfl rfl rfl
theorem r25_11 {x y : Int32} : RR S d 25 11 L (.int y :: .int x :: st) h Q = if y ≤ x then RR S d 25 57 L st h Q else RR S d 25 14 L st h Q := RR.b2 (c := .ge) (off := 46) rfl rfl (by decide) rfl
theorem r25_14 : RR S d 25 14 L st h Q = kI (ai_look L 4) (fun x => RR S d 25 16 L (.int x :: st) h Q) := RR.ldi rfl rfl
theorem r25_16 : RR S d 25 16 L st h Q = RR S d 25 17 L (.int 4 :: st) h Q := RR.icn (n := 4) rfl (by decide) rfl
theorem r25_17 {x y : Int32} : RR S d 25 17 L (.int y :: .int x :: st) h Q = if y ≤ x then RR S d 25 57 L st h Q else RR S d 25 20 L st h Q := RR.b2 (c := .ge) (off := 40) rfl rfl (by decide) rfl
theorem r25_20 : RR S d 25 20 L st h Q = kA (ai_look L 1) (fun x => RR S d 25 21 L (x :: st) h Q) := RR.lda_n rfl rfl rfl
theorem r25_21 {a : Nat} : RR S (d + 1) 25 21 L (.ref a :: st) h Q = kB (decide (ai_sum st ≤ 8)) (kB ((ai_obj h a 6).isSome) (RR S d 63 0 [(0, .ref a)] [] h (fun r h1 => RR S (d + 1) 25 24 L (r.toList ++ st) h1 Q))) := RR.cv (j := 55) (mn' := 63) (n := 0) rfl rfl rfl rfl rfl rfl
theorem r25_24 : RR S d 25 24 L st h Q = kI (ai_look L 4) (fun x => RR S d 25 26 L (.int x :: st) h Q) := RR.ldi rfl rfl
theorem r25_26 {p0 : Int32} {p1 : Int32} : RR S (d + 1) 25 26 L (.int p1 :: .int p0 :: st) h Q = kB (decide (ai_sum st ≤ 8)) (RR S d 73 0 [(0, .int p0), (1, .int p1)] [] h (fun r h1 => RR S (d + 1) 25 29 L (r.toList ++ st) h1 Q)) := RR.cs (j := 59) (mn' := 73) (n := 2) rfl rfl rfl rfl (by simp) rfl rfl
theorem r25_29 {x : Int32} : RR S d 25 29 L (.int x :: st) h Q = RR S d 25 31 (ai_put 5 (.int x) L) st h Q := RR.do1 (31, ai_put 5 (.int x) L, st, h) rfl rfl rfl
theorem r25_31 : RR S d 25 31 L st h Q = kI (ai_look L 3) (fun x => RR S d 25 32 L (.int x :: st) h Q) := RR.ldi_n rfl rfl rfl
theorem r25_32 : RR S d 25 32 L st h Q = kA (ai_look L 0) (fun x => RR S d 25 33 L (x :: st) h Q) := RR.lda_n rfl rfl rfl
theorem r25_33 : RR S d 25 33 L st h Q = kI (ai_look L 5) (fun x => RR S d 25 35 L (.int x :: st) h Q) := RR.ldi rfl rfl
theorem r25_35 : RR S d 25 35 L st h Q = kA (ai_look L 1) (fun x => RR S d 25 36 L (x :: st) h Q) := RR.lda_n rfl rfl rfl
theorem r25_36 {a : Nat} : RR S d 25 36 L (.ref a :: st) h Q = kO (ai_fld h a 6 0) (fun w => RR S d 25 39 L (w :: st) h Q) := RR.get rfl rfl rfl
theorem r25_39 {p0 : Int32} {p1 : Int32} {a : Nat} : RR S (d + 1) 25 39 L (.int p1 :: .int p0 :: .ref a :: st) h Q = kB (decide (ai_sum st ≤ 8)) (kB ((ai_obj h a 2).isSome) (RR S d 21 0 [(0, .ref a), (1, .int p0), (2, .int p1)] [] h (fun r h1 => RR S (d + 1) 25 42 L (r.toList ++ st) h1 Q))) := RR.cv (j := 68) (mn' := 21) (n := 2) rfl rfl rfl rfl rfl rfl
theorem r25_42 : RR S d 25 42 L st h Q = kA (ai_look L 0) (fun x => RR S d 25 43 L (x :: st) h Q) := RR.lda_n rfl rfl rfl
theorem r25_43 : RR S d 25 43 L st h Q = kI (ai_look L 5) (fun x => RR S d 25 45 L (.int x :: st) h Q) := RR.ldi rfl rfl
theorem r25_45 {p0 : Int32} {a : Nat} : RR S (d + 1) 25 45 L (.int p0 :: .ref a :: st) h Q = kB (decide (ai_sum st ≤ 8)) (kB ((ai_obj h a 2).isSome) (RR S d 23 0 [(0, .ref a), (1, .int p0)] [] h (fun r h1 => RR S (d + 1) 25 48 L (r.toList ++ st) h1 Q))) := RR.cv (j := 71) (mn' := 23) (n := 1) rfl rfl rfl rfl rfl rfl
theorem r25_48 {x y : Int32} : RR S d 25 48 L (.int y :: .int x :: st) h Q = RR S d 25 49 L (.int (x + y) :: st) h Q := RR.do1 (49, L, .int (x + y) :: st, h) rfl rfl rfl
theorem r25_49 {x y : Int32} : RR S d 25 49 L (.int y :: .int x :: st) h Q = RR S d 25 50 L (.int (x + y) :: st) h Q := RR.do1 (50, L, .int (x + y) :: st, h) rfl rfl rfl
theorem r25_50 {x : Int32} : RR S d 25 50 L (.int x :: st) h Q = RR S d 25 51 (ai_put 3 (.int x) L) st h Q := RR.do1 (51, ai_put 3 (.int x) L, st, h) rfl rfl rfl
theorem r25_51 : RR S d 25 51 L st h Q = kI (ai_look L 4) (fun x => RR S d 25 54 (ai_put 4 (.int (x + 1)) L) st h Q) := RR.iinc (k := 4) (n := 1) rfl (by decide) (by decide) rfl
theorem r25_54 : RR S d 25 54 L st h Q = RR S d 25 8 L st h Q := RR.jmp (off := (-46)) rfl (by decide)
theorem r25_57 : RR S d 25 57 L st h Q = kI (ai_look L 3) (fun x => RR S d 25 58 L (.int x :: st) h Q) := RR.ldi_n rfl rfl rfl
theorem r25_58 {x : Int32} : RR S d 25 58 L [.int x] h Q = Q (some (.int x)) h := RR.rt rfl rfl rfl
theorem r26_0 : RR S d 26 0 L st h Q = kA (ai_look L 0) (fun x => RR S d 26 1 L (x :: st) h Q) := RR.lda_n rfl rfl rfl
theorem r26_1 : RR S d 26 1 L st h Q = kA (ai_look L 1) (fun x => RR S d 26 2 L (x :: st) h Q) := RR.lda_n rfl rfl rfl
theorem r26_2 : RR S d 26 2 L st h Q = kI (ai_look L 3) (fun x => RR S d 26 3 L (.int x :: st) h Q) := RR.ldi_n rfl rfl rfl
theorem r26_3 {p0 : Nat} {p1 : Int32} {a : Nat} : RR S (d + 1) 26 3 L (.int p1 :: .ref p0 :: .ref a :: st) h Q = kB (decide (ai_sum st ≤ 8)) (kB ((ai_obj h a 2).isSome) (RR S d 25 0 [(0, .ref a), (1, .ref p0), (2, .int p1)] [] h (fun r h1 => RR S (d + 1) 26 6 L (r.toList ++ st) h1 Q))) := RR.cv (j := 75) (mn' := 25) (n := 2) rfl rfl rfl rfl rfl rfl
theorem r26_6 : RR S d 26 6 L st h Q = kI (ai_look L 2) (fun x => RR S d 26 7 L (.int x :: st) h Q) := RR.ldi_n rfl rfl rfl
theorem r26_7 : RR S d 26 7 L st h Q = kA (ai_look L 1) (fun x => RR S d 26 8 L (x :: st) h Q) := RR.lda_n rfl rfl rfl
theorem r26_8 {a : Nat} : RR S d 26 8 L (.ref a :: st) h Q = kO (ai_fld h a 6 1) (fun w => RR S d 26 11 L (w :: st) h Q) := RR.get rfl rfl rfl
theorem r26_11 {x y : Int32} : RR S d 26 11 L (.int y :: .int x :: st) h Q = RR S d 26 12 L (.int (x * y) :: st) h Q := RR.do1 (12, L, .int (x * y) :: st, h) rfl rfl rfl
theorem r26_12 {x y : Int32} : RR S d 26 12 L (.int y :: .int x :: st) h Q = RR S d 26 13 L (.int (x + y) :: st) h Q := RR.do1 (13, L, .int (x + y) :: st, h) rfl rfl rfl
theorem r26_13 : RR S d 26 13 L st h Q = kA (ai_look L 0) (fun x => RR S d 26 14 L (x :: st) h Q) := RR.lda_n rfl rfl rfl
theorem r26_14 : RR S d 26 14 L st h Q = kA (ai_look L 1) (fun x => RR S d 26 15 L (x :: st) h Q) := RR.lda_n rfl rfl rfl
theorem r26_15 {a : Nat} : RR S (d + 1) 26 15 L (.ref a :: st) h Q = kB (decide (ai_sum st ≤ 8)) (kB ((ai_obj h a 6).isSome) (RR S d 63 0 [(0, .ref a)] [] h (fun r h1 => RR S (d + 1) 26 18 L (r.toList ++ st) h1 Q))) := RR.cv (j := 55) (mn' := 63) (n := 0) rfl rfl rfl rfl rfl rfl
theorem r26_18 : RR S d 26 18 L st h Q = kI (ai_look L 3) (fun x => RR S d 26 19 L (.int x :: st) h Q) := RR.ldi_n rfl rfl rfl
theorem r26_19 {p0 : Int32} {p1 : Int32} : RR S (d + 1) 26 19 L (.int p1 :: .int p0 :: st) h Q = kB (decide (ai_sum st ≤ 8)) (RR S d 73 0 [(0, .int p0), (1, .int p1)] [] h (fun r h1 => RR S (d + 1) 26 22 L (r.toList ++ st) h1 Q)) := RR.cs (j := 59) (mn' := 73) (n := 2) rfl rfl rfl rfl (by simp) rfl rfl
theorem r26_22 {p0 : Int32} {a : Nat} : RR S (d + 1) 26 22 L (.int p0 :: .ref a :: st) h Q = kB (decide (ai_sum st ≤ 8)) (kB ((ai_obj h a 2).isSome) (RR S d 24 0 [(0, .ref a), (1, .int p0)] [] h (fun r h1 => RR S (d + 1) 26 25 L (r.toList ++ st) h1 Q))) := RR.cv (j := 82) (mn' := 24) (n := 1) rfl rfl rfl rfl rfl rfl
theorem r26_25 {x y : Int32} : RR S d 26 25 L (.int y :: .int x :: st) h Q = RR S d 26 26 L (.int (x + y) :: st) h Q := RR.do1 (26, L, .int (x + y) :: st, h) rfl rfl rfl
theorem r26_26 {x : Int32} : RR S d 26 26 L [.int x] h Q = Q (some (.int x)) h := RR.rt rfl rfl rfl
theorem r27_0 : RR S d 27 0 L st h Q = kA (ai_look L 1) (fun x => RR S d 27 1 L (x :: st) h Q) := RR.lda_n rfl rfl rfl
theorem r27_1 {a : Nat} : RR S (d + 1) 27 1 L (.ref a :: st) h Q = kB (decide (ai_sum st ≤ 8)) (kB ((ai_obj h a 6).isSome) (RR S d 63 0 [(0, .ref a)] [] h (fun r h1 => RR S (d + 1) 27 4 L (r.toList ++ st) h1 Q))) := RR.cv (j := 55) (mn' := 63) (n := 0) rfl rfl rfl rfl rfl rfl
theorem r27_4 : RR S d 27 4 L st h Q = kI (ai_look L 2) (fun x => RR S d 27 5 L (.int x :: st) h Q) := RR.ldi_n rfl rfl rfl
theorem r27_5 {p0 : Int32} {p1 : Int32} : RR S (d + 1) 27 5 L (.int p1 :: .int p0 :: st) h Q = kB (decide (ai_sum st ≤ 8)) (RR S d 76 0 [(0, .int p0), (1, .int p1)] [] h (fun r h1 => RR S (d + 1) 27 8 L (r.toList ++ st) h1 Q)) := RR.cs (j := 85) (mn' := 76) (n := 2) rfl rfl rfl rfl (by simp) rfl rfl
theorem r27_8 {x : Int32} : RR S d 27 8 L (.int x :: st) h Q = RR S d 27 10 (ai_put 4 (.int x) L) st h Q := RR.do1 (10, ai_put 4 (.int x) L, st, h) rfl rfl rfl
theorem r27_10 : RR S d 27 10 L st h Q = kI (ai_look L 4) (fun x => RR S d 27 12 L (.int x :: st) h Q) := RR.ldi rfl rfl
theorem r27_12 : RR S d 27 12 L st h Q = RR S d 27 13 L (.int (-1) :: st) h Q := RR.icn (n := (-1)) rfl (by decide) rfl
theorem r27_13 {x y : Int32} : RR S d 27 13 L (.int y :: .int x :: st) h Q = if x = y then RR S d 27 48 L st h Q else RR S d 27 16 L st h Q := RR.b2 (c := .eq) (off := 35) rfl rfl (by decide) rfl
theorem r27_16 : RR S d 27 16 L st h Q = kI (ai_look L 3) (fun x => RR S d 27 17 L (.int x :: st) h Q) := RR.ldi_n rfl rfl rfl
theorem r27_17 : RR S d 27 17 L st h Q = kA (ai_look L 0) (fun x => RR S d 27 18 L (x :: st) h Q) := RR.lda_n rfl rfl rfl
theorem r27_18 : RR S d 27 18 L st h Q = kA (ai_look L 1) (fun x => RR S d 27 19 L (x :: st) h Q) := RR.lda_n rfl rfl rfl
theorem r27_19 : RR S d 27 19 L st h Q = kI (ai_look L 4) (fun x => RR S d 27 21 L (.int x :: st) h Q) := RR.ldi rfl rfl
theorem r27_21 {p0 : Nat} {p1 : Int32} {a : Nat} : RR S (d + 1) 27 21 L (.int p1 :: .ref p0 :: .ref a :: st) h Q = kB (decide (ai_sum st ≤ 8)) (kB ((ai_obj h a 2).isSome) (RR S d 25 0 [(0, .ref a), (1, .ref p0), (2, .int p1)] [] h (fun r h1 => RR S (d + 1) 27 24 L (r.toList ++ st) h1 Q))) := RR.cv (j := 75) (mn' := 25) (n := 2) rfl rfl rfl rfl rfl rfl
theorem r27_24 {x y : Int32} : RR S d 27 24 L (.int y :: .int x :: st) h Q = RR S d 27 25 L (.int (x - y) :: st) h Q := RR.do1 (25, L, .int (x - y) :: st, h) rfl rfl rfl
theorem r27_25 : RR S d 27 25 L st h Q = kA (ai_look L 1) (fun x => RR S d 27 26 L (x :: st) h Q) := RR.lda_n rfl rfl rfl
theorem r27_26 {a : Nat} : RR S d 27 26 L (.ref a :: st) h Q = kO (ai_fld h a 6 1) (fun w => RR S d 27 29 L (w :: st) h Q) := RR.get rfl rfl rfl
theorem r27_29 {p0 : Int32} {p1 : Int32} : RR S (d + 1) 27 29 L (.int p1 :: .int p0 :: st) h Q = kB (decide (ai_sum st ≤ 8)) (RR S d 162 0 [(0, .int p0), (1, .int p1)] [] h (fun r h1 => RR S (d + 1) 27 32 L (r.toList ++ st) h1 Q)) := RR.cs (j := 88) (mn' := 162) (n := 2) rfl rfl rfl rfl (by simp) rfl rfl
theorem r27_32 : RR S d 27 32 L st h Q = kA (ai_look L 0) (fun x => RR S d 27 33 L (x :: st) h Q) := RR.lda_n rfl rfl rfl
theorem r27_33 : RR S d 27 33 L st h Q = kI (ai_look L 2) (fun x => RR S d 27 34 L (.int x :: st) h Q) := RR.ldi_n rfl rfl rfl
theorem r27_34 : RR S d 27 34 L st h Q = kA (ai_look L 1) (fun x => RR S d 27 35 L (x :: st) h Q) := RR.lda_n rfl rfl rfl
theorem r27_35 {a : Nat} : RR S d 27 35 L (.ref a :: st) h Q = kO (ai_fld h a 6 0) (fun w => RR S d 27 38 L (w :: st) h Q) := RR.get rfl rfl rfl
theorem r27_38 {p0 : Int32} {p1 : Int32} {a : Nat} : RR S (d + 1) 27 38 L (.int p1 :: .int p0 :: .ref a :: st) h Q = kB (decide (ai_sum st ≤ 8)) (kB ((ai_obj h a 2).isSome) (RR S d 20 0 [(0, .ref a), (1, .int p0), (2, .int p1)] [] h (fun r h1 => RR S (d + 1) 27 41 L (r.toList ++ st) h1 Q))) := RR.cv (j := 93) (mn' := 20) (n := 2) rfl rfl rfl rfl rfl rfl
theorem r27_41 {x y : Int32} : RR S d 27 41 L (.int y :: .int x :: st) h Q = if y ≤ x then RR S d 27 48 L st h Q else RR S d 27 44 L st h Q := RR.b2 (c := .ge) (off := 7) rfl rfl (by decide) rfl
theorem r27_44 : RR S d 27 44 L st h Q = RR S d 27 45 L (.int 1 :: st) h Q := RR.icn (n := 1) rfl (by decide) rfl
theorem r27_45 : RR S d 27 45 L st h Q = RR S d 27 49 L st h Q := RR.jmp (off := 4) rfl (by decide)
theorem r27_48 : RR S d 27 48 L st h Q = RR S d 27 49 L (.int 0 :: st) h Q := RR.icn (n := 0) rfl (by decide) rfl
theorem r27_49f : RR S d 27 49 L [.int 0] h Q = Q (some (.int 0)) h := RR.zrt rfl rfl (by decide)
theorem r27_49t : RR S d 27 49 L [.int 1] h Q = Q (some (.int 1)) h := RR.zrt rfl rfl (by decide)
theorem r28_0 : RR S d 28 0 L st h Q = kA (ai_look L 0) (fun x => RR S d 28 1 L (x :: st) h Q) := RR.lda_n rfl rfl rfl
theorem r28_1 {a : Nat} : RR S d 28 1 L (.ref a :: st) h Q = kB (decide (ai_sum st ≤ 8)) (RR S d 28 4 L st h Q) := RR.oin (j := 3) rfl rfl rfl
theorem r28_4 : RR S d 28 4 L st h Q = kA (ai_look L 0) (fun x => RR S d 28 5 L (x :: st) h Q) := RR.lda_n rfl rfl rfl
theorem r28_5 : RR S d 28 5 L st h Q = RR S d 28 7 L (.int 8 :: st) h Q := RR.bip (n := 8) rfl (by decide) rfl
theorem r28_7 {n : Int32} : RR S d 28 7 L (.int n :: st) h Q = kB (decide (¬ n < 0) && decide (n.toNatClampNeg ≤ 100000)) (RR S d 28 10 L (.ref h.1.length :: st) (h.1 ++ [.inl (3, n.toNatClampNeg, .inr (fun _ => none))], h.2 + n.toNatClampNeg) Q) := RR.newq rfl rfl rfl rfl
theorem r28_10 {x : Nat} {a : Nat} : RR S d 28 10 L (.ref x :: .ref a :: st) h Q = kO (ai_obj h a 3) (fun fs => kB (decide (2 < fs.length)) (RR S d 28 13 L st (h.1.set a (.inr (3, fs.set 2 (.ref x))), h.2) Q)) := RR.put rfl rfl (ai_okp_r (by decide +kernel)) rfl
theorem r28_13 : RR S d 28 13 L st h Q = kA (ai_look L 0) (fun x => RR S d 28 14 L (x :: st) h Q) := RR.lda_n rfl rfl rfl
theorem r28_14 : RR S d 28 14 L st h Q = RR S d 28 16 L (.int 8 :: st) h Q := RR.bip (n := 8) rfl (by decide) rfl
theorem r28_16 {n : Int32} : RR S d 28 16 L (.int n :: st) h Q = kB (decide (¬ n < 0) && decide (n.toNatClampNeg ≤ 100000)) (RR S d 28 19 L (.ref h.1.length :: st) (h.1 ++ [.inl (2, n.toNatClampNeg, .inr (fun _ => none))], h.2 + n.toNatClampNeg) Q) := RR.newq rfl rfl rfl rfl
theorem r28_19 {x : Nat} {a : Nat} : RR S d 28 19 L (.ref x :: .ref a :: st) h Q = kO (ai_obj h a 3) (fun fs => kB (decide (3 < fs.length)) (RR S d 28 22 L st (h.1.set a (.inr (3, fs.set 3 (.ref x))), h.2) Q)) := RR.put rfl rfl (ai_okp_r (by decide +kernel)) rfl
theorem r28_22 : RR S d 28 22 L st h Q = kA (ai_look L 0) (fun x => RR S d 28 23 L (x :: st) h Q) := RR.lda_n rfl rfl rfl
theorem r28_23 : RR S d 28 23 L st h Q = RR S d 28 25 L (.int 8 :: st) h Q := RR.bip (n := 8) rfl (by decide) rfl
theorem r28_25 {n : Int32} : RR S d 28 25 L (.int n :: st) h Q = kB (decide (¬ n < 0) && decide (n.toNatClampNeg ≤ 100000)) (RR S d 28 27 L (.ref h.1.length :: st) (h.1 ++ [.inl (0, n.toNatClampNeg, .inl (fun _ => 0))], h.2 + n.toNatClampNeg) Q) := RR.newa0 rfl rfl
theorem r28_27 {x : Nat} {a : Nat} : RR S d 28 27 L (.ref x :: .ref a :: st) h Q = kO (ai_obj h a 3) (fun fs => kB (decide (4 < fs.length)) (RR S d 28 30 L st (h.1.set a (.inr (3, fs.set 4 (.ref x))), h.2) Q)) := RR.put rfl rfl (ai_okp_r (by decide +kernel)) rfl
theorem r28_30 : RR S d 28 30 L st h Q = kA (ai_look L 0) (fun x => RR S d 28 31 L (x :: st) h Q) := RR.lda_n rfl rfl rfl
theorem r28_31 : RR S d 28 31 L st h Q = RR S d 28 33 L (.int 8 :: st) h Q := RR.bip (n := 8) rfl (by decide) rfl
theorem r28_33 {n : Int32} : RR S d 28 33 L (.int n :: st) h Q = kB (decide (¬ n < 0) && decide (n.toNatClampNeg ≤ 100000)) (RR S d 28 35 L (.ref h.1.length :: st) (h.1 ++ [.inl (0, n.toNatClampNeg, .inl (fun _ => 0))], h.2 + n.toNatClampNeg) Q) := RR.newa0 rfl rfl
theorem r28_35 {x : Nat} {a : Nat} : RR S d 28 35 L (.ref x :: .ref a :: st) h Q = kO (ai_obj h a 3) (fun fs => kB (decide (5 < fs.length)) (RR S d 28 38 L st (h.1.set a (.inr (3, fs.set 5 (.ref x))), h.2) Q)) := RR.put rfl rfl (ai_okp_r (by decide +kernel)) rfl
theorem r28_38 : RR S d 28 38 L st h Q = kA (ai_look L 0) (fun x => RR S d 28 39 L (x :: st) h Q) := RR.lda_n rfl rfl rfl
theorem r28_39 : RR S d 28 39 L st h Q = RR S d 28 40 L (.int 0 :: st) h Q := RR.icn (n := 0) rfl (by decide) rfl
theorem r28_40 {x : Int32} {a : Nat} : RR S d 28 40 L (.int x :: .ref a :: st) h Q = kO (ai_obj h a 3) (fun fs => kB (decide (6 < fs.length)) (RR S d 28 43 L st (h.1.set a (.inr (3, fs.set 6 (.int x))), h.2) Q)) := RR.put rfl rfl (ai_okp_i rfl (by decide +kernel)) rfl
theorem r28_43 : RR S d 28 43 L st h Q = kA (ai_look L 0) (fun x => RR S d 28 44 L (x :: st) h Q) := RR.lda_n rfl rfl rfl
theorem r28_44 : RR S d 28 44 L st h Q = RR S d 28 45 L (.int 0 :: st) h Q := RR.icn (n := 0) rfl (by decide) rfl
theorem r28_45 {x : Int32} {a : Nat} : RR S d 28 45 L (.int x :: .ref a :: st) h Q = kO (ai_obj h a 3) (fun fs => kB (decide (7 < fs.length)) (RR S d 28 48 L st (h.1.set a (.inr (3, fs.set 7 (.int x))), h.2) Q)) := RR.put rfl rfl (ai_okp_i rfl (by decide +kernel)) rfl
theorem r28_48 : RR S d 28 48 L st h Q = kA (ai_look L 0) (fun x => RR S d 28 49 L (x :: st) h Q) := RR.lda_n rfl rfl rfl
theorem r28_49 : RR S d 28 49 L st h Q = kA (ai_look L 2) (fun x => RR S d 28 50 L (x :: st) h Q) := RR.lda_n rfl rfl rfl
theorem r28_50 {x : Nat} {a : Nat} : RR S d 28 50 L (.ref x :: .ref a :: st) h Q = kO (ai_obj h a 3) (fun fs => kB (decide (0 < fs.length)) (RR S d 28 53 L st (h.1.set a (.inr (3, fs.set 0 (.ref x))), h.2) Q)) := RR.put rfl rfl (ai_okp_r (by decide +kernel)) rfl
theorem r28_53 : RR S d 28 53 L st h Q = kA (ai_look L 0) (fun x => RR S d 28 54 L (x :: st) h Q) := RR.lda_n rfl rfl rfl
theorem r28_54 : RR S d 28 54 L st h Q = kA (ai_look L 3) (fun x => RR S d 28 55 L (x :: st) h Q) := RR.lda_n rfl rfl rfl
theorem r28_55 {x : Nat} {a : Nat} : RR S d 28 55 L (.ref x :: .ref a :: st) h Q = kO (ai_obj h a 3) (fun fs => kB (decide (1 < fs.length)) (RR S d 28 58 L st (h.1.set a (.inr (3, fs.set 1 (.ref x))), h.2) Q)) := RR.put rfl rfl (ai_okp_r (by decide +kernel)) rfl
theorem r28_58 : RR S d 28 58 L st h Q = RR S d 28 59 L (.int 0 :: st) h Q := RR.icn (n := 0) rfl (by decide) rfl
theorem r28_59 {x : Int32} : RR S d 28 59 L (.int x :: st) h Q = RR S d 28 61 (ai_put 4 (.int x) L) st h Q := RR.do1 (61, ai_put 4 (.int x) L, st, h) rfl rfl rfl
theorem r28_61 : RR S d 28 61 L st h Q = kI (ai_look L 4) (fun x => RR S d 28 63 L (.int x :: st) h Q) := RR.ldi rfl rfl
theorem r28_63 : RR S d 28 63 L st h Q = RR S d 28 65 L (.int 8 :: st) h Q := RR.bip (n := 8) rfl (by decide) rfl
theorem r28_65 {x y : Int32} : RR S d 28 65 L (.int y :: .int x :: st) h Q = if y ≤ x then RR S d 28 89 L st h Q else RR S d 28 68 L st h Q := RR.b2 (c := .ge) (off := 24) rfl rfl (by decide) rfl
theorem r28_68 : RR S d 28 68 L st h Q = kA (ai_look L 0) (fun x => RR S d 28 69 L (x :: st) h Q) := RR.lda_n rfl rfl rfl
theorem r28_69 {a : Nat} : RR S d 28 69 L (.ref a :: st) h Q = kO (ai_fld h a 3 3) (fun w => RR S d 28 72 L (w :: st) h Q) := RR.get rfl rfl rfl
theorem r28_72 : RR S d 28 72 L st h Q = kI (ai_look L 4) (fun x => RR S d 28 74 L (.int x :: st) h Q) := RR.ldi rfl rfl
theorem r28_74 : RR S d 28 74 L st h Q = RR S d 28 77 L (.ref h.1.length :: st) (h.1 ++ [.inr (5, [.null, .long 0, .long 0])], h.2 + 3) Q := RR.do1 (77, L, .ref h.1.length :: st, (h.1 ++ [.inr (5, [.null, .long 0, .long 0])], h.2 + 3)) rfl rfl rfl
theorem r28_77 {v : Value} (hv : v.category = 1) : RR S d 28 77 L (v :: st) h Q = RR S d 28 78 L (v :: v :: st) h Q := RR.dup rfl hv rfl
theorem r28_78 : RR S d 28 78 L st h Q = kA (ai_look L 1) (fun x => RR S d 28 79 L (x :: st) h Q) := RR.lda_n rfl rfl rfl
theorem r28_79 {p0 : Nat} {a : Nat} : RR S (d + 1) 28 79 L (.ref p0 :: .ref a :: st) h Q = kB (decide (ai_sum st ≤ 8)) (RR S d 50 0 [(0, .ref a), (1, .ref p0)] [] h (fun r h1 => RR S (d + 1) 28 82 L (r.toList ++ st) h1 Q)) := RR.ci (j := 45) (mn' := 50) (n := 1) rfl rfl rfl rfl rfl rfl rfl
theorem r28_82n {x : Int32} {a : Nat} : RR S d 28 82 L (.null :: .int x :: .ref a :: st) h Q = kO (ai_arq h a) (fun q => kB (ai_in x q.2.1 && (decide (2 ≤ q.1) && decide (q.1 < 5))) (RR S d 28 83 L st (h.1.set a (.inl (q.1, q.2.1, .inr (va_up q.2.2 x.toNatClampNeg none))), h.2) Q)) := RR.aasn rfl rfl
theorem r28_82 {x : Int32} {a w : Nat} : RR S d 28 82 L (.ref w :: .int x :: .ref a :: st) h Q = kO (ai_arq h a) (fun q => kB (ai_in x q.2.1 && (decide (2 ≤ q.1) && decide (q.1 < 5))) (kO (ai_cno h w) (fun c => kB (decide (ai_ao c = some q.1)) (RR S d 28 83 L st (h.1.set a (.inl (q.1, q.2.1, .inr (va_up q.2.2 x.toNatClampNeg (some w)))), h.2) Q)))) := RR.aasr rfl rfl
theorem r28_83 : RR S d 28 83 L st h Q = kI (ai_look L 4) (fun x => RR S d 28 86 (ai_put 4 (.int (x + 1)) L) st h Q) := RR.iinc (k := 4) (n := 1) rfl (by decide) (by decide) rfl
theorem r28_86 : RR S d 28 86 L st h Q = RR S d 28 61 L st h Q := RR.jmp (off := (-25)) rfl (by decide)
theorem r28_89 : RR S d 28 89 L [] h Q = Q none h := RR.rt rfl rfl rfl
theorem r29_0 : RR S d 29 0 L st h Q = kA (ai_look L 0) (fun x => RR S d 29 1 L (x :: st) h Q) := RR.lda_n rfl rfl rfl
theorem r29_1 : RR S d 29 1 L st h Q = RR S d 29 2 L (.int 0 :: st) h Q := RR.icn (n := 0) rfl (by decide) rfl
theorem r29_2 {x : Int32} {a : Nat} : RR S d 29 2 L (.int x :: .ref a :: st) h Q = kO (ai_obj h a 3) (fun fs => kB (decide (7 < fs.length)) (RR S d 29 5 L st (h.1.set a (.inr (3, fs.set 7 (.int x))), h.2) Q)) := RR.put rfl rfl (ai_okp_i rfl (by decide +kernel)) rfl
theorem r29_5 : RR S d 29 5 L [] h Q = Q none h := RR.rt rfl rfl rfl
theorem r30_0 : RR S d 30 0 L st h Q = kA (ai_look L 0) (fun x => RR S d 30 1 L (x :: st) h Q) := RR.lda_n rfl rfl rfl
theorem r30_1 {a : Nat} : RR S d 30 1 L (.ref a :: st) h Q = kO (ai_fld h a 3 0) (fun w => RR S d 30 4 L (w :: st) h Q) := RR.get rfl rfl rfl
theorem r30_4 {a : Nat} : RR S (d + 1) 30 4 L (.ref a :: st) h Q = kB (decide (ai_sum st ≤ 8)) (kB ((ai_obj h a 7).isSome) (RR S d 69 0 [(0, .ref a)] [] h (fun r h1 => RR S (d + 1) 30 7 L (r.toList ++ st) h1 Q))) := RR.cv (j := 48) (mn' := 69) (n := 0) rfl rfl rfl rfl rfl rfl
theorem r30_7 {x : Int32} : RR S d 30 7 L (.int x :: st) h Q = RR S d 30 8 (ai_put 1 (.int x) L) st h Q := RR.do1 (8, ai_put 1 (.int x) L, st, h) rfl rfl rfl
theorem r30_8 : RR S d 30 8 L st h Q = kA (ai_look L 0) (fun x => RR S d 30 9 L (x :: st) h Q) := RR.lda_n rfl rfl rfl
theorem r30_9 {a : Nat} : RR S d 30 9 L (.ref a :: st) h Q = kO (ai_fld h a 3 0) (fun w => RR S d 30 12 L (w :: st) h Q) := RR.get rfl rfl rfl
theorem r30_12 {a : Nat} : RR S (d + 1) 30 12 L (.ref a :: st) h Q = kB (decide (ai_sum st ≤ 8)) (kB ((ai_obj h a 7).isSome) (RR S d 70 0 [(0, .ref a)] [] h (fun r h1 => RR S (d + 1) 30 15 L (r.toList ++ st) h1 Q))) := RR.cv (j := 54) (mn' := 70) (n := 0) rfl rfl rfl rfl rfl rfl
theorem r30_15 {x : Int32} : RR S d 30 15 L (.int x :: st) h Q = RR S d 30 16 (ai_put 2 (.int x) L) st h Q := RR.do1 (16, ai_put 2 (.int x) L, st, h) rfl rfl rfl
theorem r30_16 : RR S d 30 16 L st h Q = RR S d 30 17 L (.int 0 :: st) h Q := RR.icn (n := 0) rfl (by decide) rfl
theorem r30_17 {x : Int32} : RR S d 30 17 L (.int x :: st) h Q = RR S d 30 18 (ai_put 3 (.int x) L) st h Q := RR.do1 (18, ai_put 3 (.int x) L, st, h) rfl rfl rfl
theorem r30_18 : RR S d 30 18 L st h Q = kI (ai_look L 3) (fun x => RR S d 30 19 L (.int x :: st) h Q) := RR.ldi_n rfl rfl rfl
theorem r30_19 : RR S d 30 19 L st h Q = RR S d 30 20 L (.int 3 :: st) h Q := RR.icn (n := 3) rfl (by decide) rfl
theorem r30_20 {x y : Int32} : RR S d 30 20 L (.int y :: .int x :: st) h Q = if y < x then RR S d 30 101 L st h Q else RR S d 30 23 L st h Q := RR.b2 (c := .gt) (off := 81) rfl rfl (by decide) rfl
theorem r30_23 : RR S d 30 23 L st h Q = RR S d 30 26 L (.int 255 :: st) h Q := RR.sip (n := 255) rfl (by decide) rfl
theorem r30_26 {x : Int32} : RR S d 30 26 L (.int x :: st) h Q = RR S d 30 28 (ai_put 4 (.int x) L) st h Q := RR.do1 (28, ai_put 4 (.int x) L, st, h) rfl rfl rfl
theorem r30_28 : RR S d 30 28 L st h Q = kI (ai_look L 4) (fun x => RR S d 30 30 L (.int x :: st) h Q) := RR.ldi rfl rfl
theorem r30_30 {x : Int32} : RR S d 30 30 L (.int x :: st) h Q = if x < 0 then RR S d 30 95 L st h Q else RR S d 30 33 L st h Q := RR.b1 (c := .lt) (off := 65) rfl rfl (by decide) rfl
theorem r30_33 : RR S d 30 33 L st h Q = kI (ai_look L 4) (fun x => RR S d 30 35 L (.int x :: st) h Q) := RR.ldi rfl rfl
theorem r30_35 {p0 : Int32} : RR S (d + 1) 30 35 L (.int p0 :: st) h Q = kB (decide (ai_sum st ≤ 8)) (RR S d 31 0 [(0, .int p0)] [] h (fun r h1 => RR S (d + 1) 30 38 L (r.toList ++ st) h1 Q)) := RR.cs (j := 57) (mn' := 31) (n := 1) rfl rfl rfl rfl (by simp) rfl rfl
theorem r30_38 {x : Int32} : RR S d 30 38 L (.int x :: st) h Q = RR S d 30 40 (ai_put 5 (.int x) L) st h Q := RR.do1 (40, ai_put 5 (.int x) L, st, h) rfl rfl rfl
theorem r30_40 : RR S d 30 40 L st h Q = kI (ai_look L 5) (fun x => RR S d 30 42 L (.int x :: st) h Q) := RR.ldi rfl rfl
theorem r30_42 : RR S d 30 42 L st h Q = kI (ai_look L 1) (fun x => RR S d 30 43 L (.int x :: st) h Q) := RR.ldi_n rfl rfl rfl
theorem r30_43 : RR S d 30 43 L st h Q = RR S d 30 44 L (.int (-1) :: st) h Q := RR.icn (n := (-1)) rfl (by decide) rfl
theorem r30_44 {x y : Int32} : RR S d 30 44 L (.int y :: .int x :: st) h Q = RR S d 30 45 L (.int (x ^^^ y) :: st) h Q := RR.do1 (45, L, .int (x ^^^ y) :: st, h) rfl rfl rfl
theorem r30_45 {x y : Int32} : RR S d 30 45 L (.int y :: .int x :: st) h Q = RR S d 30 46 L (.int (x &&& y) :: st) h Q := RR.do1 (46, L, .int (x &&& y) :: st, h) rfl rfl rfl
theorem r30_46 {x : Int32} : RR S d 30 46 L (.int x :: st) h Q = if ¬ x = 0 then RR S d 30 89 L st h Q else RR S d 30 49 L st h Q := RR.b1 (c := .ne) (off := 43) rfl rfl (by decide) rfl
theorem r30_49 : RR S d 30 49 L st h Q = kI (ai_look L 5) (fun x => RR S d 30 51 L (.int x :: st) h Q) := RR.ldi rfl rfl
theorem r30_51 {p0 : Int32} : RR S (d + 1) 30 51 L (.int p0 :: st) h Q = kB (decide (ai_sum st ≤ 8)) (RR S d 161 0 [(0, .int p0)] [] h (fun r h1 => RR S (d + 1) 30 54 L (r.toList ++ st) h1 Q)) := RR.cs (j := 61) (mn' := 161) (n := 1) rfl rfl rfl rfl (by simp) rfl rfl
theorem r30_54 : RR S d 30 54 L st h Q = kI (ai_look L 3) (fun x => RR S d 30 55 L (.int x :: st) h Q) := RR.ldi_n rfl rfl rfl
theorem r30_55 {x y : Int32} : RR S d 30 55 L (.int y :: .int x :: st) h Q = if x = y then RR S d 30 61 L st h Q else RR S d 30 58 L st h Q := RR.b2 (c := .eq) (off := 6) rfl rfl (by decide) rfl
theorem r30_58 : RR S d 30 58 L st h Q = RR S d 30 89 L st h Q := RR.jmp (off := 31) rfl (by decide)
theorem r30_61 : RR S d 30 61 L st h Q = kA (ai_look L 0) (fun x => RR S d 30 62 L (x :: st) h Q) := RR.lda_n rfl rfl rfl
theorem r30_62 : RR S d 30 62 L st h Q = kI (ai_look L 5) (fun x => RR S d 30 64 L (.int x :: st) h Q) := RR.ldi rfl rfl
theorem r30_64 : RR S d 30 64 L st h Q = kI (ai_look L 2) (fun x => RR S d 30 65 L (.int x :: st) h Q) := RR.ldi_n rfl rfl rfl
theorem r30_65 {x y : Int32} : RR S d 30 65 L (.int y :: .int x :: st) h Q = RR S d 30 66 L (.int (x ||| y) :: st) h Q := RR.do1 (66, L, .int (x ||| y) :: st, h) rfl rfl rfl
theorem r30_66 {p0 : Int32} {a : Nat} : RR S (d + 1) 30 66 L (.int p0 :: .ref a :: st) h Q = kB (decide (ai_sum st ≤ 8)) (kB ((ai_obj h a 3).isSome) (RR S d 32 0 [(0, .ref a), (1, .int p0)] [] h (fun r h1 => RR S (d + 1) 30 69 L (r.toList ++ st) h1 Q))) := RR.cv (j := 66) (mn' := 32) (n := 1) rfl rfl rfl rfl rfl rfl
theorem r30_69 {x : Int32} : RR S d 30 69 L (.int x :: st) h Q = RR S d 30 71 (ai_put 6 (.int x) L) st h Q := RR.do1 (71, ai_put 6 (.int x) L, st, h) rfl rfl rfl
theorem r30_71 : RR S d 30 71 L st h Q = kI (ai_look L 6) (fun x => RR S d 30 73 L (.int x :: st) h Q) := RR.ldi rfl rfl
theorem r30_73 {x : Int32} : RR S d 30 73 L (.int x :: st) h Q = if x = 0 then RR S d 30 89 L st h Q else RR S d 30 76 L st h Q := RR.b1 (c := .eq) (off := 16) rfl rfl (by decide) rfl
theorem r30_76 : RR S d 30 76 L st h Q = kI (ai_look L 6) (fun x => RR S d 30 78 L (.int x :: st) h Q) := RR.ldi rfl rfl
theorem r30_78 : RR S d 30 78 L st h Q = RR S d 30 79 L (.int 1 :: st) h Q := RR.icn (n := 1) rfl (by decide) rfl
theorem r30_79 {x y : Int32} : RR S d 30 79 L (.int y :: .int x :: st) h Q = if ¬ x = y then RR S d 30 86 L st h Q else RR S d 30 82 L st h Q := RR.b2 (c := .ne) (off := 7) rfl rfl (by decide) rfl
theorem r30_82 : RR S d 30 82 L st h Q = kI (ai_look L 3) (fun x => RR S d 30 83 L (.int x :: st) h Q) := RR.ldi_n rfl rfl rfl
theorem r30_83 : RR S d 30 83 L st h Q = RR S d 30 88 L st h Q := RR.jmp (off := 5) rfl (by decide)
theorem r30_86 : RR S d 30 86 L st h Q = kI (ai_look L 6) (fun x => RR S d 30 88 L (.int x :: st) h Q) := RR.ldi rfl rfl
theorem r30_88 {x : Int32} : RR S d 30 88 L [.int x] h Q = Q (some (.int x)) h := RR.rt rfl rfl rfl
theorem r30_89 : RR S d 30 89 L st h Q = kI (ai_look L 4) (fun x => RR S d 30 92 (ai_put 4 (.int (x + (-1))) L) st h Q) := RR.iinc (k := 4) (n := (-1)) rfl (by decide) (by decide) rfl
theorem r30_92 : RR S d 30 92 L st h Q = RR S d 30 28 L st h Q := RR.jmp (off := (-64)) rfl (by decide)
theorem r30_95 : RR S d 30 95 L st h Q = kI (ai_look L 3) (fun x => RR S d 30 98 (ai_put 3 (.int (x + 1)) L) st h Q) := RR.iinc (k := 3) (n := 1) rfl (by decide) (by decide) rfl
theorem r30_98 : RR S d 30 98 L st h Q = RR S d 30 18 L st h Q := RR.jmp (off := (-80)) rfl (by decide)
theorem r30_101 : RR S d 30 101 L st h Q = RR S d 30 102 L (.int (-1) :: st) h Q := RR.icn (n := (-1)) rfl (by decide) rfl
theorem r30_102 {x : Int32} : RR S d 30 102 L [.int x] h Q = Q (some (.int x)) h := RR.rt rfl rfl rfl
theorem r31_0 : RR S d 31 0 L st h Q = RR S d 31 1 L (.int 0 :: st) h Q := RR.icn (n := 0) rfl (by decide) rfl
theorem r31_1 {x : Int32} : RR S d 31 1 L (.int x :: st) h Q = RR S d 31 2 (ai_put 1 (.int x) L) st h Q := RR.do1 (2, ai_put 1 (.int x) L, st, h) rfl rfl rfl
theorem r31_2 : RR S d 31 2 L st h Q = RR S d 31 3 L (.int 0 :: st) h Q := RR.icn (n := 0) rfl (by decide) rfl
theorem r31_3 {x : Int32} : RR S d 31 3 L (.int x :: st) h Q = RR S d 31 4 (ai_put 2 (.int x) L) st h Q := RR.do1 (4, ai_put 2 (.int x) L, st, h) rfl rfl rfl
theorem r31_4 : RR S d 31 4 L st h Q = kI (ai_look L 2) (fun x => RR S d 31 5 L (.int x :: st) h Q) := RR.ldi_n rfl rfl rfl
theorem r31_5 : RR S d 31 5 L st h Q = RR S d 31 7 L (.int 8 :: st) h Q := RR.bip (n := 8) rfl (by decide) rfl
theorem r31_7 {x y : Int32} : RR S d 31 7 L (.int y :: .int x :: st) h Q = if y ≤ x then RR S d 31 29 L st h Q else RR S d 31 10 L st h Q := RR.b2 (c := .ge) (off := 22) rfl rfl (by decide) rfl
theorem r31_10 : RR S d 31 10 L st h Q = kI (ai_look L 1) (fun x => RR S d 31 11 L (.int x :: st) h Q) := RR.ldi_n rfl rfl rfl
theorem r31_11 : RR S d 31 11 L st h Q = kI (ai_look L 0) (fun x => RR S d 31 12 L (.int x :: st) h Q) := RR.ldi_n rfl rfl rfl
theorem r31_12 : RR S d 31 12 L st h Q = RR S d 31 14 L (.int 7 :: st) h Q := RR.bip (n := 7) rfl (by decide) rfl
theorem r31_14 : RR S d 31 14 L st h Q = kI (ai_look L 2) (fun x => RR S d 31 15 L (.int x :: st) h Q) := RR.ldi_n rfl rfl rfl
theorem r31_15 {x y : Int32} : RR S d 31 15 L (.int y :: .int x :: st) h Q = RR S d 31 16 L (.int (x - y) :: st) h Q := RR.do1 (16, L, .int (x - y) :: st, h) rfl rfl rfl
theorem r31_16 {x y : Int32} : RR S d 31 16 L (.int y :: .int x :: st) h Q = RR S d 31 17 L (.int (x >>> (y &&& 31)) :: st) h Q := RR.do1 (17, L, .int (x >>> (y &&& 31)) :: st, h) rfl rfl rfl
theorem r31_17 : RR S d 31 17 L st h Q = RR S d 31 18 L (.int 1 :: st) h Q := RR.icn (n := 1) rfl (by decide) rfl
theorem r31_18 {x y : Int32} : RR S d 31 18 L (.int y :: .int x :: st) h Q = RR S d 31 19 L (.int (x &&& y) :: st) h Q := RR.do1 (19, L, .int (x &&& y) :: st, h) rfl rfl rfl
theorem r31_19 : RR S d 31 19 L st h Q = kI (ai_look L 2) (fun x => RR S d 31 20 L (.int x :: st) h Q) := RR.ldi_n rfl rfl rfl
theorem r31_20 {x y : Int32} : RR S d 31 20 L (.int y :: .int x :: st) h Q = RR S d 31 21 L (.int (x <<< (y &&& 31)) :: st) h Q := RR.do1 (21, L, .int (x <<< (y &&& 31)) :: st, h) rfl rfl rfl
theorem r31_21 {x y : Int32} : RR S d 31 21 L (.int y :: .int x :: st) h Q = RR S d 31 22 L (.int (x ||| y) :: st) h Q := RR.do1 (22, L, .int (x ||| y) :: st, h) rfl rfl rfl
theorem r31_22 {x : Int32} : RR S d 31 22 L (.int x :: st) h Q = RR S d 31 23 (ai_put 1 (.int x) L) st h Q := RR.do1 (23, ai_put 1 (.int x) L, st, h) rfl rfl rfl
theorem r31_23 : RR S d 31 23 L st h Q = kI (ai_look L 2) (fun x => RR S d 31 26 (ai_put 2 (.int (x + 1)) L) st h Q) := RR.iinc (k := 2) (n := 1) rfl (by decide) (by decide) rfl
theorem r31_26 : RR S d 31 26 L st h Q = RR S d 31 4 L st h Q := RR.jmp (off := (-22)) rfl (by decide)
theorem r31_29 : RR S d 31 29 L st h Q = kI (ai_look L 1) (fun x => RR S d 31 30 L (.int x :: st) h Q) := RR.ldi_n rfl rfl rfl
theorem r31_30 {x : Int32} : RR S d 31 30 L [.int x] h Q = Q (some (.int x)) h := RR.rt rfl rfl rfl
end Ru
