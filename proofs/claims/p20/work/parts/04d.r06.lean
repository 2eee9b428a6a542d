section Ru
variable {S : ai_S} {d : Nat} {L : ai_L} {st : List Value} {h : ai_H} {Q : Option Value → ai_H → Prop}
theorem r152_0 : RR S d 152 0 L st h Q = kA (ai_look L 0) (fun x => RR S d 152 1 L (x :: st) h Q) := RR.lda_n rfl rfl rfl
theorem r152_1 : RR S d 152 1 L st h Q = kI (ai_look L 1) (fun x => RR S d 152 2 L (.int x :: st) h Q) := RR.ldi_n rfl rfl rfl
theorem r152_2 {p0 : Int32} {a : Nat} : RR S (d + 1) 152 2 L (.int p0 :: .ref a :: st) h Q = kB (decide (ai_sum st ≤ 8)) (kB ((ai_obj h a 10).isSome) (RR S d 141 0 [(0, .ref a), (1, .int p0)] [] h (fun r h1 => RR S (d + 1) 152 5 L (r.toList ++ st) h1 Q))) := RR.cv (j := 202) (mn' := 141) (n := 1) rfl rfl rfl rfl rfl rfl
theorem r152_5 {x : Int32} : RR S d 152 5 L (.int x :: st) h Q = if x = 0 then RR S d 152 18 L st h Q else RR S d 152 8 L st h Q := RR.b1 (c := .eq) (off := 13) rfl rfl (by decide) rfl
theorem r152_8 : RR S d 152 8 L st h Q = kI (ai_look L 2) (fun x => RR S d 152 9 L (.int x :: st) h Q) := RR.ldi_n rfl rfl rfl
theorem r152_9 {x : Int32} : RR S d 152 9 L (.int x :: st) h Q = if x < 0 then RR S d 152 18 L st h Q else RR S d 152 12 L st h Q := RR.b1 (c := .lt) (off := 9) rfl rfl (by decide) rfl
theorem r152_12 : RR S d 152 12 L st h Q = kI (ai_look L 2) (fun x => RR S d 152 13 L (.int x :: st) h Q) := RR.ldi_n rfl rfl rfl
theorem r152_13 : RR S d 152 13 L st h Q = RR S d 152 15 L (.int 99 :: st) h Q := RR.bip (n := 99) rfl (by decide) rfl
theorem r152_15 {x y : Int32} : RR S d 152 15 L (.int y :: .int x :: st) h Q = if x ≤ y then RR S d 152 22 L st h Q else RR S d 152 18 L st h Q := RR.b2 (c := .le) (off := 7) rfl rfl (by decide) rfl
theorem r152_18 : RR S d 152 18 L st h Q = RR S d 152 21 L (.int (-1000) :: st) h Q := RR.sip (n := (-1000)) rfl (by decide) rfl
theorem r152_21 {x : Int32} : RR S d 152 21 L [.int x] h Q = Q (some (.int x)) h := RR.rt rfl rfl rfl
theorem r152_22 : RR S d 152 22 L st h Q = kA (ai_look L 0) (fun x => RR S d 152 23 L (x :: st) h Q) := RR.lda_n rfl rfl rfl
theorem r152_23 {a : Nat} : RR S d 152 23 L (.ref a :: st) h Q = kO (ai_fld h a 10 14) (fun w => RR S d 152 26 L (w :: st) h Q) := RR.get rfl rfl rfl
theorem r152_26 : RR S d 152 26 L st h Q = RR S d 152 27 L (.int 3 :: st) h Q := RR.icn (n := 3) rfl (by decide) rfl
theorem r152_27 : RR S d 152 27 L st h Q = kI (ai_look L 1) (fun x => RR S d 152 28 L (.int x :: st) h Q) := RR.ldi_n rfl rfl rfl
theorem r152_28 {x y : Int32} : RR S d 152 28 L (.int y :: .int x :: st) h Q = RR S d 152 29 L (.int (x * y) :: st) h Q := RR.do1 (29, L, .int (x * y) :: st, h) rfl rfl rfl
theorem r152_29 : RR S d 152 29 L st h Q = kA (ai_look L 0) (fun x => RR S d 152 30 L (x :: st) h Q) := RR.lda_n rfl rfl rfl
theorem r152_30 {a : Nat} : RR S d 152 30 L (.ref a :: st) h Q = kO (ai_fld h a 10 18) (fun w => RR S d 152 33 L (w :: st) h Q) := RR.get rfl rfl rfl
theorem r152_33 : RR S d 152 33 L st h Q = kI (ai_look L 1) (fun x => RR S d 152 34 L (.int x :: st) h Q) := RR.ldi_n rfl rfl rfl
theorem r152_34 {x : Int32} {a : Nat} : RR S d 152 34 L (.int x :: .ref a :: st) h Q = kO (ai_arr h a 0) (fun q => kB (ai_in x q.1) (RR S d 152 35 L (.int (q.2 x.toNatClampNeg) :: st) h Q)) := RR.ial rfl rfl
theorem r152_35 {x y : Int32} : RR S d 152 35 L (.int y :: .int x :: st) h Q = RR S d 152 36 L (.int (x + y) :: st) h Q := RR.do1 (36, L, .int (x + y) :: st, h) rfl rfl rfl
theorem r152_36 {x : Int32} {a : Nat} : RR S d 152 36 L (.int x :: .ref a :: st) h Q = kO (ai_arr h a 0) (fun q => kB (ai_in x q.1) (RR S d 152 37 L (.int (q.2 x.toNatClampNeg) :: st) h Q)) := RR.ial rfl rfl
theorem r152_37 {x : Int32} : RR S d 152 37 L (.int x :: st) h Q = RR S d 152 39 (ai_put 4 (.int x) L) st h Q := RR.do1 (39, ai_put 4 (.int x) L, st, h) rfl rfl rfl
theorem r152_39 : RR S d 152 39 L st h Q = kI (ai_look L 3) (fun x => RR S d 152 40 L (.int x :: st) h Q) := RR.ldi_n rfl rfl rfl
theorem r152_40 : RR S d 152 40 L st h Q = RR S d 152 42 L (.int 9 :: st) h Q := RR.bip (n := 9) rfl (by decide) rfl
theorem r152_42 {x y : Int32} : RR S d 152 42 L (.int y :: .int x :: st) h Q = if ¬ x = y then RR S d 152 103 L st h Q else RR S d 152 45 L st h Q := RR.b2 (c := .ne) (off := 61) rfl rfl (by decide) rfl
theorem r152_45 : RR S d 152 45 L st h Q = kA (ai_look L 0) (fun x => RR S d 152 46 L (x :: st) h Q) := RR.lda_n rfl rfl rfl
theorem r152_46 {a : Nat} : RR S d 152 46 L (.ref a :: st) h Q = kO (ai_fld h a 10 15) (fun w => RR S d 152 49 L (w :: st) h Q) := RR.get rfl rfl rfl
theorem r152_49 : RR S d 152 49 L st h Q = RR S d 152 50 L (.int 4 :: st) h Q := RR.icn (n := 4) rfl (by decide) rfl
theorem r152_50 : RR S d 152 50 L st h Q = RR S d 152 51 L (.int 3 :: st) h Q := RR.icn (n := 3) rfl (by decide) rfl
theorem r152_51 : RR S d 152 51 L st h Q = kI (ai_look L 1) (fun x => RR S d 152 52 L (.int x :: st) h Q) := RR.ldi_n rfl rfl rfl
theorem r152_52 {x y : Int32} : RR S d 152 52 L (.int y :: .int x :: st) h Q = RR S d 152 53 L (.int (x * y) :: st) h Q := RR.do1 (53, L, .int (x * y) :: st, h) rfl rfl rfl
theorem r152_53 : RR S d 152 53 L st h Q = kA (ai_look L 0) (fun x => RR S d 152 54 L (x :: st) h Q) := RR.lda_n rfl rfl rfl
theorem r152_54 {a : Nat} : RR S d 152 54 L (.ref a :: st) h Q = kO (ai_fld h a 10 18) (fun w => RR S d 152 57 L (w :: st) h Q) := RR.get rfl rfl rfl
theorem r152_57 : RR S d 152 57 L st h Q = kI (ai_look L 1) (fun x => RR S d 152 58 L (.int x :: st) h Q) := RR.ldi_n rfl rfl rfl
theorem r152_58 {x : Int32} {a : Nat} : RR S d 152 58 L (.int x :: .ref a :: st) h Q = kO (ai_arr h a 0) (fun q => kB (ai_in x q.1) (RR S d 152 59 L (.int (q.2 x.toNatClampNeg) :: st) h Q)) := RR.ial rfl rfl
theorem r152_59 {x y : Int32} : RR S d 152 59 L (.int y :: .int x :: st) h Q = RR S d 152 60 L (.int (x + y) :: st) h Q := RR.do1 (60, L, .int (x + y) :: st, h) rfl rfl rfl
theorem r152_60 {x y : Int32} : RR S d 152 60 L (.int y :: .int x :: st) h Q = RR S d 152 61 L (.int (x * y) :: st) h Q := RR.do1 (61, L, .int (x * y) :: st, h) rfl rfl rfl
theorem r152_61 : RR S d 152 61 L st h Q = kI (ai_look L 4) (fun x => RR S d 152 63 L (.int x :: st) h Q) := RR.ldi rfl rfl
theorem r152_63 {x y : Int32} : RR S d 152 63 L (.int y :: .int x :: st) h Q = RR S d 152 64 L (.int (x + y) :: st) h Q := RR.do1 (64, L, .int (x + y) :: st, h) rfl rfl rfl
theorem r152_64 : RR S d 152 64 L st h Q = RR S d 152 65 L (.int 1 :: st) h Q := RR.icn (n := 1) rfl (by decide) rfl
theorem r152_65 {x y : Int32} : RR S d 152 65 L (.int y :: .int x :: st) h Q = RR S d 152 66 L (.int (x - y) :: st) h Q := RR.do1 (66, L, .int (x - y) :: st, h) rfl rfl rfl
theorem r152_66 {x : Int32} {a : Nat} : RR S d 152 66 L (.int x :: .ref a :: st) h Q = kO (ai_arr h a 0) (fun q => kB (ai_in x q.1) (RR S d 152 67 L (.int (q.2 x.toNatClampNeg) :: st) h Q)) := RR.ial rfl rfl
theorem r152_67 {x : Int32} : RR S d 152 67 L (.int x :: st) h Q = RR S d 152 69 (ai_put 5 (.int x) L) st h Q := RR.do1 (69, ai_put 5 (.int x) L, st, h) rfl rfl rfl
theorem r152_69 : RR S d 152 69 L st h Q = kA (ai_look L 0) (fun x => RR S d 152 70 L (x :: st) h Q) := RR.lda_n rfl rfl rfl
theorem r152_70 : RR S d 152 70 L st h Q = kI (ai_look L 1) (fun x => RR S d 152 71 L (.int x :: st) h Q) := RR.ldi_n rfl rfl rfl
theorem r152_71 : RR S d 152 71 L st h Q = kI (ai_look L 2) (fun x => RR S d 152 72 L (.int x :: st) h Q) := RR.ldi_n rfl rfl rfl
theorem r152_72 : RR S d 152 72 L st h Q = kI (ai_look L 4) (fun x => RR S d 152 74 L (.int x :: st) h Q) := RR.ldi rfl rfl
theorem r152_74 : RR S d 152 74 L st h Q = RR S d 152 75 L (.int 1 :: st) h Q := RR.icn (n := 1) rfl (by decide) rfl
theorem r152_75 {x y : Int32} : RR S d 152 75 L (.int y :: .int x :: st) h Q = RR S d 152 76 L (.int (x - y) :: st) h Q := RR.do1 (76, L, .int (x - y) :: st, h) rfl rfl rfl
theorem r152_76 {p0 : Int32} {p1 : Int32} {p2 : Int32} {a : Nat} : RR S (d + 1) 152 76 L (.int p2 :: .int p1 :: .int p0 :: .ref a :: st) h Q = kB (decide (ai_sum st ≤ 8)) (kB ((ai_obj h a 10).isSome) (RR S d 151 0 [(0, .ref a), (1, .int p0), (2, .int p1), (3, .int p2)] [] h (fun r h1 => RR S (d + 1) 152 79 L (r.toList ++ st) h1 Q))) := RR.cv (j := 217) (mn' := 151) (n := 3) rfl rfl rfl rfl rfl rfl
theorem r152_79 : RR S d 152 79 L st h Q = kA (ai_look L 0) (fun x => RR S d 152 80 L (x :: st) h Q) := RR.lda_n rfl rfl rfl
theorem r152_80 {a : Nat} : RR S d 152 80 L (.ref a :: st) h Q = kO (ai_fld h a 10 11) (fun w => RR S d 152 83 L (w :: st) h Q) := RR.get rfl rfl rfl
theorem r152_83 : RR S d 152 83 L st h Q = kI (ai_look L 1) (fun x => RR S d 152 84 L (.int x :: st) h Q) := RR.ldi_n rfl rfl rfl
theorem r152_84 {x : Int32} {a : Nat} : RR S d 152 84 L (.int x :: .ref a :: st) h Q = kO (ai_arr h a 0) (fun q => kB (ai_in x q.1) (RR S d 152 85 L (.int (q.2 x.toNatClampNeg) :: st) h Q)) := RR.ial rfl rfl
theorem r152_85 : RR S d 152 85 L st h Q = kA (ai_look L 0) (fun x => RR S d 152 86 L (x :: st) h Q) := RR.lda_n rfl rfl rfl
theorem r152_86 {a : Nat} : RR S d 152 86 L (.ref a :: st) h Q = kO (ai_fld h a 10 7) (fun w => RR S d 152 89 L (w :: st) h Q) := RR.get rfl rfl rfl
theorem r152_89 : RR S d 152 89 L st h Q = kI (ai_look L 5) (fun x => RR S d 152 91 L (.int x :: st) h Q) := RR.ldi rfl rfl
theorem r152_91 {x : Int32} {a : Nat} : RR S d 152 91 L (.int x :: .ref a :: st) h Q = kO (ai_arr h a 0) (fun q => kB (ai_in x q.1) (RR S d 152 92 L (.int (q.2 x.toNatClampNeg) :: st) h Q)) := RR.ial rfl rfl
theorem r152_92 {x y : Int32} : RR S d 152 92 L (.int y :: .int x :: st) h Q = RR S d 152 93 L (.int (x * y) :: st) h Q := RR.do1 (93, L, .int (x * y) :: st, h) rfl rfl rfl
theorem r152_93 {x y : Int32} : RR S d 152 93 L (.int y :: .int x :: st) h Q = RR S d 152 94 L (.int (x + y) :: st) h Q := RR.do1 (94, L, .int (x + y) :: st, h) rfl rfl rfl
theorem r152_94 : RR S d 152 94 L st h Q = kA (ai_look L 0) (fun x => RR S d 152 95 L (x :: st) h Q) := RR.lda_n rfl rfl rfl
theorem r152_95 {a : Nat} : RR S d 152 95 L (.ref a :: st) h Q = kO (ai_fld h a 10 6) (fun w => RR S d 152 98 L (w :: st) h Q) := RR.get rfl rfl rfl
theorem r152_98 : RR S d 152 98 L st h Q = kI (ai_look L 5) (fun x => RR S d 152 100 L (.int x :: st) h Q) := RR.ldi rfl rfl
theorem r152_100 {x : Int32} {a : Nat} : RR S d 152 100 L (.int x :: .ref a :: st) h Q = kO (ai_arr h a 0) (fun q => kB (ai_in x q.1) (RR S d 152 101 L (.int (q.2 x.toNatClampNeg) :: st) h Q)) := RR.ial rfl rfl
theorem r152_101 {x y : Int32} : RR S d 152 101 L (.int y :: .int x :: st) h Q = RR S d 152 102 L (.int (x + y) :: st) h Q := RR.do1 (102, L, .int (x + y) :: st, h) rfl rfl rfl
theorem r152_102 {x : Int32} : RR S d 152 102 L [.int x] h Q = Q (some (.int x)) h := RR.rt rfl rfl rfl
theorem r152_103 : RR S d 152 103 L st h Q = kI (ai_look L 3) (fun x => RR S d 152 104 L (.int x :: st) h Q) := RR.ldi_n rfl rfl rfl
theorem r152_104 {x : Int32} : RR S d 152 104 L (.int x :: st) h Q = if x < 0 then RR S d 152 113 L st h Q else RR S d 152 107 L st h Q := RR.b1 (c := .lt) (off := 9) rfl rfl (by decide) rfl
theorem r152_107 : RR S d 152 107 L st h Q = kI (ai_look L 3) (fun x => RR S d 152 108 L (.int x :: st) h Q) := RR.ldi_n rfl rfl rfl
theorem r152_108 : RR S d 152 108 L st h Q = kI (ai_look L 4) (fun x => RR S d 152 110 L (.int x :: st) h Q) := RR.ldi rfl rfl
theorem r152_110 {x y : Int32} : RR S d 152 110 L (.int y :: .int x :: st) h Q = if x < y then RR S d 152 119 L st h Q else RR S d 152 113 L st h Q := RR.b2 (c := .lt) (off := 9) rfl rfl (by decide) rfl
theorem r152_113 : RR S d 152 113 L st h Q = RR S d 152 116 L (.int (-1000) :: st) h Q := RR.sip (n := (-1000)) rfl (by decide) rfl
theorem r152_116 : RR S d 152 116 L st h Q = RR S d 152 126 L st h Q := RR.jmp (off := 10) rfl (by decide)
theorem r152_119 : RR S d 152 119 L st h Q = kA (ai_look L 0) (fun x => RR S d 152 120 L (x :: st) h Q) := RR.lda_n rfl rfl rfl
theorem r152_120 : RR S d 152 120 L st h Q = kI (ai_look L 1) (fun x => RR S d 152 121 L (.int x :: st) h Q) := RR.ldi_n rfl rfl rfl
theorem r152_121 : RR S d 152 121 L st h Q = kI (ai_look L 2) (fun x => RR S d 152 122 L (.int x :: st) h Q) := RR.ldi_n rfl rfl rfl
theorem r152_122 : RR S d 152 122 L st h Q = kI (ai_look L 3) (fun x => RR S d 152 123 L (.int x :: st) h Q) := RR.ldi_n rfl rfl rfl
theorem r152_123 {p0 : Int32} {p1 : Int32} {p2 : Int32} {a : Nat} : RR S (d + 1) 152 123 L (.int p2 :: .int p1 :: .int p0 :: .ref a :: st) h Q = kB (decide (ai_sum st ≤ 8)) (kB ((ai_obj h a 10).isSome) (RR S d 151 0 [(0, .ref a), (1, .int p0), (2, .int p1), (3, .int p2)] [] h (fun r h1 => RR S (d + 1) 152 126 L (r.toList ++ st) h1 Q))) := RR.cv (j := 217) (mn' := 151) (n := 3) rfl rfl rfl rfl rfl rfl
theorem r152_126 {x : Int32} : RR S d 152 126 L [.int x] h Q = Q (some (.int x)) h := RR.rt rfl rfl rfl
theorem r153_0 : RR S d 153 0 L st h Q = kA (ai_look L 0) (fun x => RR S d 153 1 L (x :: st) h Q) := RR.lda_n rfl rfl rfl
theorem r153_1 : RR S d 153 1 L st h Q = kI (ai_look L 1) (fun x => RR S d 153 2 L (.int x :: st) h Q) := RR.ldi_n rfl rfl rfl
theorem r153_2 {p0 : Int32} {a : Nat} : RR S (d + 1) 153 2 L (.int p0 :: .ref a :: st) h Q = kB (decide (ai_sum st ≤ 8)) (kB ((ai_obj h a 10).isSome) (RR S d 141 0 [(0, .ref a), (1, .int p0)] [] h (fun r h1 => RR S (d + 1) 153 5 L (r.toList ++ st) h1 Q))) := RR.cv (j := 202) (mn' := 141) (n := 1) rfl rfl rfl rfl rfl rfl
theorem r153_5 {x : Int32} : RR S d 153 5 L (.int x :: st) h Q = if x = 0 then RR S d 153 42 L st h Q else RR S d 153 8 L st h Q := RR.b1 (c := .eq) (off := 37) rfl rfl (by decide) rfl
theorem r153_8 : RR S d 153 8 L st h Q = kI (ai_look L 2) (fun x => RR S d 153 9 L (.int x :: st) h Q) := RR.ldi_n rfl rfl rfl
theorem r153_9 {x : Int32} : RR S d 153 9 L (.int x :: st) h Q = if x < 0 then RR S d 153 42 L st h Q else RR S d 153 12 L st h Q := RR.b1 (c := .lt) (off := 33) rfl rfl (by decide) rfl
theorem r153_12 : RR S d 153 12 L st h Q = kI (ai_look L 2) (fun x => RR S d 153 13 L (.int x :: st) h Q) := RR.ldi_n rfl rfl rfl
theorem r153_13 : RR S d 153 13 L st h Q = RR S d 153 15 L (.int 99 :: st) h Q := RR.bip (n := 99) rfl (by decide) rfl
theorem r153_15 {x y : Int32} : RR S d 153 15 L (.int y :: .int x :: st) h Q = if y < x then RR S d 153 42 L st h Q else RR S d 153 18 L st h Q := RR.b2 (c := .gt) (off := 27) rfl rfl (by decide) rfl
theorem r153_18 : RR S d 153 18 L st h Q = kI (ai_look L 3) (fun x => RR S d 153 19 L (.int x :: st) h Q) := RR.ldi_n rfl rfl rfl
theorem r153_19 : RR S d 153 19 L st h Q = RR S d 153 20 L (.int 1 :: st) h Q := RR.icn (n := 1) rfl (by decide) rfl
theorem r153_20 {x y : Int32} : RR S d 153 20 L (.int y :: .int x :: st) h Q = if x < y then RR S d 153 42 L st h Q else RR S d 153 23 L st h Q := RR.b2 (c := .lt) (off := 22) rfl rfl (by decide) rfl
theorem r153_23 : RR S d 153 23 L st h Q = kI (ai_look L 3) (fun x => RR S d 153 24 L (.int x :: st) h Q) := RR.ldi_n rfl rfl rfl
theorem r153_24 : RR S d 153 24 L st h Q = kA (ai_look L 0) (fun x => RR S d 153 25 L (x :: st) h Q) := RR.lda_n rfl rfl rfl
theorem r153_25 {a : Nat} : RR S d 153 25 L (.ref a :: st) h Q = kO (ai_fld h a 10 14) (fun w => RR S d 153 28 L (w :: st) h Q) := RR.get rfl rfl rfl
theorem r153_28 : RR S d 153 28 L st h Q = RR S d 153 29 L (.int 3 :: st) h Q := RR.icn (n := 3) rfl (by decide) rfl
theorem r153_29 : RR S d 153 29 L st h Q = kI (ai_look L 1) (fun x => RR S d 153 30 L (.int x :: st) h Q) := RR.ldi_n rfl rfl rfl
theorem r153_30 {x y : Int32} : RR S d 153 30 L (.int y :: .int x :: st) h Q = RR S d 153 31 L (.int (x * y) :: st) h Q := RR.do1 (31, L, .int (x * y) :: st, h) rfl rfl rfl
theorem r153_31 : RR S d 153 31 L st h Q = kA (ai_look L 0) (fun x => RR S d 153 32 L (x :: st) h Q) := RR.lda_n rfl rfl rfl
theorem r153_32 {a : Nat} : RR S d 153 32 L (.ref a :: st) h Q = kO (ai_fld h a 10 18) (fun w => RR S d 153 35 L (w :: st) h Q) := RR.get rfl rfl rfl
theorem r153_35 : RR S d 153 35 L st h Q = kI (ai_look L 1) (fun x => RR S d 153 36 L (.int x :: st) h Q) := RR.ldi_n rfl rfl rfl
theorem r153_36 {x : Int32} {a : Nat} : RR S d 153 36 L (.int x :: .ref a :: st) h Q = kO (ai_arr h a 0) (fun q => kB (ai_in x q.1) (RR S d 153 37 L (.int (q.2 x.toNatClampNeg) :: st) h Q)) := RR.ial rfl rfl
theorem r153_37 {x y : Int32} : RR S d 153 37 L (.int y :: .int x :: st) h Q = RR S d 153 38 L (.int (x + y) :: st) h Q := RR.do1 (38, L, .int (x + y) :: st, h) rfl rfl rfl
theorem r153_38 {x : Int32} {a : Nat} : RR S d 153 38 L (.int x :: .ref a :: st) h Q = kO (ai_arr h a 0) (fun q => kB (ai_in x q.1) (RR S d 153 39 L (.int (q.2 x.toNatClampNeg) :: st) h Q)) := RR.ial rfl rfl
theorem r153_39 {x y : Int32} : RR S d 153 39 L (.int y :: .int x :: st) h Q = if x < y then RR S d 153 46 L st h Q else RR S d 153 42 L st h Q := RR.b2 (c := .lt) (off := 7) rfl rfl (by decide) rfl
theorem r153_42 : RR S d 153 42 L st h Q = RR S d 153 45 L (.int (-1000) :: st) h Q := RR.sip (n := (-1000)) rfl (by decide) rfl
theorem r153_45 {x : Int32} : RR S d 153 45 L [.int x] h Q = Q (some (.int x)) h := RR.rt rfl rfl rfl
theorem r153_46 : RR S d 153 46 L st h Q = kA (ai_look L 0) (fun x => RR S d 153 47 L (x :: st) h Q) := RR.lda_n rfl rfl rfl
theorem r153_47 {a : Nat} : RR S d 153 47 L (.ref a :: st) h Q = kO (ai_fld h a 10 15) (fun w => RR S d 153 50 L (w :: st) h Q) := RR.get rfl rfl rfl
theorem r153_50 : RR S d 153 50 L st h Q = RR S d 153 51 L (.int 4 :: st) h Q := RR.icn (n := 4) rfl (by decide) rfl
theorem r153_51 : RR S d 153 51 L st h Q = RR S d 153 52 L (.int 3 :: st) h Q := RR.icn (n := 3) rfl (by decide) rfl
theorem r153_52 : RR S d 153 52 L st h Q = kI (ai_look L 1) (fun x => RR S d 153 53 L (.int x :: st) h Q) := RR.ldi_n rfl rfl rfl
theorem r153_53 {x y : Int32} : RR S d 153 53 L (.int y :: .int x :: st) h Q = RR S d 153 54 L (.int (x * y) :: st) h Q := RR.do1 (54, L, .int (x * y) :: st, h) rfl rfl rfl
theorem r153_54 : RR S d 153 54 L st h Q = kA (ai_look L 0) (fun x => RR S d 153 55 L (x :: st) h Q) := RR.lda_n rfl rfl rfl
theorem r153_55 {a : Nat} : RR S d 153 55 L (.ref a :: st) h Q = kO (ai_fld h a 10 18) (fun w => RR S d 153 58 L (w :: st) h Q) := RR.get rfl rfl rfl
theorem r153_58 : RR S d 153 58 L st h Q = kI (ai_look L 1) (fun x => RR S d 153 59 L (.int x :: st) h Q) := RR.ldi_n rfl rfl rfl
theorem r153_59 {x : Int32} {a : Nat} : RR S d 153 59 L (.int x :: .ref a :: st) h Q = kO (ai_arr h a 0) (fun q => kB (ai_in x q.1) (RR S d 153 60 L (.int (q.2 x.toNatClampNeg) :: st) h Q)) := RR.ial rfl rfl
theorem r153_60 {x y : Int32} : RR S d 153 60 L (.int y :: .int x :: st) h Q = RR S d 153 61 L (.int (x + y) :: st) h Q := RR.do1 (61, L, .int (x + y) :: st, h) rfl rfl rfl
theorem r153_61 {x y : Int32} : RR S d 153 61 L (.int y :: .int x :: st) h Q = RR S d 153 62 L (.int (x * y) :: st) h Q := RR.do1 (62, L, .int (x * y) :: st, h) rfl rfl rfl
theorem r153_62 : RR S d 153 62 L st h Q = kI (ai_look L 3) (fun x => RR S d 153 63 L (.int x :: st) h Q) := RR.ldi_n rfl rfl rfl
theorem r153_63 {x y : Int32} : RR S d 153 63 L (.int y :: .int x :: st) h Q = RR S d 153 64 L (.int (x + y) :: st) h Q := RR.do1 (64, L, .int (x + y) :: st, h) rfl rfl rfl
theorem r153_64 : RR S d 153 64 L st h Q = RR S d 153 65 L (.int 1 :: st) h Q := RR.icn (n := 1) rfl (by decide) rfl
theorem r153_65 {x y : Int32} : RR S d 153 65 L (.int y :: .int x :: st) h Q = RR S d 153 66 L (.int (x - y) :: st) h Q := RR.do1 (66, L, .int (x - y) :: st, h) rfl rfl rfl
theorem r153_66 {x : Int32} {a : Nat} : RR S d 153 66 L (.int x :: .ref a :: st) h Q = kO (ai_arr h a 0) (fun q => kB (ai_in x q.1) (RR S d 153 67 L (.int (q.2 x.toNatClampNeg) :: st) h Q)) := RR.ial rfl rfl
theorem r153_67 {x : Int32} : RR S d 153 67 L (.int x :: st) h Q = RR S d 153 69 (ai_put 4 (.int x) L) st h Q := RR.do1 (69, ai_put 4 (.int x) L, st, h) rfl rfl rfl
theorem r153_69 : RR S d 153 69 L st h Q = kA (ai_look L 0) (fun x => RR S d 153 70 L (x :: st) h Q) := RR.lda_n rfl rfl rfl
theorem r153_70 : RR S d 153 70 L st h Q = kI (ai_look L 1) (fun x => RR S d 153 71 L (.int x :: st) h Q) := RR.ldi_n rfl rfl rfl
theorem r153_71 : RR S d 153 71 L st h Q = kI (ai_look L 2) (fun x => RR S d 153 72 L (.int x :: st) h Q) := RR.ldi_n rfl rfl rfl
theorem r153_72 : RR S d 153 72 L st h Q = kI (ai_look L 3) (fun x => RR S d 153 73 L (.int x :: st) h Q) := RR.ldi_n rfl rfl rfl
theorem r153_73 {p0 : Int32} {p1 : Int32} {p2 : Int32} {a : Nat} : RR S (d + 1) 153 73 L (.int p2 :: .int p1 :: .int p0 :: .ref a :: st) h Q = kB (decide (ai_sum st ≤ 8)) (kB ((ai_obj h a 10).isSome) (RR S d 151 0 [(0, .ref a), (1, .int p0), (2, .int p1), (3, .int p2)] [] h (fun r h1 => RR S (d + 1) 153 76 L (r.toList ++ st) h1 Q))) := RR.cv (j := 217) (mn' := 151) (n := 3) rfl rfl rfl rfl rfl rfl
theorem r153_76 : RR S d 153 76 L st h Q = kA (ai_look L 0) (fun x => RR S d 153 77 L (x :: st) h Q) := RR.lda_n rfl rfl rfl
theorem r153_77 : RR S d 153 77 L st h Q = kI (ai_look L 1) (fun x => RR S d 153 78 L (.int x :: st) h Q) := RR.ldi_n rfl rfl rfl
theorem r153_78 : RR S d 153 78 L st h Q = kI (ai_look L 2) (fun x => RR S d 153 79 L (.int x :: st) h Q) := RR.ldi_n rfl rfl rfl
theorem r153_79 : RR S d 153 79 L st h Q = kI (ai_look L 3) (fun x => RR S d 153 80 L (.int x :: st) h Q) := RR.ldi_n rfl rfl rfl
theorem r153_80 : RR S d 153 80 L st h Q = RR S d 153 81 L (.int 1 :: st) h Q := RR.icn (n := 1) rfl (by decide) rfl
theorem r153_81 {x y : Int32} : RR S d 153 81 L (.int y :: .int x :: st) h Q = RR S d 153 82 L (.int (x - y) :: st) h Q := RR.do1 (82, L, .int (x - y) :: st, h) rfl rfl rfl
theorem r153_82 {p0 : Int32} {p1 : Int32} {p2 : Int32} {a : Nat} : RR S (d + 1) 153 82 L (.int p2 :: .int p1 :: .int p0 :: .ref a :: st) h Q = kB (decide (ai_sum st ≤ 8)) (kB ((ai_obj h a 10).isSome) (RR S d 151 0 [(0, .ref a), (1, .int p0), (2, .int p1), (3, .int p2)] [] h (fun r h1 => RR S (d + 1) 153 85 L (r.toList ++ st) h1 Q))) := RR.cv (j := 217) (mn' := 151) (n := 3) rfl rfl rfl rfl rfl rfl
theorem r153_85 {x y : Int32} : RR S d 153 85 L (.int y :: .int x :: st) h Q = RR S d 153 86 L (.int (x - y) :: st) h Q := RR.do1 (86, L, .int (x - y) :: st, h) rfl rfl rfl
theorem r153_86 : RR S d 153 86 L st h Q = kA (ai_look L 0) (fun x => RR S d 153 87 L (x :: st) h Q) := RR.lda_n rfl rfl rfl
theorem r153_87 {a : Nat} : RR S d 153 87 L (.ref a :: st) h Q = kO (ai_fld h a 10 11) (fun w => RR S d 153 90 L (w :: st) h Q) := RR.get rfl rfl rfl
theorem r153_90 : RR S d 153 90 L st h Q = kI (ai_look L 1) (fun x => RR S d 153 91 L (.int x :: st) h Q) := RR.ldi_n rfl rfl rfl
theorem r153_91 {x : Int32} {a : Nat} : RR S d 153 91 L (.int x :: .ref a :: st) h Q = kO (ai_arr h a 0) (fun q => kB (ai_in x q.1) (RR S d 153 92 L (.int (q.2 x.toNatClampNeg) :: st) h Q)) := RR.ial rfl rfl
theorem r153_92 : RR S d 153 92 L st h Q = kA (ai_look L 0) (fun x => RR S d 153 93 L (x :: st) h Q) := RR.lda_n rfl rfl rfl
theorem r153_93 {a : Nat} : RR S d 153 93 L (.ref a :: st) h Q = kO (ai_fld h a 10 7) (fun w => RR S d 153 96 L (w :: st) h Q) := RR.get rfl rfl rfl
theorem r153_96 : RR S d 153 96 L st h Q = kI (ai_look L 4) (fun x => RR S d 153 98 L (.int x :: st) h Q) := RR.ldi rfl rfl
theorem r153_98 {x : Int32} {a : Nat} : RR S d 153 98 L (.int x :: .ref a :: st) h Q = kO (ai_arr h a 0) (fun q => kB (ai_in x q.1) (RR S d 153 99 L (.int (q.2 x.toNatClampNeg) :: st) h Q)) := RR.ial rfl rfl
theorem r153_99 {x y : Int32} : RR S d 153 99 L (.int y :: .int x :: st) h Q = RR S d 153 100 L (.int (x * y) :: st) h Q := RR.do1 (100, L, .int (x * y) :: st, h) rfl rfl rfl
theorem r153_100 {x y : Int32} : RR S d 153 100 L (.int y :: .int x :: st) h Q = RR S d 153 101 L (.int (x - y) :: st) h Q := RR.do1 (101, L, .int (x - y) :: st, h) rfl rfl rfl
theorem r153_101 : RR S d 153 101 L st h Q = kA (ai_look L 0) (fun x => RR S d 153 102 L (x :: st) h Q) := RR.lda_n rfl rfl rfl
theorem r153_102 {a : Nat} : RR S d 153 102 L (.ref a :: st) h Q = kO (ai_fld h a 10 6) (fun w => RR S d 153 105 L (w :: st) h Q) := RR.get rfl rfl rfl
theorem r153_105 : RR S d 153 105 L st h Q = kI (ai_look L 4) (fun x => RR S d 153 107 L (.int x :: st) h Q) := RR.ldi rfl rfl
theorem r153_107 {x : Int32} {a : Nat} : RR S d 153 107 L (.int x :: .ref a :: st) h Q = kO (ai_arr h a 0) (fun q => kB (ai_in x q.1) (RR S d 153 108 L (.int (q.2 x.toNatClampNeg) :: st) h Q)) := RR.ial rfl rfl
theorem r153_108 {x y : Int32} : RR S d 153 108 L (.int y :: .int x :: st) h Q = RR S d 153 109 L (.int (x - y) :: st) h Q := RR.do1 (109, L, .int (x - y) :: st, h) rfl rfl rfl
theorem r153_109 : RR S d 153 109 L st h Q = kA (ai_look L 0) (fun x => RR S d 153 110 L (x :: st) h Q) := RR.lda_n rfl rfl rfl
theorem r153_110 {a : Nat} : RR S d 153 110 L (.ref a :: st) h Q = kO (ai_fld h a 10 1) (fun w => RR S d 153 113 L (w :: st) h Q) := RR.get rfl rfl rfl
theorem r153_113 : RR S d 153 113 L st h Q = kA (ai_look L 0) (fun x => RR S d 153 114 L (x :: st) h Q) := RR.lda_n rfl rfl rfl
theorem r153_114 {a : Nat} : RR S d 153 114 L (.ref a :: st) h Q = kO (ai_fld h a 10 5) (fun w => RR S d 153 117 L (w :: st) h Q) := RR.get rfl rfl rfl
theorem r153_117 : RR S d 153 117 L st h Q = kI (ai_look L 4) (fun x => RR S d 153 119 L (.int x :: st) h Q) := RR.ldi rfl rfl
theorem r153_119 {x : Int32} {a : Nat} : RR S d 153 119 L (.int x :: .ref a :: st) h Q = kO (ai_arr h a 0) (fun q => kB (ai_in x q.1) (RR S d 153 120 L (.int (q.2 x.toNatClampNeg) :: st) h Q)) := RR.ial rfl rfl
theorem r153_120 {x : Int32} {a : Nat} : RR S d 153 120 L (.int x :: .ref a :: st) h Q = kO (ai_arr h a 0) (fun q => kB (ai_in x q.1) (RR S d 153 121 L (.int (q.2 x.toNatClampNeg) :: st) h Q)) := RR.ial rfl rfl
theorem r153_121 {x y : Int32} : RR S d 153 121 L (.int y :: .int x :: st) h Q = RR S d 153 122 L (.int (x - y) :: st) h Q := RR.do1 (122, L, .int (x - y) :: st, h) rfl rfl rfl
theorem r153_122 {x : Int32} : RR S d 153 122 L [.int x] h Q = Q (some (.int x)) h := RR.rt rfl rfl rfl
theorem r154_0 : RR S d 154 0 L st h Q = kA (ai_look L 0) (fun x => RR S d 154 1 L (x :: st) h Q) := RR.lda_n rfl rfl rfl
theorem r154_1 {a : Nat} : RR S d 154 1 L (.ref a :: st) h Q = kO (ai_fld h a 10 35) (fun w => RR S d 154 4 L (w :: st) h Q) := RR.get rfl rfl rfl
theorem r154_4 {x : Int32} : RR S d 154 4 L (.int x :: st) h Q = if ¬ x = 0 then RR S d 154 8 L st h Q else RR S d 154 7 L st h Q := RR.b1 (c := .ne) (off := 4) rfl rfl (by decide) rfl
theorem r154_7 : RR S d 154 7 L [] h Q = Q none h := RR.rt rfl rfl rfl
theorem r154_8 : RR S d 154 8 L st h Q = kA (ai_look L 0) (fun x => RR S d 154 9 L (x :: st) h Q) := RR.lda_n rfl rfl rfl
theorem r154_9 : RR S d 154 9 L st h Q = RR S d 154 10 L (.int 0 :: st) h Q := RR.icn (n := 0) rfl (by decide) rfl
theorem r154_10t {a : Nat} : RR S d 154 10 L (.int 1 :: .ref a :: st) h Q = kO (ai_obj h a 10) (fun fs => kB (decide (35 < fs.length)) (RR S d 154 13 L st (h.1.set a (.inr (10, fs.set 35 (.int 1))), h.2) Q)) := RR.put rfl rfl (by decide +kernel) rfl
theorem r154_10f {a : Nat} : RR S d 154 10 L (.int 0 :: .ref a :: st) h Q = kO (ai_obj h a 10) (fun fs => kB (decide (35 < fs.length)) (RR S d 154 13 L st (h.1.set a (.inr (10, fs.set 35 (.int 0))), h.2) Q)) := RR.put rfl rfl (by decide +kernel) rfl
theorem r154_13 : RR S d 154 13 L st h Q = RR S d 154 14 L (.int 0 :: st) h Q := RR.icn (n := 0) rfl (by decide) rfl
theorem r154_14 {x : Int32} : RR S d 154 14 L (.int x :: st) h Q = RR S d 154 15 (ai_put 1 (.int x) L) st h Q := RR.do1 (15, ai_put 1 (.int x) L, st, h) rfl rfl rfl
theorem r154_15 : RR S d 154 15 L st h Q = kI (ai_look L 1) (fun x => RR S d 154 16 L (.int x :: st) h Q) := RR.ldi_n rfl rfl rfl
theorem r154_16 : RR S d 154 16 L st h Q = RR S d 154 19 L (.int 240 :: st) h Q := RR.sip (n := 240) rfl (by decide) rfl
theorem r154_19 {x y : Int32} : RR S d 154 19 L (.int y :: .int x :: st) h Q = if y ≤ x then RR S d 154 44 L st h Q else RR S d 154 22 L st h Q := RR.b2 (c := .ge) (off := 25) rfl rfl (by decide) rfl
theorem r154_22 : RR S d 154 22 L st h Q = kA (ai_look L 0) (fun x => RR S d 154 23 L (x :: st) h Q) := RR.lda_n rfl rfl rfl
theorem r154_23 {a : Nat} : RR S d 154 23 L (.ref a :: st) h Q = kO (ai_fld h a 10 36) (fun w => RR S d 154 26 L (w :: st) h Q) := RR.get rfl rfl rfl
theorem r154_26 : RR S d 154 26 L st h Q = kI (ai_look L 1) (fun x => RR S d 154 27 L (.int x :: st) h Q) := RR.ldi_n rfl rfl rfl
theorem r154_27 : RR S d 154 27 L st h Q = RR S d 154 29 L (.int 1000000 :: st) h Q := RR.do1 (29, L, .int 1000000 :: st, h) rfl rfl rfl
theorem r154_29 {x y : Int32} {a : Nat} : RR S d 154 29 L (.int y :: .int x :: .ref a :: st) h Q = kO (ai_arr h a 0) (fun q => kB (ai_in x q.1) (RR S d 154 30 L st (h.1.set a (.inl (0, q.1, .inl (upd q.2 x.toNatClampNeg y))), h.2) Q)) := RR.ias rfl rfl
theorem r154_30 : RR S d 154 30 L st h Q = kA (ai_look L 0) (fun x => RR S d 154 31 L (x :: st) h Q) := RR.lda_n rfl rfl rfl
theorem r154_31 {a : Nat} : RR S d 154 31 L (.ref a :: st) h Q = kO (ai_fld h a 10 37) (fun w => RR S d 154 34 L (w :: st) h Q) := RR.get rfl rfl rfl
theorem r154_34 : RR S d 154 34 L st h Q = kI (ai_look L 1) (fun x => RR S d 154 35 L (.int x :: st) h Q) := RR.ldi_n rfl rfl rfl
theorem r154_35 : RR S d 154 35 L st h Q = RR S d 154 37 L (.int 1000000 :: st) h Q := RR.do1 (37, L, .int 1000000 :: st, h) rfl rfl rfl
theorem r154_37 {x y : Int32} {a : Nat} : RR S d 154 37 L (.int y :: .int x :: .ref a :: st) h Q = kO (ai_arr h a 0) (fun q => kB (ai_in x q.1) (RR S d 154 38 L st (h.1.set a (.inl (0, q.1, .inl (upd q.2 x.toNatClampNeg y))), h.2) Q)) := RR.ias rfl rfl
theorem r154_38 : RR S d 154 38 L st h Q = kI (ai_look L 1) (fun x => RR S d 154 41 (ai_put 1 (.int (x + 1)) L) st h Q) := RR.iinc (k := 1) (n := 1) rfl (by decide) (by decide) rfl
theorem r154_41 : RR S d 154 41 L st h Q = RR S d 154 15 L st h Q := RR.jmp (off := (-26)) rfl (by decide)
theorem r154_44 : RR S d 154 44 L st h Q = RR S d 154 45 L (.int 0 :: st) h Q := RR.icn (n := 0) rfl (by decide) rfl
theorem r154_45 {x : Int32} : RR S d 154 45 L (.int x :: st) h Q = RR S d 154 46 (ai_put 1 (.int x) L) st h Q := RR.do1 (46, ai_put 1 (.int x) L, st, h) rfl rfl rfl
theorem r154_46 : RR S d 154 46 L st h Q = kI (ai_look L 1) (fun x => RR S d 154 47 L (.int x :: st) h Q) := RR.ldi_n rfl rfl rfl
theorem r154_47 : RR S d 154 47 L st h Q = kA (ai_look L 0) (fun x => RR S d 154 48 L (x :: st) h Q) := RR.lda_n rfl rfl rfl
theorem r154_48 {a : Nat} : RR S d 154 48 L (.ref a :: st) h Q = kO (ai_fld h a 10 22) (fun w => RR S d 154 51 L (w :: st) h Q) := RR.get rfl rfl rfl
theorem r154_51 {x y : Int32} : RR S d 154 51 L (.int y :: .int x :: st) h Q = if y ≤ x then RR S d 154 89 L st h Q else RR S d 154 54 L st h Q := RR.b2 (c := .ge) (off := 38) rfl rfl (by decide) rfl
theorem r154_54 : RR S d 154 54 L st h Q = kA (ai_look L 0) (fun x => RR S d 154 55 L (x :: st) h Q) := RR.lda_n rfl rfl rfl
theorem r154_55 {a : Nat} : RR S d 154 55 L (.ref a :: st) h Q = kO (ai_fld h a 10 36) (fun w => RR S d 154 58 L (w :: st) h Q) := RR.get rfl rfl rfl
theorem r154_58 : RR S d 154 58 L st h Q = RR S d 154 59 L (.int 4 :: st) h Q := RR.icn (n := 4) rfl (by decide) rfl
theorem r154_59 : RR S d 154 59 L st h Q = kI (ai_look L 1) (fun x => RR S d 154 60 L (.int x :: st) h Q) := RR.ldi_n rfl rfl rfl
theorem r154_60 {x y : Int32} : RR S d 154 60 L (.int y :: .int x :: st) h Q = RR S d 154 61 L (.int (x * y) :: st) h Q := RR.do1 (61, L, .int (x * y) :: st, h) rfl rfl rfl
theorem r154_61 : RR S d 154 61 L st h Q = kA (ai_look L 0) (fun x => RR S d 154 62 L (x :: st) h Q) := RR.lda_n rfl rfl rfl
theorem r154_62 {a : Nat} : RR S d 154 62 L (.ref a :: st) h Q = kO (ai_fld h a 10 23) (fun w => RR S d 154 65 L (w :: st) h Q) := RR.get rfl rfl rfl
theorem r154_65 : RR S d 154 65 L st h Q = kI (ai_look L 1) (fun x => RR S d 154 66 L (.int x :: st) h Q) := RR.ldi_n rfl rfl rfl
theorem r154_66 {x : Int32} {a : Nat} : RR S d 154 66 L (.int x :: .ref a :: st) h Q = kO (ai_arr h a 0) (fun q => kB (ai_in x q.1) (RR S d 154 67 L (.int (q.2 x.toNatClampNeg) :: st) h Q)) := RR.ial rfl rfl
theorem r154_67 {x y : Int32} {a : Nat} : RR S d 154 67 L (.int y :: .int x :: .ref a :: st) h Q = kO (ai_arr h a 0) (fun q => kB (ai_in x q.1) (RR S d 154 68 L st (h.1.set a (.inl (0, q.1, .inl (upd q.2 x.toNatClampNeg y))), h.2) Q)) := RR.ias rfl rfl
theorem r154_68 : RR S d 154 68 L st h Q = kA (ai_look L 0) (fun x => RR S d 154 69 L (x :: st) h Q) := RR.lda_n rfl rfl rfl
theorem r154_69 {a : Nat} : RR S d 154 69 L (.ref a :: st) h Q = kO (ai_fld h a 10 38) (fun w => RR S d 154 72 L (w :: st) h Q) := RR.get rfl rfl rfl
theorem r154_72 : RR S d 154 72 L st h Q = kI (ai_look L 1) (fun x => RR S d 154 73 L (.int x :: st) h Q) := RR.ldi_n rfl rfl rfl
theorem r154_73 : RR S d 154 73 L st h Q = RR S d 154 75 L (.int 1000000 :: st) h Q := RR.do1 (75, L, .int 1000000 :: st, h) rfl rfl rfl
theorem r154_75 {x y : Int32} {a : Nat} : RR S d 154 75 L (.int y :: .int x :: .ref a :: st) h Q = kO (ai_arr h a 0) (fun q => kB (ai_in x q.1) (RR S d 154 76 L st (h.1.set a (.inl (0, q.1, .inl (upd q.2 x.toNatClampNeg y))), h.2) Q)) := RR.ias rfl rfl
theorem r154_76 : RR S d 154 76 L st h Q = kA (ai_look L 0) (fun x => RR S d 154 77 L (x :: st) h Q) := RR.lda_n rfl rfl rfl
theorem r154_77 {a : Nat} : RR S d 154 77 L (.ref a :: st) h Q = kO (ai_fld h a 10 39) (fun w => RR S d 154 80 L (w :: st) h Q) := RR.get rfl rfl rfl
theorem r154_80 : RR S d 154 80 L st h Q = kI (ai_look L 1) (fun x => RR S d 154 81 L (.int x :: st) h Q) := RR.ldi_n rfl rfl rfl
theorem r154_81 : RR S d 154 81 L st h Q = RR S d 154 82 L (.int 0 :: st) h Q := RR.icn (n := 0) rfl (by decide) rfl
theorem r154_82 {x y : Int32} {a : Nat} : RR S d 154 82 L (.int y :: .int x :: .ref a :: st) h Q = kO (ai_arr h a 0) (fun q => kB (ai_in x q.1) (RR S d 154 83 L st (h.1.set a (.inl (0, q.1, .inl (upd q.2 x.toNatClampNeg y))), h.2) Q)) := RR.ias rfl rfl
theorem r154_83 : RR S d 154 83 L st h Q = kI (ai_look L 1) (fun x => RR S d 154 86 (ai_put 1 (.int (x + 1)) L) st h Q) := RR.iinc (k := 1) (n := 1) rfl (by decide) (by decide) rfl
theorem r154_86 : RR S d 154 86 L st h Q = RR S d 154 46 L st h Q := RR.jmp (off := (-40)) rfl (by decide)
theorem r154_89 : RR S d 154 89 L st h Q = RR S d 154 90 L (.int 0 :: st) h Q := RR.icn (n := 0) rfl (by decide) rfl
theorem r154_90 {x : Int32} : RR S d 154 90 L (.int x :: st) h Q = RR S d 154 91 (ai_put 1 (.int x) L) st h Q := RR.do1 (91, ai_put 1 (.int x) L, st, h) rfl rfl rfl
theorem r154_91 : RR S d 154 91 L st h Q = kI (ai_look L 1) (fun x => RR S d 154 92 L (.int x :: st) h Q) := RR.ldi_n rfl rfl rfl
theorem r154_92 : RR S d 154 92 L st h Q = RR S d 154 94 L (.int 12 :: st) h Q := RR.bip (n := 12) rfl (by decide) rfl
theorem r154_94 {x y : Int32} : RR S d 154 94 L (.int y :: .int x :: st) h Q = if y ≤ x then RR S d 154 117 L st h Q else RR S d 154 97 L st h Q := RR.b2 (c := .ge) (off := 23) rfl rfl (by decide) rfl
theorem r154_97 : RR S d 154 97 L st h Q = kA (ai_look L 0) (fun x => RR S d 154 98 L (x :: st) h Q) := RR.lda_n rfl rfl rfl
theorem r154_98 {a : Nat} : RR S d 154 98 L (.ref a :: st) h Q = kO (ai_fld h a 10 40) (fun w => RR S d 154 101 L (w :: st) h Q) := RR.get rfl rfl rfl
theorem r154_101 : RR S d 154 101 L st h Q = kI (ai_look L 1) (fun x => RR S d 154 102 L (.int x :: st) h Q) := RR.ldi_n rfl rfl rfl
theorem r154_102 : RR S d 154 102 L st h Q = RR S d 154 103 L (.int 0 :: st) h Q := RR.icn (n := 0) rfl (by decide) rfl
theorem r154_103 {x y : Int32} {a : Nat} : RR S d 154 103 L (.int y :: .int x :: .ref a :: st) h Q = kO (ai_arr h a 0) (fun q => kB (ai_in x q.1) (RR S d 154 104 L st (h.1.set a (.inl (0, q.1, .inl (upd q.2 x.toNatClampNeg y))), h.2) Q)) := RR.ias rfl rfl
theorem r154_104 : RR S d 154 104 L st h Q = kA (ai_look L 0) (fun x => RR S d 154 105 L (x :: st) h Q) := RR.lda_n rfl rfl rfl
theorem r154_105 {a : Nat} : RR S d 154 105 L (.ref a :: st) h Q = kO (ai_fld h a 10 41) (fun w => RR S d 154 108 L (w :: st) h Q) := RR.get rfl rfl rfl
theorem r154_108 : RR S d 154 108 L st h Q = kI (ai_look L 1) (fun x => RR S d 154 109 L (.int x :: st) h Q) := RR.ldi_n rfl rfl rfl
theorem r154_109 : RR S d 154 109 L st h Q = RR S d 154 110 L (.int 0 :: st) h Q := RR.icn (n := 0) rfl (by decide) rfl
theorem r154_110 {x y : Int32} {a : Nat} : RR S d 154 110 L (.int y :: .int x :: .ref a :: st) h Q = kO (ai_arr h a 0) (fun q => kB (ai_in x q.1) (RR S d 154 111 L st (h.1.set a (.inl (0, q.1, .inl (upd q.2 x.toNatClampNeg y))), h.2) Q)) := RR.ias rfl rfl
theorem r154_111 : RR S d 154 111 L st h Q = kI (ai_look L 1) (fun x => RR S d 154 114 (ai_put 1 (.int (x + 1)) L) st h Q) := RR.iinc (k := 1) (n := 1) rfl (by decide) (by decide) rfl
theorem r154_114 : RR S d 154 114 L st h Q = RR S d 154 91 L st h Q := RR.jmp (off := (-23)) rfl (by decide)
theorem r154_117 : RR S d 154 117 L st h Q = RR S d 154 118 L (.int 0 :: st) h Q := RR.icn (n := 0) rfl (by decide) rfl
theorem r154_118 {x : Int32} : RR S d 154 118 L (.int x :: st) h Q = RR S d 154 119 (ai_put 1 (.int x) L) st h Q := RR.do1 (119, ai_put 1 (.int x) L, st, h) rfl rfl rfl
theorem r154_119 : RR S d 154 119 L st h Q = kI (ai_look L 1) (fun x => RR S d 154 120 L (.int x :: st) h Q) := RR.ldi_n rfl rfl rfl
theorem r154_120 : RR S d 154 120 L st h Q = RR S d 154 123 L (.int 3000 :: st) h Q := RR.sip (n := 3000) rfl (by decide) rfl
theorem r154_123 {x y : Int32} : RR S d 154 123 L (.int y :: .int x :: st) h Q = if y ≤ x then RR S d 154 154 L st h Q else RR S d 154 126 L st h Q := RR.b2 (c := .ge) (off := 31) rfl rfl (by decide) rfl
theorem r154_126 : RR S d 154 126 L st h Q = RR S d 154 127 L (.int 0 :: st) h Q := RR.icn (n := 0) rfl (by decide) rfl
theorem r154_127 {x : Int32} : RR S d 154 127 L (.int x :: st) h Q = RR S d 154 128 (ai_put 2 (.int x) L) st h Q := RR.do1 (128, ai_put 2 (.int x) L, st, h) rfl rfl rfl
theorem r154_128 : RR S d 154 128 L st h Q = kI (ai_look L 2) (fun x => RR S d 154 129 L (.int x :: st) h Q) := RR.ldi_n rfl rfl rfl
theorem r154_129 : RR S d 154 129 L st h Q = kA (ai_look L 0) (fun x => RR S d 154 130 L (x :: st) h Q) := RR.lda_n rfl rfl rfl
theorem r154_130 {a : Nat} : RR S d 154 130 L (.ref a :: st) h Q = kO (ai_fld h a 10 3) (fun w => RR S d 154 133 L (w :: st) h Q) := RR.get rfl rfl rfl
theorem r154_133 {x y : Int32} : RR S d 154 133 L (.int y :: .int x :: st) h Q = if y ≤ x then RR S d 154 148 L st h Q else RR S d 154 136 L st h Q := RR.b2 (c := .ge) (off := 15) rfl rfl (by decide) rfl
theorem r154_136 : RR S d 154 136 L st h Q = kA (ai_look L 0) (fun x => RR S d 154 137 L (x :: st) h Q) := RR.lda_n rfl rfl rfl
theorem r154_137 : RR S d 154 137 L st h Q = kI (ai_look L 2) (fun x => RR S d 154 138 L (.int x :: st) h Q) := RR.ldi_n rfl rfl rfl
theorem r154_138 : RR S d 154 138 L st h Q = kI (ai_look L 1) (fun x => RR S d 154 139 L (.int x :: st) h Q) := RR.ldi_n rfl rfl rfl
theorem r154_139 {p0 : Int32} {p1 : Int32} {a : Nat} : RR S (d + 1) 154 139 L (.int p1 :: .int p0 :: .ref a :: st) h Q = kB (decide (ai_sum st ≤ 8)) (kB ((ai_obj h a 10).isSome) (RR S d 155 0 [(0, .ref a), (1, .int p0), (2, .int p1)] [] h (fun r h1 => RR S (d + 1) 154 142 L (r.toList ++ st) h1 Q))) := RR.cv (j := 221) (mn' := 155) (n := 2) rfl rfl rfl rfl rfl rfl
theorem r154_142 : RR S d 154 142 L st h Q = kI (ai_look L 2) (fun x => RR S d 154 145 (ai_put 2 (.int (x + 1)) L) st h Q) := RR.iinc (k := 2) (n := 1) rfl (by decide) (by decide) rfl
theorem r154_145 : RR S d 154 145 L st h Q = RR S d 154 128 L st h Q := RR.jmp (off := (-17)) rfl (by decide)
theorem r154_148 : RR S d 154 148 L st h Q = kI (ai_look L 1) (fun x => RR S d 154 151 (ai_put 1 (.int (x + 1)) L) st h Q) := RR.iinc (k := 1) (n := 1) rfl (by decide) (by decide) rfl
theorem r154_151 : RR S d 154 151 L st h Q = RR S d 154 119 L st h Q := RR.jmp (off := (-32)) rfl (by decide)
theorem r154_154 : RR S d 154 154 L [] h Q = Q none h := RR.rt rfl rfl rfl
theorem r155_0 : RR S d 155 0 L st h Q = RR S d 155 1 L (.int (-1) :: st) h Q := RR.icn (n := (-1)) rfl (by decide) rfl
theorem r155_1 {x : Int32} : RR S d 155 1 L (.int x :: st) h Q = RR S d 155 2 (ai_put 3 (.int x) L) st h Q := RR.do1 (2, ai_put 3 (.int x) L, st, h) rfl rfl rfl
theorem r155_2 : RR S d 155 2 L st h Q = RR S d 155 3 L (.int 0 :: st) h Q := RR.icn (n := 0) rfl (by decide) rfl
theorem r155_3 {x : Int32} : RR S d 155 3 L (.int x :: st) h Q = RR S d 155 5 (ai_put 4 (.int x) L) st h Q := RR.do1 (5, ai_put 4 (.int x) L, st, h) rfl rfl rfl
theorem r155_5 : RR S d 155 5 L st h Q = RR S d 155 6 L (.int 0 :: st) h Q := RR.icn (n := 0) rfl (by decide) rfl
theorem r155_6 {x : Int32} : RR S d 155 6 L (.int x :: st) h Q = RR S d 155 8 (ai_put 5 (.int x) L) st h Q := RR.do1 (8, ai_put 5 (.int x) L, st, h) rfl rfl rfl
theorem r155_8 : RR S d 155 8 L st h Q = kI (ai_look L 5) (fun x => RR S d 155 10 L (.int x :: st) h Q) := RR.ldi rfl rfl
theorem r155_10 : RR S d 155 10 L st h Q = kA (ai_look L 0) (fun x => RR S d 155 11 L (x :: st) h Q) := RR.lda_n rfl rfl rfl
theorem r155_11 {a : Nat} : RR S d 155 11 L (.ref a :: st) h Q = kO (ai_fld h a 10 22) (fun w => RR S d 155 14 L (w :: st) h Q) := RR.get rfl rfl rfl
theorem r155_14 {x y : Int32} : RR S d 155 14 L (.int y :: .int x :: st) h Q = if y ≤ x then RR S d 155 143 L st h Q else RR S d 155 17 L st h Q := RR.b2 (c := .ge) (off := 129) rfl rfl (by decide) rfl
theorem r155_17 : RR S d 155 17 L st h Q = kA (ai_look L 0) (fun x => RR S d 155 18 L (x :: st) h Q) := RR.lda_n rfl rfl rfl
theorem r155_18 {a : Nat} : RR S d 155 18 L (.ref a :: st) h Q = kO (ai_fld h a 10 39) (fun w => RR S d 155 21 L (w :: st) h Q) := RR.get rfl rfl rfl
theorem r155_21 : RR S d 155 21 L st h Q = kI (ai_look L 5) (fun x => RR S d 155 23 L (.int x :: st) h Q) := RR.ldi rfl rfl
theorem r155_23 {x : Int32} {a : Nat} : RR S d 155 23 L (.int x :: .ref a :: st) h Q = kO (ai_arr h a 0) (fun q => kB (ai_in x q.1) (RR S d 155 24 L (.int (q.2 x.toNatClampNeg) :: st) h Q)) := RR.ial rfl rfl
theorem r155_24 : RR S d 155 24 L st h Q = kA (ai_look L 0) (fun x => RR S d 155 25 L (x :: st) h Q) := RR.lda_n rfl rfl rfl
theorem r155_25 {a : Nat} : RR S d 155 25 L (.ref a :: st) h Q = kO (ai_fld h a 10 25) (fun w => RR S d 155 28 L (w :: st) h Q) := RR.get rfl rfl rfl
theorem r155_28 : RR S d 155 28 L st h Q = kI (ai_look L 5) (fun x => RR S d 155 30 L (.int x :: st) h Q) := RR.ldi rfl rfl
theorem r155_30 {x : Int32} {a : Nat} : RR S d 155 30 L (.int x :: .ref a :: st) h Q = kO (ai_arr h a 0) (fun q => kB (ai_in x q.1) (RR S d 155 31 L (.int (q.2 x.toNatClampNeg) :: st) h Q)) := RR.ial rfl rfl
theorem r155_31 {x y : Int32} : RR S d 155 31 L (.int y :: .int x :: st) h Q = if y ≤ x then RR S d 155 80 L st h Q else RR S d 155 34 L st h Q := RR.b2 (c := .ge) (off := 49) rfl rfl (by decide) rfl
theorem r155_34 : RR S d 155 34 L st h Q = kA (ai_look L 0) (fun x => RR S d 155 35 L (x :: st) h Q) := RR.lda_n rfl rfl rfl
theorem r155_35 {a : Nat} : RR S d 155 35 L (.ref a :: st) h Q = kO (ai_fld h a 10 26) (fun w => RR S d 155 38 L (w :: st) h Q) := RR.get rfl rfl rfl
theorem r155_38 : RR S d 155 38 L st h Q = RR S d 155 39 L (.int 4 :: st) h Q := RR.icn (n := 4) rfl (by decide) rfl
theorem r155_39 : RR S d 155 39 L st h Q = kI (ai_look L 5) (fun x => RR S d 155 41 L (.int x :: st) h Q) := RR.ldi rfl rfl
theorem r155_41 {x y : Int32} : RR S d 155 41 L (.int y :: .int x :: st) h Q = RR S d 155 42 L (.int (x * y) :: st) h Q := RR.do1 (42, L, .int (x * y) :: st, h) rfl rfl rfl
theorem r155_42 : RR S d 155 42 L st h Q = kA (ai_look L 0) (fun x => RR S d 155 43 L (x :: st) h Q) := RR.lda_n rfl rfl rfl
theorem r155_43 {a : Nat} : RR S d 155 43 L (.ref a :: st) h Q = kO (ai_fld h a 10 39) (fun w => RR S d 155 46 L (w :: st) h Q) := RR.get rfl rfl rfl
theorem r155_46 : RR S d 155 46 L st h Q = kI (ai_look L 5) (fun x => RR S d 155 48 L (.int x :: st) h Q) := RR.ldi rfl rfl
theorem r155_48 {x : Int32} {a : Nat} : RR S d 155 48 L (.int x :: .ref a :: st) h Q = kO (ai_arr h a 0) (fun q => kB (ai_in x q.1) (RR S d 155 49 L (.int (q.2 x.toNatClampNeg) :: st) h Q)) := RR.ial rfl rfl
theorem r155_49 {x y : Int32} : RR S d 155 49 L (.int y :: .int x :: st) h Q = RR S d 155 50 L (.int (x + y) :: st) h Q := RR.do1 (50, L, .int (x + y) :: st, h) rfl rfl rfl
theorem r155_50 {x : Int32} {a : Nat} : RR S d 155 50 L (.int x :: .ref a :: st) h Q = kO (ai_arr h a 0) (fun q => kB (ai_in x q.1) (RR S d 155 51 L (.int (q.2 x.toNatClampNeg) :: st) h Q)) := RR.ial rfl rfl
theorem r155_51 : RR S d 155 51 L st h Q = kI (ai_look L 1) (fun x => RR S d 155 52 L (.int x :: st) h Q) := RR.ldi_n rfl rfl rfl
theorem r155_52 {x y : Int32} : RR S d 155 52 L (.int y :: .int x :: st) h Q = if ¬ x = y then RR S d 155 80 L st h Q else RR S d 155 55 L st h Q := RR.b2 (c := .ne) (off := 28) rfl rfl (by decide) rfl
theorem r155_55 : RR S d 155 55 L st h Q = kA (ai_look L 0) (fun x => RR S d 155 56 L (x :: st) h Q) := RR.lda_n rfl rfl rfl
theorem r155_56 {a : Nat} : RR S d 155 56 L (.ref a :: st) h Q = kO (ai_fld h a 10 36) (fun w => RR S d 155 59 L (w :: st) h Q) := RR.get rfl rfl rfl
theorem r155_59 : RR S d 155 59 L st h Q = RR S d 155 60 L (.int 4 :: st) h Q := RR.icn (n := 4) rfl (by decide) rfl
theorem r155_60 : RR S d 155 60 L st h Q = kI (ai_look L 5) (fun x => RR S d 155 62 L (.int x :: st) h Q) := RR.ldi rfl rfl
theorem r155_62 {x y : Int32} : RR S d 155 62 L (.int y :: .int x :: st) h Q = RR S d 155 63 L (.int (x * y) :: st) h Q := RR.do1 (63, L, .int (x * y) :: st, h) rfl rfl rfl
theorem r155_63 : RR S d 155 63 L st h Q = kA (ai_look L 0) (fun x => RR S d 155 64 L (x :: st) h Q) := RR.lda_n rfl rfl rfl
theorem r155_64 {a : Nat} : RR S d 155 64 L (.ref a :: st) h Q = kO (ai_fld h a 10 39) (fun w => RR S d 155 67 L (w :: st) h Q) := RR.get rfl rfl rfl
theorem r155_67 : RR S d 155 67 L st h Q = kI (ai_look L 5) (fun x => RR S d 155 69 L (.int x :: st) h Q) := RR.ldi rfl rfl
theorem r155_69 {x : Int32} {a : Nat} : RR S d 155 69 L (.int x :: .ref a :: st) h Q = kO (ai_arr h a 0) (fun q => kB (ai_in x q.1) (RR S d 155 70 L (.int (q.2 x.toNatClampNeg) :: st) h Q)) := RR.ial rfl rfl
theorem r155_70 {x y : Int32} : RR S d 155 70 L (.int y :: .int x :: st) h Q = RR S d 155 71 L (.int (x + y) :: st) h Q := RR.do1 (71, L, .int (x + y) :: st, h) rfl rfl rfl
theorem r155_71 {x : Int32} {a : Nat} : RR S d 155 71 L (.int x :: .ref a :: st) h Q = kO (ai_arr h a 0) (fun q => kB (ai_in x q.1) (RR S d 155 72 L (.int (q.2 x.toNatClampNeg) :: st) h Q)) := RR.ial rfl rfl
theorem r155_72 : RR S d 155 72 L st h Q = kI (ai_look L 2) (fun x => RR S d 155 73 L (.int x :: st) h Q) := RR.ldi_n rfl rfl rfl
theorem r155_73 {x y : Int32} : RR S d 155 73 L (.int y :: .int x :: st) h Q = if y < x then RR S d 155 80 L st h Q else RR S d 155 76 L st h Q := RR.b2 (c := .gt) (off := 7) rfl rfl (by decide) rfl
theorem r155_76 : RR S d 155 76 L st h Q = RR S d 155 77 L (.int 1 :: st) h Q := RR.icn (n := 1) rfl (by decide) rfl
theorem r155_77 : RR S d 155 77 L st h Q = RR S d 155 81 L st h Q := RR.jmp (off := 4) rfl (by decide)
theorem r155_80 : RR S d 155 80 L st h Q = RR S d 155 81 L (.int 0 :: st) h Q := RR.icn (n := 0) rfl (by decide) rfl
theorem r155_81 {x : Int32} : RR S d 155 81 L (.int x :: st) h Q = RR S d 155 83 (ai_put 6 (.int x) L) st h Q := RR.do1 (83, ai_put 6 (.int x) L, st, h) rfl rfl rfl
theorem r155_83 : RR S d 155 83 L st h Q = kI (ai_look L 6) (fun x => RR S d 155 85 L (.int x :: st) h Q) := RR.ldi rfl rfl
theorem r155_85 {x : Int32} : RR S d 155 85 L (.int x :: st) h Q = if x = 0 then RR S d 155 137 L st h Q else RR S d 155 88 L st h Q := RR.b1 (c := .eq) (off := 52) rfl rfl (by decide) rfl
theorem r155_88 : RR S d 155 88 L st h Q = kI (ai_look L 4) (fun x => RR S d 155 91 (ai_put 4 (.int (x + 1)) L) st h Q) := RR.iinc (k := 4) (n := 1) rfl (by decide) (by decide) rfl
theorem r155_91 : RR S d 155 91 L st h Q = kI (ai_look L 3) (fun x => RR S d 155 92 L (.int x :: st) h Q) := RR.ldi_n rfl rfl rfl
theorem r155_92 {x : Int32} : RR S d 155 92 L (.int x :: st) h Q = if x < 0 then RR S d 155 130 L st h Q else RR S d 155 95 L st h Q := RR.b1 (c := .lt) (off := 38) rfl rfl (by decide) rfl
theorem r155_95 : RR S d 155 95 L st h Q = kA (ai_look L 0) (fun x => RR S d 155 96 L (x :: st) h Q) := RR.lda_n rfl rfl rfl
theorem r155_96 {a : Nat} : RR S d 155 96 L (.ref a :: st) h Q = kO (ai_fld h a 10 36) (fun w => RR S d 155 99 L (w :: st) h Q) := RR.get rfl rfl rfl
theorem r155_99 : RR S d 155 99 L st h Q = RR S d 155 100 L (.int 4 :: st) h Q := RR.icn (n := 4) rfl (by decide) rfl
theorem r155_100 : RR S d 155 100 L st h Q = kI (ai_look L 5) (fun x => RR S d 155 102 L (.int x :: st) h Q) := RR.ldi rfl rfl
theorem r155_102 {x y : Int32} : RR S d 155 102 L (.int y :: .int x :: st) h Q = RR S d 155 103 L (.int (x * y) :: st) h Q := RR.do1 (103, L, .int (x * y) :: st, h) rfl rfl rfl
theorem r155_103 : RR S d 155 103 L st h Q = kA (ai_look L 0) (fun x => RR S d 155 104 L (x :: st) h Q) := RR.lda_n rfl rfl rfl
theorem r155_104 {a : Nat} : RR S d 155 104 L (.ref a :: st) h Q = kO (ai_fld h a 10 39) (fun w => RR S d 155 107 L (w :: st) h Q) := RR.get rfl rfl rfl
theorem r155_107 : RR S d 155 107 L st h Q = kI (ai_look L 5) (fun x => RR S d 155 109 L (.int x :: st) h Q) := RR.ldi rfl rfl
theorem r155_109 {x : Int32} {a : Nat} : RR S d 155 109 L (.int x :: .ref a :: st) h Q = kO (ai_arr h a 0) (fun q => kB (ai_in x q.1) (RR S d 155 110 L (.int (q.2 x.toNatClampNeg) :: st) h Q)) := RR.ial rfl rfl
theorem r155_110 {x y : Int32} : RR S d 155 110 L (.int y :: .int x :: st) h Q = RR S d 155 111 L (.int (x + y) :: st) h Q := RR.do1 (111, L, .int (x + y) :: st, h) rfl rfl rfl
theorem r155_111 {x : Int32} {a : Nat} : RR S d 155 111 L (.int x :: .ref a :: st) h Q = kO (ai_arr h a 0) (fun q => kB (ai_in x q.1) (RR S d 155 112 L (.int (q.2 x.toNatClampNeg) :: st) h Q)) := RR.ial rfl rfl
theorem r155_112 : RR S d 155 112 L st h Q = kA (ai_look L 0) (fun x => RR S d 155 113 L (x :: st) h Q) := RR.lda_n rfl rfl rfl
theorem r155_113 {a : Nat} : RR S d 155 113 L (.ref a :: st) h Q = kO (ai_fld h a 10 36) (fun w => RR S d 155 116 L (w :: st) h Q) := RR.get rfl rfl rfl
theorem r155_116 : RR S d 155 116 L st h Q = RR S d 155 117 L (.int 4 :: st) h Q := RR.icn (n := 4) rfl (by decide) rfl
theorem r155_117 : RR S d 155 117 L st h Q = kI (ai_look L 3) (fun x => RR S d 155 118 L (.int x :: st) h Q) := RR.ldi_n rfl rfl rfl
theorem r155_118 {x y : Int32} : RR S d 155 118 L (.int y :: .int x :: st) h Q = RR S d 155 119 L (.int (x * y) :: st) h Q := RR.do1 (119, L, .int (x * y) :: st, h) rfl rfl rfl
theorem r155_119 : RR S d 155 119 L st h Q = kA (ai_look L 0) (fun x => RR S d 155 120 L (x :: st) h Q) := RR.lda_n rfl rfl rfl
theorem r155_120 {a : Nat} : RR S d 155 120 L (.ref a :: st) h Q = kO (ai_fld h a 10 39) (fun w => RR S d 155 123 L (w :: st) h Q) := RR.get rfl rfl rfl
theorem r155_123 : RR S d 155 123 L st h Q = kI (ai_look L 3) (fun x => RR S d 155 124 L (.int x :: st) h Q) := RR.ldi_n rfl rfl rfl
theorem r155_124 {x : Int32} {a : Nat} : RR S d 155 124 L (.int x :: .ref a :: st) h Q = kO (ai_arr h a 0) (fun q => kB (ai_in x q.1) (RR S d 155 125 L (.int (q.2 x.toNatClampNeg) :: st) h Q)) := RR.ial rfl rfl
theorem r155_125 {x y : Int32} : RR S d 155 125 L (.int y :: .int x :: st) h Q = RR S d 155 126 L (.int (x + y) :: st) h Q := RR.do1 (126, L, .int (x + y) :: st, h) rfl rfl rfl
theorem r155_126 {x : Int32} {a : Nat} : RR S d 155 126 L (.int x :: .ref a :: st) h Q = kO (ai_arr h a 0) (fun q => kB (ai_in x q.1) (RR S d 155 127 L (.int (q.2 x.toNatClampNeg) :: st) h Q)) := RR.ial rfl rfl
theorem r155_127 {x y : Int32} : RR S d 155 127 L (.int y :: .int x :: st) h Q = if y ≤ x then RR S d 155 135 L st h Q else RR S d 155 130 L st h Q := RR.b2 (c := .ge) (off := 8) rfl rfl (by decide) rfl
theorem r155_130 : RR S d 155 130 L st h Q = kI (ai_look L 5) (fun x => RR S d 155 132 L (.int x :: st) h Q) := RR.ldi rfl rfl
theorem r155_132 : RR S d 155 132 L st h Q = RR S d 155 136 L st h Q := RR.jmp (off := 4) rfl (by decide)
theorem r155_135 : RR S d 155 135 L st h Q = kI (ai_look L 3) (fun x => RR S d 155 136 L (.int x :: st) h Q) := RR.ldi_n rfl rfl rfl
theorem r155_136 {x : Int32} : RR S d 155 136 L (.int x :: st) h Q = RR S d 155 137 (ai_put 3 (.int x) L) st h Q := RR.do1 (137, ai_put 3 (.int x) L, st, h) rfl rfl rfl
theorem r155_137 : RR S d 155 137 L st h Q = kI (ai_look L 5) (fun x => RR S d 155 140 (ai_put 5 (.int (x + 1)) L) st h Q) := RR.iinc (k := 5) (n := 1) rfl (by decide) (by decide) rfl
theorem r155_140 : RR S d 155 140 L st h Q = RR S d 155 8 L st h Q := RR.jmp (off := (-132)) rfl (by decide)
theorem r155_143 : RR S d 155 143 L st h Q = kI (ai_look L 3) (fun x => RR S d 155 144 L (.int x :: st) h Q) := RR.ldi_n rfl rfl rfl
theorem r155_144 {x : Int32} : RR S d 155 144 L (.int x :: st) h Q = if x < 0 then RR S d 155 201 L st h Q else RR S d 155 147 L st h Q := RR.b1 (c := .lt) (off := 57) rfl rfl (by decide) rfl
theorem r155_147 : RR S d 155 147 L st h Q = kA (ai_look L 0) (fun x => RR S d 155 148 L (x :: st) h Q) := RR.lda_n rfl rfl rfl
theorem r155_148 {a : Nat} : RR S d 155 148 L (.ref a :: st) h Q = kO (ai_fld h a 10 40) (fun w => RR S d 155 151 L (w :: st) h Q) := RR.get rfl rfl rfl
theorem r155_151 : RR S d 155 151 L st h Q = kI (ai_look L 1) (fun x => RR S d 155 152 L (.int x :: st) h Q) := RR.ldi_n rfl rfl rfl
theorem r155_152 {x : Int32} {a : Nat} : RR S d 155 152 L (.int x :: .ref a :: st) h Q = kO (ai_arr h a 0) (fun q => kB (ai_in x q.1) (RR S d 155 153 L (.int (q.2 x.toNatClampNeg) :: st) h Q)) := RR.ial rfl rfl
theorem r155_153 : RR S d 155 153 L st h Q = kI (ai_look L 2) (fun x => RR S d 155 154 L (.int x :: st) h Q) := RR.ldi_n rfl rfl rfl
theorem r155_154 {x y : Int32} : RR S d 155 154 L (.int y :: .int x :: st) h Q = if y < x then RR S d 155 201 L st h Q else RR S d 155 157 L st h Q := RR.b2 (c := .gt) (off := 47) rfl rfl (by decide) rfl
theorem r155_157 : RR S d 155 157 L st h Q = kA (ai_look L 0) (fun x => RR S d 155 158 L (x :: st) h Q) := RR.lda_n rfl rfl rfl
theorem r155_158 : RR S d 155 158 L st h Q = kI (ai_look L 1) (fun x => RR S d 155 159 L (.int x :: st) h Q) := RR.ldi_n rfl rfl rfl
theorem r155_159 : RR S d 155 159 L st h Q = kI (ai_look L 2) (fun x => RR S d 155 160 L (.int x :: st) h Q) := RR.ldi_n rfl rfl rfl
theorem r155_160 : RR S d 155 160 L st h Q = kA (ai_look L 0) (fun x => RR S d 155 161 L (x :: st) h Q) := RR.lda_n rfl rfl rfl
theorem r155_161 {a : Nat} : RR S d 155 161 L (.ref a :: st) h Q = kO (ai_fld h a 10 2) (fun w => RR S d 155 164 L (w :: st) h Q) := RR.get rfl rfl rfl
theorem r155_164 : RR S d 155 164 L st h Q = kA (ai_look L 0) (fun x => RR S d 155 165 L (x :: st) h Q) := RR.lda_n rfl rfl rfl
theorem r155_165 {a : Nat} : RR S d 155 165 L (.ref a :: st) h Q = kO (ai_fld h a 10 4) (fun w => RR S d 155 168 L (w :: st) h Q) := RR.get rfl rfl rfl
theorem r155_168 : RR S d 155 168 L st h Q = kI (ai_look L 1) (fun x => RR S d 155 169 L (.int x :: st) h Q) := RR.ldi_n rfl rfl rfl
theorem r155_169 {x : Int32} {a : Nat} : RR S d 155 169 L (.int x :: .ref a :: st) h Q = kO (ai_arr h a 0) (fun q => kB (ai_in x q.1) (RR S d 155 170 L (.int (q.2 x.toNatClampNeg) :: st) h Q)) := RR.ial rfl rfl
theorem r155_170 {x : Int32} {a : Nat} : RR S d 155 170 L (.int x :: .ref a :: st) h Q = kO (ai_arr h a 0) (fun q => kB (ai_in x q.1) (RR S d 155 171 L (.int (q.2 x.toNatClampNeg) :: st) h Q)) := RR.ial rfl rfl
theorem r155_171 {x y : Int32} : RR S d 155 171 L (.int y :: .int x :: st) h Q = RR S d 155 172 L (.int (x - y) :: st) h Q := RR.do1 (172, L, .int (x - y) :: st, h) rfl rfl rfl
theorem r155_172 : RR S d 155 172 L st h Q = kA (ai_look L 0) (fun x => RR S d 155 173 L (x :: st) h Q) := RR.lda_n rfl rfl rfl
theorem r155_173 {a : Nat} : RR S d 155 173 L (.ref a :: st) h Q = kO (ai_fld h a 10 24) (fun w => RR S d 155 176 L (w :: st) h Q) := RR.get rfl rfl rfl
theorem r155_176 : RR S d 155 176 L st h Q = kI (ai_look L 3) (fun x => RR S d 155 177 L (.int x :: st) h Q) := RR.ldi_n rfl rfl rfl
theorem r155_177 {x : Int32} {a : Nat} : RR S d 155 177 L (.int x :: .ref a :: st) h Q = kO (ai_arr h a 0) (fun q => kB (ai_in x q.1) (RR S d 155 178 L (.int (q.2 x.toNatClampNeg) :: st) h Q)) := RR.ial rfl rfl
theorem r155_178 : RR S d 155 178 L st h Q = kA (ai_look L 0) (fun x => RR S d 155 179 L (x :: st) h Q) := RR.lda_n rfl rfl rfl
theorem r155_179 {a : Nat} : RR S d 155 179 L (.ref a :: st) h Q = kO (ai_fld h a 10 7) (fun w => RR S d 155 182 L (w :: st) h Q) := RR.get rfl rfl rfl
theorem r155_182 : RR S d 155 182 L st h Q = kI (ai_look L 1) (fun x => RR S d 155 183 L (.int x :: st) h Q) := RR.ldi_n rfl rfl rfl
theorem r155_183 {x : Int32} {a : Nat} : RR S d 155 183 L (.int x :: .ref a :: st) h Q = kO (ai_arr h a 0) (fun q => kB (ai_in x q.1) (RR S d 155 184 L (.int (q.2 x.toNatClampNeg) :: st) h Q)) := RR.ial rfl rfl
theorem r155_184 {x y : Int32} : RR S d 155 184 L (.int y :: .int x :: st) h Q = RR S d 155 185 L (.int (x * y) :: st) h Q := RR.do1 (185, L, .int (x * y) :: st, h) rfl rfl rfl
theorem r155_185 {p0 : Int32} {p1 : Int32} {p2 : Int32} {a : Nat} : RR S (d + 1) 155 185 L (.int p2 :: .int p1 :: .int p0 :: .ref a :: st) h Q = kB (decide (ai_sum st ≤ 8)) (kB ((ai_obj h a 10).isSome) (RR S d 146 0 [(0, .ref a), (1, .int p0), (2, .int p1), (3, .int p2)] [] h (fun r h1 => RR S (d + 1) 155 188 L (r.toList ++ st) h1 Q))) := RR.cv (j := 211) (mn' := 146) (n := 3) rfl rfl rfl rfl rfl rfl
theorem r155_188 {x : Int32} : RR S d 155 188 L (.int x :: st) h Q = if x = 0 then RR S d 155 201 L st h Q else RR S d 155 191 L st h Q := RR.b1 (c := .eq) (off := 13) rfl rfl (by decide) rfl
theorem r155_191 : RR S d 155 191 L st h Q = kA (ai_look L 0) (fun x => RR S d 155 192 L (x :: st) h Q) := RR.lda_n rfl rfl rfl
theorem r155_192 : RR S d 155 192 L st h Q = kI (ai_look L 3) (fun x => RR S d 155 193 L (.int x :: st) h Q) := RR.ldi_n rfl rfl rfl
theorem r155_193 : RR S d 155 193 L st h Q = kI (ai_look L 1) (fun x => RR S d 155 194 L (.int x :: st) h Q) := RR.ldi_n rfl rfl rfl
theorem r155_194 : RR S d 155 194 L st h Q = kI (ai_look L 2) (fun x => RR S d 155 195 L (.int x :: st) h Q) := RR.ldi_n rfl rfl rfl
theorem r155_195 {p0 : Int32} {p1 : Int32} {p2 : Int32} {a : Nat} : RR S (d + 1) 155 195 L (.int p2 :: .int p1 :: .int p0 :: .ref a :: st) h Q = kB (decide (ai_sum st ≤ 8)) (kB ((ai_obj h a 10).isSome) (RR S d 156 0 [(0, .ref a), (1, .int p0), (2, .int p1), (3, .int p2)] [] h (fun r h1 => RR S (d + 1) 155 198 L (r.toList ++ st) h1 Q))) := RR.cv (j := 224) (mn' := 156) (n := 3) rfl rfl rfl rfl rfl rfl
theorem r155_198 : RR S d 155 198 L st h Q = kI (ai_look L 4) (fun x => RR S d 155 201 (ai_put 4 (.int (x + (-1))) L) st h Q) := RR.iinc (k := 4) (n := (-1)) rfl (by decide) (by decide) rfl
theorem r155_201 : RR S d 155 201 L st h Q = kA (ai_look L 0) (fun x => RR S d 155 202 L (x :: st) h Q) := RR.lda_n rfl rfl rfl
theorem r155_202 {a : Nat} : RR S d 155 202 L (.ref a :: st) h Q = kO (ai_fld h a 10 41) (fun w => RR S d 155 205 L (w :: st) h Q) := RR.get rfl rfl rfl
theorem r155_205 : RR S d 155 205 L st h Q = kI (ai_look L 1) (fun x => RR S d 155 206 L (.int x :: st) h Q) := RR.ldi_n rfl rfl rfl
theorem r155_206 : RR S d 155 206 L st h Q = kI (ai_look L 4) (fun x => RR S d 155 208 L (.int x :: st) h Q) := RR.ldi rfl rfl
theorem r155_208 : RR S d 155 208 L st h Q = kA (ai_look L 0) (fun x => RR S d 155 209 L (x :: st) h Q) := RR.lda_n rfl rfl rfl
theorem r155_209 {a : Nat} : RR S d 155 209 L (.ref a :: st) h Q = kO (ai_fld h a 10 41) (fun w => RR S d 155 212 L (w :: st) h Q) := RR.get rfl rfl rfl
theorem r155_212 : RR S d 155 212 L st h Q = kI (ai_look L 1) (fun x => RR S d 155 213 L (.int x :: st) h Q) := RR.ldi_n rfl rfl rfl
theorem r155_213 {x : Int32} {a : Nat} : RR S d 155 213 L (.int x :: .ref a :: st) h Q = kO (ai_arr h a 0) (fun q => kB (ai_in x q.1) (RR S d 155 214 L (.int (q.2 x.toNatClampNeg) :: st) h Q)) := RR.ial rfl rfl
theorem r155_214 {x y : Int32} : RR S d 155 214 L (.int y :: .int x :: st) h Q = if x ≤ y then RR S d 155 222 L st h Q else RR S d 155 217 L st h Q := RR.b2 (c := .le) (off := 8) rfl rfl (by decide) rfl
theorem r155_217 : RR S d 155 217 L st h Q = kI (ai_look L 4) (fun x => RR S d 155 219 L (.int x :: st) h Q) := RR.ldi rfl rfl
theorem r155_219 : RR S d 155 219 L st h Q = RR S d 155 228 L st h Q := RR.jmp (off := 9) rfl (by decide)
theorem r155_222 : RR S d 155 222 L st h Q = kA (ai_look L 0) (fun x => RR S d 155 223 L (x :: st) h Q) := RR.lda_n rfl rfl rfl
theorem r155_223 {a : Nat} : RR S d 155 223 L (.ref a :: st) h Q = kO (ai_fld h a 10 41) (fun w => RR S d 155 226 L (w :: st) h Q) := RR.get rfl rfl rfl
theorem r155_226 : RR S d 155 226 L st h Q = kI (ai_look L 1) (fun x => RR S d 155 227 L (.int x :: st) h Q) := RR.ldi_n rfl rfl rfl
theorem r155_227 {x : Int32} {a : Nat} : RR S d 155 227 L (.int x :: .ref a :: st) h Q = kO (ai_arr h a 0) (fun q => kB (ai_in x q.1) (RR S d 155 228 L (.int (q.2 x.toNatClampNeg) :: st) h Q)) := RR.ial rfl rfl
theorem r155_228 {x y : Int32} {a : Nat} : RR S d 155 228 L (.int y :: .int x :: .ref a :: st) h Q = kO (ai_arr h a 0) (fun q => kB (ai_in x q.1) (RR S d 155 229 L st (h.1.set a (.inl (0, q.1, .inl (upd q.2 x.toNatClampNeg y))), h.2) Q)) := RR.ias rfl rfl
theorem r155_229 : RR S d 155 229 L [] h Q = Q none h := RR.rt rfl rfl rfl
theorem r156_0 : RR S d 156 0 L st h Q = kA (ai_look L 0) (fun x => RR S d 156 1 L (x :: st) h Q) := RR.lda_n rfl rfl rfl
theorem r156_1 {a : Nat} : RR S d 156 1 L (.ref a :: st) h Q = kO (ai_fld h a 10 24) (fun w => RR S d 156 4 L (w :: st) h Q) := RR.get rfl rfl rfl
theorem r156_4 : RR S d 156 4 L st h Q = kI (ai_look L 1) (fun x => RR S d 156 5 L (.int x :: st) h Q) := RR.ldi_n rfl rfl rfl
theorem r156_5 {x : Int32} {a : Nat} : RR S d 156 5 L (.int x :: .ref a :: st) h Q = kO (ai_arr h a 0) (fun q => kB (ai_in x q.1) (RR S d 156 6 L (.int (q.2 x.toNatClampNeg) :: st) h Q)) := RR.ial rfl rfl
theorem r156_6 : RR S d 156 6 L st h Q = kA (ai_look L 0) (fun x => RR S d 156 7 L (x :: st) h Q) := RR.lda_n rfl rfl rfl
theorem r156_7 {a : Nat} : RR S d 156 7 L (.ref a :: st) h Q = kO (ai_fld h a 10 7) (fun w => RR S d 156 10 L (w :: st) h Q) := RR.get rfl rfl rfl
theorem r156_10 : RR S d 156 10 L st h Q = kI (ai_look L 2) (fun x => RR S d 156 11 L (.int x :: st) h Q) := RR.ldi_n rfl rfl rfl
theorem r156_11 {x : Int32} {a : Nat} : RR S d 156 11 L (.int x :: .ref a :: st) h Q = kO (ai_arr h a 0) (fun q => kB (ai_in x q.1) (RR S d 156 12 L (.int (q.2 x.toNatClampNeg) :: st) h Q)) := RR.ial rfl rfl
theorem r156_12 {x y : Int32} : RR S d 156 12 L (.int y :: .int x :: st) h Q = RR S d 156 13 L (.int (x * y) :: st) h Q := RR.do1 (13, L, .int (x * y) :: st, h) rfl rfl rfl
theorem r156_13 {x : Int32} : RR S d 156 13 L (.int x :: st) h Q = RR S d 156 15 (ai_put 4 (.int x) L) st h Q := RR.do1 (15, ai_put 4 (.int x) L, st, h) rfl rfl rfl
theorem r156_15 : RR S d 156 15 L st h Q = kA (ai_look L 0) (fun x => RR S d 156 16 L (x :: st) h Q) := RR.lda_n rfl rfl rfl
theorem r156_16 {a : Nat} : RR S d 156 16 L (.ref a :: st) h Q = kO (ai_fld h a 10 37) (fun w => RR S d 156 19 L (w :: st) h Q) := RR.get rfl rfl rfl
theorem r156_19 : RR S d 156 19 L st h Q = RR S d 156 20 L (.int 4 :: st) h Q := RR.icn (n := 4) rfl (by decide) rfl
theorem r156_20 : RR S d 156 20 L st h Q = kI (ai_look L 1) (fun x => RR S d 156 21 L (.int x :: st) h Q) := RR.ldi_n rfl rfl rfl
theorem r156_21 {x y : Int32} : RR S d 156 21 L (.int y :: .int x :: st) h Q = RR S d 156 22 L (.int (x * y) :: st) h Q := RR.do1 (22, L, .int (x * y) :: st, h) rfl rfl rfl
theorem r156_22 : RR S d 156 22 L st h Q = kA (ai_look L 0) (fun x => RR S d 156 23 L (x :: st) h Q) := RR.lda_n rfl rfl rfl
theorem r156_23 {a : Nat} : RR S d 156 23 L (.ref a :: st) h Q = kO (ai_fld h a 10 39) (fun w => RR S d 156 26 L (w :: st) h Q) := RR.get rfl rfl rfl
theorem r156_26 : RR S d 156 26 L st h Q = kI (ai_look L 1) (fun x => RR S d 156 27 L (.int x :: st) h Q) := RR.ldi_n rfl rfl rfl
theorem r156_27 {x : Int32} {a : Nat} : RR S d 156 27 L (.int x :: .ref a :: st) h Q = kO (ai_arr h a 0) (fun q => kB (ai_in x q.1) (RR S d 156 28 L (.int (q.2 x.toNatClampNeg) :: st) h Q)) := RR.ial rfl rfl
theorem r156_28 {x y : Int32} : RR S d 156 28 L (.int y :: .int x :: st) h Q = RR S d 156 29 L (.int (x + y) :: st) h Q := RR.do1 (29, L, .int (x + y) :: st, h) rfl rfl rfl
theorem r156_29 : RR S d 156 29 L st h Q = kI (ai_look L 3) (fun x => RR S d 156 30 L (.int x :: st) h Q) := RR.ldi_n rfl rfl rfl
theorem r156_30 {x y : Int32} {a : Nat} : RR S d 156 30 L (.int y :: .int x :: .ref a :: st) h Q = kO (ai_arr h a 0) (fun q => kB (ai_in x q.1) (RR S d 156 31 L st (h.1.set a (.inl (0, q.1, .inl (upd q.2 x.toNatClampNeg y))), h.2) Q)) := RR.ias rfl rfl
theorem r156_31 : RR S d 156 31 L st h Q = kA (ai_look L 0) (fun x => RR S d 156 32 L (x :: st) h Q) := RR.lda_n rfl rfl rfl
theorem r156_32 {a : Nat} : RR S d 156 32 L (.ref a :: st) h Q = kO (ai_fld h a 10 40) (fun w => RR S d 156 35 L (w :: st) h Q) := RR.get rfl rfl rfl
theorem r156_35 : RR S d 156 35 L st h Q = kI (ai_look L 2) (fun x => RR S d 156 36 L (.int x :: st) h Q) := RR.ldi_n rfl rfl rfl
theorem r156_36 : RR S d 156 36 L st h Q = kI (ai_look L 3) (fun x => RR S d 156 37 L (.int x :: st) h Q) := RR.ldi_n rfl rfl rfl
theorem r156_37 : RR S d 156 37 L st h Q = kI (ai_look L 4) (fun x => RR S d 156 39 L (.int x :: st) h Q) := RR.ldi rfl rfl
theorem r156_39 {x y : Int32} : RR S d 156 39 L (.int y :: .int x :: st) h Q = RR S d 156 40 L (.int (x + y) :: st) h Q := RR.do1 (40, L, .int (x + y) :: st, h) rfl rfl rfl
theorem r156_40 {x y : Int32} {a : Nat} : RR S d 156 40 L (.int y :: .int x :: .ref a :: st) h Q = kO (ai_arr h a 0) (fun q => kB (ai_in x q.1) (RR S d 156 41 L st (h.1.set a (.inl (0, q.1, .inl (upd q.2 x.toNatClampNeg y))), h.2) Q)) := RR.ias rfl rfl
theorem r156_41 : RR S d 156 41 L st h Q = kA (ai_look L 0) (fun x => RR S d 156 42 L (x :: st) h Q) := RR.lda_n rfl rfl rfl
theorem r156_42 {a : Nat} : RR S d 156 42 L (.ref a :: st) h Q = kO (ai_fld h a 10 39) (fun w => RR S d 156 45 L (w :: st) h Q) := RR.get rfl rfl rfl
theorem r156_45 : RR S d 156 45 L st h Q = kI (ai_look L 1) (fun x => RR S d 156 46 L (.int x :: st) h Q) := RR.ldi_n rfl rfl rfl
theorem r156_46 {v w : Value} (hv : v.category = 1) (hw : w.category = 1) : RR S d 156 46 L (v :: w :: st) h Q = RR S d 156 47 L (v :: w :: v :: w :: st) h Q := RR.dup2 rfl hv hw rfl
theorem r156_47 {x : Int32} {a : Nat} : RR S d 156 47 L (.int x :: .ref a :: st) h Q = kO (ai_arr h a 0) (fun q => kB (ai_in x q.1) (RR S d 156 48 L (.int (q.2 x.toNatClampNeg) :: st) h Q)) := RR.ial rfl rfl
theorem r156_48 : RR S d 156 48 L st h Q = RR S d 156 49 L (.int 1 :: st) h Q := RR.icn (n := 1) rfl (by decide) rfl
theorem r156_49 {x y : Int32} : RR S d 156 49 L (.int y :: .int x :: st) h Q = RR S d 156 50 L (.int (x + y) :: st) h Q := RR.do1 (50, L, .int (x + y) :: st, h) rfl rfl rfl
theorem r156_50 {x y : Int32} {a : Nat} : RR S d 156 50 L (.int y :: .int x :: .ref a :: st) h Q = kO (ai_arr h a 0) (fun q => kB (ai_in x q.1) (RR S d 156 51 L st (h.1.set a (.inl (0, q.1, .inl (upd q.2 x.toNatClampNeg y))), h.2) Q)) := RR.ias rfl rfl
theorem r156_51 : RR S d 156 51 L st h Q = kA (ai_look L 0) (fun x => RR S d 156 52 L (x :: st) h Q) := RR.lda_n rfl rfl rfl
theorem r156_52 {a : Nat} : RR S d 156 52 L (.ref a :: st) h Q = kO (ai_fld h a 10 39) (fun w => RR S d 156 55 L (w :: st) h Q) := RR.get rfl rfl rfl
theorem r156_55 : RR S d 156 55 L st h Q = kI (ai_look L 1) (fun x => RR S d 156 56 L (.int x :: st) h Q) := RR.ldi_n rfl rfl rfl
theorem r156_56 {x : Int32} {a : Nat} : RR S d 156 56 L (.int x :: .ref a :: st) h Q = kO (ai_arr h a 0) (fun q => kB (ai_in x q.1) (RR S d 156 57 L (.int (q.2 x.toNatClampNeg) :: st) h Q)) := RR.ial rfl rfl
theorem r156_57 : RR S d 156 57 L st h Q = kA (ai_look L 0) (fun x => RR S d 156 58 L (x :: st) h Q) := RR.lda_n rfl rfl rfl
theorem r156_58 {a : Nat} : RR S d 156 58 L (.ref a :: st) h Q = kO (ai_fld h a 10 25) (fun w => RR S d 156 61 L (w :: st) h Q) := RR.get rfl rfl rfl
theorem r156_61 : RR S d 156 61 L st h Q = kI (ai_look L 1) (fun x => RR S d 156 62 L (.int x :: st) h Q) := RR.ldi_n rfl rfl rfl
theorem r156_62 {x : Int32} {a : Nat} : RR S d 156 62 L (.int x :: .ref a :: st) h Q = kO (ai_arr h a 0) (fun q => kB (ai_in x q.1) (RR S d 156 63 L (.int (q.2 x.toNatClampNeg) :: st) h Q)) := RR.ial rfl rfl
theorem r156_63 {x y : Int32} : RR S d 156 63 L (.int y :: .int x :: st) h Q = if y ≤ x then RR S d 156 107 L st h Q else RR S d 156 66 L st h Q := RR.b2 (c := .ge) (off := 44) rfl rfl (by decide) rfl
theorem r156_66 : RR S d 156 66 L st h Q = kA (ai_look L 0) (fun x => RR S d 156 67 L (x :: st) h Q) := RR.lda_n rfl rfl rfl
theorem r156_67 {a : Nat} : RR S d 156 67 L (.ref a :: st) h Q = kO (ai_fld h a 10 36) (fun w => RR S d 156 70 L (w :: st) h Q) := RR.get rfl rfl rfl
theorem r156_70 : RR S d 156 70 L st h Q = RR S d 156 71 L (.int 4 :: st) h Q := RR.icn (n := 4) rfl (by decide) rfl
theorem r156_71 : RR S d 156 71 L st h Q = kI (ai_look L 1) (fun x => RR S d 156 72 L (.int x :: st) h Q) := RR.ldi_n rfl rfl rfl
theorem r156_72 {x y : Int32} : RR S d 156 72 L (.int y :: .int x :: st) h Q = RR S d 156 73 L (.int (x * y) :: st) h Q := RR.do1 (73, L, .int (x * y) :: st, h) rfl rfl rfl
theorem r156_73 : RR S d 156 73 L st h Q = kA (ai_look L 0) (fun x => RR S d 156 74 L (x :: st) h Q) := RR.lda_n rfl rfl rfl
theorem r156_74 {a : Nat} : RR S d 156 74 L (.ref a :: st) h Q = kO (ai_fld h a 10 39) (fun w => RR S d 156 77 L (w :: st) h Q) := RR.get rfl rfl rfl
theorem r156_77 : RR S d 156 77 L st h Q = kI (ai_look L 1) (fun x => RR S d 156 78 L (.int x :: st) h Q) := RR.ldi_n rfl rfl rfl
theorem r156_78 {x : Int32} {a : Nat} : RR S d 156 78 L (.int x :: .ref a :: st) h Q = kO (ai_arr h a 0) (fun q => kB (ai_in x q.1) (RR S d 156 79 L (.int (q.2 x.toNatClampNeg) :: st) h Q)) := RR.ial rfl rfl
theorem r156_79 {x y : Int32} : RR S d 156 79 L (.int y :: .int x :: st) h Q = RR S d 156 80 L (.int (x + y) :: st) h Q := RR.do1 (80, L, .int (x + y) :: st, h) rfl rfl rfl
theorem r156_80 : RR S d 156 80 L st h Q = kI (ai_look L 3) (fun x => RR S d 156 81 L (.int x :: st) h Q) := RR.ldi_n rfl rfl rfl
theorem r156_81 : RR S d 156 81 L st h Q = kI (ai_look L 4) (fun x => RR S d 156 83 L (.int x :: st) h Q) := RR.ldi rfl rfl
theorem r156_83 {x y : Int32} : RR S d 156 83 L (.int y :: .int x :: st) h Q = RR S d 156 84 L (.int (x + y) :: st) h Q := RR.do1 (84, L, .int (x + y) :: st, h) rfl rfl rfl
theorem r156_84 : RR S d 156 84 L st h Q = kA (ai_look L 0) (fun x => RR S d 156 85 L (x :: st) h Q) := RR.lda_n rfl rfl rfl
theorem r156_85 {a : Nat} : RR S d 156 85 L (.ref a :: st) h Q = kO (ai_fld h a 10 6) (fun w => RR S d 156 88 L (w :: st) h Q) := RR.get rfl rfl rfl
theorem r156_88 : RR S d 156 88 L st h Q = kI (ai_look L 2) (fun x => RR S d 156 89 L (.int x :: st) h Q) := RR.ldi_n rfl rfl rfl
theorem r156_89 {x : Int32} {a : Nat} : RR S d 156 89 L (.int x :: .ref a :: st) h Q = kO (ai_arr h a 0) (fun q => kB (ai_in x q.1) (RR S d 156 90 L (.int (q.2 x.toNatClampNeg) :: st) h Q)) := RR.ial rfl rfl
theorem r156_90 {x y : Int32} : RR S d 156 90 L (.int y :: .int x :: st) h Q = RR S d 156 91 L (.int (x + y) :: st) h Q := RR.do1 (91, L, .int (x + y) :: st, h) rfl rfl rfl
theorem r156_91 : RR S d 156 91 L st h Q = kA (ai_look L 0) (fun x => RR S d 156 92 L (x :: st) h Q) := RR.lda_n rfl rfl rfl
theorem r156_92 {a : Nat} : RR S d 156 92 L (.ref a :: st) h Q = kO (ai_fld h a 10 1) (fun w => RR S d 156 95 L (w :: st) h Q) := RR.get rfl rfl rfl
theorem r156_95 : RR S d 156 95 L st h Q = kA (ai_look L 0) (fun x => RR S d 156 96 L (x :: st) h Q) := RR.lda_n rfl rfl rfl
theorem r156_96 {a : Nat} : RR S d 156 96 L (.ref a :: st) h Q = kO (ai_fld h a 10 5) (fun w => RR S d 156 99 L (w :: st) h Q) := RR.get rfl rfl rfl
theorem r156_99 : RR S d 156 99 L st h Q = kI (ai_look L 2) (fun x => RR S d 156 100 L (.int x :: st) h Q) := RR.ldi_n rfl rfl rfl
theorem r156_100 {x : Int32} {a : Nat} : RR S d 156 100 L (.int x :: .ref a :: st) h Q = kO (ai_arr h a 0) (fun q => kB (ai_in x q.1) (RR S d 156 101 L (.int (q.2 x.toNatClampNeg) :: st) h Q)) := RR.ial rfl rfl
theorem r156_101 {x : Int32} {a : Nat} : RR S d 156 101 L (.int x :: .ref a :: st) h Q = kO (ai_arr h a 0) (fun q => kB (ai_in x q.1) (RR S d 156 102 L (.int (q.2 x.toNatClampNeg) :: st) h Q)) := RR.ial rfl rfl
theorem r156_102 {x y : Int32} : RR S d 156 102 L (.int y :: .int x :: st) h Q = RR S d 156 103 L (.int (x + y) :: st) h Q := RR.do1 (103, L, .int (x + y) :: st, h) rfl rfl rfl
theorem r156_103 {x y : Int32} {a : Nat} : RR S d 156 103 L (.int y :: .int x :: .ref a :: st) h Q = kO (ai_arr h a 0) (fun q => kB (ai_in x q.1) (RR S d 156 104 L st (h.1.set a (.inl (0, q.1, .inl (upd q.2 x.toNatClampNeg y))), h.2) Q)) := RR.ias rfl rfl
theorem r156_104 : RR S d 156 104 L st h Q = RR S d 156 124 L st h Q := RR.jmp (off := 20) rfl (by decide)
theorem r156_107 : RR S d 156 107 L st h Q = kA (ai_look L 0) (fun x => RR S d 156 108 L (x :: st) h Q) := RR.lda_n rfl rfl rfl
theorem r156_108 {a : Nat} : RR S d 156 108 L (.ref a :: st) h Q = kO (ai_fld h a 10 38) (fun w => RR S d 156 111 L (w :: st) h Q) := RR.get rfl rfl rfl
theorem r156_111 : RR S d 156 111 L st h Q = kI (ai_look L 1) (fun x => RR S d 156 112 L (.int x :: st) h Q) := RR.ldi_n rfl rfl rfl
theorem r156_112 : RR S d 156 112 L st h Q = kI (ai_look L 3) (fun x => RR S d 156 113 L (.int x :: st) h Q) := RR.ldi_n rfl rfl rfl
theorem r156_113 : RR S d 156 113 L st h Q = kI (ai_look L 4) (fun x => RR S d 156 115 L (.int x :: st) h Q) := RR.ldi rfl rfl
theorem r156_115 {x y : Int32} : RR S d 156 115 L (.int y :: .int x :: st) h Q = RR S d 156 116 L (.int (x + y) :: st) h Q := RR.do1 (116, L, .int (x + y) :: st, h) rfl rfl rfl
theorem r156_116 : RR S d 156 116 L st h Q = kA (ai_look L 0) (fun x => RR S d 156 117 L (x :: st) h Q) := RR.lda_n rfl rfl rfl
theorem r156_117 {a : Nat} : RR S d 156 117 L (.ref a :: st) h Q = kO (ai_fld h a 10 6) (fun w => RR S d 156 120 L (w :: st) h Q) := RR.get rfl rfl rfl
theorem r156_120 : RR S d 156 120 L st h Q = kI (ai_look L 2) (fun x => RR S d 156 121 L (.int x :: st) h Q) := RR.ldi_n rfl rfl rfl
theorem r156_121 {x : Int32} {a : Nat} : RR S d 156 121 L (.int x :: .ref a :: st) h Q = kO (ai_arr h a 0) (fun q => kB (ai_in x q.1) (RR S d 156 122 L (.int (q.2 x.toNatClampNeg) :: st) h Q)) := RR.ial rfl rfl
theorem r156_122 {x y : Int32} : RR S d 156 122 L (.int y :: .int x :: st) h Q = RR S d 156 123 L (.int (x + y) :: st) h Q := RR.do1 (123, L, .int (x + y) :: st, h) rfl rfl rfl
theorem r156_123 {x y : Int32} {a : Nat} : RR S d 156 123 L (.int y :: .int x :: .ref a :: st) h Q = kO (ai_arr h a 0) (fun q => kB (ai_in x q.1) (RR S d 156 124 L st (h.1.set a (.inl (0, q.1, .inl (upd q.2 x.toNatClampNeg y))), h.2) Q)) := RR.ias rfl rfl
theorem r156_124 : RR S d 156 124 L [] h Q = Q none h := RR.rt rfl rfl rfl
theorem r157_0 : RR S d 157 0 L st h Q = kI (ai_look L 0) (fun x => RR S d 157 1 L (.int x :: st) h Q) := RR.ldi_n rfl rfl rfl
theorem r157_1 : RR S d 157 1 L st h Q = RR S d 157 4 L (.int 3000 :: st) h Q := RR.sip (n := 3000) rfl (by decide) rfl
theorem r157_4 {x y : Int32} : RR S d 157 4 L (.int y :: .int x :: st) h Q = if y ≤ x then RR S d 157 11 L st h Q else RR S d 157 7 L st h Q := RR.b2 (c := .ge) (off := 7) rfl rfl (by decide) rfl
theorem r157_7 : RR S d 157 7 L st h Q = kI (ai_look L 0) (fun x => RR S d 157 8 L (.int x :: st) h Q) := RR.ldi_n rfl rfl rfl
theorem r157_8 : RR S d 157 8 L st h Q = RR S d 157 13 L st h Q := RR.jmp (off := 5) rfl (by decide)
theorem r157_11 : RR S d 157 11 L st h Q = RR S d 157 13 L (.int (-3) :: st) h Q := RR.bip (n := (-3)) rfl (by decide) rfl
theorem r157_13 {x : Int32} : RR S d 157 13 L [.int x] h Q = Q (some (.int x)) h := RR.rt rfl rfl rfl
theorem r158_0 : RR S d 158 0 L st h Q = kI (ai_look L 1) (fun x => RR S d 158 1 L (.int x :: st) h Q) := RR.ldi_n rfl rfl rfl
theorem r158_1 {x : Int32} : RR S d 158 1 L (.int x :: st) h Q = if x < 0 then RR S d 158 12 L st h Q else RR S d 158 4 L st h Q := RR.b1 (c := .lt) (off := 11) rfl rfl (by decide) rfl
theorem r158_4 : RR S d 158 4 L st h Q = kI (ai_look L 1) (fun x => RR S d 158 5 L (.int x :: st) h Q) := RR.ldi_n rfl rfl rfl
theorem r158_5 : RR S d 158 5 L st h Q = kA (ai_look L 0) (fun x => RR S d 158 6 L (x :: st) h Q) := RR.lda_n rfl rfl rfl
theorem r158_6 {a : Nat} : RR S d 158 6 L (.ref a :: st) h Q = kO (ai_fld h a 10 22) (fun w => RR S d 158 9 L (w :: st) h Q) := RR.get rfl rfl rfl
theorem r158_9 {x y : Int32} : RR S d 158 9 L (.int y :: .int x :: st) h Q = if x < y then RR S d 158 14 L st h Q else RR S d 158 12 L st h Q := RR.b2 (c := .lt) (off := 5) rfl rfl (by decide) rfl
theorem r158_12 : RR S d 158 12 L st h Q = RR S d 158 13 L (.int (-1) :: st) h Q := RR.icn (n := (-1)) rfl (by decide) rfl
theorem r158_13 {x : Int32} : RR S d 158 13 L [.int x] h Q = Q (some (.int x)) h := RR.rt rfl rfl rfl
theorem r158_14 : RR S d 158 14 L st h Q = kA (ai_look L 0) (fun x => RR S d 158 15 L (x :: st) h Q) := RR.lda_n rfl rfl rfl
theorem r158_15 {a : Nat} : RR S d 158 15 L (.ref a :: st) h Q = kO (ai_fld h a 10 25) (fun w => RR S d 158 18 L (w :: st) h Q) := RR.get rfl rfl rfl
theorem r158_18 : RR S d 158 18 L st h Q = kI (ai_look L 1) (fun x => RR S d 158 19 L (.int x :: st) h Q) := RR.ldi_n rfl rfl rfl
theorem r158_19 {x : Int32} {a : Nat} : RR S d 158 19 L (.int x :: .ref a :: st) h Q = kO (ai_arr h a 0) (fun q => kB (ai_in x q.1) (RR S d 158 20 L (.int (q.2 x.toNatClampNeg) :: st) h Q)) := RR.ial rfl rfl
theorem r158_20 {x : Int32} : RR S d 158 20 L (.int x :: st) h Q = RR S d 158 21 (ai_put 3 (.int x) L) st h Q := RR.do1 (21, ai_put 3 (.int x) L, st, h) rfl rfl rfl
theorem r158_21 : RR S d 158 21 L st h Q = kI (ai_look L 2) (fun x => RR S d 158 22 L (.int x :: st) h Q) := RR.ldi_n rfl rfl rfl
theorem r158_22 {x : Int32} : RR S d 158 22 L (.int x :: st) h Q = if ¬ x = 0 then RR S d 158 27 L st h Q else RR S d 158 25 L st h Q := RR.b1 (c := .ne) (off := 5) rfl rfl (by decide) rfl
theorem r158_25 : RR S d 158 25 L st h Q = kI (ai_look L 3) (fun x => RR S d 158 26 L (.int x :: st) h Q) := RR.ldi_n rfl rfl rfl
theorem r158_26 {x : Int32} : RR S d 158 26 L [.int x] h Q = Q (some (.int x)) h := RR.rt rfl rfl rfl
theorem r158_27 : RR S d 158 27 L st h Q = kI (ai_look L 2) (fun x => RR S d 158 28 L (.int x :: st) h Q) := RR.ldi_n rfl rfl rfl
theorem r158_28 : RR S d 158 28 L st h Q = RR S d 158 30 L (.int 10 :: st) h Q := RR.bip (n := 10) rfl (by decide) rfl
theorem r158_30 {x y : Int32} : RR S d 158 30 L (.int y :: .int x :: st) h Q = if x < y then RR S d 158 55 L st h Q else RR S d 158 33 L st h Q := RR.b2 (c := .lt) (off := 25) rfl rfl (by decide) rfl
theorem r158_33 : RR S d 158 33 L st h Q = kI (ai_look L 2) (fun x => RR S d 158 34 L (.int x :: st) h Q) := RR.ldi_n rfl rfl rfl
theorem r158_34 : RR S d 158 34 L st h Q = RR S d 158 36 L (.int 10 :: st) h Q := RR.bip (n := 10) rfl (by decide) rfl
theorem r158_36 : RR S d 158 36 L st h Q = kI (ai_look L 3) (fun x => RR S d 158 37 L (.int x :: st) h Q) := RR.ldi_n rfl rfl rfl
theorem r158_37 {x y : Int32} : RR S d 158 37 L (.int y :: .int x :: st) h Q = RR S d 158 38 L (.int (x + y) :: st) h Q := RR.do1 (38, L, .int (x + y) :: st, h) rfl rfl rfl
theorem r158_38 {x y : Int32} : RR S d 158 38 L (.int y :: .int x :: st) h Q = if y ≤ x then RR S d 158 55 L st h Q else RR S d 158 41 L st h Q := RR.b2 (c := .ge) (off := 17) rfl rfl (by decide) rfl
theorem r158_41 : RR S d 158 41 L st h Q = kA (ai_look L 0) (fun x => RR S d 158 42 L (x :: st) h Q) := RR.lda_n rfl rfl rfl
theorem r158_42 {a : Nat} : RR S d 158 42 L (.ref a :: st) h Q = kO (ai_fld h a 10 26) (fun w => RR S d 158 45 L (w :: st) h Q) := RR.get rfl rfl rfl
theorem r158_45 : RR S d 158 45 L st h Q = RR S d 158 46 L (.int 4 :: st) h Q := RR.icn (n := 4) rfl (by decide) rfl
theorem r158_46 : RR S d 158 46 L st h Q = kI (ai_look L 1) (fun x => RR S d 158 47 L (.int x :: st) h Q) := RR.ldi_n rfl rfl rfl
theorem r158_47 {x y : Int32} : RR S d 158 47 L (.int y :: .int x :: st) h Q = RR S d 158 48 L (.int (x * y) :: st) h Q := RR.do1 (48, L, .int (x * y) :: st, h) rfl rfl rfl
theorem r158_48 : RR S d 158 48 L st h Q = kI (ai_look L 2) (fun x => RR S d 158 49 L (.int x :: st) h Q) := RR.ldi_n rfl rfl rfl
theorem r158_49 {x y : Int32} : RR S d 158 49 L (.int y :: .int x :: st) h Q = RR S d 158 50 L (.int (x + y) :: st) h Q := RR.do1 (50, L, .int (x + y) :: st, h) rfl rfl rfl
theorem r158_50 : RR S d 158 50 L st h Q = RR S d 158 52 L (.int 10 :: st) h Q := RR.bip (n := 10) rfl (by decide) rfl
theorem r158_52 {x y : Int32} : RR S d 158 52 L (.int y :: .int x :: st) h Q = RR S d 158 53 L (.int (x - y) :: st) h Q := RR.do1 (53, L, .int (x - y) :: st, h) rfl rfl rfl
theorem r158_53 {x : Int32} {a : Nat} : RR S d 158 53 L (.int x :: .ref a :: st) h Q = kO (ai_arr h a 0) (fun q => kB (ai_in x q.1) (RR S d 158 54 L (.int (q.2 x.toNatClampNeg) :: st) h Q)) := RR.ial rfl rfl
theorem r158_54 {x : Int32} : RR S d 158 54 L [.int x] h Q = Q (some (.int x)) h := RR.rt rfl rfl rfl
theorem r158_55 : RR S d 158 55 L st h Q = kA (ai_look L 0) (fun x => RR S d 158 56 L (x :: st) h Q) := RR.lda_n rfl rfl rfl
theorem r158_56 {a : Nat} : RR S (d + 1) 158 56 L (.ref a :: st) h Q = kB (decide (ai_sum st ≤ 8)) (kB ((ai_obj h a 10).isSome) (RR S d 154 0 [(0, .ref a)] [] h (fun r h1 => RR S (d + 1) 158 59 L (r.toList ++ st) h1 Q))) := RR.cv (j := 227) (mn' := 154) (n := 0) rfl rfl rfl rfl rfl rfl
theorem r158_59 : RR S d 158 59 L st h Q = kI (ai_look L 2) (fun x => RR S d 158 60 L (.int x :: st) h Q) := RR.ldi_n rfl rfl rfl
theorem r158_60 : RR S d 158 60 L st h Q = RR S d 158 61 L (.int 1 :: st) h Q := RR.icn (n := 1) rfl (by decide) rfl
theorem r158_61 {x y : Int32} : RR S d 158 61 L (.int y :: .int x :: st) h Q = if ¬ x = y then RR S d 158 74 L st h Q else RR S d 158 64 L st h Q := RR.b2 (c := .ne) (off := 13) rfl rfl (by decide) rfl
theorem r158_64 : RR S d 158 64 L st h Q = kA (ai_look L 0) (fun x => RR S d 158 65 L (x :: st) h Q) := RR.lda_n rfl rfl rfl
theorem r158_65 {a : Nat} : RR S d 158 65 L (.ref a :: st) h Q = kO (ai_fld h a 10 38) (fun w => RR S d 158 68 L (w :: st) h Q) := RR.get rfl rfl rfl
theorem r158_68 : RR S d 158 68 L st h Q = kI (ai_look L 1) (fun x => RR S d 158 69 L (.int x :: st) h Q) := RR.ldi_n rfl rfl rfl
theorem r158_69 {x : Int32} {a : Nat} : RR S d 158 69 L (.int x :: .ref a :: st) h Q = kO (ai_arr h a 0) (fun q => kB (ai_in x q.1) (RR S d 158 70 L (.int (q.2 x.toNatClampNeg) :: st) h Q)) := RR.ial rfl rfl
theorem r158_70 {p0 : Int32} : RR S (d + 1) 158 70 L (.int p0 :: st) h Q = kB (decide (ai_sum st ≤ 8)) (RR S d 157 0 [(0, .int p0)] [] h (fun r h1 => RR S (d + 1) 158 73 L (r.toList ++ st) h1 Q)) := RR.cs (j := 230) (mn' := 157) (n := 1) rfl rfl rfl rfl (by simp) rfl rfl
theorem r158_73 {x : Int32} : RR S d 158 73 L [.int x] h Q = Q (some (.int x)) h := RR.rt rfl rfl rfl
theorem r158_74 : RR S d 158 74 L st h Q = kI (ai_look L 2) (fun x => RR S d 158 75 L (.int x :: st) h Q) := RR.ldi_n rfl rfl rfl
theorem r158_75 : RR S d 158 75 L st h Q = RR S d 158 77 L (.int 20 :: st) h Q := RR.bip (n := 20) rfl (by decide) rfl
theorem r158_77 {x y : Int32} : RR S d 158 77 L (.int y :: .int x :: st) h Q = if x < y then RR S d 158 105 L st h Q else RR S d 158 80 L st h Q := RR.b2 (c := .lt) (off := 28) rfl rfl (by decide) rfl
theorem r158_80 : RR S d 158 80 L st h Q = kI (ai_look L 2) (fun x => RR S d 158 81 L (.int x :: st) h Q) := RR.ldi_n rfl rfl rfl
theorem r158_81 : RR S d 158 81 L st h Q = RR S d 158 83 L (.int 20 :: st) h Q := RR.bip (n := 20) rfl (by decide) rfl
theorem r158_83 : RR S d 158 83 L st h Q = kI (ai_look L 3) (fun x => RR S d 158 84 L (.int x :: st) h Q) := RR.ldi_n rfl rfl rfl
theorem r158_84 {x y : Int32} : RR S d 158 84 L (.int y :: .int x :: st) h Q = RR S d 158 85 L (.int (x + y) :: st) h Q := RR.do1 (85, L, .int (x + y) :: st, h) rfl rfl rfl
theorem r158_85 {x y : Int32} : RR S d 158 85 L (.int y :: .int x :: st) h Q = if y ≤ x then RR S d 158 105 L st h Q else RR S d 158 88 L st h Q := RR.b2 (c := .ge) (off := 20) rfl rfl (by decide) rfl
theorem r158_88 : RR S d 158 88 L st h Q = kA (ai_look L 0) (fun x => RR S d 158 89 L (x :: st) h Q) := RR.lda_n rfl rfl rfl
theorem r158_89 {a : Nat} : RR S d 158 89 L (.ref a :: st) h Q = kO (ai_fld h a 10 37) (fun w => RR S d 158 92 L (w :: st) h Q) := RR.get rfl rfl rfl
theorem r158_92 : RR S d 158 92 L st h Q = RR S d 158 93 L (.int 4 :: st) h Q := RR.icn (n := 4) rfl (by decide) rfl
theorem r158_93 : RR S d 158 93 L st h Q = kI (ai_look L 1) (fun x => RR S d 158 94 L (.int x :: st) h Q) := RR.ldi_n rfl rfl rfl
theorem r158_94 {x y : Int32} : RR S d 158 94 L (.int y :: .int x :: st) h Q = RR S d 158 95 L (.int (x * y) :: st) h Q := RR.do1 (95, L, .int (x * y) :: st, h) rfl rfl rfl
theorem r158_95 : RR S d 158 95 L st h Q = kI (ai_look L 2) (fun x => RR S d 158 96 L (.int x :: st) h Q) := RR.ldi_n rfl rfl rfl
theorem r158_96 {x y : Int32} : RR S d 158 96 L (.int y :: .int x :: st) h Q = RR S d 158 97 L (.int (x + y) :: st) h Q := RR.do1 (97, L, .int (x + y) :: st, h) rfl rfl rfl
theorem r158_97 : RR S d 158 97 L st h Q = RR S d 158 99 L (.int 20 :: st) h Q := RR.bip (n := 20) rfl (by decide) rfl
theorem r158_99 {x y : Int32} : RR S d 158 99 L (.int y :: .int x :: st) h Q = RR S d 158 100 L (.int (x - y) :: st) h Q := RR.do1 (100, L, .int (x - y) :: st, h) rfl rfl rfl
theorem r158_100 {x : Int32} {a : Nat} : RR S d 158 100 L (.int x :: .ref a :: st) h Q = kO (ai_arr h a 0) (fun q => kB (ai_in x q.1) (RR S d 158 101 L (.int (q.2 x.toNatClampNeg) :: st) h Q)) := RR.ial rfl rfl
theorem r158_101 {p0 : Int32} : RR S (d + 1) 158 101 L (.int p0 :: st) h Q = kB (decide (ai_sum st ≤ 8)) (RR S d 157 0 [(0, .int p0)] [] h (fun r h1 => RR S (d + 1) 158 104 L (r.toList ++ st) h1 Q)) := RR.cs (j := 230) (mn' := 157) (n := 1) rfl rfl rfl rfl (by simp) rfl rfl
theorem r158_104 {x : Int32} : RR S d 158 104 L [.int x] h Q = Q (some (.int x)) h := RR.rt rfl rfl rfl
theorem r158_105 : RR S d 158 105 L st h Q = kI (ai_look L 2) (fun x => RR S d 158 106 L (.int x :: st) h Q) := RR.ldi_n rfl rfl rfl
theorem r158_106 : RR S d 158 106 L st h Q = RR S d 158 108 L (.int 30 :: st) h Q := RR.bip (n := 30) rfl (by decide) rfl
theorem r158_108 {x y : Int32} : RR S d 158 108 L (.int y :: .int x :: st) h Q = if x < y then RR S d 158 138 L st h Q else RR S d 158 111 L st h Q := RR.b2 (c := .lt) (off := 30) rfl rfl (by decide) rfl
theorem r158_111 : RR S d 158 111 L st h Q = kI (ai_look L 2) (fun x => RR S d 158 112 L (.int x :: st) h Q) := RR.ldi_n rfl rfl rfl
theorem r158_112 : RR S d 158 112 L st h Q = RR S d 158 114 L (.int 30 :: st) h Q := RR.bip (n := 30) rfl (by decide) rfl
theorem r158_114 : RR S d 158 114 L st h Q = kI (ai_look L 3) (fun x => RR S d 158 115 L (.int x :: st) h Q) := RR.ldi_n rfl rfl rfl
theorem r158_115 {x y : Int32} : RR S d 158 115 L (.int y :: .int x :: st) h Q = RR S d 158 116 L (.int (x + y) :: st) h Q := RR.do1 (116, L, .int (x + y) :: st, h) rfl rfl rfl
theorem r158_116 {x y : Int32} : RR S d 158 116 L (.int y :: .int x :: st) h Q = if y ≤ x then RR S d 158 138 L st h Q else RR S d 158 119 L st h Q := RR.b2 (c := .ge) (off := 22) rfl rfl (by decide) rfl
theorem r158_119 : RR S d 158 119 L st h Q = kA (ai_look L 0) (fun x => RR S d 158 120 L (x :: st) h Q) := RR.lda_n rfl rfl rfl
theorem r158_120 {a : Nat} : RR S d 158 120 L (.ref a :: st) h Q = kO (ai_fld h a 10 36) (fun w => RR S d 158 123 L (w :: st) h Q) := RR.get rfl rfl rfl
theorem r158_123 : RR S d 158 123 L st h Q = RR S d 158 124 L (.int 4 :: st) h Q := RR.icn (n := 4) rfl (by decide) rfl
theorem r158_124 : RR S d 158 124 L st h Q = kI (ai_look L 1) (fun x => RR S d 158 125 L (.int x :: st) h Q) := RR.ldi_n rfl rfl rfl
theorem r158_125 {x y : Int32} : RR S d 158 125 L (.int y :: .int x :: st) h Q = RR S d 158 126 L (.int (x * y) :: st) h Q := RR.do1 (126, L, .int (x * y) :: st, h) rfl rfl rfl
theorem r158_126 : RR S d 158 126 L st h Q = kI (ai_look L 2) (fun x => RR S d 158 127 L (.int x :: st) h Q) := RR.ldi_n rfl rfl rfl
theorem r158_127 {x y : Int32} : RR S d 158 127 L (.int y :: .int x :: st) h Q = RR S d 158 128 L (.int (x + y) :: st) h Q := RR.do1 (128, L, .int (x + y) :: st, h) rfl rfl rfl
theorem r158_128 : RR S d 158 128 L st h Q = RR S d 158 130 L (.int 30 :: st) h Q := RR.bip (n := 30) rfl (by decide) rfl
theorem r158_130 {x y : Int32} : RR S d 158 130 L (.int y :: .int x :: st) h Q = RR S d 158 131 L (.int (x - y) :: st) h Q := RR.do1 (131, L, .int (x - y) :: st, h) rfl rfl rfl
theorem r158_131 {x : Int32} {a : Nat} : RR S d 158 131 L (.int x :: .ref a :: st) h Q = kO (ai_arr h a 0) (fun q => kB (ai_in x q.1) (RR S d 158 132 L (.int (q.2 x.toNatClampNeg) :: st) h Q)) := RR.ial rfl rfl
theorem r158_132 {p0 : Int32} : RR S (d + 1) 158 132 L (.int p0 :: st) h Q = kB (decide (ai_sum st ≤ 8)) (RR S d 157 0 [(0, .int p0)] [] h (fun r h1 => RR S (d + 1) 158 135 L (r.toList ++ st) h1 Q)) := RR.cs (j := 230) (mn' := 157) (n := 1) rfl rfl rfl rfl (by simp) rfl rfl
theorem r158_135 : RR S d 158 135 L st h Q = RR S d 158 139 L st h Q := RR.jmp (off := 4) rfl (by decide)
theorem r158_138 : RR S d 158 138 L st h Q = RR S d 158 139 L (.int (-1) :: st) h Q := RR.icn (n := (-1)) rfl (by decide) rfl
theorem r158_139 {x : Int32} : RR S d 158 139 L [.int x] h Q = Q (some (.int x)) h := RR.rt rfl rfl rfl
theorem r159_0 : RR S d 159 0 L st h Q = kA (ai_look L 0) (fun x => RR S d 159 1 L (x :: st) h Q) := RR.lda_n rfl rfl rfl
theorem r159_1 : RR S d 159 1 L st h Q = kI (ai_look L 1) (fun x => RR S d 159 2 L (.int x :: st) h Q) := RR.ldi_n rfl rfl rfl
theorem r159_2 {p0 : Int32} {a : Nat} : RR S (d + 1) 159 2 L (.int p0 :: .ref a :: st) h Q = kB (decide (ai_sum st ≤ 8)) (kB ((ai_obj h a 10).isSome) (RR S d 114 0 [(0, .ref a), (1, .int p0)] [] h (fun r h1 => RR S (d + 1) 159 5 L (r.toList ++ st) h1 Q))) := RR.cv (j := 205) (mn' := 114) (n := 1) rfl rfl rfl rfl rfl rfl
theorem r159_5 {x : Int32} : RR S d 159 5 L (.int x :: st) h Q = if ¬ x = 0 then RR S d 159 10 L st h Q else RR S d 159 8 L st h Q := RR.b1 (c := .ne) (off := 5) rfl rfl (by decide) rfl
theorem r159_8 : RR S d 159 8 L st h Q = RR S d 159 9 L (.int (-1) :: st) h Q := RR.icn (n := (-1)) rfl (by decide) rfl
theorem r159_9 {x : Int32} : RR S d 159 9 L [.int x] h Q = Q (some (.int x)) h := RR.rt rfl rfl rfl
theorem r159_10 : RR S d 159 10 L st h Q = kA (ai_look L 0) (fun x => RR S d 159 11 L (x :: st) h Q) := RR.lda_n rfl rfl rfl
theorem r159_11 {a : Nat} : RR S (d + 1) 159 11 L (.ref a :: st) h Q = kB (decide (ai_sum st ≤ 8)) (kB ((ai_obj h a 10).isSome) (RR S d 154 0 [(0, .ref a)] [] h (fun r h1 => RR S (d + 1) 159 14 L (r.toList ++ st) h1 Q))) := RR.cv (j := 227) (mn' := 154) (n := 0) rfl rfl rfl rfl rfl rfl
theorem r159_14 : RR S d 159 14 L st h Q = kA (ai_look L 0) (fun x => RR S d 159 15 L (x :: st) h Q) := RR.lda_n rfl rfl rfl
theorem r159_15 {a : Nat} : RR S d 159 15 L (.ref a :: st) h Q = kO (ai_fld h a 10 41) (fun w => RR S d 159 18 L (w :: st) h Q) := RR.get rfl rfl rfl
theorem r159_18 : RR S d 159 18 L st h Q = kI (ai_look L 1) (fun x => RR S d 159 19 L (.int x :: st) h Q) := RR.ldi_n rfl rfl rfl
theorem r159_19 {x : Int32} {a : Nat} : RR S d 159 19 L (.int x :: .ref a :: st) h Q = kO (ai_arr h a 0) (fun q => kB (ai_in x q.1) (RR S d 159 20 L (.int (q.2 x.toNatClampNeg) :: st) h Q)) := RR.ial rfl rfl
theorem r159_20 {x : Int32} : RR S d 159 20 L [.int x] h Q = Q (some (.int x)) h := RR.rt rfl rfl rfl
theorem r160_0 : RR S d 160 0 L st h Q = RR S d 160 1 L (.int 0 :: st) h Q := RR.icn (n := 0) rfl (by decide) rfl
theorem r160_1 {x : Int32} : RR S d 160 1 L (.int x :: st) h Q = RR S d 160 2 (ai_put 2 (.int x) L) st h Q := RR.do1 (2, ai_put 2 (.int x) L, st, h) rfl rfl rfl
theorem r160_2 : RR S d 160 2 L st h Q = kI (ai_look L 1) (fun x => RR S d 160 3 L (.int x :: st) h Q) := RR.ldi_n rfl rfl rfl
theorem r160_48 : RR S d 160 48 L st h Q = kA (ai_look L 0) (fun x => RR S d 160 49 L (x :: st) h Q) := RR.lda_n rfl rfl rfl
theorem r160_49 {a : Nat} : RR S d 160 49 L (.ref a :: st) h Q = kO (ai_fld h a 10 0) (fun w => RR S d 160 52 L (w :: st) h Q) := RR.get rfl rfl rfl
theorem r160_52 {x : Int32} : RR S d 160 52 L [.int x] h Q = Q (some (.int x)) h := RR.rt rfl rfl rfl
theorem r160_53 : RR S d 160 53 L st h Q = kA (ai_look L 0) (fun x => RR S d 160 54 L (x :: st) h Q) := RR.lda_n rfl rfl rfl
theorem r160_54 {a : Nat} : RR S d 160 54 L (.ref a :: st) h Q = kO (ai_fld h a 10 3) (fun w => RR S d 160 57 L (w :: st) h Q) := RR.get rfl rfl rfl
theorem r160_57 {x : Int32} : RR S d 160 57 L [.int x] h Q = Q (some (.int x)) h := RR.rt rfl rfl rfl
theorem r160_58 : RR S d 160 58 L st h Q = kA (ai_look L 0) (fun x => RR S d 160 59 L (x :: st) h Q) := RR.lda_n rfl rfl rfl
theorem r160_59 {a : Nat} : RR S d 160 59 L (.ref a :: st) h Q = kO (ai_fld h a 10 8) (fun w => RR S d 160 62 L (w :: st) h Q) := RR.get rfl rfl rfl
theorem r160_62 {x : Int32} : RR S d 160 62 L [.int x] h Q = Q (some (.int x)) h := RR.rt rfl rfl rfl
theorem r160_63 : RR S d 160 63 L st h Q = kA (ai_look L 0) (fun x => RR S d 160 64 L (x :: st) h Q) := RR.lda_n rfl rfl rfl
theorem r160_64 {a : Nat} : RR S d 160 64 L (.ref a :: st) h Q = kO (ai_fld h a 10 9) (fun w => RR S d 160 67 L (w :: st) h Q) := RR.get rfl rfl rfl
theorem r160_67 {x : Int32} : RR S d 160 67 L [.int x] h Q = Q (some (.int x)) h := RR.rt rfl rfl rfl
theorem r160_68 : RR S d 160 68 L st h Q = kA (ai_look L 0) (fun x => RR S d 160 69 L (x :: st) h Q) := RR.lda_n rfl rfl rfl
theorem r160_69 {a : Nat} : RR S d 160 69 L (.ref a :: st) h Q = kO (ai_fld h a 10 10) (fun w => RR S d 160 72 L (w :: st) h Q) := RR.get rfl rfl rfl
theorem r160_72 {x : Int32} : RR S d 160 72 L [.int x] h Q = Q (some (.int x)) h := RR.rt rfl rfl rfl
theorem r160_73 : RR S d 160 73 L st h Q = RR S d 160 74 L (.int 0 :: st) h Q := RR.icn (n := 0) rfl (by decide) rfl
theorem r160_74 {x : Int32} : RR S d 160 74 L (.int x :: st) h Q = RR S d 160 75 (ai_put 3 (.int x) L) st h Q := RR.do1 (75, ai_put 3 (.int x) L, st, h) rfl rfl rfl
theorem r160_75 : RR S d 160 75 L st h Q = kI (ai_look L 3) (fun x => RR S d 160 76 L (.int x :: st) h Q) := RR.ldi_n rfl rfl rfl
theorem r160_76 : RR S d 160 76 L st h Q = kA (ai_look L 0) (fun x => RR S d 160 77 L (x :: st) h Q) := RR.lda_n rfl rfl rfl
theorem r160_77 {a : Nat} : RR S d 160 77 L (.ref a :: st) h Q = kO (ai_fld h a 10 10) (fun w => RR S d 160 80 L (w :: st) h Q) := RR.get rfl rfl rfl
theorem r160_80 {x y : Int32} : RR S d 160 80 L (.int y :: .int x :: st) h Q = if y ≤ x then RR S d 160 106 L st h Q else RR S d 160 83 L st h Q := RR.b2 (c := .ge) (off := 26) rfl rfl (by decide) rfl
theorem r160_83 : RR S d 160 83 L st h Q = kA (ai_look L 0) (fun x => RR S d 160 84 L (x :: st) h Q) := RR.lda_n rfl rfl rfl
theorem r160_84 {a : Nat} : RR S d 160 84 L (.ref a :: st) h Q = kO (ai_fld h a 10 17) (fun w => RR S d 160 87 L (w :: st) h Q) := RR.get rfl rfl rfl
theorem r160_87 : RR S d 160 87 L st h Q = kI (ai_look L 3) (fun x => RR S d 160 88 L (.int x :: st) h Q) := RR.ldi_n rfl rfl rfl
theorem r160_88 {x : Int32} {a : Nat} : RR S d 160 88 L (.int x :: .ref a :: st) h Q = kO (ai_arr h a 1) (fun q => kB (ai_in x q.1) (RR S d 160 89 L (.int (q.2 x.toNatClampNeg) :: st) h Q)) := RR.bal rfl rfl
theorem r160_89 {x : Int32} : RR S d 160 89 L (.int x :: st) h Q = if x = 0 then RR S d 160 98 L st h Q else RR S d 160 92 L st h Q := RR.b1 (c := .eq) (off := 9) rfl rfl (by decide) rfl
theorem r160_92 : RR S d 160 92 L st h Q = kI (ai_look L 2) (fun x => RR S d 160 93 L (.int x :: st) h Q) := RR.ldi_n rfl rfl rfl
theorem r160_93 : RR S d 160 93 L st h Q = RR S d 160 94 L (.int 1 :: st) h Q := RR.icn (n := 1) rfl (by decide) rfl
theorem r160_94 {x y : Int32} : RR S d 160 94 L (.int y :: .int x :: st) h Q = RR S d 160 95 L (.int (x + y) :: st) h Q := RR.do1 (95, L, .int (x + y) :: st, h) rfl rfl rfl
theorem r160_95 : RR S d 160 95 L st h Q = RR S d 160 99 L st h Q := RR.jmp (off := 4) rfl (by decide)
theorem r160_98 : RR S d 160 98 L st h Q = kI (ai_look L 2) (fun x => RR S d 160 99 L (.int x :: st) h Q) := RR.ldi_n rfl rfl rfl
theorem r160_99 {x : Int32} : RR S d 160 99 L (.int x :: st) h Q = RR S d 160 100 (ai_put 2 (.int x) L) st h Q := RR.do1 (100, ai_put 2 (.int x) L, st, h) rfl rfl rfl
theorem r160_100 : RR S d 160 100 L st h Q = kI (ai_look L 3) (fun x => RR S d 160 103 (ai_put 3 (.int (x + 1)) L) st h Q) := RR.iinc (k := 3) (n := 1) rfl (by decide) (by decide) rfl
theorem r160_103 : RR S d 160 103 L st h Q = RR S d 160 75 L st h Q := RR.jmp (off := (-28)) rfl (by decide)
theorem r160_106 : RR S d 160 106 L st h Q = kI (ai_look L 2) (fun x => RR S d 160 107 L (.int x :: st) h Q) := RR.ldi_n rfl rfl rfl
theorem r160_107 {x : Int32} : RR S d 160 107 L [.int x] h Q = Q (some (.int x)) h := RR.rt rfl rfl rfl
theorem r160_108 : RR S d 160 108 L st h Q = kA (ai_look L 0) (fun x => RR S d 160 109 L (x :: st) h Q) := RR.lda_n rfl rfl rfl
theorem r160_109 {a : Nat} : RR S d 160 109 L (.ref a :: st) h Q = kO (ai_fld h a 10 22) (fun w => RR S d 160 112 L (w :: st) h Q) := RR.get rfl rfl rfl
theorem r160_112 {x : Int32} : RR S d 160 112 L [.int x] h Q = Q (some (.int x)) h := RR.rt rfl rfl rfl
theorem r160_113 : RR S d 160 113 L st h Q = kA (ai_look L 0) (fun x => RR S d 160 114 L (x :: st) h Q) := RR.lda_n rfl rfl rfl
theorem r160_114 {a : Nat} : RR S (d + 1) 160 114 L (.ref a :: st) h Q = kB (decide (ai_sum st ≤ 8)) (kB ((ai_obj h a 10).isSome) (RR S d 154 0 [(0, .ref a)] [] h (fun r h1 => RR S (d + 1) 160 117 L (r.toList ++ st) h1 Q))) := RR.cv (j := 227) (mn' := 154) (n := 0) rfl rfl rfl rfl rfl rfl
theorem r160_117 : RR S d 160 117 L st h Q = RR S d 160 118 L (.int 0 :: st) h Q := RR.icn (n := 0) rfl (by decide) rfl
theorem r160_118 {x : Int32} : RR S d 160 118 L (.int x :: st) h Q = RR S d 160 119 (ai_put 3 (.int x) L) st h Q := RR.do1 (119, ai_put 3 (.int x) L, st, h) rfl rfl rfl
theorem r160_119 : RR S d 160 119 L st h Q = kI (ai_look L 3) (fun x => RR S d 160 120 L (.int x :: st) h Q) := RR.ldi_n rfl rfl rfl
theorem r160_120 : RR S d 160 120 L st h Q = kA (ai_look L 0) (fun x => RR S d 160 121 L (x :: st) h Q) := RR.lda_n rfl rfl rfl
theorem r160_121 {a : Nat} : RR S d 160 121 L (.ref a :: st) h Q = kO (ai_fld h a 10 22) (fun w => RR S d 160 124 L (w :: st) h Q) := RR.get rfl rfl rfl
theorem r160_124 {x y : Int32} : RR S d 160 124 L (.int y :: .int x :: st) h Q = if y ≤ x then RR S d 160 153 L st h Q else RR S d 160 127 L st h Q := RR.b2 (c := .ge) (off := 29) rfl rfl (by decide) rfl
theorem r160_127 : RR S d 160 127 L st h Q = kA (ai_look L 0) (fun x => RR S d 160 128 L (x :: st) h Q) := RR.lda_n rfl rfl rfl
theorem r160_128 {a : Nat} : RR S d 160 128 L (.ref a :: st) h Q = kO (ai_fld h a 10 38) (fun w => RR S d 160 131 L (w :: st) h Q) := RR.get rfl rfl rfl
theorem r160_131 : RR S d 160 131 L st h Q = kI (ai_look L 3) (fun x => RR S d 160 132 L (.int x :: st) h Q) := RR.ldi_n rfl rfl rfl
theorem r160_132 {x : Int32} {a : Nat} : RR S d 160 132 L (.int x :: .ref a :: st) h Q = kO (ai_arr h a 0) (fun q => kB (ai_in x q.1) (RR S d 160 133 L (.int (q.2 x.toNatClampNeg) :: st) h Q)) := RR.ial rfl rfl
theorem r160_133 : RR S d 160 133 L st h Q = RR S d 160 136 L (.int 3000 :: st) h Q := RR.sip (n := 3000) rfl (by decide) rfl
theorem r160_136 {x y : Int32} : RR S d 160 136 L (.int y :: .int x :: st) h Q = if y ≤ x then RR S d 160 145 L st h Q else RR S d 160 139 L st h Q := RR.b2 (c := .ge) (off := 9) rfl rfl (by decide) rfl
theorem r160_139 : RR S d 160 139 L st h Q = kI (ai_look L 2) (fun x => RR S d 160 140 L (.int x :: st) h Q) := RR.ldi_n rfl rfl rfl
theorem r160_140 : RR S d 160 140 L st h Q = RR S d 160 141 L (.int 1 :: st) h Q := RR.icn (n := 1) rfl (by decide) rfl
theorem r160_141 {x y : Int32} : RR S d 160 141 L (.int y :: .int x :: st) h Q = RR S d 160 142 L (.int (x + y) :: st) h Q := RR.do1 (142, L, .int (x + y) :: st, h) rfl rfl rfl
theorem r160_142 : RR S d 160 142 L st h Q = RR S d 160 146 L st h Q := RR.jmp (off := 4) rfl (by decide)
theorem r160_145 : RR S d 160 145 L st h Q = kI (ai_look L 2) (fun x => RR S d 160 146 L (.int x :: st) h Q) := RR.ldi_n rfl rfl rfl
theorem r160_146 {x : Int32} : RR S d 160 146 L (.int x :: st) h Q = RR S d 160 147 (ai_put 2 (.int x) L) st h Q := RR.do1 (147, ai_put 2 (.int x) L, st, h) rfl rfl rfl
theorem r160_147 : RR S d 160 147 L st h Q = kI (ai_look L 3) (fun x => RR S d 160 150 (ai_put 3 (.int (x + 1)) L) st h Q) := RR.iinc (k := 3) (n := 1) rfl (by decide) (by decide) rfl
theorem r160_150 : RR S d 160 150 L st h Q = RR S d 160 119 L st h Q := RR.jmp (off := (-31)) rfl (by decide)
theorem r160_153 : RR S d 160 153 L st h Q = kI (ai_look L 2) (fun x => RR S d 160 154 L (.int x :: st) h Q) := RR.ldi_n rfl rfl rfl
theorem r160_154 {x : Int32} : RR S d 160 154 L [.int x] h Q = Q (some (.int x)) h := RR.rt rfl rfl rfl
theorem r160_155 : RR S d 160 155 L st h Q = RR S d 160 156 L (.int (-1) :: st) h Q := RR.icn (n := (-1)) rfl (by decide) rfl
theorem r160_156 {x : Int32} : RR S d 160 156 L [.int x] h Q = Q (some (.int x)) h := RR.rt rfl rfl rfl
theorem r161_0 : RR S d 161 0 L st h Q = kI (ai_look L 0) (fun x => RR S d 161 1 L (.int x :: st) h Q) := RR.ldi_n rfl rfl rfl
theorem r161_1 : RR S d 161 1 L st h Q = kI (ai_look L 0) (fun x => RR S d 161 2 L (.int x :: st) h Q) := RR.ldi_n rfl rfl rfl
theorem r161_2 : RR S d 161 2 L st h Q = RR S d 161 3 L (.int 1 :: st) h Q := RR.icn (n := 1) rfl (by decide) rfl
theorem r161_3 {x y : Int32} : RR S d 161 3 L (.int y :: .int x :: st) h Q = RR S d 161 4 L (.int ((x.toUInt32 >>> (y.toUInt32 &&& Int32.toUInt32 31)).toInt32) :: st) h Q := RR.do1 (4, L, .int ((x.toUInt32 >>> (y.toUInt32 &&& Int32.toUInt32 31)).toInt32) :: st, h) rfl rfl rfl
theorem r161_4 : RR S d 161 4 L st h Q = RR S d 161 7 L (.int 1431655765 :: st) h Q := RR.do1 (7, L, .int 1431655765 :: st, h) rfl rfl rfl
theorem r161_7 {x y : Int32} : RR S d 161 7 L (.int y :: .int x :: st) h Q = RR S d 161 8 L (.int (x &&& y) :: st) h Q := RR.do1 (8, L, .int (x &&& y) :: st, h) rfl rfl rfl
theorem r161_8 {x y : Int32} : RR S d 161 8 L (.int y :: .int x :: st) h Q = RR S d 161 9 L (.int (x - y) :: st) h Q := RR.do1 (9, L, .int (x - y) :: st, h) rfl rfl rfl
theorem r161_9 {x : Int32} : RR S d 161 9 L (.int x :: st) h Q = RR S d 161 10 (ai_put 0 (.int x) L) st h Q := RR.do1 (10, ai_put 0 (.int x) L, st, h) rfl rfl rfl
theorem r161_10 : RR S d 161 10 L st h Q = kI (ai_look L 0) (fun x => RR S d 161 11 L (.int x :: st) h Q) := RR.ldi_n rfl rfl rfl
theorem r161_11 : RR S d 161 11 L st h Q = RR S d 161 14 L (.int 858993459 :: st) h Q := RR.do1 (14, L, .int 858993459 :: st, h) rfl rfl rfl
theorem r161_14 {x y : Int32} : RR S d 161 14 L (.int y :: .int x :: st) h Q = RR S d 161 15 L (.int (x &&& y) :: st) h Q := RR.do1 (15, L, .int (x &&& y) :: st, h) rfl rfl rfl
theorem r161_15 : RR S d 161 15 L st h Q = kI (ai_look L 0) (fun x => RR S d 161 16 L (.int x :: st) h Q) := RR.ldi_n rfl rfl rfl
theorem r161_16 : RR S d 161 16 L st h Q = RR S d 161 17 L (.int 2 :: st) h Q := RR.icn (n := 2) rfl (by decide) rfl
theorem r161_17 {x y : Int32} : RR S d 161 17 L (.int y :: .int x :: st) h Q = RR S d 161 18 L (.int ((x.toUInt32 >>> (y.toUInt32 &&& Int32.toUInt32 31)).toInt32) :: st) h Q := RR.do1 (18, L, .int ((x.toUInt32 >>> (y.toUInt32 &&& Int32.toUInt32 31)).toInt32) :: st, h) rfl rfl rfl
theorem r161_18 : RR S d 161 18 L st h Q = RR S d 161 21 L (.int 858993459 :: st) h Q := RR.do1 (21, L, .int 858993459 :: st, h) rfl rfl rfl
theorem r161_21 {x y : Int32} : RR S d 161 21 L (.int y :: .int x :: st) h Q = RR S d 161 22 L (.int (x &&& y) :: st) h Q := RR.do1 (22, L, .int (x &&& y) :: st, h) rfl rfl rfl
theorem r161_22 {x y : Int32} : RR S d 161 22 L (.int y :: .int x :: st) h Q = RR S d 161 23 L (.int (x + y) :: st) h Q := RR.do1 (23, L, .int (x + y) :: st, h) rfl rfl rfl
theorem r161_23 {x : Int32} : RR S d 161 23 L (.int x :: st) h Q = RR S d 161 24 (ai_put 0 (.int x) L) st h Q := RR.do1 (24, ai_put 0 (.int x) L, st, h) rfl rfl rfl
theorem r161_24 : RR S d 161 24 L st h Q = kI (ai_look L 0) (fun x => RR S d 161 25 L (.int x :: st) h Q) := RR.ldi_n rfl rfl rfl
theorem r161_25 : RR S d 161 25 L st h Q = kI (ai_look L 0) (fun x => RR S d 161 26 L (.int x :: st) h Q) := RR.ldi_n rfl rfl rfl
theorem r161_26 : RR S d 161 26 L st h Q = RR S d 161 27 L (.int 4 :: st) h Q := RR.icn (n := 4) rfl (by decide) rfl
theorem r161_27 {x y : Int32} : RR S d 161 27 L (.int y :: .int x :: st) h Q = RR S d 161 28 L (.int ((x.toUInt32 >>> (y.toUInt32 &&& Int32.toUInt32 31)).toInt32) :: st) h Q := RR.do1 (28, L, .int ((x.toUInt32 >>> (y.toUInt32 &&& Int32.toUInt32 31)).toInt32) :: st, h) rfl rfl rfl
theorem r161_28 {x y : Int32} : RR S d 161 28 L (.int y :: .int x :: st) h Q = RR S d 161 29 L (.int (x + y) :: st) h Q := RR.do1 (29, L, .int (x + y) :: st, h) rfl rfl rfl
theorem r161_29 : RR S d 161 29 L st h Q = RR S d 161 32 L (.int 252645135 :: st) h Q := RR.do1 (32, L, .int 252645135 :: st, h) rfl rfl rfl
theorem r161_32 {x y : Int32} : RR S d 161 32 L (.int y :: .int x :: st) h Q = RR S d 161 33 L (.int (x &&& y) :: st) h Q := RR.do1 (33, L, .int (x &&& y) :: st, h) rfl rfl rfl
theorem r161_33 {x : Int32} : RR S d 161 33 L (.int x :: st) h Q = RR S d 161 34 (ai_put 0 (.int x) L) st h Q := RR.do1 (34, ai_put 0 (.int x) L, st, h) rfl rfl rfl
theorem r161_34 : RR S d 161 34 L st h Q = kI (ai_look L 0) (fun x => RR S d 161 35 L (.int x :: st) h Q) := RR.ldi_n rfl rfl rfl
theorem r161_35 : RR S d 161 35 L st h Q = kI (ai_look L 0) (fun x => RR S d 161 36 L (.int x :: st) h Q) := RR.ldi_n rfl rfl rfl
theorem r161_36 : RR S d 161 36 L st h Q = RR S d 161 38 L (.int 8 :: st) h Q := RR.bip (n := 8) rfl (by decide) rfl
theorem r161_38 {x y : Int32} : RR S d 161 38 L (.int y :: .int x :: st) h Q = RR S d 161 39 L (.int ((x.toUInt32 >>> (y.toUInt32 &&& Int32.toUInt32 31)).toInt32) :: st) h Q := RR.do1 (39, L, .int ((x.toUInt32 >>> (y.toUInt32 &&& Int32.toUInt32 31)).toInt32) :: st, h) rfl rfl rfl
theorem r161_39 {x y : Int32} : RR S d 161 39 L (.int y :: .int x :: st) h Q = RR S d 161 40 L (.int (x + y) :: st) h Q := RR.do1 (40, L, .int (x + y) :: st, h) rfl rfl rfl
theorem r161_40 {x : Int32} : RR S d 161 40 L (.int x :: st) h Q = RR S d 161 41 (ai_put 0 (.int x) L) st h Q := RR.do1 (41, ai_put 0 (.int x) L, st, h) rfl rfl rfl
theorem r161_41 : RR S d 161 41 L st h Q = kI (ai_look L 0) (fun x => RR S d 161 42 L (.int x :: st) h Q) := RR.ldi_n rfl rfl rfl
theorem r161_42 : RR S d 161 42 L st h Q = kI (ai_look L 0) (fun x => RR S d 161 43 L (.int x :: st) h Q) := RR.ldi_n rfl rfl rfl
theorem r161_43 : RR S d 161 43 L st h Q = RR S d 161 45 L (.int 16 :: st) h Q := RR.bip (n := 16) rfl (by decide) rfl
theorem r161_45 {x y : Int32} : RR S d 161 45 L (.int y :: .int x :: st) h Q = RR S d 161 46 L (.int ((x.toUInt32 >>> (y.toUInt32 &&& Int32.toUInt32 31)).toInt32) :: st) h Q := RR.do1 (46, L, .int ((x.toUInt32 >>> (y.toUInt32 &&& Int32.toUInt32 31)).toInt32) :: st, h) rfl rfl rfl
theorem r161_46 {x y : Int32} : RR S d 161 46 L (.int y :: .int x :: st) h Q = RR S d 161 47 L (.int (x + y) :: st) h Q := RR.do1 (47, L, .int (x + y) :: st, h) rfl rfl rfl
theorem r161_47 {x : Int32} : RR S d 161 47 L (.int x :: st) h Q = RR S d 161 48 (ai_put 0 (.int x) L) st h Q := RR.do1 (48, ai_put 0 (.int x) L, st, h) rfl rfl rfl
theorem r161_48 : RR S d 161 48 L st h Q = kI (ai_look L 0) (fun x => RR S d 161 49 L (.int x :: st) h Q) := RR.ldi_n rfl rfl rfl
theorem r161_49 : RR S d 161 49 L st h Q = RR S d 161 51 L (.int 63 :: st) h Q := RR.bip (n := 63) rfl (by decide) rfl
theorem r161_51 {x y : Int32} : RR S d 161 51 L (.int y :: .int x :: st) h Q = RR S d 161 52 L (.int (x &&& y) :: st) h Q := RR.do1 (52, L, .int (x &&& y) :: st, h) rfl rfl rfl
theorem r161_52 {x : Int32} : RR S d 161 52 L [.int x] h Q = Q (some (.int x)) h := RR.rt rfl rfl rfl
theorem r162_0 : RR S d 162 0 L st h Q = kI (ai_look L 0) (fun x => RR S d 162 1 L (.int x :: st) h Q) := RR.ldi_n rfl rfl rfl
theorem r162_1 : RR S d 162 1 L st h Q = kI (ai_look L 1) (fun x => RR S d 162 2 L (.int x :: st) h Q) := RR.ldi_n rfl rfl rfl
theorem r162_2 {x y : Int32} : RR S d 162 2 L (.int y :: .int x :: st) h Q = kB (decide (¬ y = 0)) (RR S d 162 3 L (.int (x - x / y * y) :: st) h Q) := RR.irem rfl rfl
theorem r162_3 {x : Int32} : RR S d 162 3 L (.int x :: st) h Q = RR S d 162 4 (ai_put 2 (.int x) L) st h Q := RR.do1 (4, ai_put 2 (.int x) L, st, h) rfl rfl rfl
theorem r162_4 : RR S d 162 4 L st h Q = kI (ai_look L 0) (fun x => RR S d 162 5 L (.int x :: st) h Q) := RR.ldi_n rfl rfl rfl
theorem r162_5 : RR S d 162 5 L st h Q = kI (ai_look L 1) (fun x => RR S d 162 6 L (.int x :: st) h Q) := RR.ldi_n rfl rfl rfl
theorem r162_6 {x y : Int32} : RR S d 162 6 L (.int y :: .int x :: st) h Q = RR S d 162 7 L (.int (x ^^^ y) :: st) h Q := RR.do1 (7, L, .int (x ^^^ y) :: st, h) rfl rfl rfl
theorem r162_7 {x : Int32} : RR S d 162 7 L (.int x :: st) h Q = if 0 ≤ x then RR S d 162 18 L st h Q else RR S d 162 10 L st h Q := RR.b1 (c := .ge) (off := 11) rfl rfl (by decide) rfl
theorem r162_10 : RR S d 162 10 L st h Q = kI (ai_look L 2) (fun x => RR S d 162 11 L (.int x :: st) h Q) := RR.ldi_n rfl rfl rfl
theorem r162_11 {x : Int32} : RR S d 162 11 L (.int x :: st) h Q = if x = 0 then RR S d 162 18 L st h Q else RR S d 162 14 L st h Q := RR.b1 (c := .eq) (off := 7) rfl rfl (by decide) rfl
theorem r162_14 : RR S d 162 14 L st h Q = kI (ai_look L 2) (fun x => RR S d 162 15 L (.int x :: st) h Q) := RR.ldi_n rfl rfl rfl
theorem r162_15 : RR S d 162 15 L st h Q = kI (ai_look L 1) (fun x => RR S d 162 16 L (.int x :: st) h Q) := RR.ldi_n rfl rfl rfl
theorem r162_16 {x y : Int32} : RR S d 162 16 L (.int y :: .int x :: st) h Q = RR S d 162 17 L (.int (x + y) :: st) h Q := RR.do1 (17, L, .int (x + y) :: st, h) rfl rfl rfl
theorem r162_17 {x : Int32} : RR S d 162 17 L [.int x] h Q = Q (some (.int x)) h := RR.rt rfl rfl rfl
theorem r162_18 : RR S d 162 18 L st h Q = kI (ai_look L 2) (fun x => RR S d 162 19 L (.int x :: st) h Q) := RR.ldi_n rfl rfl rfl
theorem r162_19 {x : Int32} : RR S d 162 19 L [.int x] h Q = Q (some (.int x)) h := RR.rt rfl rfl rfl
theorem r163_0 : RR S d 163 0 L st h Q = kI (ai_look L 0) (fun x => RR S d 163 1 L (.int x :: st) h Q) := RR.ldi_n rfl rfl rfl
theorem r163_1 : RR S d 163 1 L st h Q = kI (ai_look L 1) (fun x => RR S d 163 2 L (.int x :: st) h Q) := RR.ldi_n rfl rfl rfl
theorem r163_2 {x y : Int32} : RR S d 163 2 L (.int y :: .int x :: st) h Q = if x < y then RR S d 163 9 L st h Q else RR S d 163 5 L st h Q := RR.b2 (c := .lt) (off := 7) rfl rfl (by decide) rfl
theorem r163_5 : RR S d 163 5 L st h Q = kI (ai_look L 0) (fun x => RR S d 163 6 L (.int x :: st) h Q) := RR.ldi_n rfl rfl rfl
theorem r163_6 : RR S d 163 6 L st h Q = RR S d 163 10 L st h Q := RR.jmp (off := 4) rfl (by decide)
theorem r163_9 : RR S d 163 9 L st h Q = kI (ai_look L 1) (fun x => RR S d 163 10 L (.int x :: st) h Q) := RR.ldi_n rfl rfl rfl
theorem r163_10 {x : Int32} : RR S d 163 10 L [.int x] h Q = Q (some (.int x)) h := RR.rt rfl rfl rfl
theorem r164_0 : RR S d 164 0 L st h Q = kI (ai_look L 0) (fun x => RR S d 164 1 L (.int x :: st) h Q) := RR.ldi_n rfl rfl rfl
theorem r164_1 : RR S d 164 1 L st h Q = kI (ai_look L 1) (fun x => RR S d 164 2 L (.int x :: st) h Q) := RR.ldi_n rfl rfl rfl
theorem r164_2 {x y : Int32} : RR S d 164 2 L (.int y :: .int x :: st) h Q = if y < x then RR S d 164 9 L st h Q else RR S d 164 5 L st h Q := RR.b2 (c := .gt) (off := 7) rfl rfl (by decide) rfl
theorem r164_5 : RR S d 164 5 L st h Q = kI (ai_look L 0) (fun x => RR S d 164 6 L (.int x :: st) h Q) := RR.ldi_n rfl rfl rfl
theorem r164_6 : RR S d 164 6 L st h Q = RR S d 164 10 L st h Q := RR.jmp (off := 4) rfl (by decide)
theorem r164_9 : RR S d 164 9 L st h Q = kI (ai_look L 1) (fun x => RR S d 164 10 L (.int x :: st) h Q) := RR.ldi_n rfl rfl rfl
theorem r164_10 {x : Int32} : RR S d 164 10 L [.int x] h Q = Q (some (.int x)) h := RR.rt rfl rfl rfl
end Ru
