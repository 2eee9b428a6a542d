section Ru
variable {S : ai_S} {d : Nat} {L : ai_L} {st : List Value} {h : ai_H} {Q : Option Value → ai_H → Prop}
theorem r119_0 : RR S d 119 0 L st h Q = RR S d 119 1 L (.int 0 :: st) h Q := RR.icn (n := 0) rfl (by decide) rfl
theorem r119_1 {x : Int32} : RR S d 119 1 L (.int x :: st) h Q = RR S d 119 3 (ai_put 5 (.int x) L) st h Q := RR.do1 (3, ai_put 5 (.int x) L, st, h) rfl rfl rfl
theorem r119_3 : RR S d 119 3 L st h Q = RR S d 119 4 L (.int 0 :: st) h Q := RR.icn (n := 0) rfl (by decide) rfl
theorem r119_4 {x : Int32} : RR S d 119 4 L (.int x :: st) h Q = RR S d 119 6 (ai_put 6 (.int x) L) st h Q := RR.do1 (6, ai_put 6 (.int x) L, st, h) rfl rfl rfl
theorem r119_6 : RR S d 119 6 L st h Q = kI (ai_look L 6) (fun x => RR S d 119 8 L (.int x :: st) h Q) := RR.ldi rfl rfl
theorem r119_8 : RR S d 119 8 L st h Q = kI (ai_look L 3) (fun x => RR S d 119 9 L (.int x :: st) h Q) := RR.ldi_n rfl rfl rfl
theorem r119_9 {x y : Int32} : RR S d 119 9 L (.int y :: .int x :: st) h Q = if y ≤ x then RR S d 119 81 L st h Q else RR S d 119 12 L st h Q := RR.b2 (c := .ge) (off := 72) rfl rfl (by decide) rfl
theorem r119_12 : RR S d 119 12 L st h Q = kA (ai_look L 1) (fun x => RR S d 119 13 L (x :: st) h Q) := RR.lda_n rfl rfl rfl
theorem r119_13 : RR S d 119 13 L st h Q = kI (ai_look L 2) (fun x => RR S d 119 14 L (.int x :: st) h Q) := RR.ldi_n rfl rfl rfl
theorem r119_14 : RR S d 119 14 L st h Q = kI (ai_look L 6) (fun x => RR S d 119 16 L (.int x :: st) h Q) := RR.ldi rfl rfl
theorem r119_16 {x y : Int32} : RR S d 119 16 L (.int y :: .int x :: st) h Q = RR S d 119 17 L (.int (x + y) :: st) h Q := RR.do1 (17, L, .int (x + y) :: st, h) rfl rfl rfl
theorem r119_17 {x : Int32} {a : Nat} : RR S d 119 17 L (.int x :: .ref a :: st) h Q = kO (ai_arr h a 0) (fun q => kB (ai_in x q.1) (RR S d 119 18 L (.int (q.2 x.toNatClampNeg) :: st) h Q)) := RR.ial rfl rfl
theorem r119_18 {x : Int32} : RR S d 119 18 L (.int x :: st) h Q = RR S d 119 20 (ai_put 7 (.int x) L) st h Q := RR.do1 (20, ai_put 7 (.int x) L, st, h) rfl rfl rfl
theorem r119_20 : RR S d 119 20 L st h Q = kI (ai_look L 5) (fun x => RR S d 119 22 L (.int x :: st) h Q) := RR.ldi rfl rfl
theorem r119_22 : RR S d 119 22 L st h Q = kI (ai_look L 4) (fun x => RR S d 119 24 L (.int x :: st) h Q) := RR.ldi rfl rfl
theorem r119_24 : RR S d 119 24 L st h Q = kA (ai_look L 0) (fun x => RR S d 119 25 L (x :: st) h Q) := RR.lda_n rfl rfl rfl
theorem r119_25 {a : Nat} : RR S d 119 25 L (.ref a :: st) h Q = kO (ai_fld h a 10 7) (fun w => RR S d 119 28 L (w :: st) h Q) := RR.get rfl rfl rfl
theorem r119_28 : RR S d 119 28 L st h Q = kI (ai_look L 7) (fun x => RR S d 119 30 L (.int x :: st) h Q) := RR.ldi rfl rfl
theorem r119_30 {x : Int32} {a : Nat} : RR S d 119 30 L (.int x :: .ref a :: st) h Q = kO (ai_arr h a 0) (fun q => kB (ai_in x q.1) (RR S d 119 31 L (.int (q.2 x.toNatClampNeg) :: st) h Q)) := RR.ial rfl rfl
theorem r119_31 {x y : Int32} : RR S d 119 31 L (.int y :: .int x :: st) h Q = RR S d 119 32 L (.int (x * y) :: st) h Q := RR.do1 (32, L, .int (x * y) :: st, h) rfl rfl rfl
theorem r119_32 : RR S d 119 32 L st h Q = kA (ai_look L 0) (fun x => RR S d 119 33 L (x :: st) h Q) := RR.lda_n rfl rfl rfl
theorem r119_33 {a : Nat} : RR S d 119 33 L (.ref a :: st) h Q = kO (ai_fld h a 10 6) (fun w => RR S d 119 36 L (w :: st) h Q) := RR.get rfl rfl rfl
theorem r119_36 : RR S d 119 36 L st h Q = kI (ai_look L 7) (fun x => RR S d 119 38 L (.int x :: st) h Q) := RR.ldi rfl rfl
theorem r119_38 {x : Int32} {a : Nat} : RR S d 119 38 L (.int x :: .ref a :: st) h Q = kO (ai_arr h a 0) (fun q => kB (ai_in x q.1) (RR S d 119 39 L (.int (q.2 x.toNatClampNeg) :: st) h Q)) := RR.ial rfl rfl
theorem r119_39 {x y : Int32} : RR S d 119 39 L (.int y :: .int x :: st) h Q = RR S d 119 40 L (.int (x + y) :: st) h Q := RR.do1 (40, L, .int (x + y) :: st, h) rfl rfl rfl
theorem r119_40 {x y : Int32} : RR S d 119 40 L (.int y :: .int x :: st) h Q = RR S d 119 41 L (.int (x + y) :: st) h Q := RR.do1 (41, L, .int (x + y) :: st, h) rfl rfl rfl
theorem r119_41 {x : Int32} : RR S d 119 41 L (.int x :: st) h Q = RR S d 119 43 (ai_put 5 (.int x) L) st h Q := RR.do1 (43, ai_put 5 (.int x) L, st, h) rfl rfl rfl
theorem r119_43 : RR S d 119 43 L st h Q = kI (ai_look L 6) (fun x => RR S d 119 45 L (.int x :: st) h Q) := RR.ldi rfl rfl
theorem r119_45 : RR S d 119 45 L st h Q = kI (ai_look L 3) (fun x => RR S d 119 46 L (.int x :: st) h Q) := RR.ldi_n rfl rfl rfl
theorem r119_46 : RR S d 119 46 L st h Q = RR S d 119 47 L (.int 1 :: st) h Q := RR.icn (n := 1) rfl (by decide) rfl
theorem r119_47 {x y : Int32} : RR S d 119 47 L (.int y :: .int x :: st) h Q = RR S d 119 48 L (.int (x - y) :: st) h Q := RR.do1 (48, L, .int (x - y) :: st, h) rfl rfl rfl
theorem r119_48 {x y : Int32} : RR S d 119 48 L (.int y :: .int x :: st) h Q = if y ≤ x then RR S d 119 75 L st h Q else RR S d 119 51 L st h Q := RR.b2 (c := .ge) (off := 27) rfl rfl (by decide) rfl
theorem r119_51 : RR S d 119 51 L st h Q = kI (ai_look L 5) (fun x => RR S d 119 53 L (.int x :: st) h Q) := RR.ldi rfl rfl
theorem r119_53 : RR S d 119 53 L st h Q = kA (ai_look L 0) (fun x => RR S d 119 54 L (x :: st) h Q) := RR.lda_n rfl rfl rfl
theorem r119_54 {a : Nat} : RR S d 119 54 L (.ref a :: st) h Q = kO (ai_fld h a 10 1) (fun w => RR S d 119 57 L (w :: st) h Q) := RR.get rfl rfl rfl
theorem r119_57 : RR S d 119 57 L st h Q = kA (ai_look L 0) (fun x => RR S d 119 58 L (x :: st) h Q) := RR.lda_n rfl rfl rfl
theorem r119_58 {a : Nat} : RR S d 119 58 L (.ref a :: st) h Q = kO (ai_fld h a 10 5) (fun w => RR S d 119 61 L (w :: st) h Q) := RR.get rfl rfl rfl
theorem r119_61 : RR S d 119 61 L st h Q = kI (ai_look L 7) (fun x => RR S d 119 63 L (.int x :: st) h Q) := RR.ldi rfl rfl
theorem r119_63 {x : Int32} {a : Nat} : RR S d 119 63 L (.int x :: .ref a :: st) h Q = kO (ai_arr h a 0) (fun q => kB (ai_in x q.1) (RR S d 119 64 L (.int (q.2 x.toNatClampNeg) :: st) h Q)) := RR.ial rfl rfl
theorem r119_64 {x : Int32} {a : Nat} : RR S d 119 64 L (.int x :: .ref a :: st) h Q = kO (ai_arr h a 0) (fun q => kB (ai_in x q.1) (RR S d 119 65 L (.int (q.2 x.toNatClampNeg) :: st) h Q)) := RR.ial rfl rfl
theorem r119_65 : RR S d 119 65 L st h Q = RR S d 119 66 L (.int 2 :: st) h Q := RR.icn (n := 2) rfl (by decide) rfl
theorem r119_66 : RR S d 119 66 L st h Q = kA (ai_look L 0) (fun x => RR S d 119 67 L (x :: st) h Q) := RR.lda_n rfl rfl rfl
theorem r119_67 {a : Nat} : RR S d 119 67 L (.ref a :: st) h Q = kO (ai_fld h a 10 9) (fun w => RR S d 119 70 L (w :: st) h Q) := RR.get rfl rfl rfl
theorem r119_70 {x y : Int32} : RR S d 119 70 L (.int y :: .int x :: st) h Q = RR S d 119 71 L (.int (x * y) :: st) h Q := RR.do1 (71, L, .int (x * y) :: st, h) rfl rfl rfl
theorem r119_71 {x y : Int32} : RR S d 119 71 L (.int y :: .int x :: st) h Q = RR S d 119 72 L (.int (x + y) :: st) h Q := RR.do1 (72, L, .int (x + y) :: st, h) rfl rfl rfl
theorem r119_72 {x y : Int32} : RR S d 119 72 L (.int y :: .int x :: st) h Q = RR S d 119 73 L (.int (x + y) :: st) h Q := RR.do1 (73, L, .int (x + y) :: st, h) rfl rfl rfl
theorem r119_73 {x : Int32} : RR S d 119 73 L (.int x :: st) h Q = RR S d 119 75 (ai_put 5 (.int x) L) st h Q := RR.do1 (75, ai_put 5 (.int x) L, st, h) rfl rfl rfl
theorem r119_75 : RR S d 119 75 L st h Q = kI (ai_look L 6) (fun x => RR S d 119 78 (ai_put 6 (.int (x + 1)) L) st h Q) := RR.iinc (k := 6) (n := 1) rfl (by decide) (by decide) rfl
theorem r119_78 : RR S d 119 78 L st h Q = RR S d 119 6 L st h Q := RR.jmp (off := (-72)) rfl (by decide)
theorem r119_81 : RR S d 119 81 L st h Q = kI (ai_look L 5) (fun x => RR S d 119 83 L (.int x :: st) h Q) := RR.ldi rfl rfl
theorem r119_83 {x : Int32} : RR S d 119 83 L [.int x] h Q = Q (some (.int x)) h := RR.rt rfl rfl rfl
theorem r120_0 : RR S d 120 0 L st h Q = kI (ai_look L 3) (fun x => RR S d 120 1 L (.int x :: st) h Q) := RR.ldi_n rfl rfl rfl
theorem r120_1 : RR S d 120 1 L st h Q = kI (ai_look L 1) (fun x => RR S d 120 2 L (.int x :: st) h Q) := RR.ldi_n rfl rfl rfl
theorem r120_2 {x y : Int32} : RR S d 120 2 L (.int y :: .int x :: st) h Q = if ¬ x = y then RR S d 120 7 L st h Q else RR S d 120 5 L st h Q := RR.b2 (c := .ne) (off := 5) rfl rfl (by decide) rfl
theorem r120_5 : RR S d 120 5 L st h Q = RR S d 120 6 L (.int 1 :: st) h Q := RR.icn (n := 1) rfl (by decide) rfl
theorem r120_6f : RR S d 120 6 L [.int 0] h Q = Q (some (.int 0)) h := RR.zrt rfl rfl (by decide)
theorem r120_6t : RR S d 120 6 L [.int 1] h Q = Q (some (.int 1)) h := RR.zrt rfl rfl (by decide)
theorem r120_7 : RR S d 120 7 L st h Q = RR S d 120 8 L (.int 0 :: st) h Q := RR.icn (n := 0) rfl (by decide) rfl
theorem r120_8 {x : Int32} : RR S d 120 8 L (.int x :: st) h Q = RR S d 120 10 (ai_put 4 (.int x) L) st h Q := RR.do1 (10, ai_put 4 (.int x) L, st, h) rfl rfl rfl
theorem r120_10 : RR S d 120 10 L st h Q = kI (ai_look L 4) (fun x => RR S d 120 12 L (.int x :: st) h Q) := RR.ldi rfl rfl
theorem r120_12 : RR S d 120 12 L st h Q = kI (ai_look L 2) (fun x => RR S d 120 13 L (.int x :: st) h Q) := RR.ldi_n rfl rfl rfl
theorem r120_13 {x y : Int32} : RR S d 120 13 L (.int y :: .int x :: st) h Q = if y ≤ x then RR S d 120 40 L st h Q else RR S d 120 16 L st h Q := RR.b2 (c := .ge) (off := 27) rfl rfl (by decide) rfl
theorem r120_16 : RR S d 120 16 L st h Q = kA (ai_look L 0) (fun x => RR S d 120 17 L (x :: st) h Q) := RR.lda_n rfl rfl rfl
theorem r120_17 {a : Nat} : RR S d 120 17 L (.ref a :: st) h Q = kO (ai_fld h a 10 5) (fun w => RR S d 120 20 L (w :: st) h Q) := RR.get rfl rfl rfl
theorem r120_20 : RR S d 120 20 L st h Q = kA (ai_look L 0) (fun x => RR S d 120 21 L (x :: st) h Q) := RR.lda_n rfl rfl rfl
theorem r120_21 {a : Nat} : RR S d 120 21 L (.ref a :: st) h Q = kO (ai_fld h a 10 31) (fun w => RR S d 120 24 L (w :: st) h Q) := RR.get rfl rfl rfl
theorem r120_24 : RR S d 120 24 L st h Q = kI (ai_look L 4) (fun x => RR S d 120 26 L (.int x :: st) h Q) := RR.ldi rfl rfl
theorem r120_26 {x : Int32} {a : Nat} : RR S d 120 26 L (.int x :: .ref a :: st) h Q = kO (ai_arr h a 0) (fun q => kB (ai_in x q.1) (RR S d 120 27 L (.int (q.2 x.toNatClampNeg) :: st) h Q)) := RR.ial rfl rfl
theorem r120_27 {x : Int32} {a : Nat} : RR S d 120 27 L (.int x :: .ref a :: st) h Q = kO (ai_arr h a 0) (fun q => kB (ai_in x q.1) (RR S d 120 28 L (.int (q.2 x.toNatClampNeg) :: st) h Q)) := RR.ial rfl rfl
theorem r120_28 : RR S d 120 28 L st h Q = kI (ai_look L 3) (fun x => RR S d 120 29 L (.int x :: st) h Q) := RR.ldi_n rfl rfl rfl
theorem r120_29 {x y : Int32} : RR S d 120 29 L (.int y :: .int x :: st) h Q = if ¬ x = y then RR S d 120 34 L st h Q else RR S d 120 32 L st h Q := RR.b2 (c := .ne) (off := 5) rfl rfl (by decide) rfl
theorem r120_32 : RR S d 120 32 L st h Q = RR S d 120 33 L (.int 1 :: st) h Q := RR.icn (n := 1) rfl (by decide) rfl
theorem r120_33f : RR S d 120 33 L [.int 0] h Q = Q (some (.int 0)) h := RR.zrt rfl rfl (by decide)
theorem r120_33t : RR S d 120 33 L [.int 1] h Q = Q (some (.int 1)) h := RR.zrt rfl rfl (by decide)
theorem r120_34 : RR S d 120 34 L st h Q = kI (ai_look L 4) (fun x => RR S d 120 37 (ai_put 4 (.int (x + 1)) L) st h Q) := RR.iinc (k := 4) (n := 1) rfl (by decide) (by decide) rfl
theorem r120_37 : RR S d 120 37 L st h Q = RR S d 120 10 L st h Q := RR.jmp (off := (-27)) rfl (by decide)
theorem r120_40 : RR S d 120 40 L st h Q = RR S d 120 41 L (.int 0 :: st) h Q := RR.icn (n := 0) rfl (by decide) rfl
theorem r120_41f : RR S d 120 41 L [.int 0] h Q = Q (some (.int 0)) h := RR.zrt rfl rfl (by decide)
theorem r120_41t : RR S d 120 41 L [.int 1] h Q = Q (some (.int 1)) h := RR.zrt rfl rfl (by decide)
theorem r121_0 : RR S d 121 0 L st h Q = kA (ai_look L 0) (fun x => RR S d 121 1 L (x :: st) h Q) := RR.lda_n rfl rfl rfl
theorem r121_1 : RR S d 121 1 L st h Q = RR S d 121 2 L (.int 0 :: st) h Q := RR.icn (n := 0) rfl (by decide) rfl
theorem r121_2 {x : Int32} {a : Nat} : RR S d 121 2 L (.int x :: .ref a :: st) h Q = kO (ai_obj h a 10) (fun fs => kB (decide (27 < fs.length)) (RR S d 121 5 L st (h.1.set a (.inr (10, fs.set 27 (.int x))), h.2) Q)) := RR.put rfl rfl (ai_okp_i rfl (by decide +kernel)) rfl
theorem r121_5 : RR S d 121 5 L st h Q = RR S d 121 6 L (.int 0 :: st) h Q := RR.icn (n := 0) rfl (by decide) rfl
theorem r121_6 {x : Int32} : RR S d 121 6 L (.int x :: st) h Q = RR S d 121 8 (ai_put 4 (.int x) L) st h Q := RR.do1 (8, ai_put 4 (.int x) L, st, h) rfl rfl rfl
theorem r121_8 : RR S d 121 8 L st h Q = kA (ai_look L 0) (fun x => RR S d 121 9 L (x :: st) h Q) := RR.lda_n rfl rfl rfl
theorem r121_9 {a : Nat} : RR S d 121 9 L (.ref a :: st) h Q = kO (ai_fld h a 10 31) (fun w => RR S d 121 12 L (w :: st) h Q) := RR.get rfl rfl rfl
theorem r121_12 : RR S d 121 12 L st h Q = RR S d 121 13 L (.int 0 :: st) h Q := RR.icn (n := 0) rfl (by decide) rfl
theorem r121_13 : RR S d 121 13 L st h Q = RR S d 121 14 L (.int 0 :: st) h Q := RR.icn (n := 0) rfl (by decide) rfl
theorem r121_14 {x y : Int32} {a : Nat} : RR S d 121 14 L (.int y :: .int x :: .ref a :: st) h Q = kO (ai_arr h a 0) (fun q => kB (ai_in x q.1) (RR S d 121 15 L st (h.1.set a (.inl (0, q.1, .inl (upd q.2 x.toNatClampNeg y))), h.2) Q)) := RR.ias rfl rfl
theorem r121_15 : RR S d 121 15 L st h Q = kI (ai_look L 4) (fun x => RR S d 121 17 L (.int x :: st) h Q) := RR.ldi rfl rfl
theorem r121_17 {x : Int32} : RR S d 121 17 L (.int x :: st) h Q = if x < 0 then RR S d 121 196 L st h Q else RR S d 121 20 L st h Q := RR.b1 (c := .lt) (off := 179) rfl rfl (by decide) rfl
theorem r121_20 : RR S d 121 20 L st h Q = kA (ai_look L 0) (fun x => RR S d 121 21 L (x :: st) h Q) := RR.lda_n rfl rfl rfl
theorem r121_21 {a : Nat} : RR S d 121 21 L (.ref a :: st) h Q = kO (ai_fld h a 10 31) (fun w => RR S d 121 24 L (w :: st) h Q) := RR.get rfl rfl rfl
theorem r121_24 : RR S d 121 24 L st h Q = kI (ai_look L 4) (fun x => RR S d 121 26 L (.int x :: st) h Q) := RR.ldi rfl rfl
theorem r121_26 {x : Int32} {a : Nat} : RR S d 121 26 L (.int x :: .ref a :: st) h Q = kO (ai_arr h a 0) (fun q => kB (ai_in x q.1) (RR S d 121 27 L (.int (q.2 x.toNatClampNeg) :: st) h Q)) := RR.ial rfl rfl
theorem r121_27 {x : Int32} : RR S d 121 27 L (.int x :: st) h Q = RR S d 121 29 (ai_put 5 (.int x) L) st h Q := RR.do1 (29, ai_put 5 (.int x) L, st, h) rfl rfl rfl
theorem r121_29 : RR S d 121 29 L st h Q = kI (ai_look L 4) (fun x => RR S d 121 31 L (.int x :: st) h Q) := RR.ldi rfl rfl
theorem r121_31 {x : Int32} : RR S d 121 31 L (.int x :: st) h Q = if ¬ x = 0 then RR S d 121 38 L st h Q else RR S d 121 34 L st h Q := RR.b1 (c := .ne) (off := 7) rfl rfl (by decide) rfl
theorem r121_34 : RR S d 121 34 L st h Q = kI (ai_look L 1) (fun x => RR S d 121 35 L (.int x :: st) h Q) := RR.ldi_n rfl rfl rfl
theorem r121_35 : RR S d 121 35 L st h Q = RR S d 121 52 L st h Q := RR.jmp (off := 17) rfl (by decide)
theorem r121_38 : RR S d 121 38 L st h Q = kA (ai_look L 0) (fun x => RR S d 121 39 L (x :: st) h Q) := RR.lda_n rfl rfl rfl
theorem r121_39 {a : Nat} : RR S d 121 39 L (.ref a :: st) h Q = kO (ai_fld h a 10 5) (fun w => RR S d 121 42 L (w :: st) h Q) := RR.get rfl rfl rfl
theorem r121_42 : RR S d 121 42 L st h Q = kA (ai_look L 0) (fun x => RR S d 121 43 L (x :: st) h Q) := RR.lda_n rfl rfl rfl
theorem r121_43 {a : Nat} : RR S d 121 43 L (.ref a :: st) h Q = kO (ai_fld h a 10 31) (fun w => RR S d 121 46 L (w :: st) h Q) := RR.get rfl rfl rfl
theorem r121_46 : RR S d 121 46 L st h Q = kI (ai_look L 4) (fun x => RR S d 121 48 L (.int x :: st) h Q) := RR.ldi rfl rfl
theorem r121_48 : RR S d 121 48 L st h Q = RR S d 121 49 L (.int 1 :: st) h Q := RR.icn (n := 1) rfl (by decide) rfl
theorem r121_49 {x y : Int32} : RR S d 121 49 L (.int y :: .int x :: st) h Q = RR S d 121 50 L (.int (x - y) :: st) h Q := RR.do1 (50, L, .int (x - y) :: st, h) rfl rfl rfl
theorem r121_50 {x : Int32} {a : Nat} : RR S d 121 50 L (.int x :: .ref a :: st) h Q = kO (ai_arr h a 0) (fun q => kB (ai_in x q.1) (RR S d 121 51 L (.int (q.2 x.toNatClampNeg) :: st) h Q)) := RR.ial rfl rfl
theorem r121_51 {x : Int32} {a : Nat} : RR S d 121 51 L (.int x :: .ref a :: st) h Q = kO (ai_arr h a 0) (fun q => kB (ai_in x q.1) (RR S d 121 52 L (.int (q.2 x.toNatClampNeg) :: st) h Q)) := RR.ial rfl rfl
theorem r121_52 {x : Int32} : RR S d 121 52 L (.int x :: st) h Q = RR S d 121 54 (ai_put 6 (.int x) L) st h Q := RR.do1 (54, ai_put 6 (.int x) L, st, h) rfl rfl rfl
theorem r121_54 : RR S d 121 54 L st h Q = kI (ai_look L 5) (fun x => RR S d 121 56 L (.int x :: st) h Q) := RR.ldi rfl rfl
theorem r121_56 : RR S d 121 56 L st h Q = kA (ai_look L 0) (fun x => RR S d 121 57 L (x :: st) h Q) := RR.lda_n rfl rfl rfl
theorem r121_57 {a : Nat} : RR S d 121 57 L (.ref a :: st) h Q = kO (ai_fld h a 10 3) (fun w => RR S d 121 60 L (w :: st) h Q) := RR.get rfl rfl rfl
theorem r121_60 {x y : Int32} : RR S d 121 60 L (.int y :: .int x :: st) h Q = if x < y then RR S d 121 85 L st h Q else RR S d 121 63 L st h Q := RR.b2 (c := .lt) (off := 25) rfl rfl (by decide) rfl
theorem r121_63 : RR S d 121 63 L st h Q = kI (ai_look L 4) (fun x => RR S d 121 66 (ai_put 4 (.int (x + (-1))) L) st h Q) := RR.iinc (k := 4) (n := (-1)) rfl (by decide) (by decide) rfl
theorem r121_66 : RR S d 121 66 L st h Q = kI (ai_look L 4) (fun x => RR S d 121 68 L (.int x :: st) h Q) := RR.ldi rfl rfl
theorem r121_68 {x : Int32} : RR S d 121 68 L (.int x :: st) h Q = if x < 0 then RR S d 121 193 L st h Q else RR S d 121 71 L st h Q := RR.b1 (c := .lt) (off := 125) rfl rfl (by decide) rfl
theorem r121_71 : RR S d 121 71 L st h Q = kA (ai_look L 0) (fun x => RR S d 121 72 L (x :: st) h Q) := RR.lda_n rfl rfl rfl
theorem r121_72 {a : Nat} : RR S d 121 72 L (.ref a :: st) h Q = kO (ai_fld h a 10 31) (fun w => RR S d 121 75 L (w :: st) h Q) := RR.get rfl rfl rfl
theorem r121_75 : RR S d 121 75 L st h Q = kI (ai_look L 4) (fun x => RR S d 121 77 L (.int x :: st) h Q) := RR.ldi rfl rfl
theorem r121_77 {v w : Value} (hv : v.category = 1) (hw : w.category = 1) : RR S d 121 77 L (v :: w :: st) h Q = RR S d 121 78 L (v :: w :: v :: w :: st) h Q := RR.dup2 rfl hv hw rfl
theorem r121_78 {x : Int32} {a : Nat} : RR S d 121 78 L (.int x :: .ref a :: st) h Q = kO (ai_arr h a 0) (fun q => kB (ai_in x q.1) (RR S d 121 79 L (.int (q.2 x.toNatClampNeg) :: st) h Q)) := RR.ial rfl rfl
theorem r121_79 : RR S d 121 79 L st h Q = RR S d 121 80 L (.int 1 :: st) h Q := RR.icn (n := 1) rfl (by decide) rfl
theorem r121_80 {x y : Int32} : RR S d 121 80 L (.int y :: .int x :: st) h Q = RR S d 121 81 L (.int (x + y) :: st) h Q := RR.do1 (81, L, .int (x + y) :: st, h) rfl rfl rfl
theorem r121_81 {x y : Int32} {a : Nat} : RR S d 121 81 L (.int y :: .int x :: .ref a :: st) h Q = kO (ai_arr h a 0) (fun q => kB (ai_in x q.1) (RR S d 121 82 L st (h.1.set a (.inl (0, q.1, .inl (upd q.2 x.toNatClampNeg y))), h.2) Q)) := RR.ias rfl rfl
theorem r121_82 : RR S d 121 82 L st h Q = RR S d 121 193 L st h Q := RR.jmp (off := 111) rfl (by decide)
theorem r121_85 : RR S d 121 85 L st h Q = kA (ai_look L 0) (fun x => RR S d 121 86 L (x :: st) h Q) := RR.lda_n rfl rfl rfl
theorem r121_86 {a : Nat} : RR S d 121 86 L (.ref a :: st) h Q = kO (ai_fld h a 10 4) (fun w => RR S d 121 89 L (w :: st) h Q) := RR.get rfl rfl rfl
theorem r121_89 : RR S d 121 89 L st h Q = kI (ai_look L 5) (fun x => RR S d 121 91 L (.int x :: st) h Q) := RR.ldi rfl rfl
theorem r121_91 {x : Int32} {a : Nat} : RR S d 121 91 L (.int x :: .ref a :: st) h Q = kO (ai_arr h a 0) (fun q => kB (ai_in x q.1) (RR S d 121 92 L (.int (q.2 x.toNatClampNeg) :: st) h Q)) := RR.ial rfl rfl
theorem r121_92 : RR S d 121 92 L st h Q = kI (ai_look L 6) (fun x => RR S d 121 94 L (.int x :: st) h Q) := RR.ldi rfl rfl
theorem r121_94 {x y : Int32} : RR S d 121 94 L (.int y :: .int x :: st) h Q = if ¬ x = y then RR S d 121 114 L st h Q else RR S d 121 97 L st h Q := RR.b2 (c := .ne) (off := 20) rfl rfl (by decide) rfl
theorem r121_97 : RR S d 121 97 L st h Q = kA (ai_look L 0) (fun x => RR S d 121 98 L (x :: st) h Q) := RR.lda_n rfl rfl rfl
theorem r121_98 : RR S d 121 98 L st h Q = kI (ai_look L 1) (fun x => RR S d 121 99 L (.int x :: st) h Q) := RR.ldi_n rfl rfl rfl
theorem r121_99 : RR S d 121 99 L st h Q = kI (ai_look L 4) (fun x => RR S d 121 101 L (.int x :: st) h Q) := RR.ldi rfl rfl
theorem r121_101 : RR S d 121 101 L st h Q = kA (ai_look L 0) (fun x => RR S d 121 102 L (x :: st) h Q) := RR.lda_n rfl rfl rfl
theorem r121_102 {a : Nat} : RR S d 121 102 L (.ref a :: st) h Q = kO (ai_fld h a 10 5) (fun w => RR S d 121 105 L (w :: st) h Q) := RR.get rfl rfl rfl
theorem r121_105 : RR S d 121 105 L st h Q = kI (ai_look L 5) (fun x => RR S d 121 107 L (.int x :: st) h Q) := RR.ldi rfl rfl
theorem r121_107 {x : Int32} {a : Nat} : RR S d 121 107 L (.int x :: .ref a :: st) h Q = kO (ai_arr h a 0) (fun q => kB (ai_in x q.1) (RR S d 121 108 L (.int (q.2 x.toNatClampNeg) :: st) h Q)) := RR.ial rfl rfl
theorem r121_108 {p0 : Int32} {p1 : Int32} {p2 : Int32} {a : Nat} : RR S (d + 1) 121 108 L (.int p2 :: .int p1 :: .int p0 :: .ref a :: st) h Q = kB (decide (ai_sum st ≤ 8)) (kB ((ai_obj h a 10).isSome) (RR S d 120 0 [(0, .ref a), (1, .int p0), (2, .int p1), (3, .int p2)] [] h (fun r h1 => RR S (d + 1) 121 111 L (r.toList ++ st) h1 Q))) := RR.cv (j := 137) (mn' := 120) (n := 3) rfl rfl rfl rfl rfl rfl
theorem r121_111 {x : Int32} : RR S d 121 111 L (.int x :: st) h Q = if x = 0 then RR S d 121 128 L st h Q else RR S d 121 114 L st h Q := RR.b1 (c := .eq) (off := 17) rfl rfl (by decide) rfl
theorem r121_114 : RR S d 121 114 L st h Q = kA (ai_look L 0) (fun x => RR S d 121 115 L (x :: st) h Q) := RR.lda_n rfl rfl rfl
theorem r121_115 {a : Nat} : RR S d 121 115 L (.ref a :: st) h Q = kO (ai_fld h a 10 31) (fun w => RR S d 121 118 L (w :: st) h Q) := RR.get rfl rfl rfl
theorem r121_118 : RR S d 121 118 L st h Q = kI (ai_look L 4) (fun x => RR S d 121 120 L (.int x :: st) h Q) := RR.ldi rfl rfl
theorem r121_120 {v w : Value} (hv : v.category = 1) (hw : w.category = 1) : RR S d 121 120 L (v :: w :: st) h Q = RR S d 121 121 L (v :: w :: v :: w :: st) h Q := RR.dup2 rfl hv hw rfl
theorem r121_121 {x : Int32} {a : Nat} : RR S d 121 121 L (.int x :: .ref a :: st) h Q = kO (ai_arr h a 0) (fun q => kB (ai_in x q.1) (RR S d 121 122 L (.int (q.2 x.toNatClampNeg) :: st) h Q)) := RR.ial rfl rfl
theorem r121_122 : RR S d 121 122 L st h Q = RR S d 121 123 L (.int 1 :: st) h Q := RR.icn (n := 1) rfl (by decide) rfl
theorem r121_123 {x y : Int32} : RR S d 121 123 L (.int y :: .int x :: st) h Q = RR S d 121 124 L (.int (x + y) :: st) h Q := RR.do1 (124, L, .int (x + y) :: st, h) rfl rfl rfl
theorem r121_124 {x y : Int32} {a : Nat} : RR S d 121 124 L (.int y :: .int x :: .ref a :: st) h Q = kO (ai_arr h a 0) (fun q => kB (ai_in x q.1) (RR S d 121 125 L st (h.1.set a (.inl (0, q.1, .inl (upd q.2 x.toNatClampNeg y))), h.2) Q)) := RR.ias rfl rfl
theorem r121_125 : RR S d 121 125 L st h Q = RR S d 121 193 L st h Q := RR.jmp (off := 68) rfl (by decide)
theorem r121_128 : RR S d 121 128 L st h Q = kA (ai_look L 0) (fun x => RR S d 121 129 L (x :: st) h Q) := RR.lda_n rfl rfl rfl
theorem r121_129 {a : Nat} : RR S d 121 129 L (.ref a :: st) h Q = kO (ai_fld h a 10 5) (fun w => RR S d 121 132 L (w :: st) h Q) := RR.get rfl rfl rfl
theorem r121_132 : RR S d 121 132 L st h Q = kI (ai_look L 5) (fun x => RR S d 121 134 L (.int x :: st) h Q) := RR.ldi rfl rfl
theorem r121_134 {x : Int32} {a : Nat} : RR S d 121 134 L (.int x :: .ref a :: st) h Q = kO (ai_arr h a 0) (fun q => kB (ai_in x q.1) (RR S d 121 135 L (.int (q.2 x.toNatClampNeg) :: st) h Q)) := RR.ial rfl rfl
theorem r121_135 : RR S d 121 135 L st h Q = kI (ai_look L 2) (fun x => RR S d 121 136 L (.int x :: st) h Q) := RR.ldi_n rfl rfl rfl
theorem r121_136 {x y : Int32} : RR S d 121 136 L (.int y :: .int x :: st) h Q = if ¬ x = y then RR S d 121 162 L st h Q else RR S d 121 139 L st h Q := RR.b2 (c := .ne) (off := 26) rfl rfl (by decide) rfl
theorem r121_139 : RR S d 121 139 L st h Q = kA (ai_look L 0) (fun x => RR S d 121 140 L (x :: st) h Q) := RR.lda_n rfl rfl rfl
theorem r121_140 : RR S d 121 140 L st h Q = kI (ai_look L 4) (fun x => RR S d 121 142 L (.int x :: st) h Q) := RR.ldi rfl rfl
theorem r121_142 : RR S d 121 142 L st h Q = RR S d 121 143 L (.int 1 :: st) h Q := RR.icn (n := 1) rfl (by decide) rfl
theorem r121_143 {x y : Int32} : RR S d 121 143 L (.int y :: .int x :: st) h Q = RR S d 121 144 L (.int (x + y) :: st) h Q := RR.do1 (144, L, .int (x + y) :: st, h) rfl rfl rfl
theorem r121_144 : RR S d 121 144 L st h Q = kI (ai_look L 3) (fun x => RR S d 121 145 L (.int x :: st) h Q) := RR.ldi_n rfl rfl rfl
theorem r121_145 {p0 : Int32} {p1 : Int32} {a : Nat} : RR S (d + 1) 121 145 L (.int p1 :: .int p0 :: .ref a :: st) h Q = kB (decide (ai_sum st ≤ 8)) (kB ((ai_obj h a 10).isSome) (RR S d 122 0 [(0, .ref a), (1, .int p0), (2, .int p1)] [] h (fun r h1 => RR S (d + 1) 121 148 L (r.toList ++ st) h1 Q))) := RR.cv (j := 141) (mn' := 122) (n := 2) rfl rfl rfl rfl rfl rfl
theorem r121_148 : RR S d 121 148 L st h Q = kA (ai_look L 0) (fun x => RR S d 121 149 L (x :: st) h Q) := RR.lda_n rfl rfl rfl
theorem r121_149 {a : Nat} : RR S d 121 149 L (.ref a :: st) h Q = kO (ai_fld h a 10 31) (fun w => RR S d 121 152 L (w :: st) h Q) := RR.get rfl rfl rfl
theorem r121_152 : RR S d 121 152 L st h Q = kI (ai_look L 4) (fun x => RR S d 121 154 L (.int x :: st) h Q) := RR.ldi rfl rfl
theorem r121_154 {v w : Value} (hv : v.category = 1) (hw : w.category = 1) : RR S d 121 154 L (v :: w :: st) h Q = RR S d 121 155 L (v :: w :: v :: w :: st) h Q := RR.dup2 rfl hv hw rfl
theorem r121_155 {x : Int32} {a : Nat} : RR S d 121 155 L (.int x :: .ref a :: st) h Q = kO (ai_arr h a 0) (fun q => kB (ai_in x q.1) (RR S d 121 156 L (.int (q.2 x.toNatClampNeg) :: st) h Q)) := RR.ial rfl rfl
theorem r121_156 : RR S d 121 156 L st h Q = RR S d 121 157 L (.int 1 :: st) h Q := RR.icn (n := 1) rfl (by decide) rfl
theorem r121_157 {x y : Int32} : RR S d 121 157 L (.int y :: .int x :: st) h Q = RR S d 121 158 L (.int (x + y) :: st) h Q := RR.do1 (158, L, .int (x + y) :: st, h) rfl rfl rfl
theorem r121_158 {x y : Int32} {a : Nat} : RR S d 121 158 L (.int y :: .int x :: .ref a :: st) h Q = kO (ai_arr h a 0) (fun q => kB (ai_in x q.1) (RR S d 121 159 L st (h.1.set a (.inl (0, q.1, .inl (upd q.2 x.toNatClampNeg y))), h.2) Q)) := RR.ias rfl rfl
theorem r121_159 : RR S d 121 159 L st h Q = RR S d 121 193 L st h Q := RR.jmp (off := 34) rfl (by decide)
theorem r121_162 : RR S d 121 162 L st h Q = kI (ai_look L 4) (fun x => RR S d 121 164 L (.int x :: st) h Q) := RR.ldi rfl rfl
theorem r121_164 : RR S d 121 164 L st h Q = RR S d 121 165 L (.int 3 :: st) h Q := RR.icn (n := 3) rfl (by decide) rfl
theorem r121_165 {x y : Int32} : RR S d 121 165 L (.int y :: .int x :: st) h Q = if y ≤ x then RR S d 121 182 L st h Q else RR S d 121 168 L st h Q := RR.b2 (c := .ge) (off := 17) rfl rfl (by decide) rfl
theorem r121_168 : RR S d 121 168 L st h Q = kI (ai_look L 4) (fun x => RR S d 121 171 (ai_put 4 (.int (x + 1)) L) st h Q) := RR.iinc (k := 4) (n := 1) rfl (by decide) (by decide) rfl
theorem r121_171 : RR S d 121 171 L st h Q = kA (ai_look L 0) (fun x => RR S d 121 172 L (x :: st) h Q) := RR.lda_n rfl rfl rfl
theorem r121_172 {a : Nat} : RR S d 121 172 L (.ref a :: st) h Q = kO (ai_fld h a 10 31) (fun w => RR S d 121 175 L (w :: st) h Q) := RR.get rfl rfl rfl
theorem r121_175 : RR S d 121 175 L st h Q = kI (ai_look L 4) (fun x => RR S d 121 177 L (.int x :: st) h Q) := RR.ldi rfl rfl
theorem r121_177 : RR S d 121 177 L st h Q = RR S d 121 178 L (.int 0 :: st) h Q := RR.icn (n := 0) rfl (by decide) rfl
theorem r121_178 {x y : Int32} {a : Nat} : RR S d 121 178 L (.int y :: .int x :: .ref a :: st) h Q = kO (ai_arr h a 0) (fun q => kB (ai_in x q.1) (RR S d 121 179 L st (h.1.set a (.inl (0, q.1, .inl (upd q.2 x.toNatClampNeg y))), h.2) Q)) := RR.ias rfl rfl
theorem r121_179 : RR S d 121 179 L st h Q = RR S d 121 193 L st h Q := RR.jmp (off := 14) rfl (by decide)
theorem r121_182 : RR S d 121 182 L st h Q = kA (ai_look L 0) (fun x => RR S d 121 183 L (x :: st) h Q) := RR.lda_n rfl rfl rfl
theorem r121_183 {a : Nat} : RR S d 121 183 L (.ref a :: st) h Q = kO (ai_fld h a 10 31) (fun w => RR S d 121 186 L (w :: st) h Q) := RR.get rfl rfl rfl
theorem r121_186 : RR S d 121 186 L st h Q = kI (ai_look L 4) (fun x => RR S d 121 188 L (.int x :: st) h Q) := RR.ldi rfl rfl
theorem r121_188 {v w : Value} (hv : v.category = 1) (hw : w.category = 1) : RR S d 121 188 L (v :: w :: st) h Q = RR S d 121 189 L (v :: w :: v :: w :: st) h Q := RR.dup2 rfl hv hw rfl
theorem r121_189 {x : Int32} {a : Nat} : RR S d 121 189 L (.int x :: .ref a :: st) h Q = kO (ai_arr h a 0) (fun q => kB (ai_in x q.1) (RR S d 121 190 L (.int (q.2 x.toNatClampNeg) :: st) h Q)) := RR.ial rfl rfl
theorem r121_190 : RR S d 121 190 L st h Q = RR S d 121 191 L (.int 1 :: st) h Q := RR.icn (n := 1) rfl (by decide) rfl
theorem r121_191 {x y : Int32} : RR S d 121 191 L (.int y :: .int x :: st) h Q = RR S d 121 192 L (.int (x + y) :: st) h Q := RR.do1 (192, L, .int (x + y) :: st, h) rfl rfl rfl
theorem r121_192 {x y : Int32} {a : Nat} : RR S d 121 192 L (.int y :: .int x :: .ref a :: st) h Q = kO (ai_arr h a 0) (fun q => kB (ai_in x q.1) (RR S d 121 193 L st (h.1.set a (.inl (0, q.1, .inl (upd q.2 x.toNatClampNeg y))), h.2) Q)) := RR.ias rfl rfl
theorem r121_193 : RR S d 121 193 L st h Q = RR S d 121 15 L st h Q := RR.jmp (off := (-178)) rfl (by decide)
theorem r121_196 : RR S d 121 196 L [] h Q = Q none h := RR.rt rfl rfl rfl
theorem r122_0 : RR S d 122 0 L st h Q = kA (ai_look L 0) (fun x => RR S d 122 1 L (x :: st) h Q) := RR.lda_n rfl rfl rfl
theorem r122_1 : RR S d 122 1 L st h Q = kA (ai_look L 0) (fun x => RR S d 122 2 L (x :: st) h Q) := RR.lda_n rfl rfl rfl
theorem r122_2 {a : Nat} : RR S d 122 2 L (.ref a :: st) h Q = kO (ai_fld h a 10 31) (fun w => RR S d 122 5 L (w :: st) h Q) := RR.get rfl rfl rfl
theorem r122_5 : RR S d 122 5 L st h Q = RR S d 122 6 L (.int 0 :: st) h Q := RR.icn (n := 0) rfl (by decide) rfl
theorem r122_6 : RR S d 122 6 L st h Q = kI (ai_look L 1) (fun x => RR S d 122 7 L (.int x :: st) h Q) := RR.ldi_n rfl rfl rfl
theorem r122_7 : RR S d 122 7 L st h Q = kI (ai_look L 2) (fun x => RR S d 122 8 L (.int x :: st) h Q) := RR.ldi_n rfl rfl rfl
theorem r122_8 {p0 : Nat} {p1 : Int32} {p2 : Int32} {p3 : Int32} {a : Nat} : RR S (d + 1) 122 8 L (.int p3 :: .int p2 :: .int p1 :: .ref p0 :: .ref a :: st) h Q = kB (decide (ai_sum st ≤ 8)) (kB ((ai_obj h a 10).isSome) (RR S d 119 0 [(0, .ref a), (1, .ref p0), (2, .int p1), (3, .int p2), (4, .int p3)] [] h (fun r h1 => RR S (d + 1) 122 11 L (r.toList ++ st) h1 Q))) := RR.cv (j := 145) (mn' := 119) (n := 4) rfl rfl rfl rfl rfl rfl
theorem r122_11 {x : Int32} : RR S d 122 11 L (.int x :: st) h Q = RR S d 122 12 (ai_put 3 (.int x) L) st h Q := RR.do1 (12, ai_put 3 (.int x) L, st, h) rfl rfl rfl
theorem r122_12 : RR S d 122 12 L st h Q = kA (ai_look L 0) (fun x => RR S d 122 13 L (x :: st) h Q) := RR.lda_n rfl rfl rfl
theorem r122_13 {a : Nat} : RR S d 122 13 L (.ref a :: st) h Q = kO (ai_fld h a 10 27) (fun w => RR S d 122 16 L (w :: st) h Q) := RR.get rfl rfl rfl
theorem r122_16 {x : Int32} : RR S d 122 16 L (.int x :: st) h Q = RR S d 122 18 (ai_put 4 (.int x) L) st h Q := RR.do1 (18, ai_put 4 (.int x) L, st, h) rfl rfl rfl
theorem r122_18 : RR S d 122 18 L st h Q = kI (ai_look L 4) (fun x => RR S d 122 20 L (.int x :: st) h Q) := RR.ldi rfl rfl
theorem r122_20 {x : Int32} : RR S d 122 20 L (.int x :: st) h Q = if x ≤ 0 then RR S d 122 27 L st h Q else RR S d 122 23 L st h Q := RR.b1 (c := .le) (off := 7) rfl rfl (by decide) rfl
theorem r122_23 : RR S d 122 23 L st h Q = RR S d 122 24 L (.int 1 :: st) h Q := RR.icn (n := 1) rfl (by decide) rfl
theorem r122_24 : RR S d 122 24 L st h Q = RR S d 122 28 L st h Q := RR.jmp (off := 4) rfl (by decide)
theorem r122_27 : RR S d 122 27 L st h Q = RR S d 122 28 L (.int 0 :: st) h Q := RR.icn (n := 0) rfl (by decide) rfl
theorem r122_28 {x : Int32} : RR S d 122 28 L (.int x :: st) h Q = RR S d 122 30 (ai_put 5 (.int x) L) st h Q := RR.do1 (30, ai_put 5 (.int x) L, st, h) rfl rfl rfl
theorem r122_30 : RR S d 122 30 L st h Q = kI (ai_look L 5) (fun x => RR S d 122 32 L (.int x :: st) h Q) := RR.ldi rfl rfl
theorem r122_32 {x : Int32} : RR S d 122 32 L (.int x :: st) h Q = if x = 0 then RR S d 122 143 L st h Q else RR S d 122 35 L st h Q := RR.b1 (c := .eq) (off := 111) rfl rfl (by decide) rfl
theorem r122_35 : RR S d 122 35 L st h Q = kA (ai_look L 0) (fun x => RR S d 122 36 L (x :: st) h Q) := RR.lda_n rfl rfl rfl
theorem r122_36 : RR S d 122 36 L st h Q = kI (ai_look L 4) (fun x => RR S d 122 38 L (.int x :: st) h Q) := RR.ldi rfl rfl
theorem r122_38 : RR S d 122 38 L st h Q = RR S d 122 39 L (.int 1 :: st) h Q := RR.icn (n := 1) rfl (by decide) rfl
theorem r122_39 {x y : Int32} : RR S d 122 39 L (.int y :: .int x :: st) h Q = RR S d 122 40 L (.int (x - y) :: st) h Q := RR.do1 (40, L, .int (x - y) :: st, h) rfl rfl rfl
theorem r122_40 : RR S d 122 40 L st h Q = kI (ai_look L 3) (fun x => RR S d 122 41 L (.int x :: st) h Q) := RR.ldi_n rfl rfl rfl
theorem r122_41 : RR S d 122 41 L st h Q = kI (ai_look L 1) (fun x => RR S d 122 42 L (.int x :: st) h Q) := RR.ldi_n rfl rfl rfl
theorem r122_42 {p0 : Int32} {p1 : Int32} {p2 : Int32} {a : Nat} : RR S (d + 1) 122 42 L (.int p2 :: .int p1 :: .int p0 :: .ref a :: st) h Q = kB (decide (ai_sum st ≤ 8)) (kB ((ai_obj h a 10).isSome) (RR S d 123 0 [(0, .ref a), (1, .int p0), (2, .int p1), (3, .int p2)] [] h (fun r h1 => RR S (d + 1) 122 45 L (r.toList ++ st) h1 Q))) := RR.cv (j := 149) (mn' := 123) (n := 3) rfl rfl rfl rfl rfl rfl
theorem r122_45 {x : Int32} : RR S d 122 45 L (.int x :: st) h Q = RR S d 122 47 (ai_put 5 (.int x) L) st h Q := RR.do1 (47, ai_put 5 (.int x) L, st, h) rfl rfl rfl
theorem r122_47 : RR S d 122 47 L st h Q = kI (ai_look L 5) (fun x => RR S d 122 49 L (.int x :: st) h Q) := RR.ldi rfl rfl
theorem r122_49 {x : Int32} : RR S d 122 49 L (.int x :: st) h Q = if x = 0 then RR S d 122 30 L st h Q else RR S d 122 52 L st h Q := RR.b1 (c := .eq) (off := (-19)) rfl rfl (by decide) rfl
theorem r122_52 : RR S d 122 52 L st h Q = kA (ai_look L 0) (fun x => RR S d 122 53 L (x :: st) h Q) := RR.lda_n rfl rfl rfl
theorem r122_53 {a : Nat} : RR S d 122 53 L (.ref a :: st) h Q = kO (ai_fld h a 10 28) (fun w => RR S d 122 56 L (w :: st) h Q) := RR.get rfl rfl rfl
theorem r122_56 : RR S d 122 56 L st h Q = kI (ai_look L 4) (fun x => RR S d 122 58 L (.int x :: st) h Q) := RR.ldi rfl rfl
theorem r122_58 : RR S d 122 58 L st h Q = kA (ai_look L 0) (fun x => RR S d 122 59 L (x :: st) h Q) := RR.lda_n rfl rfl rfl
theorem r122_59 {a : Nat} : RR S d 122 59 L (.ref a :: st) h Q = kO (ai_fld h a 10 28) (fun w => RR S d 122 62 L (w :: st) h Q) := RR.get rfl rfl rfl
theorem r122_62 : RR S d 122 62 L st h Q = kI (ai_look L 4) (fun x => RR S d 122 64 L (.int x :: st) h Q) := RR.ldi rfl rfl
theorem r122_64 : RR S d 122 64 L st h Q = RR S d 122 65 L (.int 1 :: st) h Q := RR.icn (n := 1) rfl (by decide) rfl
theorem r122_65 {x y : Int32} : RR S d 122 65 L (.int y :: .int x :: st) h Q = RR S d 122 66 L (.int (x - y) :: st) h Q := RR.do1 (66, L, .int (x - y) :: st, h) rfl rfl rfl
theorem r122_66 {x : Int32} {a : Nat} : RR S d 122 66 L (.int x :: .ref a :: st) h Q = kO (ai_arr h a 0) (fun q => kB (ai_in x q.1) (RR S d 122 67 L (.int (q.2 x.toNatClampNeg) :: st) h Q)) := RR.ial rfl rfl
theorem r122_67 {x y : Int32} {a : Nat} : RR S d 122 67 L (.int y :: .int x :: .ref a :: st) h Q = kO (ai_arr h a 0) (fun q => kB (ai_in x q.1) (RR S d 122 68 L st (h.1.set a (.inl (0, q.1, .inl (upd q.2 x.toNatClampNeg y))), h.2) Q)) := RR.ias rfl rfl
theorem r122_68 : RR S d 122 68 L st h Q = kA (ai_look L 0) (fun x => RR S d 122 69 L (x :: st) h Q) := RR.lda_n rfl rfl rfl
theorem r122_69 {a : Nat} : RR S d 122 69 L (.ref a :: st) h Q = kO (ai_fld h a 10 30) (fun w => RR S d 122 72 L (w :: st) h Q) := RR.get rfl rfl rfl
theorem r122_72 : RR S d 122 72 L st h Q = kI (ai_look L 4) (fun x => RR S d 122 74 L (.int x :: st) h Q) := RR.ldi rfl rfl
theorem r122_74 : RR S d 122 74 L st h Q = kA (ai_look L 0) (fun x => RR S d 122 75 L (x :: st) h Q) := RR.lda_n rfl rfl rfl
theorem r122_75 {a : Nat} : RR S d 122 75 L (.ref a :: st) h Q = kO (ai_fld h a 10 30) (fun w => RR S d 122 78 L (w :: st) h Q) := RR.get rfl rfl rfl
theorem r122_78 : RR S d 122 78 L st h Q = kI (ai_look L 4) (fun x => RR S d 122 80 L (.int x :: st) h Q) := RR.ldi rfl rfl
theorem r122_80 : RR S d 122 80 L st h Q = RR S d 122 81 L (.int 1 :: st) h Q := RR.icn (n := 1) rfl (by decide) rfl
theorem r122_81 {x y : Int32} : RR S d 122 81 L (.int y :: .int x :: st) h Q = RR S d 122 82 L (.int (x - y) :: st) h Q := RR.do1 (82, L, .int (x - y) :: st, h) rfl rfl rfl
theorem r122_82 {x : Int32} {a : Nat} : RR S d 122 82 L (.int x :: .ref a :: st) h Q = kO (ai_arr h a 0) (fun q => kB (ai_in x q.1) (RR S d 122 83 L (.int (q.2 x.toNatClampNeg) :: st) h Q)) := RR.ial rfl rfl
theorem r122_83 {x y : Int32} {a : Nat} : RR S d 122 83 L (.int y :: .int x :: .ref a :: st) h Q = kO (ai_arr h a 0) (fun q => kB (ai_in x q.1) (RR S d 122 84 L st (h.1.set a (.inl (0, q.1, .inl (upd q.2 x.toNatClampNeg y))), h.2) Q)) := RR.ias rfl rfl
theorem r122_84 : RR S d 122 84 L st h Q = RR S d 122 85 L (.int 0 :: st) h Q := RR.icn (n := 0) rfl (by decide) rfl
theorem r122_85 {x : Int32} : RR S d 122 85 L (.int x :: st) h Q = RR S d 122 87 (ai_put 6 (.int x) L) st h Q := RR.do1 (87, ai_put 6 (.int x) L, st, h) rfl rfl rfl
theorem r122_87 : RR S d 122 87 L st h Q = kI (ai_look L 6) (fun x => RR S d 122 89 L (.int x :: st) h Q) := RR.ldi rfl rfl
theorem r122_89 : RR S d 122 89 L st h Q = RR S d 122 90 L (.int 4 :: st) h Q := RR.icn (n := 4) rfl (by decide) rfl
theorem r122_90 {x y : Int32} : RR S d 122 90 L (.int y :: .int x :: st) h Q = if y ≤ x then RR S d 122 125 L st h Q else RR S d 122 93 L st h Q := RR.b2 (c := .ge) (off := 35) rfl rfl (by decide) rfl
theorem r122_93 : RR S d 122 93 L st h Q = kA (ai_look L 0) (fun x => RR S d 122 94 L (x :: st) h Q) := RR.lda_n rfl rfl rfl
theorem r122_94 {a : Nat} : RR S d 122 94 L (.ref a :: st) h Q = kO (ai_fld h a 10 29) (fun w => RR S d 122 97 L (w :: st) h Q) := RR.get rfl rfl rfl
theorem r122_97 : RR S d 122 97 L st h Q = RR S d 122 98 L (.int 4 :: st) h Q := RR.icn (n := 4) rfl (by decide) rfl
theorem r122_98 : RR S d 122 98 L st h Q = kI (ai_look L 4) (fun x => RR S d 122 100 L (.int x :: st) h Q) := RR.ldi rfl rfl
theorem r122_100 {x y : Int32} : RR S d 122 100 L (.int y :: .int x :: st) h Q = RR S d 122 101 L (.int (x * y) :: st) h Q := RR.do1 (101, L, .int (x * y) :: st, h) rfl rfl rfl
theorem r122_101 : RR S d 122 101 L st h Q = kI (ai_look L 6) (fun x => RR S d 122 103 L (.int x :: st) h Q) := RR.ldi rfl rfl
theorem r122_103 {x y : Int32} : RR S d 122 103 L (.int y :: .int x :: st) h Q = RR S d 122 104 L (.int (x + y) :: st) h Q := RR.do1 (104, L, .int (x + y) :: st, h) rfl rfl rfl
theorem r122_104 : RR S d 122 104 L st h Q = kA (ai_look L 0) (fun x => RR S d 122 105 L (x :: st) h Q) := RR.lda_n rfl rfl rfl
theorem r122_105 {a : Nat} : RR S d 122 105 L (.ref a :: st) h Q = kO (ai_fld h a 10 29) (fun w => RR S d 122 108 L (w :: st) h Q) := RR.get rfl rfl rfl
theorem r122_108 : RR S d 122 108 L st h Q = RR S d 122 109 L (.int 4 :: st) h Q := RR.icn (n := 4) rfl (by decide) rfl
theorem r122_109 : RR S d 122 109 L st h Q = kI (ai_look L 4) (fun x => RR S d 122 111 L (.int x :: st) h Q) := RR.ldi rfl rfl
theorem r122_111 : RR S d 122 111 L st h Q = RR S d 122 112 L (.int 1 :: st) h Q := RR.icn (n := 1) rfl (by decide) rfl
theorem r122_112 {x y : Int32} : RR S d 122 112 L (.int y :: .int x :: st) h Q = RR S d 122 113 L (.int (x - y) :: st) h Q := RR.do1 (113, L, .int (x - y) :: st, h) rfl rfl rfl
theorem r122_113 {x y : Int32} : RR S d 122 113 L (.int y :: .int x :: st) h Q = RR S d 122 114 L (.int (x * y) :: st) h Q := RR.do1 (114, L, .int (x * y) :: st, h) rfl rfl rfl
theorem r122_114 : RR S d 122 114 L st h Q = kI (ai_look L 6) (fun x => RR S d 122 116 L (.int x :: st) h Q) := RR.ldi rfl rfl
theorem r122_116 {x y : Int32} : RR S d 122 116 L (.int y :: .int x :: st) h Q = RR S d 122 117 L (.int (x + y) :: st) h Q := RR.do1 (117, L, .int (x + y) :: st, h) rfl rfl rfl
theorem r122_117 {x : Int32} {a : Nat} : RR S d 122 117 L (.int x :: .ref a :: st) h Q = kO (ai_arr h a 0) (fun q => kB (ai_in x q.1) (RR S d 122 118 L (.int (q.2 x.toNatClampNeg) :: st) h Q)) := RR.ial rfl rfl
theorem r122_118 {x y : Int32} {a : Nat} : RR S d 122 118 L (.int y :: .int x :: .ref a :: st) h Q = kO (ai_arr h a 0) (fun q => kB (ai_in x q.1) (RR S d 122 119 L st (h.1.set a (.inl (0, q.1, .inl (upd q.2 x.toNatClampNeg y))), h.2) Q)) := RR.ias rfl rfl
theorem r122_119 : RR S d 122 119 L st h Q = kI (ai_look L 6) (fun x => RR S d 122 122 (ai_put 6 (.int (x + 1)) L) st h Q) := RR.iinc (k := 6) (n := 1) rfl (by decide) (by decide) rfl
theorem r122_122 : RR S d 122 122 L st h Q = RR S d 122 87 L st h Q := RR.jmp (off := (-35)) rfl (by decide)
theorem r122_125 : RR S d 122 125 L st h Q = kI (ai_look L 4) (fun x => RR S d 122 128 (ai_put 4 (.int (x + (-1))) L) st h Q) := RR.iinc (k := 4) (n := (-1)) rfl (by decide) (by decide) rfl
theorem r122_128 : RR S d 122 128 L st h Q = kI (ai_look L 4) (fun x => RR S d 122 130 L (.int x :: st) h Q) := RR.ldi rfl rfl
theorem r122_130 {x : Int32} : RR S d 122 130 L (.int x :: st) h Q = if x ≤ 0 then RR S d 122 137 L st h Q else RR S d 122 133 L st h Q := RR.b1 (c := .le) (off := 7) rfl rfl (by decide) rfl
theorem r122_133 : RR S d 122 133 L st h Q = RR S d 122 134 L (.int 1 :: st) h Q := RR.icn (n := 1) rfl (by decide) rfl
theorem r122_134 : RR S d 122 134 L st h Q = RR S d 122 138 L st h Q := RR.jmp (off := 4) rfl (by decide)
theorem r122_137 : RR S d 122 137 L st h Q = RR S d 122 138 L (.int 0 :: st) h Q := RR.icn (n := 0) rfl (by decide) rfl
theorem r122_138 {x : Int32} : RR S d 122 138 L (.int x :: st) h Q = RR S d 122 140 (ai_put 5 (.int x) L) st h Q := RR.do1 (140, ai_put 5 (.int x) L, st, h) rfl rfl rfl
theorem r122_140 : RR S d 122 140 L st h Q = RR S d 122 30 L st h Q := RR.jmp (off := (-110)) rfl (by decide)
theorem r122_143 : RR S d 122 143 L st h Q = kA (ai_look L 0) (fun x => RR S d 122 144 L (x :: st) h Q) := RR.lda_n rfl rfl rfl
theorem r122_144 {a : Nat} : RR S d 122 144 L (.ref a :: st) h Q = kO (ai_fld h a 10 28) (fun w => RR S d 122 147 L (w :: st) h Q) := RR.get rfl rfl rfl
theorem r122_147 : RR S d 122 147 L st h Q = kI (ai_look L 4) (fun x => RR S d 122 149 L (.int x :: st) h Q) := RR.ldi rfl rfl
theorem r122_149 : RR S d 122 149 L st h Q = kI (ai_look L 1) (fun x => RR S d 122 150 L (.int x :: st) h Q) := RR.ldi_n rfl rfl rfl
theorem r122_150 {x y : Int32} {a : Nat} : RR S d 122 150 L (.int y :: .int x :: .ref a :: st) h Q = kO (ai_arr h a 0) (fun q => kB (ai_in x q.1) (RR S d 122 151 L st (h.1.set a (.inl (0, q.1, .inl (upd q.2 x.toNatClampNeg y))), h.2) Q)) := RR.ias rfl rfl
theorem r122_151 : RR S d 122 151 L st h Q = kA (ai_look L 0) (fun x => RR S d 122 152 L (x :: st) h Q) := RR.lda_n rfl rfl rfl
theorem r122_152 {a : Nat} : RR S d 122 152 L (.ref a :: st) h Q = kO (ai_fld h a 10 30) (fun w => RR S d 122 155 L (w :: st) h Q) := RR.get rfl rfl rfl
theorem r122_155 : RR S d 122 155 L st h Q = kI (ai_look L 4) (fun x => RR S d 122 157 L (.int x :: st) h Q) := RR.ldi rfl rfl
theorem r122_157 : RR S d 122 157 L st h Q = kI (ai_look L 3) (fun x => RR S d 122 158 L (.int x :: st) h Q) := RR.ldi_n rfl rfl rfl
theorem r122_158 {x y : Int32} {a : Nat} : RR S d 122 158 L (.int y :: .int x :: .ref a :: st) h Q = kO (ai_arr h a 0) (fun q => kB (ai_in x q.1) (RR S d 122 159 L st (h.1.set a (.inl (0, q.1, .inl (upd q.2 x.toNatClampNeg y))), h.2) Q)) := RR.ias rfl rfl
theorem r122_159 : RR S d 122 159 L st h Q = RR S d 122 160 L (.int 0 :: st) h Q := RR.icn (n := 0) rfl (by decide) rfl
theorem r122_160 {x : Int32} : RR S d 122 160 L (.int x :: st) h Q = RR S d 122 162 (ai_put 6 (.int x) L) st h Q := RR.do1 (162, ai_put 6 (.int x) L, st, h) rfl rfl rfl
theorem r122_162 : RR S d 122 162 L st h Q = kI (ai_look L 6) (fun x => RR S d 122 164 L (.int x :: st) h Q) := RR.ldi rfl rfl
theorem r122_164 : RR S d 122 164 L st h Q = kI (ai_look L 1) (fun x => RR S d 122 165 L (.int x :: st) h Q) := RR.ldi_n rfl rfl rfl
theorem r122_165 {x y : Int32} : RR S d 122 165 L (.int y :: .int x :: st) h Q = if y ≤ x then RR S d 122 193 L st h Q else RR S d 122 168 L st h Q := RR.b2 (c := .ge) (off := 28) rfl rfl (by decide) rfl
theorem r122_168 : RR S d 122 168 L st h Q = kA (ai_look L 0) (fun x => RR S d 122 169 L (x :: st) h Q) := RR.lda_n rfl rfl rfl
theorem r122_169 {a : Nat} : RR S d 122 169 L (.ref a :: st) h Q = kO (ai_fld h a 10 29) (fun w => RR S d 122 172 L (w :: st) h Q) := RR.get rfl rfl rfl
theorem r122_172 : RR S d 122 172 L st h Q = RR S d 122 173 L (.int 4 :: st) h Q := RR.icn (n := 4) rfl (by decide) rfl
theorem r122_173 : RR S d 122 173 L st h Q = kI (ai_look L 4) (fun x => RR S d 122 175 L (.int x :: st) h Q) := RR.ldi rfl rfl
theorem r122_175 {x y : Int32} : RR S d 122 175 L (.int y :: .int x :: st) h Q = RR S d 122 176 L (.int (x * y) :: st) h Q := RR.do1 (176, L, .int (x * y) :: st, h) rfl rfl rfl
theorem r122_176 : RR S d 122 176 L st h Q = kI (ai_look L 6) (fun x => RR S d 122 178 L (.int x :: st) h Q) := RR.ldi rfl rfl
theorem r122_178 {x y : Int32} : RR S d 122 178 L (.int y :: .int x :: st) h Q = RR S d 122 179 L (.int (x + y) :: st) h Q := RR.do1 (179, L, .int (x + y) :: st, h) rfl rfl rfl
theorem r122_179 : RR S d 122 179 L st h Q = kA (ai_look L 0) (fun x => RR S d 122 180 L (x :: st) h Q) := RR.lda_n rfl rfl rfl
theorem r122_180 {a : Nat} : RR S d 122 180 L (.ref a :: st) h Q = kO (ai_fld h a 10 31) (fun w => RR S d 122 183 L (w :: st) h Q) := RR.get rfl rfl rfl
theorem r122_183 : RR S d 122 183 L st h Q = kI (ai_look L 6) (fun x => RR S d 122 185 L (.int x :: st) h Q) := RR.ldi rfl rfl
theorem r122_185 {x : Int32} {a : Nat} : RR S d 122 185 L (.int x :: .ref a :: st) h Q = kO (ai_arr h a 0) (fun q => kB (ai_in x q.1) (RR S d 122 186 L (.int (q.2 x.toNatClampNeg) :: st) h Q)) := RR.ial rfl rfl
theorem r122_186 {x y : Int32} {a : Nat} : RR S d 122 186 L (.int y :: .int x :: .ref a :: st) h Q = kO (ai_arr h a 0) (fun q => kB (ai_in x q.1) (RR S d 122 187 L st (h.1.set a (.inl (0, q.1, .inl (upd q.2 x.toNatClampNeg y))), h.2) Q)) := RR.ias rfl rfl
theorem r122_187 : RR S d 122 187 L st h Q = kI (ai_look L 6) (fun x => RR S d 122 190 (ai_put 6 (.int (x + 1)) L) st h Q) := RR.iinc (k := 6) (n := 1) rfl (by decide) (by decide) rfl
theorem r122_190 : RR S d 122 190 L st h Q = RR S d 122 162 L st h Q := RR.jmp (off := (-28)) rfl (by decide)
theorem r122_193 : RR S d 122 193 L st h Q = kA (ai_look L 0) (fun x => RR S d 122 194 L (x :: st) h Q) := RR.lda_n rfl rfl rfl
theorem r122_194 {v : Value} (hv : v.category = 1) : RR S d 122 194 L (v :: st) h Q = RR S d 122 195 L (v :: v :: st) h Q := RR.dup rfl hv rfl
theorem r122_195 {a : Nat} : RR S d 122 195 L (.ref a :: st) h Q = kO (ai_fld h a 10 27) (fun w => RR S d 122 198 L (w :: st) h Q) := RR.get rfl rfl rfl
theorem r122_198 : RR S d 122 198 L st h Q = RR S d 122 199 L (.int 1 :: st) h Q := RR.icn (n := 1) rfl (by decide) rfl
theorem r122_199 {x y : Int32} : RR S d 122 199 L (.int y :: .int x :: st) h Q = RR S d 122 200 L (.int (x + y) :: st) h Q := RR.do1 (200, L, .int (x + y) :: st, h) rfl rfl rfl
theorem r122_200 {x : Int32} {a : Nat} : RR S d 122 200 L (.int x :: .ref a :: st) h Q = kO (ai_obj h a 10) (fun fs => kB (decide (27 < fs.length)) (RR S d 122 203 L st (h.1.set a (.inr (10, fs.set 27 (.int x))), h.2) Q)) := RR.put rfl rfl (ai_okp_i rfl (by decide +kernel)) rfl
theorem r122_203 : RR S d 122 203 L [] h Q = Q none h := RR.rt rfl rfl rfl
theorem r123_0 : RR S d 123 0 L st h Q = kA (ai_look L 0) (fun x => RR S d 123 1 L (x :: st) h Q) := RR.lda_n rfl rfl rfl
theorem r123_1 {a : Nat} : RR S d 123 1 L (.ref a :: st) h Q = kO (ai_fld h a 10 30) (fun w => RR S d 123 4 L (w :: st) h Q) := RR.get rfl rfl rfl
theorem r123_4 : RR S d 123 4 L st h Q = kI (ai_look L 1) (fun x => RR S d 123 5 L (.int x :: st) h Q) := RR.ldi_n rfl rfl rfl
theorem r123_5 {x : Int32} {a : Nat} : RR S d 123 5 L (.int x :: .ref a :: st) h Q = kO (ai_arr h a 0) (fun q => kB (ai_in x q.1) (RR S d 123 6 L (.int (q.2 x.toNatClampNeg) :: st) h Q)) := RR.ial rfl rfl
theorem r123_6 : RR S d 123 6 L st h Q = kI (ai_look L 2) (fun x => RR S d 123 7 L (.int x :: st) h Q) := RR.ldi_n rfl rfl rfl
theorem r123_7 {x y : Int32} : RR S d 123 7 L (.int y :: .int x :: st) h Q = if x = y then RR S d 123 26 L st h Q else RR S d 123 10 L st h Q := RR.b2 (c := .eq) (off := 19) rfl rfl (by decide) rfl
theorem r123_10 : RR S d 123 10 L st h Q = kA (ai_look L 0) (fun x => RR S d 123 11 L (x :: st) h Q) := RR.lda_n rfl rfl rfl
theorem r123_11 {a : Nat} : RR S d 123 11 L (.ref a :: st) h Q = kO (ai_fld h a 10 30) (fun w => RR S d 123 14 L (w :: st) h Q) := RR.get rfl rfl rfl
theorem r123_14 : RR S d 123 14 L st h Q = kI (ai_look L 1) (fun x => RR S d 123 15 L (.int x :: st) h Q) := RR.ldi_n rfl rfl rfl
theorem r123_15 {x : Int32} {a : Nat} : RR S d 123 15 L (.int x :: .ref a :: st) h Q = kO (ai_arr h a 0) (fun q => kB (ai_in x q.1) (RR S d 123 16 L (.int (q.2 x.toNatClampNeg) :: st) h Q)) := RR.ial rfl rfl
theorem r123_16 : RR S d 123 16 L st h Q = kI (ai_look L 2) (fun x => RR S d 123 17 L (.int x :: st) h Q) := RR.ldi_n rfl rfl rfl
theorem r123_17 {x y : Int32} : RR S d 123 17 L (.int y :: .int x :: st) h Q = if x ≤ y then RR S d 123 24 L st h Q else RR S d 123 20 L st h Q := RR.b2 (c := .le) (off := 7) rfl rfl (by decide) rfl
theorem r123_20 : RR S d 123 20 L st h Q = RR S d 123 21 L (.int 1 :: st) h Q := RR.icn (n := 1) rfl (by decide) rfl
theorem r123_21 : RR S d 123 21 L st h Q = RR S d 123 25 L st h Q := RR.jmp (off := 4) rfl (by decide)
theorem r123_24 : RR S d 123 24 L st h Q = RR S d 123 25 L (.int 0 :: st) h Q := RR.icn (n := 0) rfl (by decide) rfl
theorem r123_25f : RR S d 123 25 L [.int 0] h Q = Q (some (.int 0)) h := RR.zrt rfl rfl (by decide)
theorem r123_25t : RR S d 123 25 L [.int 1] h Q = Q (some (.int 1)) h := RR.zrt rfl rfl (by decide)
theorem r123_26 : RR S d 123 26 L st h Q = RR S d 123 27 L (.int 0 :: st) h Q := RR.icn (n := 0) rfl (by decide) rfl
theorem r123_27 {x : Int32} : RR S d 123 27 L (.int x :: st) h Q = RR S d 123 29 (ai_put 4 (.int x) L) st h Q := RR.do1 (29, ai_put 4 (.int x) L, st, h) rfl rfl rfl
theorem r123_29 : RR S d 123 29 L st h Q = kI (ai_look L 4) (fun x => RR S d 123 31 L (.int x :: st) h Q) := RR.ldi rfl rfl
theorem r123_31 : RR S d 123 31 L st h Q = kI (ai_look L 3) (fun x => RR S d 123 32 L (.int x :: st) h Q) := RR.ldi_n rfl rfl rfl
theorem r123_32 {x y : Int32} : RR S d 123 32 L (.int y :: .int x :: st) h Q = if y ≤ x then RR S d 123 100 L st h Q else RR S d 123 35 L st h Q := RR.b2 (c := .ge) (off := 68) rfl rfl (by decide) rfl
theorem r123_35 : RR S d 123 35 L st h Q = kI (ai_look L 4) (fun x => RR S d 123 37 L (.int x :: st) h Q) := RR.ldi rfl rfl
theorem r123_37 : RR S d 123 37 L st h Q = kA (ai_look L 0) (fun x => RR S d 123 38 L (x :: st) h Q) := RR.lda_n rfl rfl rfl
theorem r123_38 {a : Nat} : RR S d 123 38 L (.ref a :: st) h Q = kO (ai_fld h a 10 28) (fun w => RR S d 123 41 L (w :: st) h Q) := RR.get rfl rfl rfl
theorem r123_41 : RR S d 123 41 L st h Q = kI (ai_look L 1) (fun x => RR S d 123 42 L (.int x :: st) h Q) := RR.ldi_n rfl rfl rfl
theorem r123_42 {x : Int32} {a : Nat} : RR S d 123 42 L (.int x :: .ref a :: st) h Q = kO (ai_arr h a 0) (fun q => kB (ai_in x q.1) (RR S d 123 43 L (.int (q.2 x.toNatClampNeg) :: st) h Q)) := RR.ial rfl rfl
theorem r123_43 {x y : Int32} : RR S d 123 43 L (.int y :: .int x :: st) h Q = if y ≤ x then RR S d 123 100 L st h Q else RR S d 123 46 L st h Q := RR.b2 (c := .ge) (off := 57) rfl rfl (by decide) rfl
theorem r123_46 : RR S d 123 46 L st h Q = kA (ai_look L 0) (fun x => RR S d 123 47 L (x :: st) h Q) := RR.lda_n rfl rfl rfl
theorem r123_47 {a : Nat} : RR S d 123 47 L (.ref a :: st) h Q = kO (ai_fld h a 10 29) (fun w => RR S d 123 50 L (w :: st) h Q) := RR.get rfl rfl rfl
theorem r123_50 : RR S d 123 50 L st h Q = RR S d 123 51 L (.int 4 :: st) h Q := RR.icn (n := 4) rfl (by decide) rfl
theorem r123_51 : RR S d 123 51 L st h Q = kI (ai_look L 1) (fun x => RR S d 123 52 L (.int x :: st) h Q) := RR.ldi_n rfl rfl rfl
theorem r123_52 {x y : Int32} : RR S d 123 52 L (.int y :: .int x :: st) h Q = RR S d 123 53 L (.int (x * y) :: st) h Q := RR.do1 (53, L, .int (x * y) :: st, h) rfl rfl rfl
theorem r123_53 : RR S d 123 53 L st h Q = kI (ai_look L 4) (fun x => RR S d 123 55 L (.int x :: st) h Q) := RR.ldi rfl rfl
theorem r123_55 {x y : Int32} : RR S d 123 55 L (.int y :: .int x :: st) h Q = RR S d 123 56 L (.int (x + y) :: st) h Q := RR.do1 (56, L, .int (x + y) :: st, h) rfl rfl rfl
theorem r123_56 {x : Int32} {a : Nat} : RR S d 123 56 L (.int x :: .ref a :: st) h Q = kO (ai_arr h a 0) (fun q => kB (ai_in x q.1) (RR S d 123 57 L (.int (q.2 x.toNatClampNeg) :: st) h Q)) := RR.ial rfl rfl
theorem r123_57 : RR S d 123 57 L st h Q = kA (ai_look L 0) (fun x => RR S d 123 58 L (x :: st) h Q) := RR.lda_n rfl rfl rfl
theorem r123_58 {a : Nat} : RR S d 123 58 L (.ref a :: st) h Q = kO (ai_fld h a 10 31) (fun w => RR S d 123 61 L (w :: st) h Q) := RR.get rfl rfl rfl
theorem r123_61 : RR S d 123 61 L st h Q = kI (ai_look L 4) (fun x => RR S d 123 63 L (.int x :: st) h Q) := RR.ldi rfl rfl
theorem r123_63 {x : Int32} {a : Nat} : RR S d 123 63 L (.int x :: .ref a :: st) h Q = kO (ai_arr h a 0) (fun q => kB (ai_in x q.1) (RR S d 123 64 L (.int (q.2 x.toNatClampNeg) :: st) h Q)) := RR.ial rfl rfl
theorem r123_64 {x y : Int32} : RR S d 123 64 L (.int y :: .int x :: st) h Q = if x = y then RR S d 123 94 L st h Q else RR S d 123 67 L st h Q := RR.b2 (c := .eq) (off := 30) rfl rfl (by decide) rfl
theorem r123_67 : RR S d 123 67 L st h Q = kA (ai_look L 0) (fun x => RR S d 123 68 L (x :: st) h Q) := RR.lda_n rfl rfl rfl
theorem r123_68 {a : Nat} : RR S d 123 68 L (.ref a :: st) h Q = kO (ai_fld h a 10 29) (fun w => RR S d 123 71 L (w :: st) h Q) := RR.get rfl rfl rfl
theorem r123_71 : RR S d 123 71 L st h Q = RR S d 123 72 L (.int 4 :: st) h Q := RR.icn (n := 4) rfl (by decide) rfl
theorem r123_72 : RR S d 123 72 L st h Q = kI (ai_look L 1) (fun x => RR S d 123 73 L (.int x :: st) h Q) := RR.ldi_n rfl rfl rfl
theorem r123_73 {x y : Int32} : RR S d 123 73 L (.int y :: .int x :: st) h Q = RR S d 123 74 L (.int (x * y) :: st) h Q := RR.do1 (74, L, .int (x * y) :: st, h) rfl rfl rfl
theorem r123_74 : RR S d 123 74 L st h Q = kI (ai_look L 4) (fun x => RR S d 123 76 L (.int x :: st) h Q) := RR.ldi rfl rfl
theorem r123_76 {x y : Int32} : RR S d 123 76 L (.int y :: .int x :: st) h Q = RR S d 123 77 L (.int (x + y) :: st) h Q := RR.do1 (77, L, .int (x + y) :: st, h) rfl rfl rfl
theorem r123_77 {x : Int32} {a : Nat} : RR S d 123 77 L (.int x :: .ref a :: st) h Q = kO (ai_arr h a 0) (fun q => kB (ai_in x q.1) (RR S d 123 78 L (.int (q.2 x.toNatClampNeg) :: st) h Q)) := RR.ial rfl rfl
theorem r123_78 : RR S d 123 78 L st h Q = kA (ai_look L 0) (fun x => RR S d 123 79 L (x :: st) h Q) := RR.lda_n rfl rfl rfl
theorem r123_79 {a : Nat} : RR S d 123 79 L (.ref a :: st) h Q = kO (ai_fld h a 10 31) (fun w => RR S d 123 82 L (w :: st) h Q) := RR.get rfl rfl rfl
theorem r123_82 : RR S d 123 82 L st h Q = kI (ai_look L 4) (fun x => RR S d 123 84 L (.int x :: st) h Q) := RR.ldi rfl rfl
theorem r123_84 {x : Int32} {a : Nat} : RR S d 123 84 L (.int x :: .ref a :: st) h Q = kO (ai_arr h a 0) (fun q => kB (ai_in x q.1) (RR S d 123 85 L (.int (q.2 x.toNatClampNeg) :: st) h Q)) := RR.ial rfl rfl
theorem r123_85 {x y : Int32} : RR S d 123 85 L (.int y :: .int x :: st) h Q = if x ≤ y then RR S d 123 92 L st h Q else RR S d 123 88 L st h Q := RR.b2 (c := .le) (off := 7) rfl rfl (by decide) rfl
theorem r123_88 : RR S d 123 88 L st h Q = RR S d 123 89 L (.int 1 :: st) h Q := RR.icn (n := 1) rfl (by decide) rfl
theorem r123_89 : RR S d 123 89 L st h Q = RR S d 123 93 L st h Q := RR.jmp (off := 4) rfl (by decide)
theorem r123_92 : RR S d 123 92 L st h Q = RR S d 123 93 L (.int 0 :: st) h Q := RR.icn (n := 0) rfl (by decide) rfl
theorem r123_93f : RR S d 123 93 L [.int 0] h Q = Q (some (.int 0)) h := RR.zrt rfl rfl (by decide)
theorem r123_93t : RR S d 123 93 L [.int 1] h Q = Q (some (.int 1)) h := RR.zrt rfl rfl (by decide)
theorem r123_94 : RR S d 123 94 L st h Q = kI (ai_look L 4) (fun x => RR S d 123 97 (ai_put 4 (.int (x + 1)) L) st h Q) := RR.iinc (k := 4) (n := 1) rfl (by decide) (by decide) rfl
theorem r123_97 : RR S d 123 97 L st h Q = RR S d 123 29 L st h Q := RR.jmp (off := (-68)) rfl (by decide)
theorem r123_100 : RR S d 123 100 L st h Q = kA (ai_look L 0) (fun x => RR S d 123 101 L (x :: st) h Q) := RR.lda_n rfl rfl rfl
theorem r123_101 {a : Nat} : RR S d 123 101 L (.ref a :: st) h Q = kO (ai_fld h a 10 28) (fun w => RR S d 123 104 L (w :: st) h Q) := RR.get rfl rfl rfl
theorem r123_104 : RR S d 123 104 L st h Q = kI (ai_look L 1) (fun x => RR S d 123 105 L (.int x :: st) h Q) := RR.ldi_n rfl rfl rfl
theorem r123_105 {x : Int32} {a : Nat} : RR S d 123 105 L (.int x :: .ref a :: st) h Q = kO (ai_arr h a 0) (fun q => kB (ai_in x q.1) (RR S d 123 106 L (.int (q.2 x.toNatClampNeg) :: st) h Q)) := RR.ial rfl rfl
theorem r123_106 : RR S d 123 106 L st h Q = kI (ai_look L 3) (fun x => RR S d 123 107 L (.int x :: st) h Q) := RR.ldi_n rfl rfl rfl
theorem r123_107 {x y : Int32} : RR S d 123 107 L (.int y :: .int x :: st) h Q = if x ≤ y then RR S d 123 114 L st h Q else RR S d 123 110 L st h Q := RR.b2 (c := .le) (off := 7) rfl rfl (by decide) rfl
theorem r123_110 : RR S d 123 110 L st h Q = RR S d 123 111 L (.int 1 :: st) h Q := RR.icn (n := 1) rfl (by decide) rfl
theorem r123_111 : RR S d 123 111 L st h Q = RR S d 123 115 L st h Q := RR.jmp (off := 4) rfl (by decide)
theorem r123_114 : RR S d 123 114 L st h Q = RR S d 123 115 L (.int 0 :: st) h Q := RR.icn (n := 0) rfl (by decide) rfl
theorem r123_115f : RR S d 123 115 L [.int 0] h Q = Q (some (.int 0)) h := RR.zrt rfl rfl (by decide)
theorem r123_115t : RR S d 123 115 L [.int 1] h Q = Q (some (.int 1)) h := RR.zrt rfl rfl (by decide)
theorem r124_0 : RR S d 124 0 L st h Q = kI (ai_look L 0) (fun x => RR S d 124 1 L (.int x :: st) h Q) := RR.ldi_n rfl rfl rfl
theorem r124_1 : RR S d 124 1 L st h Q = RR S d 124 2 L (.int 1 :: st) h Q := RR.icn (n := 1) rfl (by decide) rfl
theorem r124_2 {x y : Int32} : RR S d 124 2 L (.int y :: .int x :: st) h Q = if x < y then RR S d 124 15 L st h Q else RR S d 124 5 L st h Q := RR.b2 (c := .lt) (off := 13) rfl rfl (by decide) rfl
theorem r124_5 : RR S d 124 5 L st h Q = kI (ai_look L 0) (fun x => RR S d 124 6 L (.int x :: st) h Q) := RR.ldi_n rfl rfl rfl
theorem r124_6 : RR S d 124 6 L st h Q = RR S d 124 8 L (.int 8 :: st) h Q := RR.bip (n := 8) rfl (by decide) rfl
theorem r124_8 {x y : Int32} : RR S d 124 8 L (.int y :: .int x :: st) h Q = if y < x then RR S d 124 15 L st h Q else RR S d 124 11 L st h Q := RR.b2 (c := .gt) (off := 7) rfl rfl (by decide) rfl
theorem r124_11 : RR S d 124 11 L st h Q = RR S d 124 12 L (.int 1 :: st) h Q := RR.icn (n := 1) rfl (by decide) rfl
theorem r124_12 : RR S d 124 12 L st h Q = RR S d 124 16 L st h Q := RR.jmp (off := 4) rfl (by decide)
theorem r124_15 : RR S d 124 15 L st h Q = RR S d 124 16 L (.int 0 :: st) h Q := RR.icn (n := 0) rfl (by decide) rfl
theorem r124_16f : RR S d 124 16 L [.int 0] h Q = Q (some (.int 0)) h := RR.zrt rfl rfl (by decide)
theorem r124_16t : RR S d 124 16 L [.int 1] h Q = Q (some (.int 1)) h := RR.zrt rfl rfl (by decide)
theorem r125_0 : RR S d 125 0 L st h Q = kA (ai_look L 0) (fun x => RR S d 125 1 L (x :: st) h Q) := RR.lda_n rfl rfl rfl
theorem r125_1 : RR S d 125 1 L st h Q = kI (ai_look L 1) (fun x => RR S d 125 2 L (.int x :: st) h Q) := RR.ldi_n rfl rfl rfl
theorem r125_2 {p0 : Int32} {a : Nat} : RR S (d + 1) 125 2 L (.int p0 :: .ref a :: st) h Q = kB (decide (ai_sum st ≤ 8)) (kB ((ai_obj h a 10).isSome) (RR S d 113 0 [(0, .ref a), (1, .int p0)] [] h (fun r h1 => RR S (d + 1) 125 5 L (r.toList ++ st) h1 Q))) := RR.cv (j := 121) (mn' := 113) (n := 1) rfl rfl rfl rfl rfl rfl
theorem r125_5 {x : Int32} : RR S d 125 5 L (.int x :: st) h Q = if x = 0 then RR S d 125 39 L st h Q else RR S d 125 8 L st h Q := RR.b1 (c := .eq) (off := 34) rfl rfl (by decide) rfl
theorem r125_8 : RR S d 125 8 L st h Q = kA (ai_look L 0) (fun x => RR S d 125 9 L (x :: st) h Q) := RR.lda_n rfl rfl rfl
theorem r125_9 : RR S d 125 9 L st h Q = kI (ai_look L 2) (fun x => RR S d 125 10 L (.int x :: st) h Q) := RR.ldi_n rfl rfl rfl
theorem r125_10 {p0 : Int32} {a : Nat} : RR S (d + 1) 125 10 L (.int p0 :: .ref a :: st) h Q = kB (decide (ai_sum st ≤ 8)) (kB ((ai_obj h a 10).isSome) (RR S d 113 0 [(0, .ref a), (1, .int p0)] [] h (fun r h1 => RR S (d + 1) 125 13 L (r.toList ++ st) h1 Q))) := RR.cv (j := 121) (mn' := 113) (n := 1) rfl rfl rfl rfl rfl rfl
theorem r125_13 {x : Int32} : RR S d 125 13 L (.int x :: st) h Q = if x = 0 then RR S d 125 39 L st h Q else RR S d 125 16 L st h Q := RR.b1 (c := .eq) (off := 26) rfl rfl (by decide) rfl
theorem r125_16 : RR S d 125 16 L st h Q = kI (ai_look L 3) (fun x => RR S d 125 17 L (.int x :: st) h Q) := RR.ldi_n rfl rfl rfl
theorem r125_17 {p0 : Int32} : RR S (d + 1) 125 17 L (.int p0 :: st) h Q = kB (decide (ai_sum st ≤ 8)) (RR S d 124 0 [(0, .int p0)] [] h (fun r h1 => RR S (d + 1) 125 20 L (r.toList ++ st) h1 Q)) := RR.cs (j := 152) (mn' := 124) (n := 1) rfl rfl rfl rfl (by simp) rfl rfl
theorem r125_20 {x : Int32} : RR S d 125 20 L (.int x :: st) h Q = if x = 0 then RR S d 125 39 L st h Q else RR S d 125 23 L st h Q := RR.b1 (c := .eq) (off := 19) rfl rfl (by decide) rfl
theorem r125_23 : RR S d 125 23 L st h Q = kI (ai_look L 4) (fun x => RR S d 125 25 L (.int x :: st) h Q) := RR.ldi rfl rfl
theorem r125_25 {x : Int32} : RR S d 125 25 L (.int x :: st) h Q = if x < 0 then RR S d 125 39 L st h Q else RR S d 125 28 L st h Q := RR.b1 (c := .lt) (off := 14) rfl rfl (by decide) rfl
theorem r125_28 : RR S d 125 28 L st h Q = kI (ai_look L 5) (fun x => RR S d 125 30 L (.int x :: st) h Q) := RR.ldi rfl rfl
theorem r125_30 {x : Int32} : RR S d 125 30 L (.int x :: st) h Q = if x < 0 then RR S d 125 39 L st h Q else RR S d 125 33 L st h Q := RR.b1 (c := .lt) (off := 9) rfl rfl (by decide) rfl
theorem r125_33 : RR S d 125 33 L st h Q = kI (ai_look L 5) (fun x => RR S d 125 35 L (.int x :: st) h Q) := RR.ldi rfl rfl
theorem r125_35 : RR S d 125 35 L st h Q = RR S d 125 36 L (.int 4 :: st) h Q := RR.icn (n := 4) rfl (by decide) rfl
theorem r125_36 {x y : Int32} : RR S d 125 36 L (.int y :: .int x :: st) h Q = if x ≤ y then RR S d 125 41 L st h Q else RR S d 125 39 L st h Q := RR.b2 (c := .le) (off := 5) rfl rfl (by decide) rfl
theorem r125_39 : RR S d 125 39 L st h Q = RR S d 125 40 L (.int (-1) :: st) h Q := RR.icn (n := (-1)) rfl (by decide) rfl
theorem r125_40 {x : Int32} : RR S d 125 40 L [.int x] h Q = Q (some (.int x)) h := RR.rt rfl rfl rfl
theorem r125_41 : RR S d 125 41 L st h Q = kA (ai_look L 0) (fun x => RR S d 125 42 L (x :: st) h Q) := RR.lda_n rfl rfl rfl
theorem r125_42 : RR S d 125 42 L st h Q = kI (ai_look L 1) (fun x => RR S d 125 43 L (.int x :: st) h Q) := RR.ldi_n rfl rfl rfl
theorem r125_43 : RR S d 125 43 L st h Q = kI (ai_look L 2) (fun x => RR S d 125 44 L (.int x :: st) h Q) := RR.ldi_n rfl rfl rfl
theorem r125_44 : RR S d 125 44 L st h Q = kI (ai_look L 3) (fun x => RR S d 125 45 L (.int x :: st) h Q) := RR.ldi_n rfl rfl rfl
theorem r125_45 {p0 : Int32} {p1 : Int32} {p2 : Int32} {a : Nat} : RR S (d + 1) 125 45 L (.int p2 :: .int p1 :: .int p0 :: .ref a :: st) h Q = kB (decide (ai_sum st ≤ 8)) (kB ((ai_obj h a 10).isSome) (RR S d 121 0 [(0, .ref a), (1, .int p0), (2, .int p1), (3, .int p2)] [] h (fun r h1 => RR S (d + 1) 125 48 L (r.toList ++ st) h1 Q))) := RR.cv (j := 155) (mn' := 121) (n := 3) rfl rfl rfl rfl rfl rfl
theorem r125_48 : RR S d 125 48 L st h Q = kI (ai_look L 4) (fun x => RR S d 125 50 L (.int x :: st) h Q) := RR.ldi rfl rfl
theorem r125_50 : RR S d 125 50 L st h Q = kA (ai_look L 0) (fun x => RR S d 125 51 L (x :: st) h Q) := RR.lda_n rfl rfl rfl
theorem r125_51 {a : Nat} : RR S d 125 51 L (.ref a :: st) h Q = kO (ai_fld h a 10 27) (fun w => RR S d 125 54 L (w :: st) h Q) := RR.get rfl rfl rfl
theorem r125_54 {x y : Int32} : RR S d 125 54 L (.int y :: .int x :: st) h Q = if x < y then RR S d 125 59 L st h Q else RR S d 125 57 L st h Q := RR.b2 (c := .lt) (off := 5) rfl rfl (by decide) rfl
theorem r125_57 : RR S d 125 57 L st h Q = RR S d 125 58 L (.int (-1) :: st) h Q := RR.icn (n := (-1)) rfl (by decide) rfl
theorem r125_58 {x : Int32} : RR S d 125 58 L [.int x] h Q = Q (some (.int x)) h := RR.rt rfl rfl rfl
theorem r125_59 : RR S d 125 59 L st h Q = kI (ai_look L 5) (fun x => RR S d 125 61 L (.int x :: st) h Q) := RR.ldi rfl rfl
theorem r125_61 : RR S d 125 61 L st h Q = RR S d 125 62 L (.int 4 :: st) h Q := RR.icn (n := 4) rfl (by decide) rfl
theorem r125_62 {x y : Int32} : RR S d 125 62 L (.int y :: .int x :: st) h Q = if ¬ x = y then RR S d 125 75 L st h Q else RR S d 125 65 L st h Q := RR.b2 (c := .ne) (off := 13) rfl rfl (by decide) rfl
theorem r125_65 : RR S d 125 65 L st h Q = kA (ai_look L 0) (fun x => RR S d 125 66 L (x :: st) h Q) := RR.lda_n rfl rfl rfl
theorem r125_66 {a : Nat} : RR S d 125 66 L (.ref a :: st) h Q = kO (ai_fld h a 10 30) (fun w => RR S d 125 69 L (w :: st) h Q) := RR.get rfl rfl rfl
theorem r125_69 : RR S d 125 69 L st h Q = kI (ai_look L 4) (fun x => RR S d 125 71 L (.int x :: st) h Q) := RR.ldi rfl rfl
theorem r125_71 {x : Int32} {a : Nat} : RR S d 125 71 L (.int x :: .ref a :: st) h Q = kO (ai_arr h a 0) (fun q => kB (ai_in x q.1) (RR S d 125 72 L (.int (q.2 x.toNatClampNeg) :: st) h Q)) := RR.ial rfl rfl
theorem r125_72 : RR S d 125 72 L st h Q = RR S d 125 103 L st h Q := RR.jmp (off := 31) rfl (by decide)
theorem r125_75 : RR S d 125 75 L st h Q = kI (ai_look L 5) (fun x => RR S d 125 77 L (.int x :: st) h Q) := RR.ldi rfl rfl
theorem r125_77 : RR S d 125 77 L st h Q = kA (ai_look L 0) (fun x => RR S d 125 78 L (x :: st) h Q) := RR.lda_n rfl rfl rfl
theorem r125_78 {a : Nat} : RR S d 125 78 L (.ref a :: st) h Q = kO (ai_fld h a 10 28) (fun w => RR S d 125 81 L (w :: st) h Q) := RR.get rfl rfl rfl
theorem r125_81 : RR S d 125 81 L st h Q = kI (ai_look L 4) (fun x => RR S d 125 83 L (.int x :: st) h Q) := RR.ldi rfl rfl
theorem r125_83 {x : Int32} {a : Nat} : RR S d 125 83 L (.int x :: .ref a :: st) h Q = kO (ai_arr h a 0) (fun q => kB (ai_in x q.1) (RR S d 125 84 L (.int (q.2 x.toNatClampNeg) :: st) h Q)) := RR.ial rfl rfl
theorem r125_84 {x y : Int32} : RR S d 125 84 L (.int y :: .int x :: st) h Q = if y ≤ x then RR S d 125 102 L st h Q else RR S d 125 87 L st h Q := RR.b2 (c := .ge) (off := 18) rfl rfl (by decide) rfl
theorem r125_87 : RR S d 125 87 L st h Q = kA (ai_look L 0) (fun x => RR S d 125 88 L (x :: st) h Q) := RR.lda_n rfl rfl rfl
theorem r125_88 {a : Nat} : RR S d 125 88 L (.ref a :: st) h Q = kO (ai_fld h a 10 29) (fun w => RR S d 125 91 L (w :: st) h Q) := RR.get rfl rfl rfl
theorem r125_91 : RR S d 125 91 L st h Q = RR S d 125 92 L (.int 4 :: st) h Q := RR.icn (n := 4) rfl (by decide) rfl
theorem r125_92 : RR S d 125 92 L st h Q = kI (ai_look L 4) (fun x => RR S d 125 94 L (.int x :: st) h Q) := RR.ldi rfl rfl
theorem r125_94 {x y : Int32} : RR S d 125 94 L (.int y :: .int x :: st) h Q = RR S d 125 95 L (.int (x * y) :: st) h Q := RR.do1 (95, L, .int (x * y) :: st, h) rfl rfl rfl
theorem r125_95 : RR S d 125 95 L st h Q = kI (ai_look L 5) (fun x => RR S d 125 97 L (.int x :: st) h Q) := RR.ldi rfl rfl
theorem r125_97 {x y : Int32} : RR S d 125 97 L (.int y :: .int x :: st) h Q = RR S d 125 98 L (.int (x + y) :: st) h Q := RR.do1 (98, L, .int (x + y) :: st, h) rfl rfl rfl
theorem r125_98 {x : Int32} {a : Nat} : RR S d 125 98 L (.int x :: .ref a :: st) h Q = kO (ai_arr h a 0) (fun q => kB (ai_in x q.1) (RR S d 125 99 L (.int (q.2 x.toNatClampNeg) :: st) h Q)) := RR.ial rfl rfl
theorem r125_99 : RR S d 125 99 L st h Q = RR S d 125 103 L st h Q := RR.jmp (off := 4) rfl (by decide)
theorem r125_102 : RR S d 125 102 L st h Q = RR S d 125 103 L (.int (-1) :: st) h Q := RR.icn (n := (-1)) rfl (by decide) rfl
theorem r125_103 {x : Int32} : RR S d 125 103 L [.int x] h Q = Q (some (.int x)) h := RR.rt rfl rfl rfl
theorem r126_0 : RR S d 126 0 L st h Q = kA (ai_look L 0) (fun x => RR S d 126 1 L (x :: st) h Q) := RR.lda_n rfl rfl rfl
theorem r126_1 {a : Nat} : RR S d 126 1 L (.ref a :: st) h Q = kO (ai_fld h a 10 10) (fun w => RR S d 126 4 L (w :: st) h Q) := RR.get rfl rfl rfl
theorem r126_4 : RR S d 126 4 L st h Q = RR S d 126 6 L (.int 8 :: st) h Q := RR.bip (n := 8) rfl (by decide) rfl
theorem r126_6 {x y : Int32} : RR S d 126 6 L (.int y :: .int x :: st) h Q = if x = y then RR S d 126 76 L st h Q else RR S d 126 9 L st h Q := RR.b2 (c := .eq) (off := 70) rfl rfl (by decide) rfl
theorem r126_9 : RR S d 126 9 L st h Q = kA (ai_look L 0) (fun x => RR S d 126 10 L (x :: st) h Q) := RR.lda_n rfl rfl rfl
theorem r126_10 : RR S d 126 10 L st h Q = kI (ai_look L 1) (fun x => RR S d 126 11 L (.int x :: st) h Q) := RR.ldi_n rfl rfl rfl
theorem r126_11 {p0 : Int32} {a : Nat} : RR S (d + 1) 126 11 L (.int p0 :: .ref a :: st) h Q = kB (decide (ai_sum st ≤ 8)) (kB ((ai_obj h a 10).isSome) (RR S d 113 0 [(0, .ref a), (1, .int p0)] [] h (fun r h1 => RR S (d + 1) 126 14 L (r.toList ++ st) h1 Q))) := RR.cv (j := 121) (mn' := 113) (n := 1) rfl rfl rfl rfl rfl rfl
theorem r126_14 {x : Int32} : RR S d 126 14 L (.int x :: st) h Q = if x = 0 then RR S d 126 76 L st h Q else RR S d 126 17 L st h Q := RR.b1 (c := .eq) (off := 62) rfl rfl (by decide) rfl
theorem r126_17 : RR S d 126 17 L st h Q = kA (ai_look L 0) (fun x => RR S d 126 18 L (x :: st) h Q) := RR.lda_n rfl rfl rfl
theorem r126_18 : RR S d 126 18 L st h Q = kI (ai_look L 2) (fun x => RR S d 126 19 L (.int x :: st) h Q) := RR.ldi_n rfl rfl rfl
theorem r126_19 {p0 : Int32} {a : Nat} : RR S (d + 1) 126 19 L (.int p0 :: .ref a :: st) h Q = kB (decide (ai_sum st ≤ 8)) (kB ((ai_obj h a 10).isSome) (RR S d 113 0 [(0, .ref a), (1, .int p0)] [] h (fun r h1 => RR S (d + 1) 126 22 L (r.toList ++ st) h1 Q))) := RR.cv (j := 121) (mn' := 113) (n := 1) rfl rfl rfl rfl rfl rfl
theorem r126_22 {x : Int32} : RR S d 126 22 L (.int x :: st) h Q = if x = 0 then RR S d 126 76 L st h Q else RR S d 126 25 L st h Q := RR.b1 (c := .eq) (off := 54) rfl rfl (by decide) rfl
theorem r126_25 : RR S d 126 25 L st h Q = kI (ai_look L 1) (fun x => RR S d 126 26 L (.int x :: st) h Q) := RR.ldi_n rfl rfl rfl
theorem r126_26 : RR S d 126 26 L st h Q = kI (ai_look L 2) (fun x => RR S d 126 27 L (.int x :: st) h Q) := RR.ldi_n rfl rfl rfl
theorem r126_27 {x y : Int32} : RR S d 126 27 L (.int y :: .int x :: st) h Q = if x = y then RR S d 126 76 L st h Q else RR S d 126 30 L st h Q := RR.b2 (c := .eq) (off := 49) rfl rfl (by decide) rfl
theorem r126_30 : RR S d 126 30 L st h Q = kI (ai_look L 3) (fun x => RR S d 126 31 L (.int x :: st) h Q) := RR.ldi_n rfl rfl rfl
theorem r126_31 {p0 : Int32} : RR S (d + 1) 126 31 L (.int p0 :: st) h Q = kB (decide (ai_sum st ≤ 8)) (RR S d 124 0 [(0, .int p0)] [] h (fun r h1 => RR S (d + 1) 126 34 L (r.toList ++ st) h1 Q)) := RR.cs (j := 152) (mn' := 124) (n := 1) rfl rfl rfl rfl (by simp) rfl rfl
theorem r126_34 {x : Int32} : RR S d 126 34 L (.int x :: st) h Q = if x = 0 then RR S d 126 76 L st h Q else RR S d 126 37 L st h Q := RR.b1 (c := .eq) (off := 42) rfl rfl (by decide) rfl
theorem r126_37 : RR S d 126 37 L st h Q = kI (ai_look L 4) (fun x => RR S d 126 39 L (.int x :: st) h Q) := RR.ldi rfl rfl
theorem r126_39 : RR S d 126 39 L st h Q = RR S d 126 40 L (.int 2 :: st) h Q := RR.icn (n := 2) rfl (by decide) rfl
theorem r126_40 {x y : Int32} : RR S d 126 40 L (.int y :: .int x :: st) h Q = if x < y then RR S d 126 76 L st h Q else RR S d 126 43 L st h Q := RR.b2 (c := .lt) (off := 36) rfl rfl (by decide) rfl
theorem r126_43 : RR S d 126 43 L st h Q = kI (ai_look L 4) (fun x => RR S d 126 45 L (.int x :: st) h Q) := RR.ldi rfl rfl
theorem r126_45 : RR S d 126 45 L st h Q = kA (ai_look L 0) (fun x => RR S d 126 46 L (x :: st) h Q) := RR.lda_n rfl rfl rfl
theorem r126_46 {a : Nat} : RR S d 126 46 L (.ref a :: st) h Q = kO (ai_fld h a 10 8) (fun w => RR S d 126 49 L (w :: st) h Q) := RR.get rfl rfl rfl
theorem r126_49 {x y : Int32} : RR S d 126 49 L (.int y :: .int x :: st) h Q = if y < x then RR S d 126 76 L st h Q else RR S d 126 52 L st h Q := RR.b2 (c := .gt) (off := 27) rfl rfl (by decide) rfl
theorem r126_52 : RR S d 126 52 L st h Q = kA (ai_look L 0) (fun x => RR S d 126 53 L (x :: st) h Q) := RR.lda_n rfl rfl rfl
theorem r126_53 {a : Nat} : RR S d 126 53 L (.ref a :: st) h Q = kO (ai_fld h a 10 8) (fun w => RR S d 126 56 L (w :: st) h Q) := RR.get rfl rfl rfl
theorem r126_56 : RR S d 126 56 L st h Q = kI (ai_look L 4) (fun x => RR S d 126 58 L (.int x :: st) h Q) := RR.ldi rfl rfl
theorem r126_58 {x y : Int32} : RR S d 126 58 L (.int y :: .int x :: st) h Q = kB (decide (¬ y = 0)) (RR S d 126 59 L (.int (x - x / y * y) :: st) h Q) := RR.irem rfl rfl
theorem r126_59 {x : Int32} : RR S d 126 59 L (.int x :: st) h Q = if ¬ x = 0 then RR S d 126 76 L st h Q else RR S d 126 62 L st h Q := RR.b1 (c := .ne) (off := 17) rfl rfl (by decide) rfl
theorem r126_62 : RR S d 126 62 L st h Q = kI (ai_look L 5) (fun x => RR S d 126 64 L (.int x :: st) h Q) := RR.ldi rfl rfl
theorem r126_64 : RR S d 126 64 L st h Q = RR S d 126 65 L (.int 1 :: st) h Q := RR.icn (n := 1) rfl (by decide) rfl
theorem r126_65 {x y : Int32} : RR S d 126 65 L (.int y :: .int x :: st) h Q = if x < y then RR S d 126 76 L st h Q else RR S d 126 68 L st h Q := RR.b2 (c := .lt) (off := 11) rfl rfl (by decide) rfl
theorem r126_68 : RR S d 126 68 L st h Q = kI (ai_look L 5) (fun x => RR S d 126 70 L (.int x :: st) h Q) := RR.ldi rfl rfl
theorem r126_70 : RR S d 126 70 L st h Q = RR S d 126 73 L (.int 200 :: st) h Q := RR.sip (n := 200) rfl (by decide) rfl
theorem r126_73 {x y : Int32} : RR S d 126 73 L (.int y :: .int x :: st) h Q = if x ≤ y then RR S d 126 78 L st h Q else RR S d 126 76 L st h Q := RR.b2 (c := .le) (off := 5) rfl rfl (by decide) rfl
theorem r126_76 : RR S d 126 76 L st h Q = RR S d 126 77 L (.int (-1) :: st) h Q := RR.icn (n := (-1)) rfl (by decide) rfl
theorem r126_77 {x : Int32} : RR S d 126 77 L [.int x] h Q = Q (some (.int x)) h := RR.rt rfl rfl rfl
theorem r126_78 : RR S d 126 78 L st h Q = kA (ai_look L 0) (fun x => RR S d 126 79 L (x :: st) h Q) := RR.lda_n rfl rfl rfl
theorem r126_79 : RR S d 126 79 L st h Q = kI (ai_look L 1) (fun x => RR S d 126 80 L (.int x :: st) h Q) := RR.ldi_n rfl rfl rfl
theorem r126_80 : RR S d 126 80 L st h Q = kI (ai_look L 2) (fun x => RR S d 126 81 L (.int x :: st) h Q) := RR.ldi_n rfl rfl rfl
theorem r126_81 : RR S d 126 81 L st h Q = kI (ai_look L 3) (fun x => RR S d 126 82 L (.int x :: st) h Q) := RR.ldi_n rfl rfl rfl
theorem r126_82 {p0 : Int32} {p1 : Int32} {p2 : Int32} {a : Nat} : RR S (d + 1) 126 82 L (.int p2 :: .int p1 :: .int p0 :: .ref a :: st) h Q = kB (decide (ai_sum st ≤ 8)) (kB ((ai_obj h a 10).isSome) (RR S d 121 0 [(0, .ref a), (1, .int p0), (2, .int p1), (3, .int p2)] [] h (fun r h1 => RR S (d + 1) 126 85 L (r.toList ++ st) h1 Q))) := RR.cv (j := 155) (mn' := 121) (n := 3) rfl rfl rfl rfl rfl rfl
theorem r126_85 : RR S d 126 85 L st h Q = RR S d 126 86 L (.int 0 :: st) h Q := RR.icn (n := 0) rfl (by decide) rfl
theorem r126_86 {x : Int32} : RR S d 126 86 L (.int x :: st) h Q = RR S d 126 88 (ai_put 6 (.int x) L) st h Q := RR.do1 (88, ai_put 6 (.int x) L, st, h) rfl rfl rfl
theorem r126_88 : RR S d 126 88 L st h Q = kI (ai_look L 6) (fun x => RR S d 126 90 L (.int x :: st) h Q) := RR.ldi rfl rfl
theorem r126_90 : RR S d 126 90 L st h Q = RR S d 126 91 L (.int 3 :: st) h Q := RR.icn (n := 3) rfl (by decide) rfl
theorem r126_91 {x y : Int32} : RR S d 126 91 L (.int y :: .int x :: st) h Q = if y ≤ x then RR S d 126 205 L st h Q else RR S d 126 94 L st h Q := RR.b2 (c := .ge) (off := 114) rfl rfl (by decide) rfl
theorem r126_94 : RR S d 126 94 L st h Q = kI (ai_look L 6) (fun x => RR S d 126 96 L (.int x :: st) h Q) := RR.ldi rfl rfl
theorem r126_96 : RR S d 126 96 L st h Q = kA (ai_look L 0) (fun x => RR S d 126 97 L (x :: st) h Q) := RR.lda_n rfl rfl rfl
theorem r126_97 {a : Nat} : RR S d 126 97 L (.ref a :: st) h Q = kO (ai_fld h a 10 27) (fun w => RR S d 126 100 L (w :: st) h Q) := RR.get rfl rfl rfl
theorem r126_100 {x y : Int32} : RR S d 126 100 L (.int y :: .int x :: st) h Q = if y ≤ x then RR S d 126 205 L st h Q else RR S d 126 103 L st h Q := RR.b2 (c := .ge) (off := 105) rfl rfl (by decide) rfl
theorem r126_103 : RR S d 126 103 L st h Q = kA (ai_look L 0) (fun x => RR S d 126 104 L (x :: st) h Q) := RR.lda_n rfl rfl rfl
theorem r126_104 {a : Nat} : RR S d 126 104 L (.ref a :: st) h Q = kO (ai_fld h a 10 30) (fun w => RR S d 126 107 L (w :: st) h Q) := RR.get rfl rfl rfl
theorem r126_107 : RR S d 126 107 L st h Q = kI (ai_look L 6) (fun x => RR S d 126 109 L (.int x :: st) h Q) := RR.ldi rfl rfl
theorem r126_109 {x : Int32} {a : Nat} : RR S d 126 109 L (.int x :: .ref a :: st) h Q = kO (ai_arr h a 0) (fun q => kB (ai_in x q.1) (RR S d 126 110 L (.int (q.2 x.toNatClampNeg) :: st) h Q)) := RR.ial rfl rfl
theorem r126_110 : RR S d 126 110 L st h Q = kI (ai_look L 5) (fun x => RR S d 126 112 L (.int x :: st) h Q) := RR.ldi rfl rfl
theorem r126_112 {x y : Int32} : RR S d 126 112 L (.int y :: .int x :: st) h Q = if y < x then RR S d 126 205 L st h Q else RR S d 126 115 L st h Q := RR.b2 (c := .gt) (off := 93) rfl rfl (by decide) rfl
theorem r126_115 : RR S d 126 115 L st h Q = RR S d 126 116 L (.int 3 :: st) h Q := RR.icn (n := 3) rfl (by decide) rfl
theorem r126_116 : RR S d 126 116 L st h Q = kA (ai_look L 0) (fun x => RR S d 126 117 L (x :: st) h Q) := RR.lda_n rfl rfl rfl
theorem r126_117 {a : Nat} : RR S d 126 117 L (.ref a :: st) h Q = kO (ai_fld h a 10 10) (fun w => RR S d 126 120 L (w :: st) h Q) := RR.get rfl rfl rfl
theorem r126_120 {x y : Int32} : RR S d 126 120 L (.int y :: .int x :: st) h Q = RR S d 126 121 L (.int (x * y) :: st) h Q := RR.do1 (121, L, .int (x * y) :: st, h) rfl rfl rfl
theorem r126_121 : RR S d 126 121 L st h Q = kI (ai_look L 6) (fun x => RR S d 126 123 L (.int x :: st) h Q) := RR.ldi rfl rfl
theorem r126_123 {x y : Int32} : RR S d 126 123 L (.int y :: .int x :: st) h Q = RR S d 126 124 L (.int (x + y) :: st) h Q := RR.do1 (124, L, .int (x + y) :: st, h) rfl rfl rfl
theorem r126_124 {x : Int32} : RR S d 126 124 L (.int x :: st) h Q = RR S d 126 126 (ai_put 7 (.int x) L) st h Q := RR.do1 (126, ai_put 7 (.int x) L, st, h) rfl rfl rfl
theorem r126_126 : RR S d 126 126 L st h Q = kA (ai_look L 0) (fun x => RR S d 126 127 L (x :: st) h Q) := RR.lda_n rfl rfl rfl
theorem r126_127 {a : Nat} : RR S d 126 127 L (.ref a :: st) h Q = kO (ai_fld h a 10 14) (fun w => RR S d 126 130 L (w :: st) h Q) := RR.get rfl rfl rfl
theorem r126_130 : RR S d 126 130 L st h Q = kI (ai_look L 7) (fun x => RR S d 126 132 L (.int x :: st) h Q) := RR.ldi rfl rfl
theorem r126_132 : RR S d 126 132 L st h Q = kA (ai_look L 0) (fun x => RR S d 126 133 L (x :: st) h Q) := RR.lda_n rfl rfl rfl
theorem r126_133 {a : Nat} : RR S d 126 133 L (.ref a :: st) h Q = kO (ai_fld h a 10 28) (fun w => RR S d 126 136 L (w :: st) h Q) := RR.get rfl rfl rfl
theorem r126_136 : RR S d 126 136 L st h Q = kI (ai_look L 6) (fun x => RR S d 126 138 L (.int x :: st) h Q) := RR.ldi rfl rfl
theorem r126_138 {x : Int32} {a : Nat} : RR S d 126 138 L (.int x :: .ref a :: st) h Q = kO (ai_arr h a 0) (fun q => kB (ai_in x q.1) (RR S d 126 139 L (.int (q.2 x.toNatClampNeg) :: st) h Q)) := RR.ial rfl rfl
theorem r126_139 {x y : Int32} {a : Nat} : RR S d 126 139 L (.int y :: .int x :: .ref a :: st) h Q = kO (ai_arr h a 0) (fun q => kB (ai_in x q.1) (RR S d 126 140 L st (h.1.set a (.inl (0, q.1, .inl (upd q.2 x.toNatClampNeg y))), h.2) Q)) := RR.ias rfl rfl
theorem r126_140 : RR S d 126 140 L st h Q = kA (ai_look L 0) (fun x => RR S d 126 141 L (x :: st) h Q) := RR.lda_n rfl rfl rfl
theorem r126_141 {a : Nat} : RR S d 126 141 L (.ref a :: st) h Q = kO (ai_fld h a 10 16) (fun w => RR S d 126 144 L (w :: st) h Q) := RR.get rfl rfl rfl
theorem r126_144 : RR S d 126 144 L st h Q = kI (ai_look L 7) (fun x => RR S d 126 146 L (.int x :: st) h Q) := RR.ldi rfl rfl
theorem r126_146 : RR S d 126 146 L st h Q = kA (ai_look L 0) (fun x => RR S d 126 147 L (x :: st) h Q) := RR.lda_n rfl rfl rfl
theorem r126_147 {a : Nat} : RR S d 126 147 L (.ref a :: st) h Q = kO (ai_fld h a 10 30) (fun w => RR S d 126 150 L (w :: st) h Q) := RR.get rfl rfl rfl
theorem r126_150 : RR S d 126 150 L st h Q = kI (ai_look L 6) (fun x => RR S d 126 152 L (.int x :: st) h Q) := RR.ldi rfl rfl
theorem r126_152 {x : Int32} {a : Nat} : RR S d 126 152 L (.int x :: .ref a :: st) h Q = kO (ai_arr h a 0) (fun q => kB (ai_in x q.1) (RR S d 126 153 L (.int (q.2 x.toNatClampNeg) :: st) h Q)) := RR.ial rfl rfl
theorem r126_153 {x y : Int32} {a : Nat} : RR S d 126 153 L (.int y :: .int x :: .ref a :: st) h Q = kO (ai_arr h a 0) (fun q => kB (ai_in x q.1) (RR S d 126 154 L st (h.1.set a (.inl (0, q.1, .inl (upd q.2 x.toNatClampNeg y))), h.2) Q)) := RR.ias rfl rfl
theorem r126_154 : RR S d 126 154 L st h Q = RR S d 126 155 L (.int 0 :: st) h Q := RR.icn (n := 0) rfl (by decide) rfl
theorem r126_155 {x : Int32} : RR S d 126 155 L (.int x :: st) h Q = RR S d 126 157 (ai_put 8 (.int x) L) st h Q := RR.do1 (157, ai_put 8 (.int x) L, st, h) rfl rfl rfl
theorem r126_157 : RR S d 126 157 L st h Q = kI (ai_look L 8) (fun x => RR S d 126 159 L (.int x :: st) h Q) := RR.ldi rfl rfl
theorem r126_159 : RR S d 126 159 L st h Q = kA (ai_look L 0) (fun x => RR S d 126 160 L (x :: st) h Q) := RR.lda_n rfl rfl rfl
theorem r126_160 {a : Nat} : RR S d 126 160 L (.ref a :: st) h Q = kO (ai_fld h a 10 28) (fun w => RR S d 126 163 L (w :: st) h Q) := RR.get rfl rfl rfl
theorem r126_163 : RR S d 126 163 L st h Q = kI (ai_look L 6) (fun x => RR S d 126 165 L (.int x :: st) h Q) := RR.ldi rfl rfl
theorem r126_165 {x : Int32} {a : Nat} : RR S d 126 165 L (.int x :: .ref a :: st) h Q = kO (ai_arr h a 0) (fun q => kB (ai_in x q.1) (RR S d 126 166 L (.int (q.2 x.toNatClampNeg) :: st) h Q)) := RR.ial rfl rfl
theorem r126_166 {x y : Int32} : RR S d 126 166 L (.int y :: .int x :: st) h Q = if y ≤ x then RR S d 126 199 L st h Q else RR S d 126 169 L st h Q := RR.b2 (c := .ge) (off := 33) rfl rfl (by decide) rfl
theorem r126_169 : RR S d 126 169 L st h Q = kA (ai_look L 0) (fun x => RR S d 126 170 L (x :: st) h Q) := RR.lda_n rfl rfl rfl
theorem r126_170 {a : Nat} : RR S d 126 170 L (.ref a :: st) h Q = kO (ai_fld h a 10 15) (fun w => RR S d 126 173 L (w :: st) h Q) := RR.get rfl rfl rfl
theorem r126_173 : RR S d 126 173 L st h Q = RR S d 126 174 L (.int 4 :: st) h Q := RR.icn (n := 4) rfl (by decide) rfl
theorem r126_174 : RR S d 126 174 L st h Q = kI (ai_look L 7) (fun x => RR S d 126 176 L (.int x :: st) h Q) := RR.ldi rfl rfl
theorem r126_176 {x y : Int32} : RR S d 126 176 L (.int y :: .int x :: st) h Q = RR S d 126 177 L (.int (x * y) :: st) h Q := RR.do1 (177, L, .int (x * y) :: st, h) rfl rfl rfl
theorem r126_177 : RR S d 126 177 L st h Q = kI (ai_look L 8) (fun x => RR S d 126 179 L (.int x :: st) h Q) := RR.ldi rfl rfl
theorem r126_179 {x y : Int32} : RR S d 126 179 L (.int y :: .int x :: st) h Q = RR S d 126 180 L (.int (x + y) :: st) h Q := RR.do1 (180, L, .int (x + y) :: st, h) rfl rfl rfl
theorem r126_180 : RR S d 126 180 L st h Q = kA (ai_look L 0) (fun x => RR S d 126 181 L (x :: st) h Q) := RR.lda_n rfl rfl rfl
theorem r126_181 {a : Nat} : RR S d 126 181 L (.ref a :: st) h Q = kO (ai_fld h a 10 29) (fun w => RR S d 126 184 L (w :: st) h Q) := RR.get rfl rfl rfl
theorem r126_184 : RR S d 126 184 L st h Q = RR S d 126 185 L (.int 4 :: st) h Q := RR.icn (n := 4) rfl (by decide) rfl
theorem r126_185 : RR S d 126 185 L st h Q = kI (ai_look L 6) (fun x => RR S d 126 187 L (.int x :: st) h Q) := RR.ldi rfl rfl
theorem r126_187 {x y : Int32} : RR S d 126 187 L (.int y :: .int x :: st) h Q = RR S d 126 188 L (.int (x * y) :: st) h Q := RR.do1 (188, L, .int (x * y) :: st, h) rfl rfl rfl
theorem r126_188 : RR S d 126 188 L st h Q = kI (ai_look L 8) (fun x => RR S d 126 190 L (.int x :: st) h Q) := RR.ldi rfl rfl
theorem r126_190 {x y : Int32} : RR S d 126 190 L (.int y :: .int x :: st) h Q = RR S d 126 191 L (.int (x + y) :: st) h Q := RR.do1 (191, L, .int (x + y) :: st, h) rfl rfl rfl
theorem r126_191 {x : Int32} {a : Nat} : RR S d 126 191 L (.int x :: .ref a :: st) h Q = kO (ai_arr h a 0) (fun q => kB (ai_in x q.1) (RR S d 126 192 L (.int (q.2 x.toNatClampNeg) :: st) h Q)) := RR.ial rfl rfl
theorem r126_192 {x y : Int32} {a : Nat} : RR S d 126 192 L (.int y :: .int x :: .ref a :: st) h Q = kO (ai_arr h a 0) (fun q => kB (ai_in x q.1) (RR S d 126 193 L st (h.1.set a (.inl (0, q.1, .inl (upd q.2 x.toNatClampNeg y))), h.2) Q)) := RR.ias rfl rfl
theorem r126_193 : RR S d 126 193 L st h Q = kI (ai_look L 8) (fun x => RR S d 126 196 (ai_put 8 (.int (x + 1)) L) st h Q) := RR.iinc (k := 8) (n := 1) rfl (by decide) (by decide) rfl
theorem r126_196 : RR S d 126 196 L st h Q = RR S d 126 157 L st h Q := RR.jmp (off := (-39)) rfl (by decide)
theorem r126_199 : RR S d 126 199 L st h Q = kI (ai_look L 6) (fun x => RR S d 126 202 (ai_put 6 (.int (x + 1)) L) st h Q) := RR.iinc (k := 6) (n := 1) rfl (by decide) (by decide) rfl
theorem r126_202 : RR S d 126 202 L st h Q = RR S d 126 88 L st h Q := RR.jmp (off := (-114)) rfl (by decide)
theorem r126_205 : RR S d 126 205 L st h Q = kI (ai_look L 6) (fun x => RR S d 126 207 L (.int x :: st) h Q) := RR.ldi rfl rfl
theorem r126_207 {x : Int32} : RR S d 126 207 L (.int x :: st) h Q = if ¬ x = 0 then RR S d 126 213 L st h Q else RR S d 126 210 L st h Q := RR.b1 (c := .ne) (off := 6) rfl rfl (by decide) rfl
theorem r126_210 : RR S d 126 210 L st h Q = RR S d 126 212 L (.int (-2) :: st) h Q := RR.bip (n := (-2)) rfl (by decide) rfl
theorem r126_212 {x : Int32} : RR S d 126 212 L [.int x] h Q = Q (some (.int x)) h := RR.rt rfl rfl rfl
theorem r126_213 : RR S d 126 213 L st h Q = kA (ai_look L 0) (fun x => RR S d 126 214 L (x :: st) h Q) := RR.lda_n rfl rfl rfl
theorem r126_214 {a : Nat} : RR S d 126 214 L (.ref a :: st) h Q = kO (ai_fld h a 10 11) (fun w => RR S d 126 217 L (w :: st) h Q) := RR.get rfl rfl rfl
theorem r126_217 : RR S d 126 217 L st h Q = kA (ai_look L 0) (fun x => RR S d 126 218 L (x :: st) h Q) := RR.lda_n rfl rfl rfl
theorem r126_218 {a : Nat} : RR S d 126 218 L (.ref a :: st) h Q = kO (ai_fld h a 10 10) (fun w => RR S d 126 221 L (w :: st) h Q) := RR.get rfl rfl rfl
theorem r126_221 : RR S d 126 221 L st h Q = kI (ai_look L 3) (fun x => RR S d 126 222 L (.int x :: st) h Q) := RR.ldi_n rfl rfl rfl
theorem r126_222 {x y : Int32} {a : Nat} : RR S d 126 222 L (.int y :: .int x :: .ref a :: st) h Q = kO (ai_arr h a 0) (fun q => kB (ai_in x q.1) (RR S d 126 223 L st (h.1.set a (.inl (0, q.1, .inl (upd q.2 x.toNatClampNeg y))), h.2) Q)) := RR.ias rfl rfl
theorem r126_223 : RR S d 126 223 L st h Q = kA (ai_look L 0) (fun x => RR S d 126 224 L (x :: st) h Q) := RR.lda_n rfl rfl rfl
theorem r126_224 {a : Nat} : RR S d 126 224 L (.ref a :: st) h Q = kO (ai_fld h a 10 12) (fun w => RR S d 126 227 L (w :: st) h Q) := RR.get rfl rfl rfl
theorem r126_227 : RR S d 126 227 L st h Q = kA (ai_look L 0) (fun x => RR S d 126 228 L (x :: st) h Q) := RR.lda_n rfl rfl rfl
theorem r126_228 {a : Nat} : RR S d 126 228 L (.ref a :: st) h Q = kO (ai_fld h a 10 10) (fun w => RR S d 126 231 L (w :: st) h Q) := RR.get rfl rfl rfl
theorem r126_231 : RR S d 126 231 L st h Q = kI (ai_look L 4) (fun x => RR S d 126 233 L (.int x :: st) h Q) := RR.ldi rfl rfl
theorem r126_233 {x y : Int32} {a : Nat} : RR S d 126 233 L (.int y :: .int x :: .ref a :: st) h Q = kO (ai_arr h a 0) (fun q => kB (ai_in x q.1) (RR S d 126 234 L st (h.1.set a (.inl (0, q.1, .inl (upd q.2 x.toNatClampNeg y))), h.2) Q)) := RR.ias rfl rfl
theorem r126_234 : RR S d 126 234 L st h Q = kA (ai_look L 0) (fun x => RR S d 126 235 L (x :: st) h Q) := RR.lda_n rfl rfl rfl
theorem r126_235 {a : Nat} : RR S d 126 235 L (.ref a :: st) h Q = kO (ai_fld h a 10 13) (fun w => RR S d 126 238 L (w :: st) h Q) := RR.get rfl rfl rfl
theorem r126_238 : RR S d 126 238 L st h Q = kA (ai_look L 0) (fun x => RR S d 126 239 L (x :: st) h Q) := RR.lda_n rfl rfl rfl
theorem r126_239 {a : Nat} : RR S d 126 239 L (.ref a :: st) h Q = kO (ai_fld h a 10 10) (fun w => RR S d 126 242 L (w :: st) h Q) := RR.get rfl rfl rfl
theorem r126_242 : RR S d 126 242 L st h Q = kI (ai_look L 6) (fun x => RR S d 126 244 L (.int x :: st) h Q) := RR.ldi rfl rfl
theorem r126_244 {x y : Int32} {a : Nat} : RR S d 126 244 L (.int y :: .int x :: .ref a :: st) h Q = kO (ai_arr h a 0) (fun q => kB (ai_in x q.1) (RR S d 126 245 L st (h.1.set a (.inl (0, q.1, .inl (upd q.2 x.toNatClampNeg y))), h.2) Q)) := RR.ias rfl rfl
theorem r126_245 : RR S d 126 245 L st h Q = kA (ai_look L 0) (fun x => RR S d 126 246 L (x :: st) h Q) := RR.lda_n rfl rfl rfl
theorem r126_246 {a : Nat} : RR S d 126 246 L (.ref a :: st) h Q = kO (ai_fld h a 10 17) (fun w => RR S d 126 249 L (w :: st) h Q) := RR.get rfl rfl rfl
theorem r126_249 : RR S d 126 249 L st h Q = kA (ai_look L 0) (fun x => RR S d 126 250 L (x :: st) h Q) := RR.lda_n rfl rfl rfl
theorem r126_250 {a : Nat} : RR S d 126 250 L (.ref a :: st) h Q = kO (ai_fld h a 10 10) (fun w => RR S d 126 253 L (w :: st) h Q) := RR.get rfl rfl rfl
theorem r126_253 : RR S d 126 253 L st h Q = RR S d 126 254 L (.int 0 :: st) h Q := RR.icn (n := 0) rfl (by decide) rfl
theorem r126_254 {x y : Int32} {a : Nat} : RR S d 126 254 L (.int y :: .int x :: .ref a :: st) h Q = kO (ai_arr h a 1) (fun q => kB (ai_in x q.1 && decide (y &&& 1 = y)) (RR S d 126 255 L st (h.1.set a (.inl (1, q.1, .inl (upd q.2 x.toNatClampNeg y))), h.2) Q)) := RR.bas rfl rfl
theorem r126_255 : RR S d 126 255 L st h Q = kA (ai_look L 0) (fun x => RR S d 126 256 L (x :: st) h Q) := RR.lda_n rfl rfl rfl
theorem r126_256 {v : Value} (hv : v.category = 1) : RR S d 126 256 L (v :: st) h Q = RR S d 126 257 L (v :: v :: st) h Q := RR.dup rfl hv rfl
theorem r126_257 {a : Nat} : RR S d 126 257 L (.ref a :: st) h Q = kO (ai_fld h a 10 10) (fun w => RR S d 126 260 L (w :: st) h Q) := RR.get rfl rfl rfl
theorem r126_260 : RR S d 126 260 L st h Q = RR S d 126 261 L (.int 1 :: st) h Q := RR.icn (n := 1) rfl (by decide) rfl
theorem r126_261 {x y : Int32} : RR S d 126 261 L (.int y :: .int x :: st) h Q = RR S d 126 262 L (.int (x + y) :: st) h Q := RR.do1 (262, L, .int (x + y) :: st, h) rfl rfl rfl
theorem r126_262 {x : Int32} {a : Nat} : RR S d 126 262 L (.int x :: .ref a :: st) h Q = kO (ai_obj h a 10) (fun fs => kB (decide (10 < fs.length)) (RR S d 126 265 L st (h.1.set a (.inr (10, fs.set 10 (.int x))), h.2) Q)) := RR.put rfl rfl (ai_okp_i rfl (by decide +kernel)) rfl
theorem r126_265 : RR S d 126 265 L st h Q = kA (ai_look L 0) (fun x => RR S d 126 266 L (x :: st) h Q) := RR.lda_n rfl rfl rfl
theorem r126_266 {a : Nat} : RR S d 126 266 L (.ref a :: st) h Q = kO (ai_fld h a 10 10) (fun w => RR S d 126 269 L (w :: st) h Q) := RR.get rfl rfl rfl
theorem r126_269 : RR S d 126 269 L st h Q = RR S d 126 270 L (.int 1 :: st) h Q := RR.icn (n := 1) rfl (by decide) rfl
theorem r126_270 {x y : Int32} : RR S d 126 270 L (.int y :: .int x :: st) h Q = RR S d 126 271 L (.int (x - y) :: st) h Q := RR.do1 (271, L, .int (x - y) :: st, h) rfl rfl rfl
theorem r126_271 {x : Int32} : RR S d 126 271 L [.int x] h Q = Q (some (.int x)) h := RR.rt rfl rfl rfl
theorem r127_0 : RR S d 127 0 L st h Q = kI (ai_look L 1) (fun x => RR S d 127 1 L (.int x :: st) h Q) := RR.ldi_n rfl rfl rfl
theorem r127_1 {x : Int32} : RR S d 127 1 L (.int x :: st) h Q = if x < 0 then RR S d 127 21 L st h Q else RR S d 127 4 L st h Q := RR.b1 (c := .lt) (off := 20) rfl rfl (by decide) rfl
theorem r127_4 : RR S d 127 4 L st h Q = kI (ai_look L 1) (fun x => RR S d 127 5 L (.int x :: st) h Q) := RR.ldi_n rfl rfl rfl
theorem r127_5 : RR S d 127 5 L st h Q = kA (ai_look L 0) (fun x => RR S d 127 6 L (x :: st) h Q) := RR.lda_n rfl rfl rfl
theorem r127_6 {a : Nat} : RR S d 127 6 L (.ref a :: st) h Q = kO (ai_fld h a 10 10) (fun w => RR S d 127 9 L (w :: st) h Q) := RR.get rfl rfl rfl
theorem r127_9 {x y : Int32} : RR S d 127 9 L (.int y :: .int x :: st) h Q = if y ≤ x then RR S d 127 21 L st h Q else RR S d 127 12 L st h Q := RR.b2 (c := .ge) (off := 12) rfl rfl (by decide) rfl
theorem r127_12 : RR S d 127 12 L st h Q = kA (ai_look L 0) (fun x => RR S d 127 13 L (x :: st) h Q) := RR.lda_n rfl rfl rfl
theorem r127_13 {a : Nat} : RR S d 127 13 L (.ref a :: st) h Q = kO (ai_fld h a 10 17) (fun w => RR S d 127 16 L (w :: st) h Q) := RR.get rfl rfl rfl
theorem r127_16 : RR S d 127 16 L st h Q = kI (ai_look L 1) (fun x => RR S d 127 17 L (.int x :: st) h Q) := RR.ldi_n rfl rfl rfl
theorem r127_17 {x : Int32} {a : Nat} : RR S d 127 17 L (.int x :: .ref a :: st) h Q = kO (ai_arr h a 1) (fun q => kB (ai_in x q.1) (RR S d 127 18 L (.int (q.2 x.toNatClampNeg) :: st) h Q)) := RR.bal rfl rfl
theorem r127_18 {x : Int32} : RR S d 127 18 L (.int x :: st) h Q = if ¬ x = 0 then RR S d 127 23 L st h Q else RR S d 127 21 L st h Q := RR.b1 (c := .ne) (off := 5) rfl rfl (by decide) rfl
theorem r127_21 : RR S d 127 21 L st h Q = RR S d 127 22 L (.int 0 :: st) h Q := RR.icn (n := 0) rfl (by decide) rfl
theorem r127_22f : RR S d 127 22 L [.int 0] h Q = Q (some (.int 0)) h := RR.zrt rfl rfl (by decide)
theorem r127_22t : RR S d 127 22 L [.int 1] h Q = Q (some (.int 1)) h := RR.zrt rfl rfl (by decide)
theorem r127_23 : RR S d 127 23 L st h Q = kA (ai_look L 0) (fun x => RR S d 127 24 L (x :: st) h Q) := RR.lda_n rfl rfl rfl
theorem r127_24 {a : Nat} : RR S d 127 24 L (.ref a :: st) h Q = kO (ai_fld h a 10 17) (fun w => RR S d 127 27 L (w :: st) h Q) := RR.get rfl rfl rfl
theorem r127_27 : RR S d 127 27 L st h Q = kI (ai_look L 1) (fun x => RR S d 127 28 L (.int x :: st) h Q) := RR.ldi_n rfl rfl rfl
theorem r127_28 : RR S d 127 28 L st h Q = RR S d 127 29 L (.int 0 :: st) h Q := RR.icn (n := 0) rfl (by decide) rfl
theorem r127_29 {x y : Int32} {a : Nat} : RR S d 127 29 L (.int y :: .int x :: .ref a :: st) h Q = kO (ai_arr h a 1) (fun q => kB (ai_in x q.1 && decide (y &&& 1 = y)) (RR S d 127 30 L st (h.1.set a (.inl (1, q.1, .inl (upd q.2 x.toNatClampNeg y))), h.2) Q)) := RR.bas rfl rfl
theorem r127_30 : RR S d 127 30 L st h Q = kA (ai_look L 0) (fun x => RR S d 127 31 L (x :: st) h Q) := RR.lda_n rfl rfl rfl
theorem r127_31 {a : Nat} : RR S (d + 1) 127 31 L (.ref a :: st) h Q = kB (decide (ai_sum st ≤ 8)) (kB ((ai_obj h a 10).isSome) (RR S d 131 0 [(0, .ref a)] [] h (fun r h1 => RR S (d + 1) 127 34 L (r.toList ++ st) h1 Q))) := RR.cv (j := 159) (mn' := 131) (n := 0) rfl rfl rfl rfl rfl rfl
theorem r127_34 : RR S d 127 34 L st h Q = RR S d 127 35 L (.int 1 :: st) h Q := RR.icn (n := 1) rfl (by decide) rfl
theorem r127_35f : RR S d 127 35 L [.int 0] h Q = Q (some (.int 0)) h := RR.zrt rfl rfl (by decide)
theorem r127_35t : RR S d 127 35 L [.int 1] h Q = Q (some (.int 1)) h := RR.zrt rfl rfl (by decide)
theorem r128_0 : RR S d 128 0 L st h Q = kI (ai_look L 3) (fun x => RR S d 128 1 L (.int x :: st) h Q) := RR.ldi_n rfl rfl rfl
theorem r128_1 {x : Int32} : RR S d 128 1 L (.int x :: st) h Q = RR S d 128 3 (ai_put 5 (.int x) L) st h Q := RR.do1 (3, ai_put 5 (.int x) L, st, h) rfl rfl rfl
theorem r128_3 : RR S d 128 3 L st h Q = RR S d 128 4 L (.int 0 :: st) h Q := RR.icn (n := 0) rfl (by decide) rfl
theorem r128_4 {x : Int32} : RR S d 128 4 L (.int x :: st) h Q = RR S d 128 6 (ai_put 6 (.int x) L) st h Q := RR.do1 (6, ai_put 6 (.int x) L, st, h) rfl rfl rfl
theorem r128_6 : RR S d 128 6 L st h Q = kI (ai_look L 6) (fun x => RR S d 128 8 L (.int x :: st) h Q) := RR.ldi rfl rfl
theorem r128_8 : RR S d 128 8 L st h Q = kI (ai_look L 4) (fun x => RR S d 128 10 L (.int x :: st) h Q) := RR.ldi rfl rfl
theorem r128_10 {x y : Int32} : RR S d 128 10 L (.int y :: .int x :: st) h Q = if y ≤ x then RR S d 128 83 L st h Q else RR S d 128 13 L st h Q := RR.b2 (c := .ge) (off := 73) rfl rfl (by decide) rfl
theorem r128_13 : RR S d 128 13 L st h Q = kA (ai_look L 0) (fun x => RR S d 128 14 L (x :: st) h Q) := RR.lda_n rfl rfl rfl
theorem r128_14 {a : Nat} : RR S d 128 14 L (.ref a :: st) h Q = kO (ai_fld h a 10 15) (fun w => RR S d 128 17 L (w :: st) h Q) := RR.get rfl rfl rfl
theorem r128_17 : RR S d 128 17 L st h Q = RR S d 128 18 L (.int 4 :: st) h Q := RR.icn (n := 4) rfl (by decide) rfl
theorem r128_18 : RR S d 128 18 L st h Q = RR S d 128 19 L (.int 3 :: st) h Q := RR.icn (n := 3) rfl (by decide) rfl
theorem r128_19 : RR S d 128 19 L st h Q = kI (ai_look L 1) (fun x => RR S d 128 20 L (.int x :: st) h Q) := RR.ldi_n rfl rfl rfl
theorem r128_20 {x y : Int32} : RR S d 128 20 L (.int y :: .int x :: st) h Q = RR S d 128 21 L (.int (x * y) :: st) h Q := RR.do1 (21, L, .int (x * y) :: st, h) rfl rfl rfl
theorem r128_21 : RR S d 128 21 L st h Q = kI (ai_look L 2) (fun x => RR S d 128 22 L (.int x :: st) h Q) := RR.ldi_n rfl rfl rfl
theorem r128_22 {x y : Int32} : RR S d 128 22 L (.int y :: .int x :: st) h Q = RR S d 128 23 L (.int (x + y) :: st) h Q := RR.do1 (23, L, .int (x + y) :: st, h) rfl rfl rfl
theorem r128_23 {x y : Int32} : RR S d 128 23 L (.int y :: .int x :: st) h Q = RR S d 128 24 L (.int (x * y) :: st) h Q := RR.do1 (24, L, .int (x * y) :: st, h) rfl rfl rfl
theorem r128_24 : RR S d 128 24 L st h Q = kI (ai_look L 6) (fun x => RR S d 128 26 L (.int x :: st) h Q) := RR.ldi rfl rfl
theorem r128_26 {x y : Int32} : RR S d 128 26 L (.int y :: .int x :: st) h Q = RR S d 128 27 L (.int (x + y) :: st) h Q := RR.do1 (27, L, .int (x + y) :: st, h) rfl rfl rfl
theorem r128_27 {x : Int32} {a : Nat} : RR S d 128 27 L (.int x :: .ref a :: st) h Q = kO (ai_arr h a 0) (fun q => kB (ai_in x q.1) (RR S d 128 28 L (.int (q.2 x.toNatClampNeg) :: st) h Q)) := RR.ial rfl rfl
theorem r128_28 {x : Int32} : RR S d 128 28 L (.int x :: st) h Q = RR S d 128 30 (ai_put 7 (.int x) L) st h Q := RR.do1 (30, ai_put 7 (.int x) L, st, h) rfl rfl rfl
theorem r128_30 : RR S d 128 30 L st h Q = kI (ai_look L 5) (fun x => RR S d 128 32 L (.int x :: st) h Q) := RR.ldi rfl rfl
theorem r128_32 : RR S d 128 32 L st h Q = kA (ai_look L 0) (fun x => RR S d 128 33 L (x :: st) h Q) := RR.lda_n rfl rfl rfl
theorem r128_33 {a : Nat} : RR S d 128 33 L (.ref a :: st) h Q = kO (ai_fld h a 10 11) (fun w => RR S d 128 36 L (w :: st) h Q) := RR.get rfl rfl rfl
theorem r128_36 : RR S d 128 36 L st h Q = kI (ai_look L 1) (fun x => RR S d 128 37 L (.int x :: st) h Q) := RR.ldi_n rfl rfl rfl
theorem r128_37 {x : Int32} {a : Nat} : RR S d 128 37 L (.int x :: .ref a :: st) h Q = kO (ai_arr h a 0) (fun q => kB (ai_in x q.1) (RR S d 128 38 L (.int (q.2 x.toNatClampNeg) :: st) h Q)) := RR.ial rfl rfl
theorem r128_38 : RR S d 128 38 L st h Q = kA (ai_look L 0) (fun x => RR S d 128 39 L (x :: st) h Q) := RR.lda_n rfl rfl rfl
theorem r128_39 {a : Nat} : RR S d 128 39 L (.ref a :: st) h Q = kO (ai_fld h a 10 7) (fun w => RR S d 128 42 L (w :: st) h Q) := RR.get rfl rfl rfl
theorem r128_42 : RR S d 128 42 L st h Q = kI (ai_look L 7) (fun x => RR S d 128 44 L (.int x :: st) h Q) := RR.ldi rfl rfl
theorem r128_44 {x : Int32} {a : Nat} : RR S d 128 44 L (.int x :: .ref a :: st) h Q = kO (ai_arr h a 0) (fun q => kB (ai_in x q.1) (RR S d 128 45 L (.int (q.2 x.toNatClampNeg) :: st) h Q)) := RR.ial rfl rfl
theorem r128_45 {x y : Int32} : RR S d 128 45 L (.int y :: .int x :: st) h Q = RR S d 128 46 L (.int (x * y) :: st) h Q := RR.do1 (46, L, .int (x * y) :: st, h) rfl rfl rfl
theorem r128_46 : RR S d 128 46 L st h Q = kA (ai_look L 0) (fun x => RR S d 128 47 L (x :: st) h Q) := RR.lda_n rfl rfl rfl
theorem r128_47 {a : Nat} : RR S d 128 47 L (.ref a :: st) h Q = kO (ai_fld h a 10 6) (fun w => RR S d 128 50 L (w :: st) h Q) := RR.get rfl rfl rfl
theorem r128_50 : RR S d 128 50 L st h Q = kI (ai_look L 7) (fun x => RR S d 128 52 L (.int x :: st) h Q) := RR.ldi rfl rfl
theorem r128_52 {x : Int32} {a : Nat} : RR S d 128 52 L (.int x :: .ref a :: st) h Q = kO (ai_arr h a 0) (fun q => kB (ai_in x q.1) (RR S d 128 53 L (.int (q.2 x.toNatClampNeg) :: st) h Q)) := RR.ial rfl rfl
theorem r128_53 {x y : Int32} : RR S d 128 53 L (.int y :: .int x :: st) h Q = RR S d 128 54 L (.int (x + y) :: st) h Q := RR.do1 (54, L, .int (x + y) :: st, h) rfl rfl rfl
theorem r128_54 : RR S d 128 54 L st h Q = kA (ai_look L 0) (fun x => RR S d 128 55 L (x :: st) h Q) := RR.lda_n rfl rfl rfl
theorem r128_55 {a : Nat} : RR S d 128 55 L (.ref a :: st) h Q = kO (ai_fld h a 10 1) (fun w => RR S d 128 58 L (w :: st) h Q) := RR.get rfl rfl rfl
theorem r128_58 : RR S d 128 58 L st h Q = kA (ai_look L 0) (fun x => RR S d 128 59 L (x :: st) h Q) := RR.lda_n rfl rfl rfl
theorem r128_59 {a : Nat} : RR S d 128 59 L (.ref a :: st) h Q = kO (ai_fld h a 10 5) (fun w => RR S d 128 62 L (w :: st) h Q) := RR.get rfl rfl rfl
theorem r128_62 : RR S d 128 62 L st h Q = kI (ai_look L 7) (fun x => RR S d 128 64 L (.int x :: st) h Q) := RR.ldi rfl rfl
theorem r128_64 {x : Int32} {a : Nat} : RR S d 128 64 L (.int x :: .ref a :: st) h Q = kO (ai_arr h a 0) (fun q => kB (ai_in x q.1) (RR S d 128 65 L (.int (q.2 x.toNatClampNeg) :: st) h Q)) := RR.ial rfl rfl
theorem r128_65 {x : Int32} {a : Nat} : RR S d 128 65 L (.int x :: .ref a :: st) h Q = kO (ai_arr h a 0) (fun q => kB (ai_in x q.1) (RR S d 128 66 L (.int (q.2 x.toNatClampNeg) :: st) h Q)) := RR.ial rfl rfl
theorem r128_66 {x y : Int32} : RR S d 128 66 L (.int y :: .int x :: st) h Q = RR S d 128 67 L (.int (x + y) :: st) h Q := RR.do1 (67, L, .int (x + y) :: st, h) rfl rfl rfl
theorem r128_67 : RR S d 128 67 L st h Q = RR S d 128 68 L (.int 2 :: st) h Q := RR.icn (n := 2) rfl (by decide) rfl
theorem r128_68 : RR S d 128 68 L st h Q = kA (ai_look L 0) (fun x => RR S d 128 69 L (x :: st) h Q) := RR.lda_n rfl rfl rfl
theorem r128_69 {a : Nat} : RR S d 128 69 L (.ref a :: st) h Q = kO (ai_fld h a 10 9) (fun w => RR S d 128 72 L (w :: st) h Q) := RR.get rfl rfl rfl
theorem r128_72 {x y : Int32} : RR S d 128 72 L (.int y :: .int x :: st) h Q = RR S d 128 73 L (.int (x * y) :: st) h Q := RR.do1 (73, L, .int (x * y) :: st, h) rfl rfl rfl
theorem r128_73 {x y : Int32} : RR S d 128 73 L (.int y :: .int x :: st) h Q = RR S d 128 74 L (.int (x + y) :: st) h Q := RR.do1 (74, L, .int (x + y) :: st, h) rfl rfl rfl
theorem r128_74 {x y : Int32} : RR S d 128 74 L (.int y :: .int x :: st) h Q = RR S d 128 75 L (.int (x + y) :: st) h Q := RR.do1 (75, L, .int (x + y) :: st, h) rfl rfl rfl
theorem r128_75 {x : Int32} : RR S d 128 75 L (.int x :: st) h Q = RR S d 128 77 (ai_put 5 (.int x) L) st h Q := RR.do1 (77, ai_put 5 (.int x) L, st, h) rfl rfl rfl
theorem r128_77 : RR S d 128 77 L st h Q = kI (ai_look L 6) (fun x => RR S d 128 80 (ai_put 6 (.int (x + 1)) L) st h Q) := RR.iinc (k := 6) (n := 1) rfl (by decide) (by decide) rfl
theorem r128_80 : RR S d 128 80 L st h Q = RR S d 128 6 L st h Q := RR.jmp (off := (-74)) rfl (by decide)
theorem r128_83 : RR S d 128 83 L st h Q = kI (ai_look L 5) (fun x => RR S d 128 85 L (.int x :: st) h Q) := RR.ldi rfl rfl
theorem r128_85 {x : Int32} : RR S d 128 85 L [.int x] h Q = Q (some (.int x)) h := RR.rt rfl rfl rfl
theorem r129_0 : RR S d 129 0 L st h Q = RR S d 129 1 L (.int 0 :: st) h Q := RR.icn (n := 0) rfl (by decide) rfl
theorem r129_1 {x : Int32} : RR S d 129 1 L (.int x :: st) h Q = RR S d 129 3 (ai_put 4 (.int x) L) st h Q := RR.do1 (3, ai_put 4 (.int x) L, st, h) rfl rfl rfl
theorem r129_3 : RR S d 129 3 L st h Q = kI (ai_look L 4) (fun x => RR S d 129 5 L (.int x :: st) h Q) := RR.ldi rfl rfl
theorem r129_5 : RR S d 129 5 L st h Q = kA (ai_look L 0) (fun x => RR S d 129 6 L (x :: st) h Q) := RR.lda_n rfl rfl rfl
theorem r129_6 {a : Nat} : RR S d 129 6 L (.ref a :: st) h Q = kO (ai_fld h a 10 14) (fun w => RR S d 129 9 L (w :: st) h Q) := RR.get rfl rfl rfl
theorem r129_9 : RR S d 129 9 L st h Q = RR S d 129 10 L (.int 3 :: st) h Q := RR.icn (n := 3) rfl (by decide) rfl
theorem r129_10 : RR S d 129 10 L st h Q = kI (ai_look L 1) (fun x => RR S d 129 11 L (.int x :: st) h Q) := RR.ldi_n rfl rfl rfl
theorem r129_11 {x y : Int32} : RR S d 129 11 L (.int y :: .int x :: st) h Q = RR S d 129 12 L (.int (x * y) :: st) h Q := RR.do1 (12, L, .int (x * y) :: st, h) rfl rfl rfl
theorem r129_12 : RR S d 129 12 L st h Q = kI (ai_look L 2) (fun x => RR S d 129 13 L (.int x :: st) h Q) := RR.ldi_n rfl rfl rfl
theorem r129_13 {x y : Int32} : RR S d 129 13 L (.int y :: .int x :: st) h Q = RR S d 129 14 L (.int (x + y) :: st) h Q := RR.do1 (14, L, .int (x + y) :: st, h) rfl rfl rfl
theorem r129_14 {x : Int32} {a : Nat} : RR S d 129 14 L (.int x :: .ref a :: st) h Q = kO (ai_arr h a 0) (fun q => kB (ai_in x q.1) (RR S d 129 15 L (.int (q.2 x.toNatClampNeg) :: st) h Q)) := RR.ial rfl rfl
theorem r129_15 {x y : Int32} : RR S d 129 15 L (.int y :: .int x :: st) h Q = if y ≤ x then RR S d 129 152 L st h Q else RR S d 129 18 L st h Q := RR.b2 (c := .ge) (off := 137) rfl rfl (by decide) rfl
theorem r129_18 : RR S d 129 18 L st h Q = kA (ai_look L 0) (fun x => RR S d 129 19 L (x :: st) h Q) := RR.lda_n rfl rfl rfl
theorem r129_19 {a : Nat} : RR S d 129 19 L (.ref a :: st) h Q = kO (ai_fld h a 10 15) (fun w => RR S d 129 22 L (w :: st) h Q) := RR.get rfl rfl rfl
theorem r129_22 : RR S d 129 22 L st h Q = RR S d 129 23 L (.int 4 :: st) h Q := RR.icn (n := 4) rfl (by decide) rfl
theorem r129_23 : RR S d 129 23 L st h Q = RR S d 129 24 L (.int 3 :: st) h Q := RR.icn (n := 3) rfl (by decide) rfl
theorem r129_24 : RR S d 129 24 L st h Q = kI (ai_look L 1) (fun x => RR S d 129 25 L (.int x :: st) h Q) := RR.ldi_n rfl rfl rfl
theorem r129_25 {x y : Int32} : RR S d 129 25 L (.int y :: .int x :: st) h Q = RR S d 129 26 L (.int (x * y) :: st) h Q := RR.do1 (26, L, .int (x * y) :: st, h) rfl rfl rfl
theorem r129_26 : RR S d 129 26 L st h Q = kI (ai_look L 2) (fun x => RR S d 129 27 L (.int x :: st) h Q) := RR.ldi_n rfl rfl rfl
theorem r129_27 {x y : Int32} : RR S d 129 27 L (.int y :: .int x :: st) h Q = RR S d 129 28 L (.int (x + y) :: st) h Q := RR.do1 (28, L, .int (x + y) :: st, h) rfl rfl rfl
theorem r129_28 {x y : Int32} : RR S d 129 28 L (.int y :: .int x :: st) h Q = RR S d 129 29 L (.int (x * y) :: st) h Q := RR.do1 (29, L, .int (x * y) :: st, h) rfl rfl rfl
theorem r129_29 : RR S d 129 29 L st h Q = kI (ai_look L 4) (fun x => RR S d 129 31 L (.int x :: st) h Q) := RR.ldi rfl rfl
theorem r129_31 {x y : Int32} : RR S d 129 31 L (.int y :: .int x :: st) h Q = RR S d 129 32 L (.int (x + y) :: st) h Q := RR.do1 (32, L, .int (x + y) :: st, h) rfl rfl rfl
theorem r129_32 {x : Int32} {a : Nat} : RR S d 129 32 L (.int x :: .ref a :: st) h Q = kO (ai_arr h a 0) (fun q => kB (ai_in x q.1) (RR S d 129 33 L (.int (q.2 x.toNatClampNeg) :: st) h Q)) := RR.ial rfl rfl
theorem r129_33 {x : Int32} : RR S d 129 33 L (.int x :: st) h Q = RR S d 129 35 (ai_put 5 (.int x) L) st h Q := RR.do1 (35, ai_put 5 (.int x) L, st, h) rfl rfl rfl
theorem r129_35 : RR S d 129 35 L st h Q = kA (ai_look L 0) (fun x => RR S d 129 36 L (x :: st) h Q) := RR.lda_n rfl rfl rfl
theorem r129_36 {a : Nat} : RR S d 129 36 L (.ref a :: st) h Q = kO (ai_fld h a 10 11) (fun w => RR S d 129 39 L (w :: st) h Q) := RR.get rfl rfl rfl
theorem r129_39 : RR S d 129 39 L st h Q = kI (ai_look L 1) (fun x => RR S d 129 40 L (.int x :: st) h Q) := RR.ldi_n rfl rfl rfl
theorem r129_40 {x : Int32} {a : Nat} : RR S d 129 40 L (.int x :: .ref a :: st) h Q = kO (ai_arr h a 0) (fun q => kB (ai_in x q.1) (RR S d 129 41 L (.int (q.2 x.toNatClampNeg) :: st) h Q)) := RR.ial rfl rfl
theorem r129_41 : RR S d 129 41 L st h Q = kA (ai_look L 0) (fun x => RR S d 129 42 L (x :: st) h Q) := RR.lda_n rfl rfl rfl
theorem r129_42 {a : Nat} : RR S d 129 42 L (.ref a :: st) h Q = kO (ai_fld h a 10 7) (fun w => RR S d 129 45 L (w :: st) h Q) := RR.get rfl rfl rfl
theorem r129_45 : RR S d 129 45 L st h Q = kI (ai_look L 5) (fun x => RR S d 129 47 L (.int x :: st) h Q) := RR.ldi rfl rfl
theorem r129_47 {x : Int32} {a : Nat} : RR S d 129 47 L (.int x :: .ref a :: st) h Q = kO (ai_arr h a 0) (fun q => kB (ai_in x q.1) (RR S d 129 48 L (.int (q.2 x.toNatClampNeg) :: st) h Q)) := RR.ial rfl rfl
theorem r129_48 {x y : Int32} : RR S d 129 48 L (.int y :: .int x :: st) h Q = RR S d 129 49 L (.int (x * y) :: st) h Q := RR.do1 (49, L, .int (x * y) :: st, h) rfl rfl rfl
theorem r129_49 {x : Int32} : RR S d 129 49 L (.int x :: st) h Q = RR S d 129 51 (ai_put 6 (.int x) L) st h Q := RR.do1 (51, ai_put 6 (.int x) L, st, h) rfl rfl rfl
theorem r129_51 : RR S d 129 51 L st h Q = kI (ai_look L 6) (fun x => RR S d 129 53 L (.int x :: st) h Q) := RR.ldi rfl rfl
theorem r129_53 : RR S d 129 53 L st h Q = kA (ai_look L 0) (fun x => RR S d 129 54 L (x :: st) h Q) := RR.lda_n rfl rfl rfl
theorem r129_54 {a : Nat} : RR S d 129 54 L (.ref a :: st) h Q = kO (ai_fld h a 10 12) (fun w => RR S d 129 57 L (w :: st) h Q) := RR.get rfl rfl rfl
theorem r129_57 : RR S d 129 57 L st h Q = kI (ai_look L 1) (fun x => RR S d 129 58 L (.int x :: st) h Q) := RR.ldi_n rfl rfl rfl
theorem r129_58 {x : Int32} {a : Nat} : RR S d 129 58 L (.int x :: .ref a :: st) h Q = kO (ai_arr h a 0) (fun q => kB (ai_in x q.1) (RR S d 129 59 L (.int (q.2 x.toNatClampNeg) :: st) h Q)) := RR.ial rfl rfl
theorem r129_59 {x y : Int32} : RR S d 129 59 L (.int y :: .int x :: st) h Q = if x ≤ y then RR S d 129 64 L st h Q else RR S d 129 62 L st h Q := RR.b2 (c := .le) (off := 5) rfl rfl (by decide) rfl
theorem r129_62 : RR S d 129 62 L st h Q = RR S d 129 63 L (.int 1 :: st) h Q := RR.icn (n := 1) rfl (by decide) rfl
theorem r129_63f : RR S d 129 63 L [.int 0] h Q = Q (some (.int 0)) h := RR.zrt rfl rfl (by decide)
theorem r129_63t : RR S d 129 63 L [.int 1] h Q = Q (some (.int 1)) h := RR.zrt rfl rfl (by decide)
theorem r129_64 : RR S d 129 64 L st h Q = kA (ai_look L 0) (fun x => RR S d 129 65 L (x :: st) h Q) := RR.lda_n rfl rfl rfl
theorem r129_65 : RR S d 129 65 L st h Q = kI (ai_look L 1) (fun x => RR S d 129 66 L (.int x :: st) h Q) := RR.ldi_n rfl rfl rfl
theorem r129_66 : RR S d 129 66 L st h Q = kI (ai_look L 2) (fun x => RR S d 129 67 L (.int x :: st) h Q) := RR.ldi_n rfl rfl rfl
theorem r129_67 : RR S d 129 67 L st h Q = kI (ai_look L 3) (fun x => RR S d 129 68 L (.int x :: st) h Q) := RR.ldi_n rfl rfl rfl
theorem r129_68 : RR S d 129 68 L st h Q = kI (ai_look L 4) (fun x => RR S d 129 70 L (.int x :: st) h Q) := RR.ldi rfl rfl
theorem r129_70 {p0 : Int32} {p1 : Int32} {p2 : Int32} {p3 : Int32} {a : Nat} : RR S (d + 1) 129 70 L (.int p3 :: .int p2 :: .int p1 :: .int p0 :: .ref a :: st) h Q = kB (decide (ai_sum st ≤ 8)) (kB ((ai_obj h a 10).isSome) (RR S d 128 0 [(0, .ref a), (1, .int p0), (2, .int p1), (3, .int p2), (4, .int p3)] [] h (fun r h1 => RR S (d + 1) 129 73 L (r.toList ++ st) h1 Q))) := RR.cv (j := 162) (mn' := 128) (n := 4) rfl rfl rfl rfl rfl rfl
theorem r129_73 {x : Int32} : RR S d 129 73 L (.int x :: st) h Q = RR S d 129 75 (ai_put 7 (.int x) L) st h Q := RR.do1 (75, ai_put 7 (.int x) L, st, h) rfl rfl rfl
theorem r129_75 : RR S d 129 75 L st h Q = RR S d 129 76 L (.int 0 :: st) h Q := RR.icn (n := 0) rfl (by decide) rfl
theorem r129_76 {x : Int32} : RR S d 129 76 L (.int x :: st) h Q = RR S d 129 78 (ai_put 8 (.int x) L) st h Q := RR.do1 (78, ai_put 8 (.int x) L, st, h) rfl rfl rfl
theorem r129_78 : RR S d 129 78 L st h Q = kI (ai_look L 8) (fun x => RR S d 129 80 L (.int x :: st) h Q) := RR.ldi rfl rfl
theorem r129_80 : RR S d 129 80 L st h Q = kA (ai_look L 0) (fun x => RR S d 129 81 L (x :: st) h Q) := RR.lda_n rfl rfl rfl
theorem r129_81 {a : Nat} : RR S d 129 81 L (.ref a :: st) h Q = kO (ai_fld h a 10 8) (fun w => RR S d 129 84 L (w :: st) h Q) := RR.get rfl rfl rfl
theorem r129_84 {x y : Int32} : RR S d 129 84 L (.int y :: .int x :: st) h Q = if y ≤ x then RR S d 129 146 L st h Q else RR S d 129 87 L st h Q := RR.b2 (c := .ge) (off := 62) rfl rfl (by decide) rfl
theorem r129_87 : RR S d 129 87 L st h Q = RR S d 129 88 L (.int 0 :: st) h Q := RR.icn (n := 0) rfl (by decide) rfl
theorem r129_88 {x : Int32} : RR S d 129 88 L (.int x :: st) h Q = RR S d 129 90 (ai_put 9 (.int x) L) st h Q := RR.do1 (90, ai_put 9 (.int x) L, st, h) rfl rfl rfl
theorem r129_90 : RR S d 129 90 L st h Q = kI (ai_look L 9) (fun x => RR S d 129 92 L (.int x :: st) h Q) := RR.ldi rfl rfl
theorem r129_92 : RR S d 129 92 L st h Q = kI (ai_look L 6) (fun x => RR S d 129 94 L (.int x :: st) h Q) := RR.ldi rfl rfl
theorem r129_94 {x y : Int32} : RR S d 129 94 L (.int y :: .int x :: st) h Q = if y ≤ x then RR S d 129 132 L st h Q else RR S d 129 97 L st h Q := RR.b2 (c := .ge) (off := 38) rfl rfl (by decide) rfl
theorem r129_97 : RR S d 129 97 L st h Q = kA (ai_look L 0) (fun x => RR S d 129 98 L (x :: st) h Q) := RR.lda_n rfl rfl rfl
theorem r129_98 {a : Nat} : RR S d 129 98 L (.ref a :: st) h Q = kO (ai_fld h a 10 21) (fun w => RR S d 129 101 L (w :: st) h Q) := RR.get rfl rfl rfl
theorem r129_101 : RR S d 129 101 L st h Q = RR S d 129 103 L (.int 120 :: st) h Q := RR.bip (n := 120) rfl (by decide) rfl
theorem r129_103 : RR S d 129 103 L st h Q = kI (ai_look L 5) (fun x => RR S d 129 105 L (.int x :: st) h Q) := RR.ldi rfl rfl
theorem r129_105 {x y : Int32} : RR S d 129 105 L (.int y :: .int x :: st) h Q = RR S d 129 106 L (.int (x * y) :: st) h Q := RR.do1 (106, L, .int (x * y) :: st, h) rfl rfl rfl
theorem r129_106 : RR S d 129 106 L st h Q = kI (ai_look L 7) (fun x => RR S d 129 108 L (.int x :: st) h Q) := RR.ldi rfl rfl
theorem r129_108 : RR S d 129 108 L st h Q = kI (ai_look L 8) (fun x => RR S d 129 110 L (.int x :: st) h Q) := RR.ldi rfl rfl
theorem r129_110 {x y : Int32} : RR S d 129 110 L (.int y :: .int x :: st) h Q = RR S d 129 111 L (.int (x + y) :: st) h Q := RR.do1 (111, L, .int (x + y) :: st, h) rfl rfl rfl
theorem r129_111 : RR S d 129 111 L st h Q = kI (ai_look L 9) (fun x => RR S d 129 113 L (.int x :: st) h Q) := RR.ldi rfl rfl
theorem r129_113 {x y : Int32} : RR S d 129 113 L (.int y :: .int x :: st) h Q = RR S d 129 114 L (.int (x + y) :: st) h Q := RR.do1 (114, L, .int (x + y) :: st, h) rfl rfl rfl
theorem r129_114 : RR S d 129 114 L st h Q = kA (ai_look L 0) (fun x => RR S d 129 115 L (x :: st) h Q) := RR.lda_n rfl rfl rfl
theorem r129_115 {a : Nat} : RR S d 129 115 L (.ref a :: st) h Q = kO (ai_fld h a 10 8) (fun w => RR S d 129 118 L (w :: st) h Q) := RR.get rfl rfl rfl
theorem r129_118 {x y : Int32} : RR S d 129 118 L (.int y :: .int x :: st) h Q = kB (decide (¬ y = 0)) (RR S d 129 119 L (.int (x - x / y * y) :: st) h Q) := RR.irem rfl rfl
theorem r129_119 {x y : Int32} : RR S d 129 119 L (.int y :: .int x :: st) h Q = RR S d 129 120 L (.int (x + y) :: st) h Q := RR.do1 (120, L, .int (x + y) :: st, h) rfl rfl rfl
theorem r129_120 {x : Int32} {a : Nat} : RR S d 129 120 L (.int x :: .ref a :: st) h Q = kO (ai_arr h a 0) (fun q => kB (ai_in x q.1) (RR S d 129 121 L (.int (q.2 x.toNatClampNeg) :: st) h Q)) := RR.ial rfl rfl
theorem r129_121 {x : Int32} : RR S d 129 121 L (.int x :: st) h Q = if x = 0 then RR S d 129 126 L st h Q else RR S d 129 124 L st h Q := RR.b1 (c := .eq) (off := 5) rfl rfl (by decide) rfl
theorem r129_124 : RR S d 129 124 L st h Q = RR S d 129 125 L (.int 1 :: st) h Q := RR.icn (n := 1) rfl (by decide) rfl
theorem r129_125f : RR S d 129 125 L [.int 0] h Q = Q (some (.int 0)) h := RR.zrt rfl rfl (by decide)
theorem r129_125t : RR S d 129 125 L [.int 1] h Q = Q (some (.int 1)) h := RR.zrt rfl rfl (by decide)
theorem r129_126 : RR S d 129 126 L st h Q = kI (ai_look L 9) (fun x => RR S d 129 129 (ai_put 9 (.int (x + 1)) L) st h Q) := RR.iinc (k := 9) (n := 1) rfl (by decide) (by decide) rfl
theorem r129_129 : RR S d 129 129 L st h Q = RR S d 129 90 L st h Q := RR.jmp (off := (-39)) rfl (by decide)
theorem r129_132 : RR S d 129 132 L st h Q = kI (ai_look L 8) (fun x => RR S d 129 134 L (.int x :: st) h Q) := RR.ldi rfl rfl
theorem r129_134 : RR S d 129 134 L st h Q = kA (ai_look L 0) (fun x => RR S d 129 135 L (x :: st) h Q) := RR.lda_n rfl rfl rfl
theorem r129_135 {a : Nat} : RR S d 129 135 L (.ref a :: st) h Q = kO (ai_fld h a 10 12) (fun w => RR S d 129 138 L (w :: st) h Q) := RR.get rfl rfl rfl
theorem r129_138 : RR S d 129 138 L st h Q = kI (ai_look L 1) (fun x => RR S d 129 139 L (.int x :: st) h Q) := RR.ldi_n rfl rfl rfl
theorem r129_139 {x : Int32} {a : Nat} : RR S d 129 139 L (.int x :: .ref a :: st) h Q = kO (ai_arr h a 0) (fun q => kB (ai_in x q.1) (RR S d 129 140 L (.int (q.2 x.toNatClampNeg) :: st) h Q)) := RR.ial rfl rfl
theorem r129_140 {x y : Int32} : RR S d 129 140 L (.int y :: .int x :: st) h Q = RR S d 129 141 L (.int (x + y) :: st) h Q := RR.do1 (141, L, .int (x + y) :: st, h) rfl rfl rfl
theorem r129_141 {x : Int32} : RR S d 129 141 L (.int x :: st) h Q = RR S d 129 143 (ai_put 8 (.int x) L) st h Q := RR.do1 (143, ai_put 8 (.int x) L, st, h) rfl rfl rfl
theorem r129_143 : RR S d 129 143 L st h Q = RR S d 129 78 L st h Q := RR.jmp (off := (-65)) rfl (by decide)
theorem r129_146 : RR S d 129 146 L st h Q = kI (ai_look L 4) (fun x => RR S d 129 149 (ai_put 4 (.int (x + 1)) L) st h Q) := RR.iinc (k := 4) (n := 1) rfl (by decide) (by decide) rfl
theorem r129_149 : RR S d 129 149 L st h Q = RR S d 129 3 L st h Q := RR.jmp (off := (-146)) rfl (by decide)
theorem r129_152 : RR S d 129 152 L st h Q = RR S d 129 153 L (.int 0 :: st) h Q := RR.icn (n := 0) rfl (by decide) rfl
theorem r129_153f : RR S d 129 153 L [.int 0] h Q = Q (some (.int 0)) h := RR.zrt rfl rfl (by decide)
theorem r129_153t : RR S d 129 153 L [.int 1] h Q = Q (some (.int 1)) h := RR.zrt rfl rfl (by decide)
theorem r130_0 : RR S d 130 0 L st h Q = RR S d 130 1 L (.int 0 :: st) h Q := RR.icn (n := 0) rfl (by decide) rfl
theorem r130_1 {x : Int32} : RR S d 130 1 L (.int x :: st) h Q = RR S d 130 3 (ai_put 5 (.int x) L) st h Q := RR.do1 (3, ai_put 5 (.int x) L, st, h) rfl rfl rfl
theorem r130_3 : RR S d 130 3 L st h Q = kI (ai_look L 5) (fun x => RR S d 130 5 L (.int x :: st) h Q) := RR.ldi rfl rfl
theorem r130_5 : RR S d 130 5 L st h Q = kA (ai_look L 0) (fun x => RR S d 130 6 L (x :: st) h Q) := RR.lda_n rfl rfl rfl
theorem r130_6 {a : Nat} : RR S d 130 6 L (.ref a :: st) h Q = kO (ai_fld h a 10 14) (fun w => RR S d 130 9 L (w :: st) h Q) := RR.get rfl rfl rfl
theorem r130_9 : RR S d 130 9 L st h Q = RR S d 130 10 L (.int 3 :: st) h Q := RR.icn (n := 3) rfl (by decide) rfl
theorem r130_10 : RR S d 130 10 L st h Q = kI (ai_look L 1) (fun x => RR S d 130 11 L (.int x :: st) h Q) := RR.ldi_n rfl rfl rfl
theorem r130_11 {x y : Int32} : RR S d 130 11 L (.int y :: .int x :: st) h Q = RR S d 130 12 L (.int (x * y) :: st) h Q := RR.do1 (12, L, .int (x * y) :: st, h) rfl rfl rfl
theorem r130_12 : RR S d 130 12 L st h Q = kI (ai_look L 2) (fun x => RR S d 130 13 L (.int x :: st) h Q) := RR.ldi_n rfl rfl rfl
theorem r130_13 {x y : Int32} : RR S d 130 13 L (.int y :: .int x :: st) h Q = RR S d 130 14 L (.int (x + y) :: st) h Q := RR.do1 (14, L, .int (x + y) :: st, h) rfl rfl rfl
theorem r130_14 {x : Int32} {a : Nat} : RR S d 130 14 L (.int x :: .ref a :: st) h Q = kO (ai_arr h a 0) (fun q => kB (ai_in x q.1) (RR S d 130 15 L (.int (q.2 x.toNatClampNeg) :: st) h Q)) := RR.ial rfl rfl
theorem r130_15 {x y : Int32} : RR S d 130 15 L (.int y :: .int x :: st) h Q = if y ≤ x then RR S d 130 132 L st h Q else RR S d 130 18 L st h Q := RR.b2 (c := .ge) (off := 117) rfl rfl (by decide) rfl
theorem r130_18 : RR S d 130 18 L st h Q = kA (ai_look L 0) (fun x => RR S d 130 19 L (x :: st) h Q) := RR.lda_n rfl rfl rfl
theorem r130_19 {a : Nat} : RR S d 130 19 L (.ref a :: st) h Q = kO (ai_fld h a 10 15) (fun w => RR S d 130 22 L (w :: st) h Q) := RR.get rfl rfl rfl
theorem r130_22 : RR S d 130 22 L st h Q = RR S d 130 23 L (.int 4 :: st) h Q := RR.icn (n := 4) rfl (by decide) rfl
theorem r130_23 : RR S d 130 23 L st h Q = RR S d 130 24 L (.int 3 :: st) h Q := RR.icn (n := 3) rfl (by decide) rfl
theorem r130_24 : RR S d 130 24 L st h Q = kI (ai_look L 1) (fun x => RR S d 130 25 L (.int x :: st) h Q) := RR.ldi_n rfl rfl rfl
theorem r130_25 {x y : Int32} : RR S d 130 25 L (.int y :: .int x :: st) h Q = RR S d 130 26 L (.int (x * y) :: st) h Q := RR.do1 (26, L, .int (x * y) :: st, h) rfl rfl rfl
theorem r130_26 : RR S d 130 26 L st h Q = kI (ai_look L 2) (fun x => RR S d 130 27 L (.int x :: st) h Q) := RR.ldi_n rfl rfl rfl
theorem r130_27 {x y : Int32} : RR S d 130 27 L (.int y :: .int x :: st) h Q = RR S d 130 28 L (.int (x + y) :: st) h Q := RR.do1 (28, L, .int (x + y) :: st, h) rfl rfl rfl
theorem r130_28 {x y : Int32} : RR S d 130 28 L (.int y :: .int x :: st) h Q = RR S d 130 29 L (.int (x * y) :: st) h Q := RR.do1 (29, L, .int (x * y) :: st, h) rfl rfl rfl
theorem r130_29 : RR S d 130 29 L st h Q = kI (ai_look L 5) (fun x => RR S d 130 31 L (.int x :: st) h Q) := RR.ldi rfl rfl
theorem r130_31 {x y : Int32} : RR S d 130 31 L (.int y :: .int x :: st) h Q = RR S d 130 32 L (.int (x + y) :: st) h Q := RR.do1 (32, L, .int (x + y) :: st, h) rfl rfl rfl
theorem r130_32 {x : Int32} {a : Nat} : RR S d 130 32 L (.int x :: .ref a :: st) h Q = kO (ai_arr h a 0) (fun q => kB (ai_in x q.1) (RR S d 130 33 L (.int (q.2 x.toNatClampNeg) :: st) h Q)) := RR.ial rfl rfl
theorem r130_33 {x : Int32} : RR S d 130 33 L (.int x :: st) h Q = RR S d 130 35 (ai_put 6 (.int x) L) st h Q := RR.do1 (35, ai_put 6 (.int x) L, st, h) rfl rfl rfl
theorem r130_35 : RR S d 130 35 L st h Q = kA (ai_look L 0) (fun x => RR S d 130 36 L (x :: st) h Q) := RR.lda_n rfl rfl rfl
theorem r130_36 : RR S d 130 36 L st h Q = kI (ai_look L 1) (fun x => RR S d 130 37 L (.int x :: st) h Q) := RR.ldi_n rfl rfl rfl
theorem r130_37 : RR S d 130 37 L st h Q = kI (ai_look L 2) (fun x => RR S d 130 38 L (.int x :: st) h Q) := RR.ldi_n rfl rfl rfl
theorem r130_38 : RR S d 130 38 L st h Q = kI (ai_look L 3) (fun x => RR S d 130 39 L (.int x :: st) h Q) := RR.ldi_n rfl rfl rfl
theorem r130_39 : RR S d 130 39 L st h Q = kI (ai_look L 5) (fun x => RR S d 130 41 L (.int x :: st) h Q) := RR.ldi rfl rfl
theorem r130_41 {p0 : Int32} {p1 : Int32} {p2 : Int32} {p3 : Int32} {a : Nat} : RR S (d + 1) 130 41 L (.int p3 :: .int p2 :: .int p1 :: .int p0 :: .ref a :: st) h Q = kB (decide (ai_sum st ≤ 8)) (kB ((ai_obj h a 10).isSome) (RR S d 128 0 [(0, .ref a), (1, .int p0), (2, .int p1), (3, .int p2), (4, .int p3)] [] h (fun r h1 => RR S (d + 1) 130 44 L (r.toList ++ st) h1 Q))) := RR.cv (j := 162) (mn' := 128) (n := 4) rfl rfl rfl rfl rfl rfl
theorem r130_44 {x : Int32} : RR S d 130 44 L (.int x :: st) h Q = RR S d 130 46 (ai_put 7 (.int x) L) st h Q := RR.do1 (46, ai_put 7 (.int x) L, st, h) rfl rfl rfl
theorem r130_46 : RR S d 130 46 L st h Q = RR S d 130 47 L (.int 0 :: st) h Q := RR.icn (n := 0) rfl (by decide) rfl
theorem r130_47 {x : Int32} : RR S d 130 47 L (.int x :: st) h Q = RR S d 130 49 (ai_put 8 (.int x) L) st h Q := RR.do1 (49, ai_put 8 (.int x) L, st, h) rfl rfl rfl
theorem r130_49 : RR S d 130 49 L st h Q = kI (ai_look L 8) (fun x => RR S d 130 51 L (.int x :: st) h Q) := RR.ldi rfl rfl
theorem r130_51 : RR S d 130 51 L st h Q = kA (ai_look L 0) (fun x => RR S d 130 52 L (x :: st) h Q) := RR.lda_n rfl rfl rfl
theorem r130_52 {a : Nat} : RR S d 130 52 L (.ref a :: st) h Q = kO (ai_fld h a 10 8) (fun w => RR S d 130 55 L (w :: st) h Q) := RR.get rfl rfl rfl
theorem r130_55 {x y : Int32} : RR S d 130 55 L (.int y :: .int x :: st) h Q = if y ≤ x then RR S d 130 126 L st h Q else RR S d 130 58 L st h Q := RR.b2 (c := .ge) (off := 71) rfl rfl (by decide) rfl
theorem r130_58 : RR S d 130 58 L st h Q = RR S d 130 59 L (.int 0 :: st) h Q := RR.icn (n := 0) rfl (by decide) rfl
theorem r130_59 {x : Int32} : RR S d 130 59 L (.int x :: st) h Q = RR S d 130 61 (ai_put 9 (.int x) L) st h Q := RR.do1 (61, ai_put 9 (.int x) L, st, h) rfl rfl rfl
theorem r130_61 : RR S d 130 61 L st h Q = kI (ai_look L 9) (fun x => RR S d 130 63 L (.int x :: st) h Q) := RR.ldi rfl rfl
theorem r130_63 : RR S d 130 63 L st h Q = kA (ai_look L 0) (fun x => RR S d 130 64 L (x :: st) h Q) := RR.lda_n rfl rfl rfl
theorem r130_64 {a : Nat} : RR S d 130 64 L (.ref a :: st) h Q = kO (ai_fld h a 10 11) (fun w => RR S d 130 67 L (w :: st) h Q) := RR.get rfl rfl rfl
theorem r130_67 : RR S d 130 67 L st h Q = kI (ai_look L 1) (fun x => RR S d 130 68 L (.int x :: st) h Q) := RR.ldi_n rfl rfl rfl
theorem r130_68 {x : Int32} {a : Nat} : RR S d 130 68 L (.int x :: .ref a :: st) h Q = kO (ai_arr h a 0) (fun q => kB (ai_in x q.1) (RR S d 130 69 L (.int (q.2 x.toNatClampNeg) :: st) h Q)) := RR.ial rfl rfl
theorem r130_69 : RR S d 130 69 L st h Q = kA (ai_look L 0) (fun x => RR S d 130 70 L (x :: st) h Q) := RR.lda_n rfl rfl rfl
theorem r130_70 {a : Nat} : RR S d 130 70 L (.ref a :: st) h Q = kO (ai_fld h a 10 7) (fun w => RR S d 130 73 L (w :: st) h Q) := RR.get rfl rfl rfl
theorem r130_73 : RR S d 130 73 L st h Q = kI (ai_look L 6) (fun x => RR S d 130 75 L (.int x :: st) h Q) := RR.ldi rfl rfl
theorem r130_75 {x : Int32} {a : Nat} : RR S d 130 75 L (.int x :: .ref a :: st) h Q = kO (ai_arr h a 0) (fun q => kB (ai_in x q.1) (RR S d 130 76 L (.int (q.2 x.toNatClampNeg) :: st) h Q)) := RR.ial rfl rfl
theorem r130_76 {x y : Int32} : RR S d 130 76 L (.int y :: .int x :: st) h Q = RR S d 130 77 L (.int (x * y) :: st) h Q := RR.do1 (77, L, .int (x * y) :: st, h) rfl rfl rfl
theorem r130_77 {x y : Int32} : RR S d 130 77 L (.int y :: .int x :: st) h Q = if y ≤ x then RR S d 130 112 L st h Q else RR S d 130 80 L st h Q := RR.b2 (c := .ge) (off := 35) rfl rfl (by decide) rfl
theorem r130_80 : RR S d 130 80 L st h Q = kA (ai_look L 0) (fun x => RR S d 130 81 L (x :: st) h Q) := RR.lda_n rfl rfl rfl
theorem r130_81 {a : Nat} : RR S d 130 81 L (.ref a :: st) h Q = kO (ai_fld h a 10 21) (fun w => RR S d 130 84 L (w :: st) h Q) := RR.get rfl rfl rfl
theorem r130_84 : RR S d 130 84 L st h Q = RR S d 130 86 L (.int 120 :: st) h Q := RR.bip (n := 120) rfl (by decide) rfl
theorem r130_86 : RR S d 130 86 L st h Q = kI (ai_look L 6) (fun x => RR S d 130 88 L (.int x :: st) h Q) := RR.ldi rfl rfl
theorem r130_88 {x y : Int32} : RR S d 130 88 L (.int y :: .int x :: st) h Q = RR S d 130 89 L (.int (x * y) :: st) h Q := RR.do1 (89, L, .int (x * y) :: st, h) rfl rfl rfl
theorem r130_89 : RR S d 130 89 L st h Q = kI (ai_look L 7) (fun x => RR S d 130 91 L (.int x :: st) h Q) := RR.ldi rfl rfl
theorem r130_91 : RR S d 130 91 L st h Q = kI (ai_look L 8) (fun x => RR S d 130 93 L (.int x :: st) h Q) := RR.ldi rfl rfl
theorem r130_93 {x y : Int32} : RR S d 130 93 L (.int y :: .int x :: st) h Q = RR S d 130 94 L (.int (x + y) :: st) h Q := RR.do1 (94, L, .int (x + y) :: st, h) rfl rfl rfl
theorem r130_94 : RR S d 130 94 L st h Q = kI (ai_look L 9) (fun x => RR S d 130 96 L (.int x :: st) h Q) := RR.ldi rfl rfl
theorem r130_96 {x y : Int32} : RR S d 130 96 L (.int y :: .int x :: st) h Q = RR S d 130 97 L (.int (x + y) :: st) h Q := RR.do1 (97, L, .int (x + y) :: st, h) rfl rfl rfl
theorem r130_97 : RR S d 130 97 L st h Q = kA (ai_look L 0) (fun x => RR S d 130 98 L (x :: st) h Q) := RR.lda_n rfl rfl rfl
theorem r130_98 {a : Nat} : RR S d 130 98 L (.ref a :: st) h Q = kO (ai_fld h a 10 8) (fun w => RR S d 130 101 L (w :: st) h Q) := RR.get rfl rfl rfl
theorem r130_101 {x y : Int32} : RR S d 130 101 L (.int y :: .int x :: st) h Q = kB (decide (¬ y = 0)) (RR S d 130 102 L (.int (x - x / y * y) :: st) h Q) := RR.irem rfl rfl
theorem r130_102 {x y : Int32} : RR S d 130 102 L (.int y :: .int x :: st) h Q = RR S d 130 103 L (.int (x + y) :: st) h Q := RR.do1 (103, L, .int (x + y) :: st, h) rfl rfl rfl
theorem r130_103 : RR S d 130 103 L st h Q = kI (ai_look L 4) (fun x => RR S d 130 105 L (.int x :: st) h Q) := RR.ldi rfl rfl
theorem r130_105 {x y : Int32} {a : Nat} : RR S d 130 105 L (.int y :: .int x :: .ref a :: st) h Q = kO (ai_arr h a 0) (fun q => kB (ai_in x q.1) (RR S d 130 106 L st (h.1.set a (.inl (0, q.1, .inl (upd q.2 x.toNatClampNeg y))), h.2) Q)) := RR.ias rfl rfl
theorem r130_106 : RR S d 130 106 L st h Q = kI (ai_look L 9) (fun x => RR S d 130 109 (ai_put 9 (.int (x + 1)) L) st h Q) := RR.iinc (k := 9) (n := 1) rfl (by decide) (by decide) rfl
theorem r130_109 : RR S d 130 109 L st h Q = RR S d 130 61 L st h Q := RR.jmp (off := (-48)) rfl (by decide)
theorem r130_112 : RR S d 130 112 L st h Q = kI (ai_look L 8) (fun x => RR S d 130 114 L (.int x :: st) h Q) := RR.ldi rfl rfl
theorem r130_114 : RR S d 130 114 L st h Q = kA (ai_look L 0) (fun x => RR S d 130 115 L (x :: st) h Q) := RR.lda_n rfl rfl rfl
theorem r130_115 {a : Nat} : RR S d 130 115 L (.ref a :: st) h Q = kO (ai_fld h a 10 12) (fun w => RR S d 130 118 L (w :: st) h Q) := RR.get rfl rfl rfl
theorem r130_118 : RR S d 130 118 L st h Q = kI (ai_look L 1) (fun x => RR S d 130 119 L (.int x :: st) h Q) := RR.ldi_n rfl rfl rfl
theorem r130_119 {x : Int32} {a : Nat} : RR S d 130 119 L (.int x :: .ref a :: st) h Q = kO (ai_arr h a 0) (fun q => kB (ai_in x q.1) (RR S d 130 120 L (.int (q.2 x.toNatClampNeg) :: st) h Q)) := RR.ial rfl rfl
theorem r130_120 {x y : Int32} : RR S d 130 120 L (.int y :: .int x :: st) h Q = RR S d 130 121 L (.int (x + y) :: st) h Q := RR.do1 (121, L, .int (x + y) :: st, h) rfl rfl rfl
theorem r130_121 {x : Int32} : RR S d 130 121 L (.int x :: st) h Q = RR S d 130 123 (ai_put 8 (.int x) L) st h Q := RR.do1 (123, ai_put 8 (.int x) L, st, h) rfl rfl rfl
theorem r130_123 : RR S d 130 123 L st h Q = RR S d 130 49 L st h Q := RR.jmp (off := (-74)) rfl (by decide)
theorem r130_126 : RR S d 130 126 L st h Q = kI (ai_look L 5) (fun x => RR S d 130 129 (ai_put 5 (.int (x + 1)) L) st h Q) := RR.iinc (k := 5) (n := 1) rfl (by decide) (by decide) rfl
theorem r130_129 : RR S d 130 129 L st h Q = RR S d 130 3 L st h Q := RR.jmp (off := (-126)) rfl (by decide)
theorem r130_132 : RR S d 130 132 L [] h Q = Q none h := RR.rt rfl rfl rfl
theorem r131_0 : RR S d 131 0 L st h Q = RR S d 131 1 L (.int 0 :: st) h Q := RR.icn (n := 0) rfl (by decide) rfl
theorem r131_1 {x : Int32} : RR S d 131 1 L (.int x :: st) h Q = RR S d 131 2 (ai_put 1 (.int x) L) st h Q := RR.do1 (2, ai_put 1 (.int x) L, st, h) rfl rfl rfl
theorem r131_2 : RR S d 131 2 L st h Q = kI (ai_look L 1) (fun x => RR S d 131 3 L (.int x :: st) h Q) := RR.ldi_n rfl rfl rfl
theorem r131_3 : RR S d 131 3 L st h Q = RR S d 131 6 L (.int 1440 :: st) h Q := RR.sip (n := 1440) rfl (by decide) rfl
theorem r131_6 {x y : Int32} : RR S d 131 6 L (.int y :: .int x :: st) h Q = if y ≤ x then RR S d 131 22 L st h Q else RR S d 131 9 L st h Q := RR.b2 (c := .ge) (off := 16) rfl rfl (by decide) rfl
theorem r131_9 : RR S d 131 9 L st h Q = kA (ai_look L 0) (fun x => RR S d 131 10 L (x :: st) h Q) := RR.lda_n rfl rfl rfl
theorem r131_10 {a : Nat} : RR S d 131 10 L (.ref a :: st) h Q = kO (ai_fld h a 10 21) (fun w => RR S d 131 13 L (w :: st) h Q) := RR.get rfl rfl rfl
theorem r131_13 : RR S d 131 13 L st h Q = kI (ai_look L 1) (fun x => RR S d 131 14 L (.int x :: st) h Q) := RR.ldi_n rfl rfl rfl
theorem r131_14 : RR S d 131 14 L st h Q = RR S d 131 15 L (.int 0 :: st) h Q := RR.icn (n := 0) rfl (by decide) rfl
theorem r131_15 {x y : Int32} {a : Nat} : RR S d 131 15 L (.int y :: .int x :: .ref a :: st) h Q = kO (ai_arr h a 0) (fun q => kB (ai_in x q.1) (RR S d 131 16 L st (h.1.set a (.inl (0, q.1, .inl (upd q.2 x.toNatClampNeg y))), h.2) Q)) := RR.ias rfl rfl
theorem r131_16 : RR S d 131 16 L st h Q = kI (ai_look L 1) (fun x => RR S d 131 19 (ai_put 1 (.int (x + 1)) L) st h Q) := RR.iinc (k := 1) (n := 1) rfl (by decide) (by decide) rfl
theorem r131_19 : RR S d 131 19 L st h Q = RR S d 131 2 L st h Q := RR.jmp (off := (-17)) rfl (by decide)
theorem r131_22 : RR S d 131 22 L st h Q = RR S d 131 23 L (.int 0 :: st) h Q := RR.icn (n := 0) rfl (by decide) rfl
theorem r131_23 {x : Int32} : RR S d 131 23 L (.int x :: st) h Q = RR S d 131 24 (ai_put 1 (.int x) L) st h Q := RR.do1 (24, ai_put 1 (.int x) L, st, h) rfl rfl rfl
theorem r131_24 : RR S d 131 24 L st h Q = kI (ai_look L 1) (fun x => RR S d 131 25 L (.int x :: st) h Q) := RR.ldi_n rfl rfl rfl
theorem r131_25 : RR S d 131 25 L st h Q = kA (ai_look L 0) (fun x => RR S d 131 26 L (x :: st) h Q) := RR.lda_n rfl rfl rfl
theorem r131_26 {a : Nat} : RR S d 131 26 L (.ref a :: st) h Q = kO (ai_fld h a 10 10) (fun w => RR S d 131 29 L (w :: st) h Q) := RR.get rfl rfl rfl
theorem r131_29 {x y : Int32} : RR S d 131 29 L (.int y :: .int x :: st) h Q = if y ≤ x then RR S d 131 67 L st h Q else RR S d 131 32 L st h Q := RR.b2 (c := .ge) (off := 38) rfl rfl (by decide) rfl
theorem r131_32 : RR S d 131 32 L st h Q = kA (ai_look L 0) (fun x => RR S d 131 33 L (x :: st) h Q) := RR.lda_n rfl rfl rfl
theorem r131_33 {a : Nat} : RR S d 131 33 L (.ref a :: st) h Q = kO (ai_fld h a 10 17) (fun w => RR S d 131 36 L (w :: st) h Q) := RR.get rfl rfl rfl
theorem r131_36 : RR S d 131 36 L st h Q = kI (ai_look L 1) (fun x => RR S d 131 37 L (.int x :: st) h Q) := RR.ldi_n rfl rfl rfl
theorem r131_37 {x : Int32} {a : Nat} : RR S d 131 37 L (.int x :: .ref a :: st) h Q = kO (ai_arr h a 1) (fun q => kB (ai_in x q.1) (RR S d 131 38 L (.int (q.2 x.toNatClampNeg) :: st) h Q)) := RR.bal rfl rfl
theorem r131_38 {x : Int32} : RR S d 131 38 L (.int x :: st) h Q = if x = 0 then RR S d 131 61 L st h Q else RR S d 131 41 L st h Q := RR.b1 (c := .eq) (off := 23) rfl rfl (by decide) rfl
theorem r131_41 : RR S d 131 41 L st h Q = kA (ai_look L 0) (fun x => RR S d 131 42 L (x :: st) h Q) := RR.lda_n rfl rfl rfl
theorem r131_42 : RR S d 131 42 L st h Q = kI (ai_look L 1) (fun x => RR S d 131 43 L (.int x :: st) h Q) := RR.ldi_n rfl rfl rfl
theorem r131_43 : RR S d 131 43 L st h Q = kA (ai_look L 0) (fun x => RR S d 131 44 L (x :: st) h Q) := RR.lda_n rfl rfl rfl
theorem r131_44 {a : Nat} : RR S d 131 44 L (.ref a :: st) h Q = kO (ai_fld h a 10 18) (fun w => RR S d 131 47 L (w :: st) h Q) := RR.get rfl rfl rfl
theorem r131_47 : RR S d 131 47 L st h Q = kI (ai_look L 1) (fun x => RR S d 131 48 L (.int x :: st) h Q) := RR.ldi_n rfl rfl rfl
theorem r131_48 {x : Int32} {a : Nat} : RR S d 131 48 L (.int x :: .ref a :: st) h Q = kO (ai_arr h a 0) (fun q => kB (ai_in x q.1) (RR S d 131 49 L (.int (q.2 x.toNatClampNeg) :: st) h Q)) := RR.ial rfl rfl
theorem r131_49 : RR S d 131 49 L st h Q = kA (ai_look L 0) (fun x => RR S d 131 50 L (x :: st) h Q) := RR.lda_n rfl rfl rfl
theorem r131_50 {a : Nat} : RR S d 131 50 L (.ref a :: st) h Q = kO (ai_fld h a 10 19) (fun w => RR S d 131 53 L (w :: st) h Q) := RR.get rfl rfl rfl
theorem r131_53 : RR S d 131 53 L st h Q = kI (ai_look L 1) (fun x => RR S d 131 54 L (.int x :: st) h Q) := RR.ldi_n rfl rfl rfl
theorem r131_54 {x : Int32} {a : Nat} : RR S d 131 54 L (.int x :: .ref a :: st) h Q = kO (ai_arr h a 0) (fun q => kB (ai_in x q.1) (RR S d 131 55 L (.int (q.2 x.toNatClampNeg) :: st) h Q)) := RR.ial rfl rfl
theorem r131_55 : RR S d 131 55 L st h Q = kI (ai_look L 1) (fun x => RR S d 131 56 L (.int x :: st) h Q) := RR.ldi_n rfl rfl rfl
theorem r131_56 : RR S d 131 56 L st h Q = RR S d 131 57 L (.int 1 :: st) h Q := RR.icn (n := 1) rfl (by decide) rfl
theorem r131_57 {x y : Int32} : RR S d 131 57 L (.int y :: .int x :: st) h Q = RR S d 131 58 L (.int (x + y) :: st) h Q := RR.do1 (58, L, .int (x + y) :: st, h) rfl rfl rfl
theorem r131_58 {p0 : Int32} {p1 : Int32} {p2 : Int32} {p3 : Int32} {a : Nat} : RR S (d + 1) 131 58 L (.int p3 :: .int p2 :: .int p1 :: .int p0 :: .ref a :: st) h Q = kB (decide (ai_sum st ≤ 8)) (kB ((ai_obj h a 10).isSome) (RR S d 130 0 [(0, .ref a), (1, .int p0), (2, .int p1), (3, .int p2), (4, .int p3)] [] h (fun r h1 => RR S (d + 1) 131 61 L (r.toList ++ st) h1 Q))) := RR.cv (j := 166) (mn' := 130) (n := 4) rfl rfl rfl rfl rfl rfl
theorem r131_61 : RR S d 131 61 L st h Q = kI (ai_look L 1) (fun x => RR S d 131 64 (ai_put 1 (.int (x + 1)) L) st h Q) := RR.iinc (k := 1) (n := 1) rfl (by decide) (by decide) rfl
theorem r131_64 : RR S d 131 64 L st h Q = RR S d 131 24 L st h Q := RR.jmp (off := (-40)) rfl (by decide)
theorem r131_67 : RR S d 131 67 L st h Q = kA (ai_look L 0) (fun x => RR S d 131 68 L (x :: st) h Q) := RR.lda_n rfl rfl rfl
theorem r131_68 : RR S d 131 68 L st h Q = RR S d 131 69 L (.int 1 :: st) h Q := RR.icn (n := 1) rfl (by decide) rfl
theorem r131_69t {a : Nat} : RR S d 131 69 L (.int 1 :: .ref a :: st) h Q = kO (ai_obj h a 10) (fun fs => kB (decide (35 < fs.length)) (RR S d 131 72 L st (h.1.set a (.inr (10, fs.set 35 (.int 1))), h.2) Q)) := RR.put rfl rfl (by decide +kernel) rfl
theorem r131_69f {a : Nat} : RR S d 131 69 L (.int 0 :: .ref a :: st) h Q = kO (ai_obj h a 10) (fun fs => kB (decide (35 < fs.length)) (RR S d 131 72 L st (h.1.set a (.inr (10, fs.set 35 (.int 0))), h.2) Q)) := RR.put rfl rfl (by decide +kernel) rfl
theorem r131_72 : RR S d 131 72 L [] h Q = Q none h := RR.rt rfl rfl rfl
end Ru
