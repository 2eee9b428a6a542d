section Ru
variable {S : ai_S} {d : Nat} {L : ai_L} {st : List Value} {h : ai_H} {Q : Option Value → ai_H → Prop}
theorem r59_0 : RR S d 59 0 L st h Q = kA (ai_look L 0) (fun x => RR S d 59 1 L (x :: st) h Q) := RR.lda_n rfl rfl rfl
theorem r59_1 {a : Nat} : RR S d 59 1 L (.ref a :: st) h Q = kO (ai_fld h a 5 0) (fun w => RR S d 59 4 L (w :: st) h Q) := RR.get rfl rfl rfl
theorem r59_4 {a : Nat} : RR S d 59 4 L (.ref a :: st) h Q = kO (ai_fld h a 2 8) (fun w => RR S d 59 7 L (w :: st) h Q) := RR.get rfl rfl rfl
theorem r59_7 : RR S d 59 7 L st h Q = RR S d 59 8 L (.int 2 :: st) h Q := RR.icn (n := 2) rfl (by decide) rfl
theorem r59_8 {x y : Int32} : RR S d 59 8 L (.int y :: .int x :: st) h Q = kB (decide (¬ y = 0)) (RR S d 59 9 L (.int (x / y) :: st) h Q) := RR.idiv rfl rfl
theorem r59_9 {x : Int32} : RR S d 59 9 L (.int x :: st) h Q = RR S d 59 11 (ai_put 6 (.int x) L) st h Q := RR.do1 (11, ai_put 6 (.int x) L, st, h) rfl rfl rfl
theorem r59_11 : RR S d 59 11 L st h Q = kI (ai_look L 5) (fun x => RR S d 59 13 L (.int x :: st) h Q) := RR.ldi rfl rfl
theorem r59_13 : RR S d 59 13 L st h Q = kA (ai_look L 0) (fun x => RR S d 59 14 L (x :: st) h Q) := RR.lda_n rfl rfl rfl
theorem r59_14 {a : Nat} : RR S d 59 14 L (.ref a :: st) h Q = kO (ai_fld h a 5 0) (fun w => RR S d 59 17 L (w :: st) h Q) := RR.get rfl rfl rfl
theorem r59_17 {a : Nat} : RR S d 59 17 L (.ref a :: st) h Q = kO (ai_fld h a 2 8) (fun w => RR S d 59 20 L (w :: st) h Q) := RR.get rfl rfl rfl
theorem r59_20 {x y : Int32} : RR S d 59 20 L (.int y :: .int x :: st) h Q = kB (decide (¬ y = 0)) (RR S d 59 21 L (.int (x - x / y * y) :: st) h Q) := RR.irem rfl rfl
theorem r59_21 {x : Int32} : RR S d 59 21 L (.int x :: st) h Q = RR S d 59 23 (ai_put 7 (.int x) L) st h Q := RR.do1 (23, ai_put 7 (.int x) L, st, h) rfl rfl rfl
theorem r59_23 : RR S d 59 23 L st h Q = kI (ai_look L 7) (fun x => RR S d 59 25 L (.int x :: st) h Q) := RR.ldi rfl rfl
theorem r59_25 {x : Int32} : RR S d 59 25 L (.int x :: st) h Q = if 0 ≤ x then RR S d 59 41 L st h Q else RR S d 59 28 L st h Q := RR.b1 (c := .ge) (off := 16) rfl rfl (by decide) rfl
theorem r59_28 : RR S d 59 28 L st h Q = kI (ai_look L 7) (fun x => RR S d 59 30 L (.int x :: st) h Q) := RR.ldi rfl rfl
theorem r59_30 : RR S d 59 30 L st h Q = kA (ai_look L 0) (fun x => RR S d 59 31 L (x :: st) h Q) := RR.lda_n rfl rfl rfl
theorem r59_31 {a : Nat} : RR S d 59 31 L (.ref a :: st) h Q = kO (ai_fld h a 5 0) (fun w => RR S d 59 34 L (w :: st) h Q) := RR.get rfl rfl rfl
theorem r59_34 {a : Nat} : RR S d 59 34 L (.ref a :: st) h Q = kO (ai_fld h a 2 8) (fun w => RR S d 59 37 L (w :: st) h Q) := RR.get rfl rfl rfl
theorem r59_37 {x y : Int32} : RR S d 59 37 L (.int y :: .int x :: st) h Q = RR S d 59 38 L (.int (x + y) :: st) h Q := RR.do1 (38, L, .int (x + y) :: st, h) rfl rfl rfl
theorem r59_38 : RR S d 59 38 L st h Q = RR S d 59 43 L st h Q := RR.jmp (off := 5) rfl (by decide)
theorem r59_41 : RR S d 59 41 L st h Q = kI (ai_look L 7) (fun x => RR S d 59 43 L (.int x :: st) h Q) := RR.ldi rfl rfl
theorem r59_43 {x : Int32} : RR S d 59 43 L (.int x :: st) h Q = RR S d 59 45 (ai_put 8 (.int x) L) st h Q := RR.do1 (45, ai_put 8 (.int x) L, st, h) rfl rfl rfl
theorem r59_45 : RR S d 59 45 L st h Q = kI (ai_look L 8) (fun x => RR S d 59 47 L (.int x :: st) h Q) := RR.ldi rfl rfl
theorem r59_47 : RR S d 59 47 L st h Q = kI (ai_look L 6) (fun x => RR S d 59 49 L (.int x :: st) h Q) := RR.ldi rfl rfl
theorem r59_49 {x y : Int32} : RR S d 59 49 L (.int y :: .int x :: st) h Q = if x < y then RR S d 59 56 L st h Q else RR S d 59 52 L st h Q := RR.b2 (c := .lt) (off := 7) rfl rfl (by decide) rfl
theorem r59_52 : RR S d 59 52 L st h Q = RR S d 59 53 L (.int 1 :: st) h Q := RR.icn (n := 1) rfl (by decide) rfl
theorem r59_53 : RR S d 59 53 L st h Q = RR S d 59 57 L st h Q := RR.jmp (off := 4) rfl (by decide)
theorem r59_56 : RR S d 59 56 L st h Q = RR S d 59 57 L (.int 0 :: st) h Q := RR.icn (n := 0) rfl (by decide) rfl
theorem r59_57 {x : Int32} : RR S d 59 57 L (.int x :: st) h Q = RR S d 59 59 (ai_put 9 (.int x) L) st h Q := RR.do1 (59, ai_put 9 (.int x) L, st, h) rfl rfl rfl
theorem r59_59 : RR S d 59 59 L st h Q = kI (ai_look L 9) (fun x => RR S d 59 61 L (.int x :: st) h Q) := RR.ldi rfl rfl
theorem r59_61 {x : Int32} : RR S d 59 61 L (.int x :: st) h Q = if x = 0 then RR S d 59 72 L st h Q else RR S d 59 64 L st h Q := RR.b1 (c := .eq) (off := 11) rfl rfl (by decide) rfl
theorem r59_64 : RR S d 59 64 L st h Q = kI (ai_look L 8) (fun x => RR S d 59 66 L (.int x :: st) h Q) := RR.ldi rfl rfl
theorem r59_66 : RR S d 59 66 L st h Q = kI (ai_look L 6) (fun x => RR S d 59 68 L (.int x :: st) h Q) := RR.ldi rfl rfl
theorem r59_68 {x y : Int32} : RR S d 59 68 L (.int y :: .int x :: st) h Q = RR S d 59 69 L (.int (x - y) :: st) h Q := RR.do1 (69, L, .int (x - y) :: st, h) rfl rfl rfl
theorem r59_69 : RR S d 59 69 L st h Q = RR S d 59 74 L st h Q := RR.jmp (off := 5) rfl (by decide)
theorem r59_72 : RR S d 59 72 L st h Q = kI (ai_look L 8) (fun x => RR S d 59 74 L (.int x :: st) h Q) := RR.ldi rfl rfl
theorem r59_74 {x : Int32} : RR S d 59 74 L (.int x :: st) h Q = RR S d 59 76 (ai_put 10 (.int x) L) st h Q := RR.do1 (76, ai_put 10 (.int x) L, st, h) rfl rfl rfl
theorem r59_76 : RR S d 59 76 L st h Q = kI (ai_look L 9) (fun x => RR S d 59 78 L (.int x :: st) h Q) := RR.ldi rfl rfl
theorem r59_78 {x : Int32} : RR S d 59 78 L (.int x :: st) h Q = if x = 0 then RR S d 59 85 L st h Q else RR S d 59 81 L st h Q := RR.b1 (c := .eq) (off := 7) rfl rfl (by decide) rfl
theorem r59_81 : RR S d 59 81 L st h Q = kJ (ai_look L 3) (fun x => RR S d 59 82 L (.long x :: st) h Q) := RR.ldl_n rfl rfl rfl
theorem r59_82 : RR S d 59 82 L st h Q = RR S d 59 86 L st h Q := RR.jmp (off := 4) rfl (by decide)
theorem r59_85 : RR S d 59 85 L st h Q = kJ (ai_look L 1) (fun x => RR S d 59 86 L (.long x :: st) h Q) := RR.ldl_n rfl rfl rfl
theorem r59_86 {x : Int64} : RR S d 59 86 L (.long x :: st) h Q = RR S d 59 88 (ai_put2 11 (.long x) L) st h Q := RR.do1 (88, ai_put2 11 (.long x) L, st, h) rfl rfl rfl
theorem r59_88 : RR S d 59 88 L st h Q = kI (ai_look L 9) (fun x => RR S d 59 90 L (.int x :: st) h Q) := RR.ldi rfl rfl
theorem r59_90 {x : Int32} : RR S d 59 90 L (.int x :: st) h Q = if x = 0 then RR S d 59 97 L st h Q else RR S d 59 93 L st h Q := RR.b1 (c := .eq) (off := 7) rfl rfl (by decide) rfl
theorem r59_93 : RR S d 59 93 L st h Q = kJ (ai_look L 1) (fun x => RR S d 59 94 L (.long x :: st) h Q) := RR.ldl_n rfl rfl rfl
theorem r59_94 : RR S d 59 94 L st h Q = RR S d 59 98 L st h Q := RR.jmp (off := 4) rfl (by decide)
theorem r59_97 : RR S d 59 97 L st h Q = kJ (ai_look L 3) (fun x => RR S d 59 98 L (.long x :: st) h Q) := RR.ldl_n rfl rfl rfl
theorem r59_98 {x : Int64} : RR S d 59 98 L (.long x :: st) h Q = RR S d 59 100 (ai_put2 13 (.long x) L) st h Q := RR.do1 (100, ai_put2 13 (.long x) L, st, h) rfl rfl rfl
theorem r59_100 : RR S d 59 100 L st h Q = RR S d 59 101 L (.long 1 :: st) h Q := RR.lcn (n := 1) rfl (by decide) rfl
theorem r59_101 : RR S d 59 101 L st h Q = kI (ai_look L 6) (fun x => RR S d 59 103 L (.int x :: st) h Q) := RR.ldi rfl rfl
theorem r59_103 {x : Int64} {y : Int32} : RR S d 59 103 L (.int y :: .long x :: st) h Q = RR S d 59 104 L (.long (x <<< (y.toInt64 &&& 63)) :: st) h Q := RR.do1 (104, L, .long (x <<< (y.toInt64 &&& 63)) :: st, h) rfl rfl rfl
theorem r59_104 : RR S d 59 104 L st h Q = RR S d 59 105 L (.long 1 :: st) h Q := RR.lcn (n := 1) rfl (by decide) rfl
theorem r59_105 {x y : Int64} : RR S d 59 105 L (.long y :: .long x :: st) h Q = RR S d 59 106 L (.long (x - y) :: st) h Q := RR.do1 (106, L, .long (x - y) :: st, h) rfl rfl rfl
theorem r59_106 {x : Int64} : RR S d 59 106 L (.long x :: st) h Q = RR S d 59 108 (ai_put2 15 (.long x) L) st h Q := RR.do1 (108, ai_put2 15 (.long x) L, st, h) rfl rfl rfl
theorem r59_108 : RR S d 59 108 L st h Q = kA (ai_look L 0) (fun x => RR S d 59 109 L (x :: st) h Q) := RR.lda_n rfl rfl rfl
theorem r59_109 {v : Value} (hv : v.category = 1) : RR S d 59 109 L (v :: st) h Q = RR S d 59 110 L (v :: v :: st) h Q := RR.dup rfl hv rfl
theorem r59_110 {a : Nat} : RR S d 59 110 L (.ref a :: st) h Q = kO (ai_fld h a 5 1) (fun w => RR S d 59 113 L (w :: st) h Q) := RR.get rfl rfl rfl
theorem r59_113 : RR S d 59 113 L st h Q = kJ (ai_look L 11) (fun x => RR S d 59 115 L (.long x :: st) h Q) := RR.ldl rfl rfl
theorem r59_115 : RR S d 59 115 L st h Q = kI (ai_look L 10) (fun x => RR S d 59 117 L (.int x :: st) h Q) := RR.ldi rfl rfl
theorem r59_117 {x : Int64} {y : Int32} : RR S d 59 117 L (.int y :: .long x :: st) h Q = RR S d 59 118 L (.long (x <<< (y.toInt64 &&& 63)) :: st) h Q := RR.do1 (118, L, .long (x <<< (y.toInt64 &&& 63)) :: st, h) rfl rfl rfl
theorem r59_118 : RR S d 59 118 L st h Q = kJ (ai_look L 13) (fun x => RR S d 59 120 L (.long x :: st) h Q) := RR.ldl rfl rfl
theorem r59_120 : RR S d 59 120 L st h Q = kI (ai_look L 6) (fun x => RR S d 59 122 L (.int x :: st) h Q) := RR.ldi rfl rfl
theorem r59_122 : RR S d 59 122 L st h Q = kI (ai_look L 10) (fun x => RR S d 59 124 L (.int x :: st) h Q) := RR.ldi rfl rfl
theorem r59_124 {x y : Int32} : RR S d 59 124 L (.int y :: .int x :: st) h Q = RR S d 59 125 L (.int (x - y) :: st) h Q := RR.do1 (125, L, .int (x - y) :: st, h) rfl rfl rfl
theorem r59_125 {x : Int64} {y : Int32} : RR S d 59 125 L (.int y :: .long x :: st) h Q = RR S d 59 126 L (.long ((x.toUInt64 >>> (y.toInt64.toUInt64 &&& Int64.toUInt64 63)).toInt64) :: st) h Q := RR.do1 (126, L, .long ((x.toUInt64 >>> (y.toInt64.toUInt64 &&& Int64.toUInt64 63)).toInt64) :: st, h) rfl rfl rfl
theorem r59_126 {x y : Int64} : RR S d 59 126 L (.long y :: .long x :: st) h Q = RR S d 59 127 L (.long (x ||| y) :: st) h Q := RR.do1 (127, L, .long (x ||| y) :: st, h) rfl rfl rfl
theorem r59_127 : RR S d 59 127 L st h Q = kJ (ai_look L 15) (fun x => RR S d 59 129 L (.long x :: st) h Q) := RR.ldl rfl rfl
theorem r59_129 {x y : Int64} : RR S d 59 129 L (.long y :: .long x :: st) h Q = RR S d 59 130 L (.long (x &&& y) :: st) h Q := RR.do1 (130, L, .long (x &&& y) :: st, h) rfl rfl rfl
theorem r59_130 {x y : Int64} : RR S d 59 130 L (.long y :: .long x :: st) h Q = RR S d 59 131 L (.long (x ||| y) :: st) h Q := RR.do1 (131, L, .long (x ||| y) :: st, h) rfl rfl rfl
theorem r59_131 {x : Int64} {a : Nat} : RR S d 59 131 L (.long x :: .ref a :: st) h Q = kO (ai_obj h a 5) (fun fs => kB (decide (1 < fs.length)) (RR S d 59 134 L st (h.1.set a (.inr (5, fs.set 1 (.long x))), h.2) Q)) := RR.put rfl rfl (ai_okp_j rfl (by decide +kernel)) rfl
theorem r59_134 : RR S d 59 134 L st h Q = kA (ai_look L 0) (fun x => RR S d 59 135 L (x :: st) h Q) := RR.lda_n rfl rfl rfl
theorem r59_135 {v : Value} (hv : v.category = 1) : RR S d 59 135 L (v :: st) h Q = RR S d 59 136 L (v :: v :: st) h Q := RR.dup rfl hv rfl
theorem r59_136 {a : Nat} : RR S d 59 136 L (.ref a :: st) h Q = kO (ai_fld h a 5 2) (fun w => RR S d 59 139 L (w :: st) h Q) := RR.get rfl rfl rfl
theorem r59_139 : RR S d 59 139 L st h Q = kJ (ai_look L 13) (fun x => RR S d 59 141 L (.long x :: st) h Q) := RR.ldl rfl rfl
theorem r59_141 : RR S d 59 141 L st h Q = kI (ai_look L 10) (fun x => RR S d 59 143 L (.int x :: st) h Q) := RR.ldi rfl rfl
theorem r59_143 {x : Int64} {y : Int32} : RR S d 59 143 L (.int y :: .long x :: st) h Q = RR S d 59 144 L (.long (x <<< (y.toInt64 &&& 63)) :: st) h Q := RR.do1 (144, L, .long (x <<< (y.toInt64 &&& 63)) :: st, h) rfl rfl rfl
theorem r59_144 : RR S d 59 144 L st h Q = kJ (ai_look L 11) (fun x => RR S d 59 146 L (.long x :: st) h Q) := RR.ldl rfl rfl
theorem r59_146 : RR S d 59 146 L st h Q = kI (ai_look L 6) (fun x => RR S d 59 148 L (.int x :: st) h Q) := RR.ldi rfl rfl
theorem r59_148 : RR S d 59 148 L st h Q = kI (ai_look L 10) (fun x => RR S d 59 150 L (.int x :: st) h Q) := RR.ldi rfl rfl
theorem r59_150 {x y : Int32} : RR S d 59 150 L (.int y :: .int x :: st) h Q = RR S d 59 151 L (.int (x - y) :: st) h Q := RR.do1 (151, L, .int (x - y) :: st, h) rfl rfl rfl
theorem r59_151 {x : Int64} {y : Int32} : RR S d 59 151 L (.int y :: .long x :: st) h Q = RR S d 59 152 L (.long ((x.toUInt64 >>> (y.toInt64.toUInt64 &&& Int64.toUInt64 63)).toInt64) :: st) h Q := RR.do1 (152, L, .long ((x.toUInt64 >>> (y.toInt64.toUInt64 &&& Int64.toUInt64 63)).toInt64) :: st, h) rfl rfl rfl
theorem r59_152 {x y : Int64} : RR S d 59 152 L (.long y :: .long x :: st) h Q = RR S d 59 153 L (.long (x ||| y) :: st) h Q := RR.do1 (153, L, .long (x ||| y) :: st, h) rfl rfl rfl
theorem r59_153 : RR S d 59 153 L st h Q = kJ (ai_look L 15) (fun x => RR S d 59 155 L (.long x :: st) h Q) := RR.ldl rfl rfl
theorem r59_155 {x y : Int64} : RR S d 59 155 L (.long y :: .long x :: st) h Q = RR S d 59 156 L (.long (x &&& y) :: st) h Q := RR.do1 (156, L, .long (x &&& y) :: st, h) rfl rfl rfl
theorem r59_156 {x y : Int64} : RR S d 59 156 L (.long y :: .long x :: st) h Q = RR S d 59 157 L (.long (x ||| y) :: st) h Q := RR.do1 (157, L, .long (x ||| y) :: st, h) rfl rfl rfl
theorem r59_157 {x : Int64} {a : Nat} : RR S d 59 157 L (.long x :: .ref a :: st) h Q = kO (ai_obj h a 5) (fun fs => kB (decide (2 < fs.length)) (RR S d 59 160 L st (h.1.set a (.inr (5, fs.set 2 (.long x))), h.2) Q)) := RR.put rfl rfl (ai_okp_j rfl (by decide +kernel)) rfl
theorem r59_160 : RR S d 59 160 L [] h Q = Q none h := RR.rt rfl rfl rfl
theorem r60_0 : RR S d 60 0 L st h Q = kA (ai_look L 0) (fun x => RR S d 60 1 L (x :: st) h Q) := RR.lda_n rfl rfl rfl
theorem r60_1 {a : Nat} : RR S d 60 1 L (.ref a :: st) h Q = kB (decide (ai_sum st ≤ 8)) (RR S d 60 4 L st h Q) := RR.oin (j := 3) rfl rfl rfl
theorem r60_4 : RR S d 60 4 L st h Q = kA (ai_look L 0) (fun x => RR S d 60 5 L (x :: st) h Q) := RR.lda_n rfl rfl rfl
theorem r60_5 : RR S d 60 5 L st h Q = RR S d 60 6 L (.int 3 :: st) h Q := RR.icn (n := 3) rfl (by decide) rfl
theorem r60_6 {n : Int32} : RR S d 60 6 L (.int n :: st) h Q = kB (decide (¬ n < 0) && decide (n.toNatClampNeg ≤ 100000)) (RR S d 60 8 L (.ref h.1.length :: st) (h.1 ++ [.inl (0, n.toNatClampNeg, .inl (fun _ => 0))], h.2 + n.toNatClampNeg) Q) := RR.newa0 rfl rfl
theorem r60_8 {x : Nat} {a : Nat} : RR S d 60 8 L (.ref x :: .ref a :: st) h Q = kO (ai_obj h a 6) (fun fs => kB (decide (2 < fs.length)) (RR S d 60 11 L st (h.1.set a (.inr (6, fs.set 2 (.ref x))), h.2) Q)) := RR.put rfl rfl (ai_okp_r (by decide +kernel)) rfl
theorem r60_11 : RR S d 60 11 L st h Q = kA (ai_look L 0) (fun x => RR S d 60 12 L (x :: st) h Q) := RR.lda_n rfl rfl rfl
theorem r60_12 : RR S d 60 12 L st h Q = RR S d 60 13 L (.int 0 :: st) h Q := RR.icn (n := 0) rfl (by decide) rfl
theorem r60_13 {x : Int32} {a : Nat} : RR S d 60 13 L (.int x :: .ref a :: st) h Q = kO (ai_obj h a 6) (fun fs => kB (decide (3 < fs.length)) (RR S d 60 16 L st (h.1.set a (.inr (6, fs.set 3 (.int x))), h.2) Q)) := RR.put rfl rfl (ai_okp_i rfl (by decide +kernel)) rfl
theorem r60_16 : RR S d 60 16 L st h Q = kA (ai_look L 0) (fun x => RR S d 60 17 L (x :: st) h Q) := RR.lda_n rfl rfl rfl
theorem r60_17 : RR S d 60 17 L st h Q = RR S d 60 18 L (.int (-1) :: st) h Q := RR.icn (n := (-1)) rfl (by decide) rfl
theorem r60_18 {x : Int32} {a : Nat} : RR S d 60 18 L (.int x :: .ref a :: st) h Q = kO (ai_obj h a 6) (fun fs => kB (decide (4 < fs.length)) (RR S d 60 21 L st (h.1.set a (.inr (6, fs.set 4 (.int x))), h.2) Q)) := RR.put rfl rfl (ai_okp_i rfl (by decide +kernel)) rfl
theorem r60_21 : RR S d 60 21 L st h Q = kA (ai_look L 0) (fun x => RR S d 60 22 L (x :: st) h Q) := RR.lda_n rfl rfl rfl
theorem r60_22 : RR S d 60 22 L st h Q = RR S d 60 23 L (.int 0 :: st) h Q := RR.icn (n := 0) rfl (by decide) rfl
theorem r60_23 {x : Int32} {a : Nat} : RR S d 60 23 L (.int x :: .ref a :: st) h Q = kO (ai_obj h a 6) (fun fs => kB (decide (5 < fs.length)) (RR S d 60 26 L st (h.1.set a (.inr (6, fs.set 5 (.int x))), h.2) Q)) := RR.put rfl rfl (ai_okp_i rfl (by decide +kernel)) rfl
theorem r60_26 : RR S d 60 26 L st h Q = kA (ai_look L 0) (fun x => RR S d 60 27 L (x :: st) h Q) := RR.lda_n rfl rfl rfl
theorem r60_27 : RR S d 60 27 L st h Q = kI (ai_look L 1) (fun x => RR S d 60 28 L (.int x :: st) h Q) := RR.ldi_n rfl rfl rfl
theorem r60_28 {x : Int32} {a : Nat} : RR S d 60 28 L (.int x :: .ref a :: st) h Q = kO (ai_obj h a 6) (fun fs => kB (decide (0 < fs.length)) (RR S d 60 31 L st (h.1.set a (.inr (6, fs.set 0 (.int x))), h.2) Q)) := RR.put rfl rfl (ai_okp_i rfl (by decide +kernel)) rfl
theorem r60_31 : RR S d 60 31 L st h Q = kA (ai_look L 0) (fun x => RR S d 60 32 L (x :: st) h Q) := RR.lda_n rfl rfl rfl
theorem r60_32 : RR S d 60 32 L st h Q = kI (ai_look L 2) (fun x => RR S d 60 33 L (.int x :: st) h Q) := RR.ldi_n rfl rfl rfl
theorem r60_33 : RR S d 60 33 L st h Q = RR S d 60 34 L (.int 2 :: st) h Q := RR.icn (n := 2) rfl (by decide) rfl
theorem r60_34 {p0 : Int32} {p1 : Int32} : RR S (d + 1) 60 34 L (.int p1 :: .int p0 :: st) h Q = kB (decide (ai_sum st ≤ 8)) (RR S d 163 0 [(0, .int p0), (1, .int p1)] [] h (fun r h1 => RR S (d + 1) 60 37 L (r.toList ++ st) h1 Q)) := RR.cs (j := 28) (mn' := 163) (n := 2) rfl rfl rfl rfl (by simp) rfl rfl
theorem r60_37 {x : Int32} {a : Nat} : RR S d 60 37 L (.int x :: .ref a :: st) h Q = kO (ai_obj h a 6) (fun fs => kB (decide (1 < fs.length)) (RR S d 60 40 L st (h.1.set a (.inr (6, fs.set 1 (.int x))), h.2) Q)) := RR.put rfl rfl (ai_okp_i rfl (by decide +kernel)) rfl
theorem r60_40 : RR S d 60 40 L [] h Q = Q none h := RR.rt rfl rfl rfl
theorem r61_0 : RR S d 61 0 L st h Q = kA (ai_look L 0) (fun x => RR S d 61 1 L (x :: st) h Q) := RR.lda_n rfl rfl rfl
theorem r61_1 {a : Nat} : RR S d 61 1 L (.ref a :: st) h Q = kO (ai_fld h a 6 3) (fun w => RR S d 61 4 L (w :: st) h Q) := RR.get rfl rfl rfl
theorem r61_4 : RR S d 61 4 L st h Q = RR S d 61 5 L (.int 3 :: st) h Q := RR.icn (n := 3) rfl (by decide) rfl
theorem r61_5 {x y : Int32} : RR S d 61 5 L (.int y :: .int x :: st) h Q = if y ≤ x then RR S d 61 28 L st h Q else RR S d 61 8 L st h Q := RR.b2 (c := .ge) (off := 23) rfl rfl (by decide) rfl
theorem r61_8 : RR S d 61 8 L st h Q = kA (ai_look L 0) (fun x => RR S d 61 9 L (x :: st) h Q) := RR.lda_n rfl rfl rfl
theorem r61_9 {a : Nat} : RR S d 61 9 L (.ref a :: st) h Q = kO (ai_fld h a 6 2) (fun w => RR S d 61 12 L (w :: st) h Q) := RR.get rfl rfl rfl
theorem r61_12 : RR S d 61 12 L st h Q = kA (ai_look L 0) (fun x => RR S d 61 13 L (x :: st) h Q) := RR.lda_n rfl rfl rfl
theorem r61_13 {a : Nat} : RR S d 61 13 L (.ref a :: st) h Q = kO (ai_fld h a 6 3) (fun w => RR S d 61 16 L (w :: st) h Q) := RR.get rfl rfl rfl
theorem r61_16 : RR S d 61 16 L st h Q = kI (ai_look L 1) (fun x => RR S d 61 17 L (.int x :: st) h Q) := RR.ldi_n rfl rfl rfl
theorem r61_17 {x y : Int32} {a : Nat} : RR S d 61 17 L (.int y :: .int x :: .ref a :: st) h Q = kO (ai_arr h a 0) (fun q => kB (ai_in x q.1) (RR S d 61 18 L st (h.1.set a (.inl (0, q.1, .inl (upd q.2 x.toNatClampNeg y))), h.2) Q)) := RR.ias rfl rfl
theorem r61_18 : RR S d 61 18 L st h Q = kA (ai_look L 0) (fun x => RR S d 61 19 L (x :: st) h Q) := RR.lda_n rfl rfl rfl
theorem r61_19 {v : Value} (hv : v.category = 1) : RR S d 61 19 L (v :: st) h Q = RR S d 61 20 L (v :: v :: st) h Q := RR.dup rfl hv rfl
theorem r61_20 {a : Nat} : RR S d 61 20 L (.ref a :: st) h Q = kO (ai_fld h a 6 3) (fun w => RR S d 61 23 L (w :: st) h Q) := RR.get rfl rfl rfl
theorem r61_23 : RR S d 61 23 L st h Q = RR S d 61 24 L (.int 1 :: st) h Q := RR.icn (n := 1) rfl (by decide) rfl
theorem r61_24 {x y : Int32} : RR S d 61 24 L (.int y :: .int x :: st) h Q = RR S d 61 25 L (.int (x + y) :: st) h Q := RR.do1 (25, L, .int (x + y) :: st, h) rfl rfl rfl
theorem r61_25 {x : Int32} {a : Nat} : RR S d 61 25 L (.int x :: .ref a :: st) h Q = kO (ai_obj h a 6) (fun fs => kB (decide (3 < fs.length)) (RR S d 61 28 L st (h.1.set a (.inr (6, fs.set 3 (.int x))), h.2) Q)) := RR.put rfl rfl (ai_okp_i rfl (by decide +kernel)) rfl
theorem r61_28 : RR S d 61 28 L [] h Q = Q none h := RR.rt rfl rfl rfl
theorem r62_0 : RR S d 62 0 L st h Q = kI (ai_look L 1) (fun x => RR S d 62 1 L (.int x :: st) h Q) := RR.ldi_n rfl rfl rfl
theorem r62_1 {x : Int32} : RR S d 62 1 L (.int x :: st) h Q = if x < 0 then RR S d 62 21 L st h Q else RR S d 62 4 L st h Q := RR.b1 (c := .lt) (off := 20) rfl rfl (by decide) rfl
theorem r62_4 : RR S d 62 4 L st h Q = kI (ai_look L 1) (fun x => RR S d 62 5 L (.int x :: st) h Q) := RR.ldi_n rfl rfl rfl
theorem r62_5 : RR S d 62 5 L st h Q = kA (ai_look L 0) (fun x => RR S d 62 6 L (x :: st) h Q) := RR.lda_n rfl rfl rfl
theorem r62_6 {a : Nat} : RR S d 62 6 L (.ref a :: st) h Q = kO (ai_fld h a 6 3) (fun w => RR S d 62 9 L (w :: st) h Q) := RR.get rfl rfl rfl
theorem r62_9 {x y : Int32} : RR S d 62 9 L (.int y :: .int x :: st) h Q = if y ≤ x then RR S d 62 21 L st h Q else RR S d 62 12 L st h Q := RR.b2 (c := .ge) (off := 12) rfl rfl (by decide) rfl
theorem r62_12 : RR S d 62 12 L st h Q = kA (ai_look L 0) (fun x => RR S d 62 13 L (x :: st) h Q) := RR.lda_n rfl rfl rfl
theorem r62_13 {a : Nat} : RR S d 62 13 L (.ref a :: st) h Q = kO (ai_fld h a 6 2) (fun w => RR S d 62 16 L (w :: st) h Q) := RR.get rfl rfl rfl
theorem r62_16 : RR S d 62 16 L st h Q = kI (ai_look L 1) (fun x => RR S d 62 17 L (.int x :: st) h Q) := RR.ldi_n rfl rfl rfl
theorem r62_17 {x : Int32} {a : Nat} : RR S d 62 17 L (.int x :: .ref a :: st) h Q = kO (ai_arr h a 0) (fun q => kB (ai_in x q.1) (RR S d 62 18 L (.int (q.2 x.toNatClampNeg) :: st) h Q)) := RR.ial rfl rfl
theorem r62_18 : RR S d 62 18 L st h Q = RR S d 62 22 L st h Q := RR.jmp (off := 4) rfl (by decide)
theorem r62_21 : RR S d 62 21 L st h Q = RR S d 62 22 L (.int 0 :: st) h Q := RR.icn (n := 0) rfl (by decide) rfl
theorem r62_22 {x : Int32} : RR S d 62 22 L [.int x] h Q = Q (some (.int x)) h := RR.rt rfl rfl rfl
theorem r63_0 : RR S d 63 0 L st h Q = kA (ai_look L 0) (fun x => RR S d 63 1 L (x :: st) h Q) := RR.lda_n rfl rfl rfl
theorem r63_1 : RR S d 63 1 L st h Q = kA (ai_look L 0) (fun x => RR S d 63 2 L (x :: st) h Q) := RR.lda_n rfl rfl rfl
theorem r63_2 {a : Nat} : RR S d 63 2 L (.ref a :: st) h Q = kO (ai_fld h a 6 4) (fun w => RR S d 63 5 L (w :: st) h Q) := RR.get rfl rfl rfl
theorem r63_5 {p0 : Int32} {a : Nat} : RR S (d + 1) 63 5 L (.int p0 :: .ref a :: st) h Q = kB (decide (ai_sum st ≤ 8)) (kB ((ai_obj h a 6).isSome) (RR S d 62 0 [(0, .ref a), (1, .int p0)] [] h (fun r h1 => RR S (d + 1) 63 8 L (r.toList ++ st) h1 Q))) := RR.cv (j := 37) (mn' := 62) (n := 1) rfl rfl rfl rfl rfl rfl
theorem r63_8 {x : Int32} : RR S d 63 8 L [.int x] h Q = Q (some (.int x)) h := RR.rt rfl rfl rfl
theorem r64_0 : RR S d 64 0 L st h Q = kA (ai_look L 0) (fun x => RR S d 64 1 L (x :: st) h Q) := RR.lda_n rfl rfl rfl
theorem r64_1 {a : Nat} : RR S d 64 1 L (.ref a :: st) h Q = kB (decide (ai_sum st ≤ 8)) (RR S d 64 4 L st h Q) := RR.oin (j := 3) rfl rfl rfl
theorem r64_4 : RR S d 64 4 L st h Q = kA (ai_look L 0) (fun x => RR S d 64 5 L (x :: st) h Q) := RR.lda_n rfl rfl rfl
theorem r64_5 : RR S d 64 5 L st h Q = RR S d 64 7 L (.int 8 :: st) h Q := RR.bip (n := 8) rfl (by decide) rfl
theorem r64_7 {n : Int32} : RR S d 64 7 L (.int n :: st) h Q = kB (decide (¬ n < 0) && decide (n.toNatClampNeg ≤ 100000)) (RR S d 64 10 L (.ref h.1.length :: st) (h.1 ++ [.inl (3, n.toNatClampNeg, .inr (fun _ => none))], h.2 + n.toNatClampNeg) Q) := RR.newq rfl rfl rfl rfl
theorem r64_10 {x : Nat} {a : Nat} : RR S d 64 10 L (.ref x :: .ref a :: st) h Q = kO (ai_obj h a 7) (fun fs => kB (decide (0 < fs.length)) (RR S d 64 13 L st (h.1.set a (.inr (7, fs.set 0 (.ref x))), h.2) Q)) := RR.put rfl rfl (ai_okp_r (by decide +kernel)) rfl
theorem r64_13 : RR S d 64 13 L st h Q = kA (ai_look L 0) (fun x => RR S d 64 14 L (x :: st) h Q) := RR.lda_n rfl rfl rfl
theorem r64_14 : RR S d 64 14 L st h Q = RR S d 64 15 L (.int 0 :: st) h Q := RR.icn (n := 0) rfl (by decide) rfl
theorem r64_15 {x : Int32} {a : Nat} : RR S d 64 15 L (.int x :: .ref a :: st) h Q = kO (ai_obj h a 7) (fun fs => kB (decide (1 < fs.length)) (RR S d 64 18 L st (h.1.set a (.inr (7, fs.set 1 (.int x))), h.2) Q)) := RR.put rfl rfl (ai_okp_i rfl (by decide +kernel)) rfl
theorem r64_18 : RR S d 64 18 L [] h Q = Q none h := RR.rt rfl rfl rfl
theorem r65_0 : RR S d 65 0 L st h Q = kA (ai_look L 0) (fun x => RR S d 65 1 L (x :: st) h Q) := RR.lda_n rfl rfl rfl
theorem r65_1 {a : Nat} : RR S d 65 1 L (.ref a :: st) h Q = kO (ai_fld h a 7 1) (fun w => RR S d 65 4 L (w :: st) h Q) := RR.get rfl rfl rfl
theorem r65_4 : RR S d 65 4 L st h Q = RR S d 65 6 L (.int 8 :: st) h Q := RR.bip (n := 8) rfl (by decide) rfl
theorem r65_6 {x y : Int32} : RR S d 65 6 L (.int y :: .int x :: st) h Q = if x < y then RR S d 65 11 L st h Q else RR S d 65 9 L st h Q := RR.b2 (c := .lt) (off := 5) rfl rfl (by decide) rfl
theorem r65_9 : RR S d 65 9 L st h Q = RR S d 65 10 L (.int (-1) :: st) h Q := RR.icn (n := (-1)) rfl (by decide) rfl
theorem r65_10 {x : Int32} : RR S d 65 10 L [.int x] h Q = Q (some (.int x)) h := RR.rt rfl rfl rfl
theorem r65_11 : RR S d 65 11 L st h Q = kA (ai_look L 0) (fun x => RR S d 65 12 L (x :: st) h Q) := RR.lda_n rfl rfl rfl
theorem r65_12 {a : Nat} : RR S d 65 12 L (.ref a :: st) h Q = kO (ai_fld h a 7 0) (fun w => RR S d 65 15 L (w :: st) h Q) := RR.get rfl rfl rfl
theorem r65_15 : RR S d 65 15 L st h Q = kA (ai_look L 0) (fun x => RR S d 65 16 L (x :: st) h Q) := RR.lda_n rfl rfl rfl
theorem r65_16 {a : Nat} : RR S d 65 16 L (.ref a :: st) h Q = kO (ai_fld h a 7 1) (fun w => RR S d 65 19 L (w :: st) h Q) := RR.get rfl rfl rfl
theorem r65_19 : RR S d 65 19 L st h Q = kA (ai_look L 1) (fun x => RR S d 65 20 L (x :: st) h Q) := RR.lda_n rfl rfl rfl
theorem r65_20n {x : Int32} {a : Nat} : RR S d 65 20 L (.null :: .int x :: .ref a :: st) h Q = kO (ai_arq h a) (fun q => kB (ai_in x q.2.1 && (decide (2 ≤ q.1) && decide (q.1 < 5))) (RR S d 65 21 L st (h.1.set a (.inl (q.1, q.2.1, .inr (va_up q.2.2 x.toNatClampNeg none))), h.2) Q)) := RR.aasn rfl rfl
theorem r65_20 {x : Int32} {a w : Nat} : RR S d 65 20 L (.ref w :: .int x :: .ref a :: st) h Q = kO (ai_arq h a) (fun q => kB (ai_in x q.2.1 && (decide (2 ≤ q.1) && decide (q.1 < 5))) (kO (ai_cno h w) (fun c => kB (decide (ai_ao c = some q.1)) (RR S d 65 21 L st (h.1.set a (.inl (q.1, q.2.1, .inr (va_up q.2.2 x.toNatClampNeg (some w)))), h.2) Q)))) := RR.aasr rfl rfl
theorem r65_21 : RR S d 65 21 L st h Q = kA (ai_look L 0) (fun x => RR S d 65 22 L (x :: st) h Q) := RR.lda_n rfl rfl rfl
theorem r65_22 {v : Value} (hv : v.category = 1) : RR S d 65 22 L (v :: st) h Q = RR S d 65 23 L (v :: v :: st) h Q := RR.dup rfl hv rfl
theorem r65_23 {a : Nat} : RR S d 65 23 L (.ref a :: st) h Q = kO (ai_fld h a 7 1) (fun w => RR S d 65 26 L (w :: st) h Q) := RR.get rfl rfl rfl
theorem r65_26 : RR S d 65 26 L st h Q = RR S d 65 27 L (.int 1 :: st) h Q := RR.icn (n := 1) rfl (by decide) rfl
theorem r65_27 {x y : Int32} : RR S d 65 27 L (.int y :: .int x :: st) h Q = RR S d 65 28 L (.int (x + y) :: st) h Q := RR.do1 (28, L, .int (x + y) :: st, h) rfl rfl rfl
theorem r65_28 {x : Int32} {a : Nat} : RR S d 65 28 L (.int x :: .ref a :: st) h Q = kO (ai_obj h a 7) (fun fs => kB (decide (1 < fs.length)) (RR S d 65 31 L st (h.1.set a (.inr (7, fs.set 1 (.int x))), h.2) Q)) := RR.put rfl rfl (ai_okp_i rfl (by decide +kernel)) rfl
theorem r65_31 : RR S d 65 31 L st h Q = kA (ai_look L 0) (fun x => RR S d 65 32 L (x :: st) h Q) := RR.lda_n rfl rfl rfl
theorem r65_32 {a : Nat} : RR S d 65 32 L (.ref a :: st) h Q = kO (ai_fld h a 7 1) (fun w => RR S d 65 35 L (w :: st) h Q) := RR.get rfl rfl rfl
theorem r65_35 : RR S d 65 35 L st h Q = RR S d 65 36 L (.int 1 :: st) h Q := RR.icn (n := 1) rfl (by decide) rfl
theorem r65_36 {x y : Int32} : RR S d 65 36 L (.int y :: .int x :: st) h Q = RR S d 65 37 L (.int (x - y) :: st) h Q := RR.do1 (37, L, .int (x - y) :: st, h) rfl rfl rfl
theorem r65_37 {x : Int32} : RR S d 65 37 L [.int x] h Q = Q (some (.int x)) h := RR.rt rfl rfl rfl
theorem r66_0 : RR S d 66 0 L st h Q = kI (ai_look L 1) (fun x => RR S d 66 1 L (.int x :: st) h Q) := RR.ldi_n rfl rfl rfl
theorem r66_1 {x : Int32} : RR S d 66 1 L (.int x :: st) h Q = if x < 0 then RR S d 66 21 L st h Q else RR S d 66 4 L st h Q := RR.b1 (c := .lt) (off := 20) rfl rfl (by decide) rfl
theorem r66_4 : RR S d 66 4 L st h Q = kI (ai_look L 1) (fun x => RR S d 66 5 L (.int x :: st) h Q) := RR.ldi_n rfl rfl rfl
theorem r66_5 : RR S d 66 5 L st h Q = kA (ai_look L 0) (fun x => RR S d 66 6 L (x :: st) h Q) := RR.lda_n rfl rfl rfl
theorem r66_6 {a : Nat} : RR S d 66 6 L (.ref a :: st) h Q = kO (ai_fld h a 7 1) (fun w => RR S d 66 9 L (w :: st) h Q) := RR.get rfl rfl rfl
theorem r66_9 {x y : Int32} : RR S d 66 9 L (.int y :: .int x :: st) h Q = if y ≤ x then RR S d 66 21 L st h Q else RR S d 66 12 L st h Q := RR.b2 (c := .ge) (off := 12) rfl rfl (by decide) rfl
theorem r66_12 : RR S d 66 12 L st h Q = kA (ai_look L 0) (fun x => RR S d 66 13 L (x :: st) h Q) := RR.lda_n rfl rfl rfl
theorem r66_13 {a : Nat} : RR S d 66 13 L (.ref a :: st) h Q = kO (ai_fld h a 7 0) (fun w => RR S d 66 16 L (w :: st) h Q) := RR.get rfl rfl rfl
theorem r66_16 : RR S d 66 16 L st h Q = kI (ai_look L 1) (fun x => RR S d 66 17 L (.int x :: st) h Q) := RR.ldi_n rfl rfl rfl
theorem r66_17 {x : Int32} {a : Nat} : RR S d 66 17 L (.int x :: .ref a :: st) h Q = kO (ai_arq h a) (fun q => kB (ai_in x q.2.1 && (decide (2 ≤ q.1) && decide (q.1 < 5))) (RR S d 66 18 L (va_rf (q.2.2 x.toNatClampNeg) :: st) h Q)) := RR.aal rfl rfl
theorem r66_18 : RR S d 66 18 L st h Q = RR S d 66 22 L st h Q := RR.jmp (off := 4) rfl (by decide)
theorem r66_21 : RR S d 66 21 L st h Q = RR S d 66 22 L (.null :: st) h Q := RR.do1 (22, L, .null :: st, h) rfl rfl rfl
theorem r66_22 {a : Nat} : RR S d 66 22 L [.ref a] h Q = Q (some (.ref a)) h := RR.rt rfl rfl rfl
theorem r66_22n : RR S d 66 22 L [.null] h Q = Q (some .null) h := RR.rt rfl rfl rfl
theorem r67_0 : RR S d 67 0 L st h Q = kA (ai_look L 0) (fun x => RR S d 67 1 L (x :: st) h Q) := RR.lda_n rfl rfl rfl
theorem r67_1 : RR S d 67 1 L st h Q = kI (ai_look L 1) (fun x => RR S d 67 2 L (.int x :: st) h Q) := RR.ldi_n rfl rfl rfl
theorem r67_2 {p0 : Int32} {a : Nat} : RR S (d + 1) 67 2 L (.int p0 :: .ref a :: st) h Q = kB (decide (ai_sum st ≤ 8)) (kB ((ai_obj h a 7).isSome) (RR S d 66 0 [(0, .ref a), (1, .int p0)] [] h (fun r h1 => RR S (d + 1) 67 5 L (r.toList ++ st) h1 Q))) := RR.cv (j := 21) (mn' := 66) (n := 1) rfl rfl rfl rfl rfl rfl
theorem r67_5 {x : Nat} : RR S d 67 5 L (.ref x :: st) h Q = RR S d 67 6 (ai_put 2 (.ref x) L) st h Q := RR.do1 (6, ai_put 2 (.ref x) L, st, h) rfl rfl rfl
theorem r67_5n : RR S d 67 5 L (.null :: st) h Q = RR S d 67 6 (ai_put 2 .null L) st h Q := RR.do1 (6, ai_put 2 .null L, st, h) rfl rfl rfl
theorem r67_6 : RR S d 67 6 L st h Q = kA (ai_look L 2) (fun x => RR S d 67 7 L (x :: st) h Q) := RR.lda_n rfl rfl rfl
theorem r67_7 {x : Nat} : RR S d 67 7 L (.ref x :: st) h Q = RR S d 67 10 L st h Q := RR.nul (b := false) (off := 15) (tgt := 22) rfl rfl rfl (by decide) rfl rfl
theorem r67_7n : RR S d 67 7 L (.null :: st) h Q = RR S d 67 22 L st h Q := RR.nul (b := true) (off := 15) (tgt := 22) rfl rfl rfl (by decide) rfl rfl
theorem r67_10 : RR S d 67 10 L st h Q = kA (ai_look L 2) (fun x => RR S d 67 11 L (x :: st) h Q) := RR.lda_n rfl rfl rfl
theorem r67_11 {a : Nat} : RR S d 67 11 L (.ref a :: st) h Q = kO (ai_fld h a 6 4) (fun w => RR S d 67 14 L (w :: st) h Q) := RR.get rfl rfl rfl
theorem r67_14 : RR S d 67 14 L st h Q = RR S d 67 15 L (.int (-1) :: st) h Q := RR.icn (n := (-1)) rfl (by decide) rfl
theorem r67_15 {x y : Int32} : RR S d 67 15 L (.int y :: .int x :: st) h Q = if x = y then RR S d 67 22 L st h Q else RR S d 67 18 L st h Q := RR.b2 (c := .eq) (off := 7) rfl rfl (by decide) rfl
theorem r67_18 : RR S d 67 18 L st h Q = kA (ai_look L 2) (fun x => RR S d 67 19 L (x :: st) h Q) := RR.lda_n rfl rfl rfl
theorem r67_19 : RR S d 67 19 L st h Q = RR S d 67 23 L st h Q := RR.jmp (off := 4) rfl (by decide)
theorem r67_22 : RR S d 67 22 L st h Q = RR S d 67 23 L (.null :: st) h Q := RR.do1 (23, L, .null :: st, h) rfl rfl rfl
theorem r67_23 {a : Nat} : RR S d 67 23 L [.ref a] h Q = Q (some (.ref a)) h := RR.rt rfl rfl rfl
theorem r67_23n : RR S d 67 23 L [.null] h Q = Q (some .null) h := RR.rt rfl rfl rfl
theorem r68_0 : RR S d 68 0 L st h Q = RR S d 68 1 L (.int 1 :: st) h Q := RR.icn (n := 1) rfl (by decide) rfl
theorem r68_1 : RR S d 68 1 L st h Q = kA (ai_look L 0) (fun x => RR S d 68 2 L (x :: st) h Q) := RR.lda_n rfl rfl rfl
theorem r68_2 {a : Nat} : RR S d 68 2 L (.ref a :: st) h Q = kO (ai_fld h a 7 1) (fun w => RR S d 68 5 L (w :: st) h Q) := RR.get rfl rfl rfl
theorem r68_5 {x y : Int32} : RR S d 68 5 L (.int y :: .int x :: st) h Q = RR S d 68 6 L (.int (x <<< (y &&& 31)) :: st) h Q := RR.do1 (6, L, .int (x <<< (y &&& 31)) :: st, h) rfl rfl rfl
theorem r68_6 : RR S d 68 6 L st h Q = RR S d 68 7 L (.int 1 :: st) h Q := RR.icn (n := 1) rfl (by decide) rfl
theorem r68_7 {x y : Int32} : RR S d 68 7 L (.int y :: .int x :: st) h Q = RR S d 68 8 L (.int (x - y) :: st) h Q := RR.do1 (8, L, .int (x - y) :: st, h) rfl rfl rfl
theorem r68_8 {x : Int32} : RR S d 68 8 L [.int x] h Q = Q (some (.int x)) h := RR.rt rfl rfl rfl
theorem r69_0 : RR S d 69 0 L st h Q = RR S d 69 1 L (.int 0 :: st) h Q := RR.icn (n := 0) rfl (by decide) rfl
theorem r69_1 {x : Int32} : RR S d 69 1 L (.int x :: st) h Q = RR S d 69 2 (ai_put 1 (.int x) L) st h Q := RR.do1 (2, ai_put 1 (.int x) L, st, h) rfl rfl rfl
theorem r69_2 : RR S d 69 2 L st h Q = RR S d 69 3 L (.int 0 :: st) h Q := RR.icn (n := 0) rfl (by decide) rfl
theorem r69_3 {x : Int32} : RR S d 69 3 L (.int x :: st) h Q = RR S d 69 4 (ai_put 2 (.int x) L) st h Q := RR.do1 (4, ai_put 2 (.int x) L, st, h) rfl rfl rfl
theorem r69_4 : RR S d 69 4 L st h Q = kI (ai_look L 2) (fun x => RR S d 69 5 L (.int x :: st) h Q) := RR.ldi_n rfl rfl rfl
theorem r69_5 : RR S d 69 5 L st h Q = kA (ai_look L 0) (fun x => RR S d 69 6 L (x :: st) h Q) := RR.lda_n rfl rfl rfl
theorem r69_6 {a : Nat} : RR S d 69 6 L (.ref a :: st) h Q = kO (ai_fld h a 7 1) (fun w => RR S d 69 9 L (w :: st) h Q) := RR.get rfl rfl rfl
theorem r69_9 {x y : Int32} : RR S d 69 9 L (.int y :: .int x :: st) h Q = if y ≤ x then RR S d 69 32 L st h Q else RR S d 69 12 L st h Q := RR.b2 (c := .ge) (off := 23) rfl rfl (by decide) rfl
theorem r69_12 : RR S d 69 12 L st h Q = kA (ai_look L 0) (fun x => RR S d 69 13 L (x :: st) h Q) := RR.lda_n rfl rfl rfl
theorem r69_13 : RR S d 69 13 L st h Q = kI (ai_look L 2) (fun x => RR S d 69 14 L (.int x :: st) h Q) := RR.ldi_n rfl rfl rfl
theorem r69_14 {p0 : Int32} {a : Nat} : RR S (d + 1) 69 14 L (.int p0 :: .ref a :: st) h Q = kB (decide (ai_sum st ≤ 8)) (kB ((ai_obj h a 7).isSome) (RR S d 67 0 [(0, .ref a), (1, .int p0)] [] h (fun r h1 => RR S (d + 1) 69 17 L (r.toList ++ st) h1 Q))) := RR.cv (j := 28) (mn' := 67) (n := 1) rfl rfl rfl rfl rfl rfl
theorem r69_17 {x : Nat} : RR S d 69 17 L (.ref x :: st) h Q = RR S d 69 20 L st h Q := RR.nul (b := false) (off := 9) (tgt := 26) rfl rfl rfl (by decide) rfl rfl
theorem r69_17n : RR S d 69 17 L (.null :: st) h Q = RR S d 69 26 L st h Q := RR.nul (b := true) (off := 9) (tgt := 26) rfl rfl rfl (by decide) rfl rfl
theorem r69_20 : RR S d 69 20 L st h Q = kI (ai_look L 1) (fun x => RR S d 69 21 L (.int x :: st) h Q) := RR.ldi_n rfl rfl rfl
theorem r69_21 : RR S d 69 21 L st h Q = RR S d 69 22 L (.int 1 :: st) h Q := RR.icn (n := 1) rfl (by decide) rfl
theorem r69_22 : RR S d 69 22 L st h Q = kI (ai_look L 2) (fun x => RR S d 69 23 L (.int x :: st) h Q) := RR.ldi_n rfl rfl rfl
theorem r69_23 {x y : Int32} : RR S d 69 23 L (.int y :: .int x :: st) h Q = RR S d 69 24 L (.int (x <<< (y &&& 31)) :: st) h Q := RR.do1 (24, L, .int (x <<< (y &&& 31)) :: st, h) rfl rfl rfl
theorem r69_24 {x y : Int32} : RR S d 69 24 L (.int y :: .int x :: st) h Q = RR S d 69 25 L (.int (x ||| y) :: st) h Q := RR.do1 (25, L, .int (x ||| y) :: st, h) rfl rfl rfl
theorem r69_25 {x : Int32} : RR S d 69 25 L (.int x :: st) h Q = RR S d 69 26 (ai_put 1 (.int x) L) st h Q := RR.do1 (26, ai_put 1 (.int x) L, st, h) rfl rfl rfl
theorem r69_26 : RR S d 69 26 L st h Q = kI (ai_look L 2) (fun x => RR S d 69 29 (ai_put 2 (.int (x + 1)) L) st h Q) := RR.iinc (k := 2) (n := 1) rfl (by decide) (by decide) rfl
theorem r69_29 : RR S d 69 29 L st h Q = RR S d 69 4 L st h Q := RR.jmp (off := (-25)) rfl (by decide)
theorem r69_32 : RR S d 69 32 L st h Q = kI (ai_look L 1) (fun x => RR S d 69 33 L (.int x :: st) h Q) := RR.ldi_n rfl rfl rfl
theorem r69_33 {x : Int32} : RR S d 69 33 L [.int x] h Q = Q (some (.int x)) h := RR.rt rfl rfl rfl
theorem r70_0 : RR S d 70 0 L st h Q = kA (ai_look L 0) (fun x => RR S d 70 1 L (x :: st) h Q) := RR.lda_n rfl rfl rfl
theorem r70_1 {a : Nat} : RR S (d + 1) 70 1 L (.ref a :: st) h Q = kB (decide (ai_sum st ≤ 8)) (kB ((ai_obj h a 7).isSome) (RR S d 68 0 [(0, .ref a)] [] h (fun r h1 => RR S (d + 1) 70 4 L (r.toList ++ st) h1 Q))) := RR.cv (j := 31) (mn' := 68) (n := 0) rfl rfl rfl rfl rfl rfl
theorem r70_4 : RR S d 70 4 L st h Q = kA (ai_look L 0) (fun x => RR S d 70 5 L (x :: st) h Q) := RR.lda_n rfl rfl rfl
theorem r70_5 {a : Nat} : RR S (d + 1) 70 5 L (.ref a :: st) h Q = kB (decide (ai_sum st ≤ 8)) (kB ((ai_obj h a 7).isSome) (RR S d 69 0 [(0, .ref a)] [] h (fun r h1 => RR S (d + 1) 70 8 L (r.toList ++ st) h1 Q))) := RR.cv (j := 35) (mn' := 69) (n := 0) rfl rfl rfl rfl rfl rfl
theorem r70_8 : RR S d 70 8 L st h Q = RR S d 70 9 L (.int (-1) :: st) h Q := RR.icn (n := (-1)) rfl (by decide) rfl
theorem r70_9 {x y : Int32} : RR S d 70 9 L (.int y :: .int x :: st) h Q = RR S d 70 10 L (.int (x ^^^ y) :: st) h Q := RR.do1 (10, L, .int (x ^^^ y) :: st, h) rfl rfl rfl
theorem r70_10 {x y : Int32} : RR S d 70 10 L (.int y :: .int x :: st) h Q = RR S d 70 11 L (.int (x &&& y) :: st) h Q := RR.do1 (11, L, .int (x &&& y) :: st, h) rfl rfl rfl
theorem r70_11 {x : Int32} : RR S d 70 11 L [.int x] h Q = Q (some (.int x)) h := RR.rt rfl rfl rfl
theorem r71_0 : RR S d 71 0 L st h Q = kA (ai_look L 0) (fun x => RR S d 71 1 L (x :: st) h Q) := RR.lda_n rfl rfl rfl
theorem r71_1 {a : Nat} : RR S d 71 1 L (.ref a :: st) h Q = kB (decide (ai_sum st ≤ 8)) (RR S d 71 4 L st h Q) := RR.oin (j := 5) rfl rfl rfl
theorem r71_4 : RR S d 71 4 L st h Q = kA (ai_look L 0) (fun x => RR S d 71 5 L (x :: st) h Q) := RR.lda_n rfl rfl rfl
theorem r71_5 : RR S d 71 5 L st h Q = RR S d 71 6 L (.int 0 :: st) h Q := RR.icn (n := 0) rfl (by decide) rfl
theorem r71_6 {x : Int32} {a : Nat} : RR S d 71 6 L (.int x :: .ref a :: st) h Q = kO (ai_obj h a 8) (fun fs => kB (decide (1 < fs.length)) (RR S d 71 9 L st (h.1.set a (.inr (8, fs.set 1 (.int x))), h.2) Q)) := RR.put rfl rfl (ai_okp_i rfl (by decide +kernel)) rfl
theorem r71_9 : RR S d 71 9 L st h Q = kA (ai_look L 0) (fun x => RR S d 71 10 L (x :: st) h Q) := RR.lda_n rfl rfl rfl
theorem r71_10 : RR S d 71 10 L st h Q = RR S d 71 11 L (.int 1 :: st) h Q := RR.icn (n := 1) rfl (by decide) rfl
theorem r71_11 {x : Int32} {a : Nat} : RR S d 71 11 L (.int x :: .ref a :: st) h Q = kO (ai_obj h a 8) (fun fs => kB (decide (2 < fs.length)) (RR S d 71 14 L st (h.1.set a (.inr (8, fs.set 2 (.int x))), h.2) Q)) := RR.put rfl rfl (ai_okp_i rfl (by decide +kernel)) rfl
theorem r71_14 : RR S d 71 14 L st h Q = kA (ai_look L 0) (fun x => RR S d 71 15 L (x :: st) h Q) := RR.lda_n rfl rfl rfl
theorem r71_15 : RR S d 71 15 L st h Q = RR S d 71 16 L (.int (-1) :: st) h Q := RR.icn (n := (-1)) rfl (by decide) rfl
theorem r71_16 {x : Int32} {a : Nat} : RR S d 71 16 L (.int x :: .ref a :: st) h Q = kO (ai_obj h a 8) (fun fs => kB (decide (3 < fs.length)) (RR S d 71 19 L st (h.1.set a (.inr (8, fs.set 3 (.int x))), h.2) Q)) := RR.put rfl rfl (ai_okp_i rfl (by decide +kernel)) rfl
theorem r71_19 : RR S d 71 19 L st h Q = kA (ai_look L 0) (fun x => RR S d 71 20 L (x :: st) h Q) := RR.lda_n rfl rfl rfl
theorem r71_20 : RR S d 71 20 L st h Q = RR S d 71 21 L (.int (-1) :: st) h Q := RR.icn (n := (-1)) rfl (by decide) rfl
theorem r71_21 {x : Int32} {a : Nat} : RR S d 71 21 L (.int x :: .ref a :: st) h Q = kO (ai_obj h a 8) (fun fs => kB (decide (4 < fs.length)) (RR S d 71 24 L st (h.1.set a (.inr (8, fs.set 4 (.int x))), h.2) Q)) := RR.put rfl rfl (ai_okp_i rfl (by decide +kernel)) rfl
theorem r71_24 : RR S d 71 24 L st h Q = kA (ai_look L 0) (fun x => RR S d 71 25 L (x :: st) h Q) := RR.lda_n rfl rfl rfl
theorem r71_25 : RR S d 71 25 L st h Q = kA (ai_look L 1) (fun x => RR S d 71 26 L (x :: st) h Q) := RR.lda_n rfl rfl rfl
theorem r71_26 {x : Nat} {a : Nat} : RR S d 71 26 L (.ref x :: .ref a :: st) h Q = kO (ai_obj h a 8) (fun fs => kB (decide (0 < fs.length)) (RR S d 71 29 L st (h.1.set a (.inr (8, fs.set 0 (.ref x))), h.2) Q)) := RR.put rfl rfl (ai_okp_r (by decide +kernel)) rfl
theorem r71_29 : RR S d 71 29 L [] h Q = Q none h := RR.rt rfl rfl rfl
theorem r72_0 : RR S d 72 0 L st h Q = kI (ai_look L 0) (fun x => RR S d 72 1 L (.int x :: st) h Q) := RR.ldi_n rfl rfl rfl
theorem r72_1 : RR S d 72 1 L st h Q = RR S d 72 3 L (.int 16 :: st) h Q := RR.bip (n := 16) rfl (by decide) rfl
theorem r72_3 {x y : Int32} : RR S d 72 3 L (.int y :: .int x :: st) h Q = RR S d 72 4 L (.int (x >>> (y &&& 31)) :: st) h Q := RR.do1 (4, L, .int (x >>> (y &&& 31)) :: st, h) rfl rfl rfl
theorem r72_4 {x : Int32} : RR S d 72 4 L [.int x] h Q = Q (some (.int x)) h := RR.rt rfl rfl rfl
theorem r73_0 : RR S d 73 0 L st h Q = kI (ai_look L 1) (fun x => RR S d 73 1 L (.int x :: st) h Q) := RR.ldi_n rfl rfl rfl
theorem r73_1 {x : Int32} : RR S d 73 1 L (.int x :: st) h Q = if x < 0 then RR S d 73 9 L st h Q else RR S d 73 4 L st h Q := RR.b1 (c := .lt) (off := 8) rfl rfl (by decide) rfl
theorem r73_4 : RR S d 73 4 L st h Q = kI (ai_look L 1) (fun x => RR S d 73 5 L (.int x :: st) h Q) := RR.ldi_n rfl rfl rfl
theorem r73_5 : RR S d 73 5 L st h Q = RR S d 73 6 L (.int 4 :: st) h Q := RR.icn (n := 4) rfl (by decide) rfl
theorem r73_6 {x y : Int32} : RR S d 73 6 L (.int y :: .int x :: st) h Q = if x < y then RR S d 73 11 L st h Q else RR S d 73 9 L st h Q := RR.b2 (c := .lt) (off := 5) rfl rfl (by decide) rfl
theorem r73_9 : RR S d 73 9 L st h Q = RR S d 73 10 L (.int (-1) :: st) h Q := RR.icn (n := (-1)) rfl (by decide) rfl
theorem r73_10 {x : Int32} : RR S d 73 10 L [.int x] h Q = Q (some (.int x)) h := RR.rt rfl rfl rfl
theorem r73_11 : RR S d 73 11 L st h Q = kI (ai_look L 0) (fun x => RR S d 73 12 L (.int x :: st) h Q) := RR.ldi_n rfl rfl rfl
theorem r73_12 : RR S d 73 12 L st h Q = kI (ai_look L 1) (fun x => RR S d 73 13 L (.int x :: st) h Q) := RR.ldi_n rfl rfl rfl
theorem r73_13 {p0 : Int32} : RR S (d + 1) 73 13 L (.int p0 :: st) h Q = kB (decide (ai_sum st ≤ 8)) (RR S d 77 0 [(0, .int p0)] [] h (fun r h1 => RR S (d + 1) 73 16 L (r.toList ++ st) h1 Q)) := RR.cs (j := 28) (mn' := 77) (n := 1) rfl rfl rfl rfl (by simp) rfl rfl
theorem r73_16 {x y : Int32} : RR S d 73 16 L (.int y :: .int x :: st) h Q = RR S d 73 17 L (.int (x >>> (y &&& 31)) :: st) h Q := RR.do1 (17, L, .int (x >>> (y &&& 31)) :: st, h) rfl rfl rfl
theorem r73_17 : RR S d 73 17 L st h Q = RR S d 73 19 L (.int 15 :: st) h Q := RR.bip (n := 15) rfl (by decide) rfl
theorem r73_19 {x y : Int32} : RR S d 73 19 L (.int y :: .int x :: st) h Q = RR S d 73 20 L (.int (x &&& y) :: st) h Q := RR.do1 (20, L, .int (x &&& y) :: st, h) rfl rfl rfl
theorem r73_20 : RR S d 73 20 L st h Q = RR S d 73 21 L (.int 1 :: st) h Q := RR.icn (n := 1) rfl (by decide) rfl
theorem r73_21 {x y : Int32} : RR S d 73 21 L (.int y :: .int x :: st) h Q = RR S d 73 22 L (.int (x - y) :: st) h Q := RR.do1 (22, L, .int (x - y) :: st, h) rfl rfl rfl
theorem r73_22 {x : Int32} : RR S d 73 22 L [.int x] h Q = Q (some (.int x)) h := RR.rt rfl rfl rfl
theorem r74_0 : RR S d 74 0 L st h Q = RR S d 74 1 L (.int 0 :: st) h Q := RR.icn (n := 0) rfl (by decide) rfl
theorem r74_1 {x : Int32} : RR S d 74 1 L (.int x :: st) h Q = RR S d 74 2 (ai_put 1 (.int x) L) st h Q := RR.do1 (2, ai_put 1 (.int x) L, st, h) rfl rfl rfl
theorem r74_2 : RR S d 74 2 L st h Q = RR S d 74 3 L (.int 0 :: st) h Q := RR.icn (n := 0) rfl (by decide) rfl
theorem r74_3 {x : Int32} : RR S d 74 3 L (.int x :: st) h Q = RR S d 74 4 (ai_put 2 (.int x) L) st h Q := RR.do1 (4, ai_put 2 (.int x) L, st, h) rfl rfl rfl
theorem r74_4 : RR S d 74 4 L st h Q = kI (ai_look L 2) (fun x => RR S d 74 5 L (.int x :: st) h Q) := RR.ldi_n rfl rfl rfl
theorem r74_5 : RR S d 74 5 L st h Q = RR S d 74 6 L (.int 4 :: st) h Q := RR.icn (n := 4) rfl (by decide) rfl
theorem r74_6 {x y : Int32} : RR S d 74 6 L (.int y :: .int x :: st) h Q = if y ≤ x then RR S d 74 27 L st h Q else RR S d 74 9 L st h Q := RR.b2 (c := .ge) (off := 21) rfl rfl (by decide) rfl
theorem r74_9 : RR S d 74 9 L st h Q = kI (ai_look L 0) (fun x => RR S d 74 10 L (.int x :: st) h Q) := RR.ldi_n rfl rfl rfl
theorem r74_10 : RR S d 74 10 L st h Q = kI (ai_look L 2) (fun x => RR S d 74 11 L (.int x :: st) h Q) := RR.ldi_n rfl rfl rfl
theorem r74_11 {p0 : Int32} {p1 : Int32} : RR S (d + 1) 74 11 L (.int p1 :: .int p0 :: st) h Q = kB (decide (ai_sum st ≤ 8)) (RR S d 73 0 [(0, .int p0), (1, .int p1)] [] h (fun r h1 => RR S (d + 1) 74 14 L (r.toList ++ st) h1 Q)) := RR.cs (j := 32) (mn' := 73) (n := 2) rfl rfl rfl rfl (by simp) rfl rfl
theorem r74_14 : RR S d 74 14 L st h Q = RR S d 74 15 L (.int (-1) :: st) h Q := RR.icn (n := (-1)) rfl (by decide) rfl
theorem r74_15 {x y : Int32} : RR S d 74 15 L (.int y :: .int x :: st) h Q = if x = y then RR S d 74 21 L st h Q else RR S d 74 18 L st h Q := RR.b2 (c := .eq) (off := 6) rfl rfl (by decide) rfl
theorem r74_18 : RR S d 74 18 L st h Q = kI (ai_look L 1) (fun x => RR S d 74 21 (ai_put 1 (.int (x + 1)) L) st h Q) := RR.iinc (k := 1) (n := 1) rfl (by decide) (by decide) rfl
theorem r74_21 : RR S d 74 21 L st h Q = kI (ai_look L 2) (fun x => RR S d 74 24 (ai_put 2 (.int (x + 1)) L) st h Q) := RR.iinc (k := 2) (n := 1) rfl (by decide) (by decide) rfl
theorem r74_24 : RR S d 74 24 L st h Q = RR S d 74 4 L st h Q := RR.jmp (off := (-20)) rfl (by decide)
theorem r74_27 : RR S d 74 27 L st h Q = kI (ai_look L 1) (fun x => RR S d 74 28 L (.int x :: st) h Q) := RR.ldi_n rfl rfl rfl
theorem r74_28 {x : Int32} : RR S d 74 28 L [.int x] h Q = Q (some (.int x)) h := RR.rt rfl rfl rfl
theorem r75_0 : RR S d 75 0 L st h Q = kI (ai_look L 0) (fun x => RR S d 75 1 L (.int x :: st) h Q) := RR.ldi_n rfl rfl rfl
theorem r75_1 : RR S d 75 1 L st h Q = kI (ai_look L 1) (fun x => RR S d 75 2 L (.int x :: st) h Q) := RR.ldi_n rfl rfl rfl
theorem r75_2 {p0 : Int32} {p1 : Int32} : RR S (d + 1) 75 2 L (.int p1 :: .int p0 :: st) h Q = kB (decide (ai_sum st ≤ 8)) (RR S d 73 0 [(0, .int p0), (1, .int p1)] [] h (fun r h1 => RR S (d + 1) 75 5 L (r.toList ++ st) h1 Q)) := RR.cs (j := 32) (mn' := 73) (n := 2) rfl rfl rfl rfl (by simp) rfl rfl
theorem r75_5 : RR S d 75 5 L st h Q = RR S d 75 6 L (.int (-1) :: st) h Q := RR.icn (n := (-1)) rfl (by decide) rfl
theorem r75_6 {x y : Int32} : RR S d 75 6 L (.int y :: .int x :: st) h Q = if x = y then RR S d 75 13 L st h Q else RR S d 75 9 L st h Q := RR.b2 (c := .eq) (off := 7) rfl rfl (by decide) rfl
theorem r75_9 : RR S d 75 9 L st h Q = RR S d 75 10 L (.int 1 :: st) h Q := RR.icn (n := 1) rfl (by decide) rfl
theorem r75_10 : RR S d 75 10 L st h Q = RR S d 75 14 L st h Q := RR.jmp (off := 4) rfl (by decide)
theorem r75_13 : RR S d 75 13 L st h Q = RR S d 75 14 L (.int 0 :: st) h Q := RR.icn (n := 0) rfl (by decide) rfl
theorem r75_14f : RR S d 75 14 L [.int 0] h Q = Q (some (.int 0)) h := RR.zrt rfl rfl (by decide)
theorem r75_14t : RR S d 75 14 L [.int 1] h Q = Q (some (.int 1)) h := RR.zrt rfl rfl (by decide)
theorem r76_0 : RR S d 76 0 L st h Q = RR S d 76 1 L (.int 0 :: st) h Q := RR.icn (n := 0) rfl (by decide) rfl
theorem r76_1 {x : Int32} : RR S d 76 1 L (.int x :: st) h Q = RR S d 76 2 (ai_put 2 (.int x) L) st h Q := RR.do1 (2, ai_put 2 (.int x) L, st, h) rfl rfl rfl
theorem r76_2 : RR S d 76 2 L st h Q = kI (ai_look L 2) (fun x => RR S d 76 3 L (.int x :: st) h Q) := RR.ldi_n rfl rfl rfl
theorem r76_3 : RR S d 76 3 L st h Q = RR S d 76 4 L (.int 4 :: st) h Q := RR.icn (n := 4) rfl (by decide) rfl
theorem r76_4 {x y : Int32} : RR S d 76 4 L (.int y :: .int x :: st) h Q = if y ≤ x then RR S d 76 29 L st h Q else RR S d 76 7 L st h Q := RR.b2 (c := .ge) (off := 25) rfl rfl (by decide) rfl
theorem r76_7 : RR S d 76 7 L st h Q = kI (ai_look L 1) (fun x => RR S d 76 8 L (.int x :: st) h Q) := RR.ldi_n rfl rfl rfl
theorem r76_8 : RR S d 76 8 L st h Q = RR S d 76 9 L (.int (-1) :: st) h Q := RR.icn (n := (-1)) rfl (by decide) rfl
theorem r76_9 {x y : Int32} : RR S d 76 9 L (.int y :: .int x :: st) h Q = if x = y then RR S d 76 23 L st h Q else RR S d 76 12 L st h Q := RR.b2 (c := .eq) (off := 14) rfl rfl (by decide) rfl
theorem r76_12 : RR S d 76 12 L st h Q = kI (ai_look L 0) (fun x => RR S d 76 13 L (.int x :: st) h Q) := RR.ldi_n rfl rfl rfl
theorem r76_13 : RR S d 76 13 L st h Q = kI (ai_look L 2) (fun x => RR S d 76 14 L (.int x :: st) h Q) := RR.ldi_n rfl rfl rfl
theorem r76_14 {p0 : Int32} {p1 : Int32} : RR S (d + 1) 76 14 L (.int p1 :: .int p0 :: st) h Q = kB (decide (ai_sum st ≤ 8)) (RR S d 73 0 [(0, .int p0), (1, .int p1)] [] h (fun r h1 => RR S (d + 1) 76 17 L (r.toList ++ st) h1 Q)) := RR.cs (j := 32) (mn' := 73) (n := 2) rfl rfl rfl rfl (by simp) rfl rfl
theorem r76_17 : RR S d 76 17 L st h Q = kI (ai_look L 1) (fun x => RR S d 76 18 L (.int x :: st) h Q) := RR.ldi_n rfl rfl rfl
theorem r76_18 {x y : Int32} : RR S d 76 18 L (.int y :: .int x :: st) h Q = if ¬ x = y then RR S d 76 23 L st h Q else RR S d 76 21 L st h Q := RR.b2 (c := .ne) (off := 5) rfl rfl (by decide) rfl
theorem r76_21 : RR S d 76 21 L st h Q = kI (ai_look L 2) (fun x => RR S d 76 22 L (.int x :: st) h Q) := RR.ldi_n rfl rfl rfl
theorem r76_22 {x : Int32} : RR S d 76 22 L [.int x] h Q = Q (some (.int x)) h := RR.rt rfl rfl rfl
theorem r76_23 : RR S d 76 23 L st h Q = kI (ai_look L 2) (fun x => RR S d 76 26 (ai_put 2 (.int (x + 1)) L) st h Q) := RR.iinc (k := 2) (n := 1) rfl (by decide) (by decide) rfl
theorem r76_26 : RR S d 76 26 L st h Q = RR S d 76 2 L st h Q := RR.jmp (off := (-24)) rfl (by decide)
theorem r76_29 : RR S d 76 29 L st h Q = RR S d 76 30 L (.int (-1) :: st) h Q := RR.icn (n := (-1)) rfl (by decide) rfl
theorem r76_30 {x : Int32} : RR S d 76 30 L [.int x] h Q = Q (some (.int x)) h := RR.rt rfl rfl rfl
theorem r77_0 : RR S d 77 0 L st h Q = RR S d 77 2 L (.int 12 :: st) h Q := RR.bip (n := 12) rfl (by decide) rfl
theorem r77_2 : RR S d 77 2 L st h Q = RR S d 77 3 L (.int 4 :: st) h Q := RR.icn (n := 4) rfl (by decide) rfl
theorem r77_3 : RR S d 77 3 L st h Q = kI (ai_look L 0) (fun x => RR S d 77 4 L (.int x :: st) h Q) := RR.ldi_n rfl rfl rfl
theorem r77_4 {x y : Int32} : RR S d 77 4 L (.int y :: .int x :: st) h Q = RR S d 77 5 L (.int (x * y) :: st) h Q := RR.do1 (5, L, .int (x * y) :: st, h) rfl rfl rfl
theorem r77_5 {x y : Int32} : RR S d 77 5 L (.int y :: .int x :: st) h Q = RR S d 77 6 L (.int (x - y) :: st) h Q := RR.do1 (6, L, .int (x - y) :: st, h) rfl rfl rfl
theorem r77_6 {x : Int32} : RR S d 77 6 L [.int x] h Q = Q (some (.int x)) h := RR.rt rfl rfl rfl
theorem r78_0 : RR S d 78 0 L st h Q = kA (ai_look L 0) (fun x => RR S d 78 1 L (x :: st) h Q) := RR.lda_n rfl rfl rfl
theorem r78_1 : RR S d 78 1 L st h Q = kI (ai_look L 1) (fun x => RR S d 78 2 L (.int x :: st) h Q) := RR.ldi_n rfl rfl rfl
theorem r78_2 : RR S d 78 2 L st h Q = kI (ai_look L 2) (fun x => RR S d 78 3 L (.int x :: st) h Q) := RR.ldi_n rfl rfl rfl
theorem r78_3 : RR S d 78 3 L st h Q = kI (ai_look L 3) (fun x => RR S d 78 4 L (.int x :: st) h Q) := RR.ldi_n rfl rfl rfl
theorem r78_4 : RR S d 78 4 L st h Q = RR S d 78 5 L (.int (-1) :: st) h Q := RR.icn (n := (-1)) rfl (by decide) rfl
theorem r78_5 {p0 : Int32} {p1 : Int32} {p2 : Int32} {p3 : Int32} {a : Nat} : RR S (d + 1) 78 5 L (.int p3 :: .int p2 :: .int p1 :: .int p0 :: .ref a :: st) h Q = kB (decide (ai_sum st ≤ 8)) (kB ((ai_obj h a 8).isSome) (RR S d 79 0 [(0, .ref a), (1, .int p0), (2, .int p1), (3, .int p2), (4, .int p3)] [] h (fun r h1 => RR S (d + 1) 78 8 L (r.toList ++ st) h1 Q))) := RR.cv (j := 36) (mn' := 79) (n := 4) rfl rfl rfl rfl rfl rfl
theorem r78_8 {x : Int32} : RR S d 78 8 L (.int x :: st) h Q = RR S d 78 10 (ai_put 5 (.int x) L) st h Q := RR.do1 (10, ai_put 5 (.int x) L, st, h) rfl rfl rfl
theorem r78_10 : RR S d 78 10 L st h Q = RR S d 78 11 L (.int 0 :: st) h Q := RR.icn (n := 0) rfl (by decide) rfl
theorem r78_11 {x : Int32} : RR S d 78 11 L (.int x :: st) h Q = RR S d 78 13 (ai_put 6 (.int x) L) st h Q := RR.do1 (13, ai_put 6 (.int x) L, st, h) rfl rfl rfl
theorem r78_13 : RR S d 78 13 L st h Q = kI (ai_look L 6) (fun x => RR S d 78 15 L (.int x :: st) h Q) := RR.ldi rfl rfl
theorem r78_15 : RR S d 78 15 L st h Q = kI (ai_look L 4) (fun x => RR S d 78 17 L (.int x :: st) h Q) := RR.ldi rfl rfl
theorem r78_17 {x y : Int32} : RR S d 78 17 L (.int y :: .int x :: st) h Q = if y ≤ x then RR S d 78 43 L st h Q else RR S d 78 20 L st h Q := RR.b2 (c := .ge) (off := 26) rfl rfl (by decide) rfl
theorem r78_20 : RR S d 78 20 L st h Q = kI (ai_look L 5) (fun x => RR S d 78 22 L (.int x :: st) h Q) := RR.ldi rfl rfl
theorem r78_22 : RR S d 78 22 L st h Q = RR S d 78 23 L (.int (-1) :: st) h Q := RR.icn (n := (-1)) rfl (by decide) rfl
theorem r78_23 {x y : Int32} : RR S d 78 23 L (.int y :: .int x :: st) h Q = if x = y then RR S d 78 43 L st h Q else RR S d 78 26 L st h Q := RR.b2 (c := .eq) (off := 20) rfl rfl (by decide) rfl
theorem r78_26 : RR S d 78 26 L st h Q = kA (ai_look L 0) (fun x => RR S d 78 27 L (x :: st) h Q) := RR.lda_n rfl rfl rfl
theorem r78_27 : RR S d 78 27 L st h Q = kI (ai_look L 1) (fun x => RR S d 78 28 L (.int x :: st) h Q) := RR.ldi_n rfl rfl rfl
theorem r78_28 : RR S d 78 28 L st h Q = kI (ai_look L 2) (fun x => RR S d 78 29 L (.int x :: st) h Q) := RR.ldi_n rfl rfl rfl
theorem r78_29 : RR S d 78 29 L st h Q = kI (ai_look L 3) (fun x => RR S d 78 30 L (.int x :: st) h Q) := RR.ldi_n rfl rfl rfl
theorem r78_30 : RR S d 78 30 L st h Q = kI (ai_look L 5) (fun x => RR S d 78 32 L (.int x :: st) h Q) := RR.ldi rfl rfl
theorem r78_32 {p0 : Int32} {p1 : Int32} {p2 : Int32} {p3 : Int32} {a : Nat} : RR S (d + 1) 78 32 L (.int p3 :: .int p2 :: .int p1 :: .int p0 :: .ref a :: st) h Q = kB (decide (ai_sum st ≤ 8)) (kB ((ai_obj h a 8).isSome) (RR S d 79 0 [(0, .ref a), (1, .int p0), (2, .int p1), (3, .int p2), (4, .int p3)] [] h (fun r h1 => RR S (d + 1) 78 35 L (r.toList ++ st) h1 Q))) := RR.cv (j := 36) (mn' := 79) (n := 4) rfl rfl rfl rfl rfl rfl
theorem r78_35 {x : Int32} : RR S d 78 35 L (.int x :: st) h Q = RR S d 78 37 (ai_put 5 (.int x) L) st h Q := RR.do1 (37, ai_put 5 (.int x) L, st, h) rfl rfl rfl
theorem r78_37 : RR S d 78 37 L st h Q = kI (ai_look L 6) (fun x => RR S d 78 40 (ai_put 6 (.int (x + 1)) L) st h Q) := RR.iinc (k := 6) (n := 1) rfl (by decide) (by decide) rfl
theorem r78_40 : RR S d 78 40 L st h Q = RR S d 78 13 L st h Q := RR.jmp (off := (-27)) rfl (by decide)
theorem r78_43 : RR S d 78 43 L st h Q = kI (ai_look L 5) (fun x => RR S d 78 45 L (.int x :: st) h Q) := RR.ldi rfl rfl
theorem r78_45 {x : Int32} : RR S d 78 45 L [.int x] h Q = Q (some (.int x)) h := RR.rt rfl rfl rfl
theorem r79_0 : RR S d 79 0 L st h Q = kA (ai_look L 0) (fun x => RR S d 79 1 L (x :: st) h Q) := RR.lda_n rfl rfl rfl
theorem r79_1 : RR S d 79 1 L st h Q = kI (ai_look L 2) (fun x => RR S d 79 2 L (.int x :: st) h Q) := RR.ldi_n rfl rfl rfl
theorem r79_2 {x : Int32} {a : Nat} : RR S d 79 2 L (.int x :: .ref a :: st) h Q = kO (ai_obj h a 8) (fun fs => kB (decide (1 < fs.length)) (RR S d 79 5 L st (h.1.set a (.inr (8, fs.set 1 (.int x))), h.2) Q)) := RR.put rfl rfl (ai_okp_i rfl (by decide +kernel)) rfl
theorem r79_5 : RR S d 79 5 L st h Q = kA (ai_look L 0) (fun x => RR S d 79 6 L (x :: st) h Q) := RR.lda_n rfl rfl rfl
theorem r79_6 : RR S d 79 6 L st h Q = kI (ai_look L 3) (fun x => RR S d 79 7 L (.int x :: st) h Q) := RR.ldi_n rfl rfl rfl
theorem r79_7 {x : Int32} {a : Nat} : RR S d 79 7 L (.int x :: .ref a :: st) h Q = kO (ai_obj h a 8) (fun fs => kB (decide (2 < fs.length)) (RR S d 79 10 L st (h.1.set a (.inr (8, fs.set 2 (.int x))), h.2) Q)) := RR.put rfl rfl (ai_okp_i rfl (by decide +kernel)) rfl
theorem r79_10 : RR S d 79 10 L st h Q = kA (ai_look L 0) (fun x => RR S d 79 11 L (x :: st) h Q) := RR.lda_n rfl rfl rfl
theorem r79_11 : RR S d 79 11 L st h Q = kI (ai_look L 4) (fun x => RR S d 79 13 L (.int x :: st) h Q) := RR.ldi rfl rfl
theorem r79_13 {x : Int32} {a : Nat} : RR S d 79 13 L (.int x :: .ref a :: st) h Q = kO (ai_obj h a 8) (fun fs => kB (decide (3 < fs.length)) (RR S d 79 16 L st (h.1.set a (.inr (8, fs.set 3 (.int x))), h.2) Q)) := RR.put rfl rfl (ai_okp_i rfl (by decide +kernel)) rfl
theorem r79_16 : RR S d 79 16 L st h Q = kA (ai_look L 0) (fun x => RR S d 79 17 L (x :: st) h Q) := RR.lda_n rfl rfl rfl
theorem r79_17 : RR S d 79 17 L st h Q = RR S d 79 18 L (.int (-1) :: st) h Q := RR.icn (n := (-1)) rfl (by decide) rfl
theorem r79_18 {x : Int32} {a : Nat} : RR S d 79 18 L (.int x :: .ref a :: st) h Q = kO (ai_obj h a 8) (fun fs => kB (decide (4 < fs.length)) (RR S d 79 21 L st (h.1.set a (.inr (8, fs.set 4 (.int x))), h.2) Q)) := RR.put rfl rfl (ai_okp_i rfl (by decide +kernel)) rfl
theorem r79_21 : RR S d 79 21 L st h Q = kA (ai_look L 0) (fun x => RR S d 79 22 L (x :: st) h Q) := RR.lda_n rfl rfl rfl
theorem r79_22 : RR S d 79 22 L st h Q = kI (ai_look L 1) (fun x => RR S d 79 23 L (.int x :: st) h Q) := RR.ldi_n rfl rfl rfl
theorem r79_23 : RR S d 79 23 L st h Q = RR S d 79 24 L (.int 1 :: st) h Q := RR.icn (n := 1) rfl (by decide) rfl
theorem r79_24 : RR S d 79 24 L st h Q = kI (ai_look L 1) (fun x => RR S d 79 25 L (.int x :: st) h Q) := RR.ldi_n rfl rfl rfl
theorem r79_25 {x y : Int32} : RR S d 79 25 L (.int y :: .int x :: st) h Q = RR S d 79 26 L (.int (x <<< (y &&& 31)) :: st) h Q := RR.do1 (26, L, .int (x <<< (y &&& 31)) :: st, h) rfl rfl rfl
theorem r79_26 : RR S d 79 26 L st h Q = RR S d 79 27 L (.int 0 :: st) h Q := RR.icn (n := 0) rfl (by decide) rfl
theorem r79_27 : RR S d 79 27 L st h Q = RR S d 79 28 L (.int 0 :: st) h Q := RR.icn (n := 0) rfl (by decide) rfl
theorem r79_28 : RR S d 79 28 L st h Q = RR S d 79 29 L (.int 0 :: st) h Q := RR.icn (n := 0) rfl (by decide) rfl
theorem r79_29 {p0 : Int32} {p1 : Int32} {p2 : Int32} {p3 : Int32} {p4 : Int32} {a : Nat} : RR S (d + 1) 79 29 L (.int p4 :: .int p3 :: .int p2 :: .int p1 :: .int p0 :: .ref a :: st) h Q = kB (decide (ai_sum st ≤ 8)) (kB ((ai_obj h a 8).isSome) (RR S d 80 0 [(0, .ref a), (1, .int p0), (2, .int p1), (3, .int p2), (4, .int p3), (5, .int p4)] [] h (fun r h1 => RR S (d + 1) 79 32 L (r.toList ++ st) h1 Q))) := RR.cv (j := 40) (mn' := 80) (n := 5) rfl rfl rfl rfl rfl rfl
theorem r79_32 : RR S d 79 32 L st h Q = kA (ai_look L 0) (fun x => RR S d 79 33 L (x :: st) h Q) := RR.lda_n rfl rfl rfl
theorem r79_33 {a : Nat} : RR S d 79 33 L (.ref a :: st) h Q = kO (ai_fld h a 8 4) (fun w => RR S d 79 36 L (w :: st) h Q) := RR.get rfl rfl rfl
theorem r79_36 {x : Int32} : RR S d 79 36 L [.int x] h Q = Q (some (.int x)) h := RR.rt rfl rfl rfl
theorem r80_0 : RR S d 80 0 L st h Q = kI (ai_look L 5) (fun x => RR S d 80 2 L (.int x :: st) h Q) := RR.ldi rfl rfl
theorem r80_2 : RR S d 80 2 L st h Q = RR S d 80 3 L (.int 4 :: st) h Q := RR.icn (n := 4) rfl (by decide) rfl
theorem r80_3 {x y : Int32} : RR S d 80 3 L (.int y :: .int x :: st) h Q = if x < y then RR S d 80 7 L st h Q else RR S d 80 6 L st h Q := RR.b2 (c := .lt) (off := 4) rfl rfl (by decide) rfl
theorem r80_6 : RR S d 80 6 L [] h Q = Q none h := RR.rt rfl rfl rfl
theorem r80_7 : RR S d 80 7 L st h Q = RR S d 80 8 L (.int 0 :: st) h Q := RR.icn (n := 0) rfl (by decide) rfl
theorem r80_8 {x : Int32} : RR S d 80 8 L (.int x :: st) h Q = RR S d 80 10 (ai_put 6 (.int x) L) st h Q := RR.do1 (10, ai_put 6 (.int x) L, st, h) rfl rfl rfl
theorem r80_10 : RR S d 80 10 L st h Q = kI (ai_look L 6) (fun x => RR S d 80 12 L (.int x :: st) h Q) := RR.ldi rfl rfl
theorem r80_12 : RR S d 80 12 L st h Q = kA (ai_look L 0) (fun x => RR S d 80 13 L (x :: st) h Q) := RR.lda_n rfl rfl rfl
theorem r80_13 {a : Nat} : RR S d 80 13 L (.ref a :: st) h Q = kO (ai_fld h a 8 0) (fun w => RR S d 80 16 L (w :: st) h Q) := RR.get rfl rfl rfl
theorem r80_16 {a : Nat} : RR S d 80 16 L (.ref a :: st) h Q = kO (ai_fld h a 2 7) (fun w => RR S d 80 19 L (w :: st) h Q) := RR.get rfl rfl rfl
theorem r80_19 {x y : Int32} : RR S d 80 19 L (.int y :: .int x :: st) h Q = if y ≤ x then RR S d 80 153 L st h Q else RR S d 80 22 L st h Q := RR.b2 (c := .ge) (off := 134) rfl rfl (by decide) rfl
theorem r80_22 : RR S d 80 22 L st h Q = kA (ai_look L 0) (fun x => RR S d 80 23 L (x :: st) h Q) := RR.lda_n rfl rfl rfl
theorem r80_23 {a : Nat} : RR S d 80 23 L (.ref a :: st) h Q = kO (ai_fld h a 8 0) (fun w => RR S d 80 26 L (w :: st) h Q) := RR.get rfl rfl rfl
theorem r80_26 {a : Nat} : RR S d 80 26 L (.ref a :: st) h Q = kO (ai_fld h a 2 3) (fun w => RR S d 80 29 L (w :: st) h Q) := RR.get rfl rfl rfl
theorem r80_29 : RR S d 80 29 L st h Q = kI (ai_look L 6) (fun x => RR S d 80 31 L (.int x :: st) h Q) := RR.ldi rfl rfl
theorem r80_31 {x : Int32} {a : Nat} : RR S d 80 31 L (.int x :: .ref a :: st) h Q = kO (ai_arr h a 0) (fun q => kB (ai_in x q.1) (RR S d 80 32 L (.int (q.2 x.toNatClampNeg) :: st) h Q)) := RR.ial rfl rfl
theorem r80_32 {x : Int32} : RR S d 80 32 L (.int x :: st) h Q = RR S d 80 34 (ai_put 7 (.int x) L) st h Q := RR.do1 (34, ai_put 7 (.int x) L, st, h) rfl rfl rfl
theorem r80_34 : RR S d 80 34 L st h Q = kA (ai_look L 0) (fun x => RR S d 80 35 L (x :: st) h Q) := RR.lda_n rfl rfl rfl
theorem r80_35 {a : Nat} : RR S d 80 35 L (.ref a :: st) h Q = kO (ai_fld h a 8 0) (fun w => RR S d 80 38 L (w :: st) h Q) := RR.get rfl rfl rfl
theorem r80_38 {a : Nat} : RR S d 80 38 L (.ref a :: st) h Q = kO (ai_fld h a 2 2) (fun w => RR S d 80 41 L (w :: st) h Q) := RR.get rfl rfl rfl
theorem r80_41 : RR S d 80 41 L st h Q = kI (ai_look L 6) (fun x => RR S d 80 43 L (.int x :: st) h Q) := RR.ldi rfl rfl
theorem r80_43 {x : Int32} {a : Nat} : RR S d 80 43 L (.int x :: .ref a :: st) h Q = kO (ai_arr h a 0) (fun q => kB (ai_in x q.1) (RR S d 80 44 L (.int (q.2 x.toNatClampNeg) :: st) h Q)) := RR.ial rfl rfl
theorem r80_44 : RR S d 80 44 L st h Q = kI (ai_look L 1) (fun x => RR S d 80 45 L (.int x :: st) h Q) := RR.ldi_n rfl rfl rfl
theorem r80_45 {x y : Int32} : RR S d 80 45 L (.int y :: .int x :: st) h Q = if ¬ x = y then RR S d 80 147 L st h Q else RR S d 80 48 L st h Q := RR.b2 (c := .ne) (off := 102) rfl rfl (by decide) rfl
theorem r80_48 : RR S d 80 48 L st h Q = kI (ai_look L 2) (fun x => RR S d 80 49 L (.int x :: st) h Q) := RR.ldi_n rfl rfl rfl
theorem r80_49 : RR S d 80 49 L st h Q = kI (ai_look L 7) (fun x => RR S d 80 51 L (.int x :: st) h Q) := RR.ldi rfl rfl
theorem r80_51 {x y : Int32} : RR S d 80 51 L (.int y :: .int x :: st) h Q = RR S d 80 52 L (.int (x >>> (y &&& 31)) :: st) h Q := RR.do1 (52, L, .int (x >>> (y &&& 31)) :: st, h) rfl rfl rfl
theorem r80_52 : RR S d 80 52 L st h Q = RR S d 80 53 L (.int 1 :: st) h Q := RR.icn (n := 1) rfl (by decide) rfl
theorem r80_53 {x y : Int32} : RR S d 80 53 L (.int y :: .int x :: st) h Q = RR S d 80 54 L (.int (x &&& y) :: st) h Q := RR.do1 (54, L, .int (x &&& y) :: st, h) rfl rfl rfl
theorem r80_54 : RR S d 80 54 L st h Q = RR S d 80 55 L (.int 1 :: st) h Q := RR.icn (n := 1) rfl (by decide) rfl
theorem r80_55 {x y : Int32} : RR S d 80 55 L (.int y :: .int x :: st) h Q = if ¬ x = y then RR S d 80 61 L st h Q else RR S d 80 58 L st h Q := RR.b2 (c := .ne) (off := 6) rfl rfl (by decide) rfl
theorem r80_58 : RR S d 80 58 L st h Q = RR S d 80 147 L st h Q := RR.jmp (off := 89) rfl (by decide)
theorem r80_61 : RR S d 80 61 L st h Q = kI (ai_look L 3) (fun x => RR S d 80 62 L (.int x :: st) h Q) := RR.ldi_n rfl rfl rfl
theorem r80_62 : RR S d 80 62 L st h Q = kA (ai_look L 0) (fun x => RR S d 80 63 L (x :: st) h Q) := RR.lda_n rfl rfl rfl
theorem r80_63 {a : Nat} : RR S d 80 63 L (.ref a :: st) h Q = kO (ai_fld h a 8 0) (fun w => RR S d 80 66 L (w :: st) h Q) := RR.get rfl rfl rfl
theorem r80_66 : RR S d 80 66 L st h Q = kI (ai_look L 6) (fun x => RR S d 80 68 L (.int x :: st) h Q) := RR.ldi rfl rfl
theorem r80_68 : RR S d 80 68 L st h Q = kA (ai_look L 0) (fun x => RR S d 80 69 L (x :: st) h Q) := RR.lda_n rfl rfl rfl
theorem r80_69 {a : Nat} : RR S d 80 69 L (.ref a :: st) h Q = kO (ai_fld h a 8 2) (fun w => RR S d 80 72 L (w :: st) h Q) := RR.get rfl rfl rfl
theorem r80_72 {p0 : Int32} {p1 : Int32} {a : Nat} : RR S (d + 1) 80 72 L (.int p1 :: .int p0 :: .ref a :: st) h Q = kB (decide (ai_sum st ≤ 8)) (kB ((ai_obj h a 2).isSome) (RR S d 21 0 [(0, .ref a), (1, .int p0), (2, .int p1)] [] h (fun r h1 => RR S (d + 1) 80 75 L (r.toList ++ st) h1 Q))) := RR.cv (j := 56) (mn' := 21) (n := 2) rfl rfl rfl rfl rfl rfl
theorem r80_75 {x y : Int32} : RR S d 80 75 L (.int y :: .int x :: st) h Q = RR S d 80 76 L (.int (x + y) :: st) h Q := RR.do1 (76, L, .int (x + y) :: st, h) rfl rfl rfl
theorem r80_76 {x : Int32} : RR S d 80 76 L (.int x :: st) h Q = RR S d 80 78 (ai_put 8 (.int x) L) st h Q := RR.do1 (78, ai_put 8 (.int x) L, st, h) rfl rfl rfl
theorem r80_78 : RR S d 80 78 L st h Q = kI (ai_look L 4) (fun x => RR S d 80 80 L (.int x :: st) h Q) := RR.ldi rfl rfl
theorem r80_80 : RR S d 80 80 L st h Q = kI (ai_look L 6) (fun x => RR S d 80 82 L (.int x :: st) h Q) := RR.ldi rfl rfl
theorem r80_82 : RR S d 80 82 L st h Q = RR S d 80 83 L (.int 1 :: st) h Q := RR.icn (n := 1) rfl (by decide) rfl
theorem r80_83 {x y : Int32} : RR S d 80 83 L (.int y :: .int x :: st) h Q = RR S d 80 84 L (.int (x + y) :: st) h Q := RR.do1 (84, L, .int (x + y) :: st, h) rfl rfl rfl
theorem r80_84 : RR S d 80 84 L st h Q = kI (ai_look L 5) (fun x => RR S d 80 86 L (.int x :: st) h Q) := RR.ldi rfl rfl
theorem r80_86 {p0 : Int32} : RR S (d + 1) 80 86 L (.int p0 :: st) h Q = kB (decide (ai_sum st ≤ 8)) (RR S d 77 0 [(0, .int p0)] [] h (fun r h1 => RR S (d + 1) 80 89 L (r.toList ++ st) h1 Q)) := RR.cs (j := 28) (mn' := 77) (n := 1) rfl rfl rfl rfl (by simp) rfl rfl
theorem r80_89 {x y : Int32} : RR S d 80 89 L (.int y :: .int x :: st) h Q = RR S d 80 90 L (.int (x <<< (y &&& 31)) :: st) h Q := RR.do1 (90, L, .int (x <<< (y &&& 31)) :: st, h) rfl rfl rfl
theorem r80_90 {x y : Int32} : RR S d 80 90 L (.int y :: .int x :: st) h Q = RR S d 80 91 L (.int (x ||| y) :: st) h Q := RR.do1 (91, L, .int (x ||| y) :: st, h) rfl rfl rfl
theorem r80_91 {x : Int32} : RR S d 80 91 L (.int x :: st) h Q = RR S d 80 93 (ai_put 9 (.int x) L) st h Q := RR.do1 (93, ai_put 9 (.int x) L, st, h) rfl rfl rfl
theorem r80_93 : RR S d 80 93 L st h Q = kI (ai_look L 7) (fun x => RR S d 80 95 L (.int x :: st) h Q) := RR.ldi rfl rfl
theorem r80_95 : RR S d 80 95 L st h Q = kA (ai_look L 0) (fun x => RR S d 80 96 L (x :: st) h Q) := RR.lda_n rfl rfl rfl
theorem r80_96 {a : Nat} : RR S d 80 96 L (.ref a :: st) h Q = kO (ai_fld h a 8 1) (fun w => RR S d 80 99 L (w :: st) h Q) := RR.get rfl rfl rfl
theorem r80_99 {x y : Int32} : RR S d 80 99 L (.int y :: .int x :: st) h Q = if ¬ x = y then RR S d 80 117 L st h Q else RR S d 80 102 L st h Q := RR.b2 (c := .ne) (off := 18) rfl rfl (by decide) rfl
theorem r80_102 : RR S d 80 102 L st h Q = kA (ai_look L 0) (fun x => RR S d 80 103 L (x :: st) h Q) := RR.lda_n rfl rfl rfl
theorem r80_103 : RR S d 80 103 L st h Q = kI (ai_look L 8) (fun x => RR S d 80 105 L (.int x :: st) h Q) := RR.ldi rfl rfl
theorem r80_105 : RR S d 80 105 L st h Q = RR S d 80 107 L (.int 16 :: st) h Q := RR.bip (n := 16) rfl (by decide) rfl
theorem r80_107 {x y : Int32} : RR S d 80 107 L (.int y :: .int x :: st) h Q = RR S d 80 108 L (.int (x <<< (y &&& 31)) :: st) h Q := RR.do1 (108, L, .int (x <<< (y &&& 31)) :: st, h) rfl rfl rfl
theorem r80_108 : RR S d 80 108 L st h Q = kI (ai_look L 9) (fun x => RR S d 80 110 L (.int x :: st) h Q) := RR.ldi rfl rfl
theorem r80_110 {x y : Int32} : RR S d 80 110 L (.int y :: .int x :: st) h Q = RR S d 80 111 L (.int (x ||| y) :: st) h Q := RR.do1 (111, L, .int (x ||| y) :: st, h) rfl rfl rfl
theorem r80_111 {p0 : Int32} {a : Nat} : RR S (d + 1) 80 111 L (.int p0 :: .ref a :: st) h Q = kB (decide (ai_sum st ≤ 8)) (kB ((ai_obj h a 8).isSome) (RR S d 81 0 [(0, .ref a), (1, .int p0)] [] h (fun r h1 => RR S (d + 1) 80 114 L (r.toList ++ st) h1 Q))) := RR.cv (j := 59) (mn' := 81) (n := 1) rfl rfl rfl rfl rfl rfl
theorem r80_114 : RR S d 80 114 L st h Q = RR S d 80 147 L st h Q := RR.jmp (off := 33) rfl (by decide)
theorem r80_117 : RR S d 80 117 L st h Q = kA (ai_look L 0) (fun x => RR S d 80 118 L (x :: st) h Q) := RR.lda_n rfl rfl rfl
theorem r80_118 : RR S d 80 118 L st h Q = kI (ai_look L 7) (fun x => RR S d 80 120 L (.int x :: st) h Q) := RR.ldi rfl rfl
theorem r80_120 : RR S d 80 120 L st h Q = kI (ai_look L 2) (fun x => RR S d 80 121 L (.int x :: st) h Q) := RR.ldi_n rfl rfl rfl
theorem r80_121 : RR S d 80 121 L st h Q = RR S d 80 122 L (.int 1 :: st) h Q := RR.icn (n := 1) rfl (by decide) rfl
theorem r80_122 : RR S d 80 122 L st h Q = kI (ai_look L 7) (fun x => RR S d 80 124 L (.int x :: st) h Q) := RR.ldi rfl rfl
theorem r80_124 {x y : Int32} : RR S d 80 124 L (.int y :: .int x :: st) h Q = RR S d 80 125 L (.int (x <<< (y &&& 31)) :: st) h Q := RR.do1 (125, L, .int (x <<< (y &&& 31)) :: st, h) rfl rfl rfl
theorem r80_125 {x y : Int32} : RR S d 80 125 L (.int y :: .int x :: st) h Q = RR S d 80 126 L (.int (x ||| y) :: st) h Q := RR.do1 (126, L, .int (x ||| y) :: st, h) rfl rfl rfl
theorem r80_126 : RR S d 80 126 L st h Q = kI (ai_look L 8) (fun x => RR S d 80 128 L (.int x :: st) h Q) := RR.ldi rfl rfl
theorem r80_128 : RR S d 80 128 L st h Q = kA (ai_look L 0) (fun x => RR S d 80 129 L (x :: st) h Q) := RR.lda_n rfl rfl rfl
theorem r80_129 {a : Nat} : RR S d 80 129 L (.ref a :: st) h Q = kO (ai_fld h a 8 0) (fun w => RR S d 80 132 L (w :: st) h Q) := RR.get rfl rfl rfl
theorem r80_132 : RR S d 80 132 L st h Q = kI (ai_look L 6) (fun x => RR S d 80 134 L (.int x :: st) h Q) := RR.ldi rfl rfl
theorem r80_134 {p0 : Int32} {a : Nat} : RR S (d + 1) 80 134 L (.int p0 :: .ref a :: st) h Q = kB (decide (ai_sum st ≤ 8)) (kB ((ai_obj h a 2).isSome) (RR S d 23 0 [(0, .ref a), (1, .int p0)] [] h (fun r h1 => RR S (d + 1) 80 137 L (r.toList ++ st) h1 Q))) := RR.cv (j := 63) (mn' := 23) (n := 1) rfl rfl rfl rfl rfl rfl
theorem r80_137 {x y : Int32} : RR S d 80 137 L (.int y :: .int x :: st) h Q = RR S d 80 138 L (.int (x + y) :: st) h Q := RR.do1 (138, L, .int (x + y) :: st, h) rfl rfl rfl
theorem r80_138 : RR S d 80 138 L st h Q = kI (ai_look L 9) (fun x => RR S d 80 140 L (.int x :: st) h Q) := RR.ldi rfl rfl
theorem r80_140 : RR S d 80 140 L st h Q = kI (ai_look L 5) (fun x => RR S d 80 142 L (.int x :: st) h Q) := RR.ldi rfl rfl
theorem r80_142 : RR S d 80 142 L st h Q = RR S d 80 143 L (.int 1 :: st) h Q := RR.icn (n := 1) rfl (by decide) rfl
theorem r80_143 {x y : Int32} : RR S d 80 143 L (.int y :: .int x :: st) h Q = RR S d 80 144 L (.int (x + y) :: st) h Q := RR.do1 (144, L, .int (x + y) :: st, h) rfl rfl rfl
theorem r80_144 {p0 : Int32} {p1 : Int32} {p2 : Int32} {p3 : Int32} {p4 : Int32} {a : Nat} : RR S (d + 1) 80 144 L (.int p4 :: .int p3 :: .int p2 :: .int p1 :: .int p0 :: .ref a :: st) h Q = kB (decide (ai_sum st ≤ 8)) (kB ((ai_obj h a 8).isSome) (RR S d 80 0 [(0, .ref a), (1, .int p0), (2, .int p1), (3, .int p2), (4, .int p3), (5, .int p4)] [] h (fun r h1 => RR S (d + 1) 80 147 L (r.toList ++ st) h1 Q))) := RR.cv (j := 40) (mn' := 80) (n := 5) rfl rfl rfl rfl rfl rfl
theorem r80_147 : RR S d 80 147 L st h Q = kI (ai_look L 6) (fun x => RR S d 80 150 (ai_put 6 (.int (x + 1)) L) st h Q) := RR.iinc (k := 6) (n := 1) rfl (by decide) (by decide) rfl
theorem r80_150 : RR S d 80 150 L st h Q = RR S d 80 10 L st h Q := RR.jmp (off := (-140)) rfl (by decide)
theorem r80_153 : RR S d 80 153 L [] h Q = Q none h := RR.rt rfl rfl rfl
theorem r81_0 : RR S d 81 0 L st h Q = kI (ai_look L 1) (fun x => RR S d 81 1 L (.int x :: st) h Q) := RR.ldi_n rfl rfl rfl
theorem r81_1 : RR S d 81 1 L st h Q = kA (ai_look L 0) (fun x => RR S d 81 2 L (x :: st) h Q) := RR.lda_n rfl rfl rfl
theorem r81_2 {a : Nat} : RR S d 81 2 L (.ref a :: st) h Q = kO (ai_fld h a 8 3) (fun w => RR S d 81 5 L (w :: st) h Q) := RR.get rfl rfl rfl
theorem r81_5 {x y : Int32} : RR S d 81 5 L (.int y :: .int x :: st) h Q = if x ≤ y then RR S d 81 29 L st h Q else RR S d 81 8 L st h Q := RR.b2 (c := .le) (off := 24) rfl rfl (by decide) rfl
theorem r81_8 : RR S d 81 8 L st h Q = kA (ai_look L 0) (fun x => RR S d 81 9 L (x :: st) h Q) := RR.lda_n rfl rfl rfl
theorem r81_9 {a : Nat} : RR S d 81 9 L (.ref a :: st) h Q = kO (ai_fld h a 8 4) (fun w => RR S d 81 12 L (w :: st) h Q) := RR.get rfl rfl rfl
theorem r81_12 : RR S d 81 12 L st h Q = RR S d 81 13 L (.int (-1) :: st) h Q := RR.icn (n := (-1)) rfl (by decide) rfl
theorem r81_13 {x y : Int32} : RR S d 81 13 L (.int y :: .int x :: st) h Q = if x = y then RR S d 81 24 L st h Q else RR S d 81 16 L st h Q := RR.b2 (c := .eq) (off := 11) rfl rfl (by decide) rfl
theorem r81_16 : RR S d 81 16 L st h Q = kI (ai_look L 1) (fun x => RR S d 81 17 L (.int x :: st) h Q) := RR.ldi_n rfl rfl rfl
theorem r81_17 : RR S d 81 17 L st h Q = kA (ai_look L 0) (fun x => RR S d 81 18 L (x :: st) h Q) := RR.lda_n rfl rfl rfl
theorem r81_18 {a : Nat} : RR S d 81 18 L (.ref a :: st) h Q = kO (ai_fld h a 8 4) (fun w => RR S d 81 21 L (w :: st) h Q) := RR.get rfl rfl rfl
theorem r81_21 {x y : Int32} : RR S d 81 21 L (.int y :: .int x :: st) h Q = if y ≤ x then RR S d 81 29 L st h Q else RR S d 81 24 L st h Q := RR.b2 (c := .ge) (off := 8) rfl rfl (by decide) rfl
theorem r81_24 : RR S d 81 24 L st h Q = kA (ai_look L 0) (fun x => RR S d 81 25 L (x :: st) h Q) := RR.lda_n rfl rfl rfl
theorem r81_25 : RR S d 81 25 L st h Q = kI (ai_look L 1) (fun x => RR S d 81 26 L (.int x :: st) h Q) := RR.ldi_n rfl rfl rfl
theorem r81_26 {x : Int32} {a : Nat} : RR S d 81 26 L (.int x :: .ref a :: st) h Q = kO (ai_obj h a 8) (fun fs => kB (decide (4 < fs.length)) (RR S d 81 29 L st (h.1.set a (.inr (8, fs.set 4 (.int x))), h.2) Q)) := RR.put rfl rfl (ai_okp_i rfl (by decide +kernel)) rfl
theorem r81_29 : RR S d 81 29 L [] h Q = Q none h := RR.rt rfl rfl rfl
theorem r82_0 : RR S d 82 0 L st h Q = kA (ai_look L 0) (fun x => RR S d 82 1 L (x :: st) h Q) := RR.lda_n rfl rfl rfl
theorem r82_1 {a : Nat} : RR S d 82 1 L (.ref a :: st) h Q = kB (decide (ai_sum st ≤ 8)) (RR S d 82 4 L st h Q) := RR.oin (j := 1) rfl rfl rfl
theorem r82_4 : RR S d 82 4 L st h Q = kA (ai_look L 0) (fun x => RR S d 82 5 L (x :: st) h Q) := RR.lda_n rfl rfl rfl
theorem r82_5 : RR S d 82 5 L st h Q = RR S d 82 8 L (.ref h.1.length :: st) (h.1 ++ [.inr (2, [.null, .null, .null, .null, .null, .null, .int 0, .int 0, .int 0, .int 0])], h.2 + 10) Q := RR.do1 (8, L, .ref h.1.length :: st, (h.1 ++ [.inr (2, [.null, .null, .null, .null, .null, .null, .int 0, .int 0, .int 0, .int 0])], h.2 + 10)) rfl rfl rfl
theorem r82_8 {v : Value} (hv : v.category = 1) : RR S d 82 8 L (v :: st) h Q = RR S d 82 9 L (v :: v :: st) h Q := RR.dup rfl hv rfl
theorem r82_9 {a : Nat} : RR S (d + 1) 82 9 L (.ref a :: st) h Q = kB (decide (ai_sum st ≤ 8)) (RR S d 12 0 [(0, .ref a)] [] h (fun r h1 => RR S (d + 1) 82 12 L (r.toList ++ st) h1 Q)) := RR.ci (j := 9) (mn' := 12) (n := 0) rfl rfl rfl rfl rfl rfl rfl
theorem r82_12 {x : Nat} {a : Nat} : RR S d 82 12 L (.ref x :: .ref a :: st) h Q = kO (ai_obj h a 9) (fun fs => kB (decide (0 < fs.length)) (RR S d 82 15 L st (h.1.set a (.inr (9, fs.set 0 (.ref x))), h.2) Q)) := RR.put rfl rfl (ai_okp_r (by decide +kernel)) rfl
theorem r82_15 : RR S d 82 15 L st h Q = kA (ai_look L 0) (fun x => RR S d 82 16 L (x :: st) h Q) := RR.lda_n rfl rfl rfl
theorem r82_16 : RR S d 82 16 L st h Q = RR S d 82 19 L (.ref h.1.length :: st) (h.1 ++ [.inr (8, [.null, .int 0, .int 0, .int 0, .int 0])], h.2 + 5) Q := RR.do1 (19, L, .ref h.1.length :: st, (h.1 ++ [.inr (8, [.null, .int 0, .int 0, .int 0, .int 0])], h.2 + 5)) rfl rfl rfl
theorem r82_19 {v : Value} (hv : v.category = 1) : RR S d 82 19 L (v :: st) h Q = RR S d 82 20 L (v :: v :: st) h Q := RR.dup rfl hv rfl
theorem r82_20 : RR S d 82 20 L st h Q = kA (ai_look L 0) (fun x => RR S d 82 21 L (x :: st) h Q) := RR.lda_n rfl rfl rfl
theorem r82_21 {a : Nat} : RR S d 82 21 L (.ref a :: st) h Q = kO (ai_fld h a 9 0) (fun w => RR S d 82 24 L (w :: st) h Q) := RR.get rfl rfl rfl
theorem r82_24 {p0 : Nat} {a : Nat} : RR S (d + 1) 82 24 L (.ref p0 :: .ref a :: st) h Q = kB (decide (ai_sum st ≤ 8)) (RR S d 71 0 [(0, .ref a), (1, .ref p0)] [] h (fun r h1 => RR S (d + 1) 82 27 L (r.toList ++ st) h1 Q)) := RR.ci (j := 18) (mn' := 71) (n := 1) rfl rfl rfl rfl rfl rfl rfl
theorem r82_27 {x : Nat} {a : Nat} : RR S d 82 27 L (.ref x :: .ref a :: st) h Q = kO (ai_obj h a 9) (fun fs => kB (decide (1 < fs.length)) (RR S d 82 30 L st (h.1.set a (.inr (9, fs.set 1 (.ref x))), h.2) Q)) := RR.put rfl rfl (ai_okp_r (by decide +kernel)) rfl
theorem r82_30 : RR S d 82 30 L st h Q = kA (ai_look L 0) (fun x => RR S d 82 31 L (x :: st) h Q) := RR.lda_n rfl rfl rfl
theorem r82_31 : RR S d 82 31 L st h Q = RR S d 82 34 L (.ref h.1.length :: st) (h.1 ++ [.inr (7, [.null, .int 0])], h.2 + 2) Q := RR.do1 (34, L, .ref h.1.length :: st, (h.1 ++ [.inr (7, [.null, .int 0])], h.2 + 2)) rfl rfl rfl
theorem r82_34 {v : Value} (hv : v.category = 1) : RR S d 82 34 L (v :: st) h Q = RR S d 82 35 L (v :: v :: st) h Q := RR.dup rfl hv rfl
theorem r82_35 {a : Nat} : RR S (d + 1) 82 35 L (.ref a :: st) h Q = kB (decide (ai_sum st ≤ 8)) (RR S d 64 0 [(0, .ref a)] [] h (fun r h1 => RR S (d + 1) 82 38 L (r.toList ++ st) h1 Q)) := RR.ci (j := 27) (mn' := 64) (n := 0) rfl rfl rfl rfl rfl rfl rfl
theorem r82_38 {x : Nat} {a : Nat} : RR S d 82 38 L (.ref x :: .ref a :: st) h Q = kO (ai_obj h a 9) (fun fs => kB (decide (2 < fs.length)) (RR S d 82 41 L st (h.1.set a (.inr (9, fs.set 2 (.ref x))), h.2) Q)) := RR.put rfl rfl (ai_okp_r (by decide +kernel)) rfl
theorem r82_41 : RR S d 82 41 L st h Q = kA (ai_look L 0) (fun x => RR S d 82 42 L (x :: st) h Q) := RR.lda_n rfl rfl rfl
theorem r82_42 : RR S d 82 42 L st h Q = RR S d 82 45 L (.ref h.1.length :: st) (h.1 ++ [.inr (0, [.null, .null, .null, .null])], h.2 + 4) Q := RR.do1 (45, L, .ref h.1.length :: st, (h.1 ++ [.inr (0, [.null, .null, .null, .null])], h.2 + 4)) rfl rfl rfl
theorem r82_45 {v : Value} (hv : v.category = 1) : RR S d 82 45 L (v :: st) h Q = RR S d 82 46 L (v :: v :: st) h Q := RR.dup rfl hv rfl
theorem r82_46 : RR S d 82 46 L st h Q = kA (ai_look L 0) (fun x => RR S d 82 47 L (x :: st) h Q) := RR.lda_n rfl rfl rfl
theorem r82_47 {a : Nat} : RR S d 82 47 L (.ref a :: st) h Q = kO (ai_fld h a 9 0) (fun w => RR S d 82 50 L (w :: st) h Q) := RR.get rfl rfl rfl
theorem r82_50 {p0 : Nat} {a : Nat} : RR S (d + 1) 82 50 L (.ref p0 :: .ref a :: st) h Q = kB (decide (ai_sum st ≤ 8)) (RR S d 0 0 [(0, .ref a), (1, .ref p0)] [] h (fun r h1 => RR S (d + 1) 82 53 L (r.toList ++ st) h1 Q)) := RR.ci (j := 34) (mn' := 0) (n := 1) rfl rfl rfl rfl rfl rfl rfl
theorem r82_53 {x : Nat} {a : Nat} : RR S d 82 53 L (.ref x :: .ref a :: st) h Q = kO (ai_obj h a 9) (fun fs => kB (decide (3 < fs.length)) (RR S d 82 56 L st (h.1.set a (.inr (9, fs.set 3 (.ref x))), h.2) Q)) := RR.put rfl rfl (ai_okp_r (by decide +kernel)) rfl
theorem r82_56 : RR S d 82 56 L st h Q = kA (ai_look L 0) (fun x => RR S d 82 57 L (x :: st) h Q) := RR.lda_n rfl rfl rfl
theorem r82_57 : RR S d 82 57 L st h Q = RR S d 82 60 L (.ref h.1.length :: st) (h.1 ++ [.inr (3, [.null, .null, .null, .null, .null, .null, .int 0, .int 0])], h.2 + 8) Q := RR.do1 (60, L, .ref h.1.length :: st, (h.1 ++ [.inr (3, [.null, .null, .null, .null, .null, .null, .int 0, .int 0])], h.2 + 8)) rfl rfl rfl
theorem r82_60 {v : Value} (hv : v.category = 1) : RR S d 82 60 L (v :: st) h Q = RR S d 82 61 L (v :: v :: st) h Q := RR.dup rfl hv rfl
theorem r82_61 : RR S d 82 61 L st h Q = kA (ai_look L 0) (fun x => RR S d 82 62 L (x :: st) h Q) := RR.lda_n rfl rfl rfl
theorem r82_62 {a : Nat} : RR S d 82 62 L (.ref a :: st) h Q = kO (ai_fld h a 9 0) (fun w => RR S d 82 65 L (w :: st) h Q) := RR.get rfl rfl rfl
theorem r82_65 : RR S d 82 65 L st h Q = kA (ai_look L 0) (fun x => RR S d 82 66 L (x :: st) h Q) := RR.lda_n rfl rfl rfl
theorem r82_66 {a : Nat} : RR S d 82 66 L (.ref a :: st) h Q = kO (ai_fld h a 9 2) (fun w => RR S d 82 69 L (w :: st) h Q) := RR.get rfl rfl rfl
theorem r82_69 : RR S d 82 69 L st h Q = kA (ai_look L 0) (fun x => RR S d 82 70 L (x :: st) h Q) := RR.lda_n rfl rfl rfl
theorem r82_70 {a : Nat} : RR S d 82 70 L (.ref a :: st) h Q = kO (ai_fld h a 9 3) (fun w => RR S d 82 73 L (w :: st) h Q) := RR.get rfl rfl rfl
theorem r82_73 {p0 : Nat} {p1 : Nat} {p2 : Nat} {a : Nat} : RR S (d + 1) 82 73 L (.ref p2 :: .ref p1 :: .ref p0 :: .ref a :: st) h Q = kB (decide (ai_sum st ≤ 8)) (RR S d 28 0 [(0, .ref a), (1, .ref p0), (2, .ref p1), (3, .ref p2)] [] h (fun r h1 => RR S (d + 1) 82 76 L (r.toList ++ st) h1 Q)) := RR.ci (j := 41) (mn' := 28) (n := 3) rfl rfl rfl rfl rfl rfl rfl
theorem r82_76 {x : Nat} {a : Nat} : RR S d 82 76 L (.ref x :: .ref a :: st) h Q = kO (ai_obj h a 9) (fun fs => kB (decide (4 < fs.length)) (RR S d 82 79 L st (h.1.set a (.inr (9, fs.set 4 (.ref x))), h.2) Q)) := RR.put rfl rfl (ai_okp_r (by decide +kernel)) rfl
theorem r82_79 : RR S d 82 79 L st h Q = kA (ai_look L 0) (fun x => RR S d 82 80 L (x :: st) h Q) := RR.lda_n rfl rfl rfl
theorem r82_80 : RR S d 82 80 L st h Q = RR S d 82 83 L (.ref h.1.length :: st) (h.1 ++ [.inr (4, [.null, .null, .null, .null, .null, .null, .null, .int 0, .int 0])], h.2 + 9) Q := RR.do1 (83, L, .ref h.1.length :: st, (h.1 ++ [.inr (4, [.null, .null, .null, .null, .null, .null, .null, .int 0, .int 0])], h.2 + 9)) rfl rfl rfl
theorem r82_83 {v : Value} (hv : v.category = 1) : RR S d 82 83 L (v :: st) h Q = RR S d 82 84 L (v :: v :: st) h Q := RR.dup rfl hv rfl
theorem r82_84 : RR S d 82 84 L st h Q = kA (ai_look L 0) (fun x => RR S d 82 85 L (x :: st) h Q) := RR.lda_n rfl rfl rfl
theorem r82_85 {a : Nat} : RR S d 82 85 L (.ref a :: st) h Q = kO (ai_fld h a 9 0) (fun w => RR S d 82 88 L (w :: st) h Q) := RR.get rfl rfl rfl
theorem r82_88 : RR S d 82 88 L st h Q = kA (ai_look L 0) (fun x => RR S d 82 89 L (x :: st) h Q) := RR.lda_n rfl rfl rfl
theorem r82_89 {a : Nat} : RR S d 82 89 L (.ref a :: st) h Q = kO (ai_fld h a 9 1) (fun w => RR S d 82 92 L (w :: st) h Q) := RR.get rfl rfl rfl
theorem r82_92 : RR S d 82 92 L st h Q = kA (ai_look L 0) (fun x => RR S d 82 93 L (x :: st) h Q) := RR.lda_n rfl rfl rfl
theorem r82_93 {a : Nat} : RR S d 82 93 L (.ref a :: st) h Q = kO (ai_fld h a 9 3) (fun w => RR S d 82 96 L (w :: st) h Q) := RR.get rfl rfl rfl
theorem r82_96 {p0 : Nat} {p1 : Nat} {p2 : Nat} {a : Nat} : RR S (d + 1) 82 96 L (.ref p2 :: .ref p1 :: .ref p0 :: .ref a :: st) h Q = kB (decide (ai_sum st ≤ 8)) (RR S d 38 0 [(0, .ref a), (1, .ref p0), (2, .ref p1), (3, .ref p2)] [] h (fun r h1 => RR S (d + 1) 82 99 L (r.toList ++ st) h1 Q)) := RR.ci (j := 50) (mn' := 38) (n := 3) rfl rfl rfl rfl rfl rfl rfl
theorem r82_99 {x : Nat} {a : Nat} : RR S d 82 99 L (.ref x :: .ref a :: st) h Q = kO (ai_obj h a 9) (fun fs => kB (decide (5 < fs.length)) (RR S d 82 102 L st (h.1.set a (.inr (9, fs.set 5 (.ref x))), h.2) Q)) := RR.put rfl rfl (ai_okp_r (by decide +kernel)) rfl
theorem r82_102 : RR S d 82 102 L [] h Q = Q none h := RR.rt rfl rfl rfl
theorem r83_0 : RR S d 83 0 L st h Q = kI (ai_look L 1) (fun x => RR S d 83 1 L (.int x :: st) h Q) := RR.ldi_n rfl rfl rfl
theorem r83_1 : RR S d 83 1 L st h Q = RR S d 83 2 L (.int 0 :: st) h Q := RR.icn (n := 0) rfl (by decide) rfl
theorem r83_2 : RR S d 83 2 L st h Q = RR S d 83 3 L (.int 5 :: st) h Q := RR.icn (n := 5) rfl (by decide) rfl
theorem r83_3 {p0 : Int32} {p1 : Int32} {p2 : Int32} : RR S (d + 1) 83 3 L (.int p2 :: .int p1 :: .int p0 :: st) h Q = kB (decide (ai_sum st ≤ 8)) (RR S d 110 0 [(0, .int p0), (1, .int p1), (2, .int p2)] [] h (fun r h1 => RR S (d + 1) 83 6 L (r.toList ++ st) h1 Q)) := RR.cs (j := 57) (mn' := 110) (n := 3) rfl rfl rfl rfl (by simp) rfl rfl
theorem r83_6 {x : Int32} : RR S d 83 6 L (.int x :: st) h Q = if x = 0 then RR S d 83 20 L st h Q else RR S d 83 9 L st h Q := RR.b1 (c := .eq) (off := 14) rfl rfl (by decide) rfl
theorem r83_9 : RR S d 83 9 L st h Q = kA (ai_look L 0) (fun x => RR S d 83 10 L (x :: st) h Q) := RR.lda_n rfl rfl rfl
theorem r83_10 {a : Nat} : RR S d 83 10 L (.ref a :: st) h Q = kO (ai_fld h a 9 0) (fun w => RR S d 83 13 L (w :: st) h Q) := RR.get rfl rfl rfl
theorem r83_13 : RR S d 83 13 L st h Q = kI (ai_look L 1) (fun x => RR S d 83 14 L (.int x :: st) h Q) := RR.ldi_n rfl rfl rfl
theorem r83_14 {p0 : Int32} {a : Nat} : RR S (d + 1) 83 14 L (.int p0 :: .ref a :: st) h Q = kB (decide (ai_sum st ≤ 8)) (kB ((ai_obj h a 2).isSome) (RR S d 17 0 [(0, .ref a), (1, .int p0)] [] h (fun r h1 => RR S (d + 1) 83 17 L (r.toList ++ st) h1 Q))) := RR.cv (j := 61) (mn' := 17) (n := 1) rfl rfl rfl rfl rfl rfl
theorem r83_17 : RR S d 83 17 L st h Q = RR S d 83 21 L st h Q := RR.jmp (off := 4) rfl (by decide)
theorem r83_20 : RR S d 83 20 L st h Q = RR S d 83 21 L (.int (-1) :: st) h Q := RR.icn (n := (-1)) rfl (by decide) rfl
theorem r83_21 {x : Int32} : RR S d 83 21 L [.int x] h Q = Q (some (.int x)) h := RR.rt rfl rfl rfl
theorem r84_0 : RR S d 84 0 L st h Q = kA (ai_look L 0) (fun x => RR S d 84 1 L (x :: st) h Q) := RR.lda_n rfl rfl rfl
theorem r84_1 {a : Nat} : RR S d 84 1 L (.ref a :: st) h Q = kO (ai_fld h a 9 0) (fun w => RR S d 84 4 L (w :: st) h Q) := RR.get rfl rfl rfl
theorem r84_4 : RR S d 84 4 L st h Q = kI (ai_look L 1) (fun x => RR S d 84 5 L (.int x :: st) h Q) := RR.ldi_n rfl rfl rfl
theorem r84_5 : RR S d 84 5 L st h Q = kI (ai_look L 2) (fun x => RR S d 84 6 L (.int x :: st) h Q) := RR.ldi_n rfl rfl rfl
theorem r84_6 {p0 : Int32} {p1 : Int32} {a : Nat} : RR S (d + 1) 84 6 L (.int p1 :: .int p0 :: .ref a :: st) h Q = kB (decide (ai_sum st ≤ 8)) (kB ((ai_obj h a 2).isSome) (RR S d 14 0 [(0, .ref a), (1, .int p0), (2, .int p1)] [] h (fun r h1 => RR S (d + 1) 84 9 L (r.toList ++ st) h1 Q))) := RR.cv (j := 65) (mn' := 14) (n := 2) rfl rfl rfl rfl rfl rfl
theorem r84_9 {x : Int32} : RR S d 84 9 L (.int x :: st) h Q = if x = 0 then RR S d 84 32 L st h Q else RR S d 84 12 L st h Q := RR.b1 (c := .eq) (off := 23) rfl rfl (by decide) rfl
theorem r84_12 : RR S d 84 12 L st h Q = kA (ai_look L 0) (fun x => RR S d 84 13 L (x :: st) h Q) := RR.lda_n rfl rfl rfl
theorem r84_13 {a : Nat} : RR S d 84 13 L (.ref a :: st) h Q = kO (ai_fld h a 9 2) (fun w => RR S d 84 16 L (w :: st) h Q) := RR.get rfl rfl rfl
theorem r84_16 {a : Nat} : RR S d 84 16 L (.ref a :: st) h Q = kO (ai_fld h a 7 1) (fun w => RR S d 84 19 L (w :: st) h Q) := RR.get rfl rfl rfl
theorem r84_19 {x : Int32} : RR S d 84 19 L (.int x :: st) h Q = if 0 < x then RR S d 84 32 L st h Q else RR S d 84 22 L st h Q := RR.b1 (c := .gt) (off := 13) rfl rfl (by decide) rfl
theorem r84_22 : RR S d 84 22 L st h Q = kA (ai_look L 0) (fun x => RR S d 84 23 L (x :: st) h Q) := RR.lda_n rfl rfl rfl
theorem r84_23 {a : Nat} : RR S d 84 23 L (.ref a :: st) h Q = kO (ai_fld h a 9 5) (fun w => RR S d 84 26 L (w :: st) h Q) := RR.get rfl rfl rfl
theorem r84_26 {a : Nat} : RR S d 84 26 L (.ref a :: st) h Q = kO (ai_fld h a 4 7) (fun w => RR S d 84 29 L (w :: st) h Q) := RR.get rfl rfl rfl
theorem r84_29 {x : Int32} : RR S d 84 29 L (.int x :: st) h Q = if x ≤ 0 then RR S d 84 34 L st h Q else RR S d 84 32 L st h Q := RR.b1 (c := .le) (off := 5) rfl rfl (by decide) rfl
theorem r84_32 : RR S d 84 32 L st h Q = RR S d 84 33 L (.int (-1) :: st) h Q := RR.icn (n := (-1)) rfl (by decide) rfl
theorem r84_33 {x : Int32} : RR S d 84 33 L [.int x] h Q = Q (some (.int x)) h := RR.rt rfl rfl rfl
theorem r84_34 : RR S d 84 34 L st h Q = kI (ai_look L 3) (fun x => RR S d 84 35 L (.int x :: st) h Q) := RR.ldi_n rfl rfl rfl
theorem r84_35 : RR S d 84 35 L st h Q = RR S d 84 36 L (.int 0 :: st) h Q := RR.icn (n := 0) rfl (by decide) rfl
theorem r84_36 : RR S d 84 36 L st h Q = RR S d 84 38 L (.int 9 :: st) h Q := RR.bip (n := 9) rfl (by decide) rfl
theorem r84_38 {p0 : Int32} {p1 : Int32} {p2 : Int32} : RR S (d + 1) 84 38 L (.int p2 :: .int p1 :: .int p0 :: st) h Q = kB (decide (ai_sum st ≤ 8)) (RR S d 110 0 [(0, .int p0), (1, .int p1), (2, .int p2)] [] h (fun r h1 => RR S (d + 1) 84 41 L (r.toList ++ st) h1 Q)) := RR.cs (j := 57) (mn' := 110) (n := 3) rfl rfl rfl rfl (by simp) rfl rfl
theorem r84_41 {x : Int32} : RR S d 84 41 L (.int x :: st) h Q = if x = 0 then RR S d 84 54 L st h Q else RR S d 84 44 L st h Q := RR.b1 (c := .eq) (off := 13) rfl rfl (by decide) rfl
theorem r84_44 : RR S d 84 44 L st h Q = kI (ai_look L 4) (fun x => RR S d 84 46 L (.int x :: st) h Q) := RR.ldi rfl rfl
theorem r84_46 : RR S d 84 46 L st h Q = RR S d 84 47 L (.int 1 :: st) h Q := RR.icn (n := 1) rfl (by decide) rfl
theorem r84_47 : RR S d 84 47 L st h Q = RR S d 84 48 L (.int 3 :: st) h Q := RR.icn (n := 3) rfl (by decide) rfl
theorem r84_48 {p0 : Int32} {p1 : Int32} {p2 : Int32} : RR S (d + 1) 84 48 L (.int p2 :: .int p1 :: .int p0 :: st) h Q = kB (decide (ai_sum st ≤ 8)) (RR S d 110 0 [(0, .int p0), (1, .int p1), (2, .int p2)] [] h (fun r h1 => RR S (d + 1) 84 51 L (r.toList ++ st) h1 Q)) := RR.cs (j := 57) (mn' := 110) (n := 3) rfl rfl rfl rfl (by simp) rfl rfl
theorem r84_51 {x : Int32} : RR S d 84 51 L (.int x :: st) h Q = if ¬ x = 0 then RR S d 84 56 L st h Q else RR S d 84 54 L st h Q := RR.b1 (c := .ne) (off := 5) rfl rfl (by decide) rfl
theorem r84_54 : RR S d 84 54 L st h Q = RR S d 84 55 L (.int (-1) :: st) h Q := RR.icn (n := (-1)) rfl (by decide) rfl
theorem r84_55 {x : Int32} : RR S d 84 55 L [.int x] h Q = Q (some (.int x)) h := RR.rt rfl rfl rfl
theorem r84_56 : RR S d 84 56 L st h Q = kA (ai_look L 0) (fun x => RR S d 84 57 L (x :: st) h Q) := RR.lda_n rfl rfl rfl
theorem r84_57 {a : Nat} : RR S d 84 57 L (.ref a :: st) h Q = kO (ai_fld h a 9 0) (fun w => RR S d 84 60 L (w :: st) h Q) := RR.get rfl rfl rfl
theorem r84_60 : RR S d 84 60 L st h Q = kI (ai_look L 1) (fun x => RR S d 84 61 L (.int x :: st) h Q) := RR.ldi_n rfl rfl rfl
theorem r84_61 : RR S d 84 61 L st h Q = kI (ai_look L 2) (fun x => RR S d 84 62 L (.int x :: st) h Q) := RR.ldi_n rfl rfl rfl
theorem r84_62 : RR S d 84 62 L st h Q = kI (ai_look L 3) (fun x => RR S d 84 63 L (.int x :: st) h Q) := RR.ldi_n rfl rfl rfl
theorem r84_63 : RR S d 84 63 L st h Q = kI (ai_look L 4) (fun x => RR S d 84 65 L (.int x :: st) h Q) := RR.ldi rfl rfl
theorem r84_65 {p0 : Int32} {p1 : Int32} {p2 : Int32} {p3 : Int32} {a : Nat} : RR S (d + 1) 84 65 L (.int p3 :: .int p2 :: .int p1 :: .int p0 :: .ref a :: st) h Q = kB (decide (ai_sum st ≤ 8)) (kB ((ai_obj h a 2).isSome) (RR S d 18 0 [(0, .ref a), (1, .int p0), (2, .int p1), (3, .int p2), (4, .int p3)] [] h (fun r h1 => RR S (d + 1) 84 68 L (r.toList ++ st) h1 Q))) := RR.cv (j := 74) (mn' := 18) (n := 4) rfl rfl rfl rfl rfl rfl
theorem r84_68 {x : Int32} : RR S d 84 68 L [.int x] h Q = Q (some (.int x)) h := RR.rt rfl rfl rfl
theorem r85_0 : RR S d 85 0 L st h Q = kA (ai_look L 0) (fun x => RR S d 85 1 L (x :: st) h Q) := RR.lda_n rfl rfl rfl
theorem r85_1 {a : Nat} : RR S d 85 1 L (.ref a :: st) h Q = kO (ai_fld h a 9 2) (fun w => RR S d 85 4 L (w :: st) h Q) := RR.get rfl rfl rfl
theorem r85_4 {a : Nat} : RR S d 85 4 L (.ref a :: st) h Q = kO (ai_fld h a 7 1) (fun w => RR S d 85 7 L (w :: st) h Q) := RR.get rfl rfl rfl
theorem r85_7 {x : Int32} : RR S d 85 7 L (.int x :: st) h Q = if 0 < x then RR S d 85 17 L st h Q else RR S d 85 10 L st h Q := RR.b1 (c := .gt) (off := 10) rfl rfl (by decide) rfl
theorem r85_10 : RR S d 85 10 L st h Q = kI (ai_look L 1) (fun x => RR S d 85 11 L (.int x :: st) h Q) := RR.ldi_n rfl rfl rfl
theorem r85_11 {p0 : Int32} : RR S (d + 1) 85 11 L (.int p0 :: st) h Q = kB (decide (ai_sum st ≤ 8)) (RR S d 108 0 [(0, .int p0)] [] h (fun r h1 => RR S (d + 1) 85 14 L (r.toList ++ st) h1 Q)) := RR.cs (j := 78) (mn' := 108) (n := 1) rfl rfl rfl rfl (by simp) rfl rfl
theorem r85_14 {x : Int32} : RR S d 85 14 L (.int x :: st) h Q = if ¬ x = 0 then RR S d 85 19 L st h Q else RR S d 85 17 L st h Q := RR.b1 (c := .ne) (off := 5) rfl rfl (by decide) rfl
theorem r85_17 : RR S d 85 17 L st h Q = RR S d 85 18 L (.int 0 :: st) h Q := RR.icn (n := 0) rfl (by decide) rfl
theorem r85_18f : RR S d 85 18 L [.int 0] h Q = Q (some (.int 0)) h := RR.zrt rfl rfl (by decide)
theorem r85_18t : RR S d 85 18 L [.int 1] h Q = Q (some (.int 1)) h := RR.zrt rfl rfl (by decide)
theorem r85_19 : RR S d 85 19 L st h Q = kA (ai_look L 0) (fun x => RR S d 85 20 L (x :: st) h Q) := RR.lda_n rfl rfl rfl
theorem r85_20 {a : Nat} : RR S d 85 20 L (.ref a :: st) h Q = kO (ai_fld h a 9 0) (fun w => RR S d 85 23 L (w :: st) h Q) := RR.get rfl rfl rfl
theorem r85_23 : RR S d 85 23 L st h Q = kI (ai_look L 1) (fun x => RR S d 85 24 L (.int x :: st) h Q) := RR.ldi_n rfl rfl rfl
theorem r85_24 {x : Int32} {a : Nat} : RR S d 85 24 L (.int x :: .ref a :: st) h Q = kO (ai_obj h a 2) (fun fs => kB (decide (8 < fs.length)) (RR S d 85 27 L st (h.1.set a (.inr (2, fs.set 8 (.int x))), h.2) Q)) := RR.put rfl rfl (ai_okp_i rfl (by decide +kernel)) rfl
theorem r85_27 : RR S d 85 27 L st h Q = RR S d 85 28 L (.int 1 :: st) h Q := RR.icn (n := 1) rfl (by decide) rfl
theorem r85_28f : RR S d 85 28 L [.int 0] h Q = Q (some (.int 0)) h := RR.zrt rfl rfl (by decide)
theorem r85_28t : RR S d 85 28 L [.int 1] h Q = Q (some (.int 1)) h := RR.zrt rfl rfl (by decide)
theorem r86_0 : RR S d 86 0 L st h Q = kA (ai_look L 0) (fun x => RR S d 86 1 L (x :: st) h Q) := RR.lda_n rfl rfl rfl
theorem r86_1 {a : Nat} : RR S d 86 1 L (.ref a :: st) h Q = kO (ai_fld h a 9 2) (fun w => RR S d 86 4 L (w :: st) h Q) := RR.get rfl rfl rfl
theorem r86_4 {a : Nat} : RR S d 86 4 L (.ref a :: st) h Q = kO (ai_fld h a 7 1) (fun w => RR S d 86 7 L (w :: st) h Q) := RR.get rfl rfl rfl
theorem r86_7 {x : Int32} : RR S d 86 7 L (.int x :: st) h Q = if 0 < x then RR S d 86 19 L st h Q else RR S d 86 10 L st h Q := RR.b1 (c := .gt) (off := 12) rfl rfl (by decide) rfl
theorem r86_10 : RR S d 86 10 L st h Q = kI (ai_look L 1) (fun x => RR S d 86 11 L (.int x :: st) h Q) := RR.ldi_n rfl rfl rfl
theorem r86_11 : RR S d 86 11 L st h Q = RR S d 86 12 L (.int 0 :: st) h Q := RR.icn (n := 0) rfl (by decide) rfl
theorem r86_12 : RR S d 86 12 L st h Q = RR S d 86 13 L (.int 3 :: st) h Q := RR.icn (n := 3) rfl (by decide) rfl
theorem r86_13 {p0 : Int32} {p1 : Int32} {p2 : Int32} : RR S (d + 1) 86 13 L (.int p2 :: .int p1 :: .int p0 :: st) h Q = kB (decide (ai_sum st ≤ 8)) (RR S d 110 0 [(0, .int p0), (1, .int p1), (2, .int p2)] [] h (fun r h1 => RR S (d + 1) 86 16 L (r.toList ++ st) h1 Q)) := RR.cs (j := 57) (mn' := 110) (n := 3) rfl rfl rfl rfl (by simp) rfl rfl
theorem r86_16 {x : Int32} : RR S d 86 16 L (.int x :: st) h Q = if ¬ x = 0 then RR S d 86 21 L st h Q else RR S d 86 19 L st h Q := RR.b1 (c := .ne) (off := 5) rfl rfl (by decide) rfl
theorem r86_19 : RR S d 86 19 L st h Q = RR S d 86 20 L (.int 0 :: st) h Q := RR.icn (n := 0) rfl (by decide) rfl
theorem r86_20f : RR S d 86 20 L [.int 0] h Q = Q (some (.int 0)) h := RR.zrt rfl rfl (by decide)
theorem r86_20t : RR S d 86 20 L [.int 1] h Q = Q (some (.int 1)) h := RR.zrt rfl rfl (by decide)
theorem r86_21 : RR S d 86 21 L st h Q = kA (ai_look L 0) (fun x => RR S d 86 22 L (x :: st) h Q) := RR.lda_n rfl rfl rfl
theorem r86_22 {a : Nat} : RR S d 86 22 L (.ref a :: st) h Q = kO (ai_fld h a 9 0) (fun w => RR S d 86 25 L (w :: st) h Q) := RR.get rfl rfl rfl
theorem r86_25 : RR S d 86 25 L st h Q = kI (ai_look L 1) (fun x => RR S d 86 26 L (.int x :: st) h Q) := RR.ldi_n rfl rfl rfl
theorem r86_26 {x : Int32} {a : Nat} : RR S d 86 26 L (.int x :: .ref a :: st) h Q = kO (ai_obj h a 2) (fun fs => kB (decide (9 < fs.length)) (RR S d 86 29 L st (h.1.set a (.inr (2, fs.set 9 (.int x))), h.2) Q)) := RR.put rfl rfl (ai_okp_i rfl (by decide +kernel)) rfl
theorem r86_29 : RR S d 86 29 L st h Q = kA (ai_look L 0) (fun x => RR S d 86 30 L (x :: st) h Q) := RR.lda_n rfl rfl rfl
theorem r86_30 {a : Nat} : RR S d 86 30 L (.ref a :: st) h Q = kO (ai_fld h a 9 0) (fun w => RR S d 86 33 L (w :: st) h Q) := RR.get rfl rfl rfl
theorem r86_33 {a : Nat} : RR S (d + 1) 86 33 L (.ref a :: st) h Q = kB (decide (ai_sum st ≤ 8)) (kB ((ai_obj h a 2).isSome) (RR S d 19 0 [(0, .ref a)] [] h (fun r h1 => RR S (d + 1) 86 36 L (r.toList ++ st) h1 Q))) := RR.cv (j := 88) (mn' := 19) (n := 0) rfl rfl rfl rfl rfl rfl
theorem r86_36 : RR S d 86 36 L st h Q = kA (ai_look L 0) (fun x => RR S d 86 37 L (x :: st) h Q) := RR.lda_n rfl rfl rfl
theorem r86_37 {a : Nat} : RR S d 86 37 L (.ref a :: st) h Q = kO (ai_fld h a 9 5) (fun w => RR S d 86 40 L (w :: st) h Q) := RR.get rfl rfl rfl
theorem r86_40 : RR S d 86 40 L st h Q = RR S d 86 41 L (.int 1 :: st) h Q := RR.icn (n := 1) rfl (by decide) rfl
theorem r86_41t {a : Nat} : RR S d 86 41 L (.int 1 :: .ref a :: st) h Q = kO (ai_obj h a 4) (fun fs => kB (decide (8 < fs.length)) (RR S d 86 44 L st (h.1.set a (.inr (4, fs.set 8 (.int 1))), h.2) Q)) := RR.put rfl rfl (by decide +kernel) rfl
theorem r86_41f {a : Nat} : RR S d 86 41 L (.int 0 :: .ref a :: st) h Q = kO (ai_obj h a 4) (fun fs => kB (decide (8 < fs.length)) (RR S d 86 44 L st (h.1.set a (.inr (4, fs.set 8 (.int 0))), h.2) Q)) := RR.put rfl rfl (by decide +kernel) rfl
theorem r86_44 : RR S d 86 44 L st h Q = RR S d 86 45 L (.int 1 :: st) h Q := RR.icn (n := 1) rfl (by decide) rfl
theorem r86_45f : RR S d 86 45 L [.int 0] h Q = Q (some (.int 0)) h := RR.zrt rfl rfl (by decide)
theorem r86_45t : RR S d 86 45 L [.int 1] h Q = Q (some (.int 1)) h := RR.zrt rfl rfl (by decide)
theorem r87_0 : RR S d 87 0 L st h Q = kA (ai_look L 0) (fun x => RR S d 87 1 L (x :: st) h Q) := RR.lda_n rfl rfl rfl
theorem r87_1 {a : Nat} : RR S d 87 1 L (.ref a :: st) h Q = kO (ai_fld h a 9 0) (fun w => RR S d 87 4 L (w :: st) h Q) := RR.get rfl rfl rfl
theorem r87_4 : RR S d 87 4 L st h Q = kI (ai_look L 1) (fun x => RR S d 87 5 L (.int x :: st) h Q) := RR.ldi_n rfl rfl rfl
theorem r87_5 {p0 : Int32} {a : Nat} : RR S (d + 1) 87 5 L (.int p0 :: .ref a :: st) h Q = kB (decide (ai_sum st ≤ 8)) (kB ((ai_obj h a 2).isSome) (RR S d 13 0 [(0, .ref a), (1, .int p0)] [] h (fun r h1 => RR S (d + 1) 87 8 L (r.toList ++ st) h1 Q))) := RR.cv (j := 95) (mn' := 13) (n := 1) rfl rfl rfl rfl rfl rfl
theorem r87_8 {x : Int32} : RR S d 87 8 L (.int x :: st) h Q = if x = 0 then RR S d 87 41 L st h Q else RR S d 87 11 L st h Q := RR.b1 (c := .eq) (off := 33) rfl rfl (by decide) rfl
theorem r87_11 : RR S d 87 11 L st h Q = kA (ai_look L 0) (fun x => RR S d 87 12 L (x :: st) h Q) := RR.lda_n rfl rfl rfl
theorem r87_12 {a : Nat} : RR S d 87 12 L (.ref a :: st) h Q = kO (ai_fld h a 9 0) (fun w => RR S d 87 15 L (w :: st) h Q) := RR.get rfl rfl rfl
theorem r87_15 : RR S d 87 15 L st h Q = kI (ai_look L 2) (fun x => RR S d 87 16 L (.int x :: st) h Q) := RR.ldi_n rfl rfl rfl
theorem r87_16 {p0 : Int32} {a : Nat} : RR S (d + 1) 87 16 L (.int p0 :: .ref a :: st) h Q = kB (decide (ai_sum st ≤ 8)) (kB ((ai_obj h a 2).isSome) (RR S d 13 0 [(0, .ref a), (1, .int p0)] [] h (fun r h1 => RR S (d + 1) 87 19 L (r.toList ++ st) h1 Q))) := RR.cv (j := 95) (mn' := 13) (n := 1) rfl rfl rfl rfl rfl rfl
theorem r87_19 {x : Int32} : RR S d 87 19 L (.int x :: st) h Q = if x = 0 then RR S d 87 41 L st h Q else RR S d 87 22 L st h Q := RR.b1 (c := .eq) (off := 22) rfl rfl (by decide) rfl
theorem r87_22 : RR S d 87 22 L st h Q = kI (ai_look L 3) (fun x => RR S d 87 23 L (.int x :: st) h Q) := RR.ldi_n rfl rfl rfl
theorem r87_23 {p0 : Int32} : RR S (d + 1) 87 23 L (.int p0 :: st) h Q = kB (decide (ai_sum st ≤ 8)) (RR S d 109 0 [(0, .int p0)] [] h (fun r h1 => RR S (d + 1) 87 26 L (r.toList ++ st) h1 Q)) := RR.cs (j := 98) (mn' := 109) (n := 1) rfl rfl rfl rfl (by simp) rfl rfl
theorem r87_26 {x : Int32} : RR S d 87 26 L (.int x :: st) h Q = if x = 0 then RR S d 87 41 L st h Q else RR S d 87 29 L st h Q := RR.b1 (c := .eq) (off := 15) rfl rfl (by decide) rfl
theorem r87_29 : RR S d 87 29 L st h Q = kI (ai_look L 4) (fun x => RR S d 87 31 L (.int x :: st) h Q) := RR.ldi rfl rfl
theorem r87_31 : RR S d 87 31 L st h Q = RR S d 87 32 L (.int 0 :: st) h Q := RR.icn (n := 0) rfl (by decide) rfl
theorem r87_32 : RR S d 87 32 L st h Q = RR S d 87 35 L (.int 792 :: st) h Q := RR.sip (n := 792) rfl (by decide) rfl
theorem r87_35 {p0 : Int32} {p1 : Int32} {p2 : Int32} : RR S (d + 1) 87 35 L (.int p2 :: .int p1 :: .int p0 :: st) h Q = kB (decide (ai_sum st ≤ 8)) (RR S d 110 0 [(0, .int p0), (1, .int p1), (2, .int p2)] [] h (fun r h1 => RR S (d + 1) 87 38 L (r.toList ++ st) h1 Q)) := RR.cs (j := 57) (mn' := 110) (n := 3) rfl rfl rfl rfl (by simp) rfl rfl
theorem r87_38 {x : Int32} : RR S d 87 38 L (.int x :: st) h Q = if ¬ x = 0 then RR S d 87 43 L st h Q else RR S d 87 41 L st h Q := RR.b1 (c := .ne) (off := 5) rfl rfl (by decide) rfl
theorem r87_41 : RR S d 87 41 L st h Q = RR S d 87 42 L (.int (-1) :: st) h Q := RR.icn (n := (-1)) rfl (by decide) rfl
theorem r87_42 {x : Int32} : RR S d 87 42 L [.int x] h Q = Q (some (.int x)) h := RR.rt rfl rfl rfl
theorem r87_43 : RR S d 87 43 L st h Q = kA (ai_look L 0) (fun x => RR S d 87 44 L (x :: st) h Q) := RR.lda_n rfl rfl rfl
theorem r87_44 {a : Nat} : RR S d 87 44 L (.ref a :: st) h Q = kO (ai_fld h a 9 1) (fun w => RR S d 87 47 L (w :: st) h Q) := RR.get rfl rfl rfl
theorem r87_47 : RR S d 87 47 L st h Q = kI (ai_look L 1) (fun x => RR S d 87 48 L (.int x :: st) h Q) := RR.ldi_n rfl rfl rfl
theorem r87_48 : RR S d 87 48 L st h Q = kI (ai_look L 2) (fun x => RR S d 87 49 L (.int x :: st) h Q) := RR.ldi_n rfl rfl rfl
theorem r87_49 : RR S d 87 49 L st h Q = kI (ai_look L 3) (fun x => RR S d 87 50 L (.int x :: st) h Q) := RR.ldi_n rfl rfl rfl
theorem r87_50 : RR S d 87 50 L st h Q = kI (ai_look L 4) (fun x => RR S d 87 52 L (.int x :: st) h Q) := RR.ldi rfl rfl
theorem r87_52 {p0 : Int32} {p1 : Int32} {p2 : Int32} {p3 : Int32} {a : Nat} : RR S (d + 1) 87 52 L (.int p3 :: .int p2 :: .int p1 :: .int p0 :: .ref a :: st) h Q = kB (decide (ai_sum st ≤ 8)) (kB ((ai_obj h a 8).isSome) (RR S d 78 0 [(0, .ref a), (1, .int p0), (2, .int p1), (3, .int p2), (4, .int p3)] [] h (fun r h1 => RR S (d + 1) 87 55 L (r.toList ++ st) h1 Q))) := RR.cv (j := 101) (mn' := 78) (n := 4) rfl rfl rfl rfl rfl rfl
theorem r87_55 {x : Int32} : RR S d 87 55 L (.int x :: st) h Q = RR S d 87 57 (ai_put 6 (.int x) L) st h Q := RR.do1 (57, ai_put 6 (.int x) L, st, h) rfl rfl rfl
theorem r87_57 : RR S d 87 57 L st h Q = kI (ai_look L 6) (fun x => RR S d 87 59 L (.int x :: st) h Q) := RR.ldi rfl rfl
theorem r87_59 : RR S d 87 59 L st h Q = RR S d 87 60 L (.int (-1) :: st) h Q := RR.icn (n := (-1)) rfl (by decide) rfl
theorem r87_60 {x y : Int32} : RR S d 87 60 L (.int y :: .int x :: st) h Q = if ¬ x = y then RR S d 87 65 L st h Q else RR S d 87 63 L st h Q := RR.b2 (c := .ne) (off := 5) rfl rfl (by decide) rfl
theorem r87_63 : RR S d 87 63 L st h Q = RR S d 87 64 L (.int (-1) :: st) h Q := RR.icn (n := (-1)) rfl (by decide) rfl
theorem r87_64 {x : Int32} : RR S d 87 64 L [.int x] h Q = Q (some (.int x)) h := RR.rt rfl rfl rfl
theorem r87_65 : RR S d 87 65 L st h Q = kI (ai_look L 5) (fun x => RR S d 87 67 L (.int x :: st) h Q) := RR.ldi rfl rfl
theorem r87_67 : RR S d 87 67 L st h Q = RR S d 87 68 L (.int 4 :: st) h Q := RR.icn (n := 4) rfl (by decide) rfl
theorem r87_68 {x y : Int32} : RR S d 87 68 L (.int y :: .int x :: st) h Q = if ¬ x = y then RR S d 87 79 L st h Q else RR S d 87 71 L st h Q := RR.b2 (c := .ne) (off := 11) rfl rfl (by decide) rfl
theorem r87_71 : RR S d 87 71 L st h Q = kI (ai_look L 6) (fun x => RR S d 87 73 L (.int x :: st) h Q) := RR.ldi rfl rfl
theorem r87_73 {p0 : Int32} : RR S (d + 1) 87 73 L (.int p0 :: st) h Q = kB (decide (ai_sum st ≤ 8)) (RR S d 72 0 [(0, .int p0)] [] h (fun r h1 => RR S (d + 1) 87 76 L (r.toList ++ st) h1 Q)) := RR.cs (j := 104) (mn' := 72) (n := 1) rfl rfl rfl rfl (by simp) rfl rfl
theorem r87_76 : RR S d 87 76 L st h Q = RR S d 87 86 L st h Q := RR.jmp (off := 10) rfl (by decide)
theorem r87_79 : RR S d 87 79 L st h Q = kI (ai_look L 6) (fun x => RR S d 87 81 L (.int x :: st) h Q) := RR.ldi rfl rfl
theorem r87_81 : RR S d 87 81 L st h Q = kI (ai_look L 5) (fun x => RR S d 87 83 L (.int x :: st) h Q) := RR.ldi rfl rfl
theorem r87_83 {p0 : Int32} {p1 : Int32} : RR S (d + 1) 87 83 L (.int p1 :: .int p0 :: st) h Q = kB (decide (ai_sum st ≤ 8)) (RR S d 73 0 [(0, .int p0), (1, .int p1)] [] h (fun r h1 => RR S (d + 1) 87 86 L (r.toList ++ st) h1 Q)) := RR.cs (j := 107) (mn' := 73) (n := 2) rfl rfl rfl rfl (by simp) rfl rfl
theorem r87_86 {x : Int32} : RR S d 87 86 L [.int x] h Q = Q (some (.int x)) h := RR.rt rfl rfl rfl
theorem r88_0 : RR S d 88 0 L st h Q = kA (ai_look L 0) (fun x => RR S d 88 1 L (x :: st) h Q) := RR.lda_n rfl rfl rfl
theorem r88_1 {a : Nat} : RR S d 88 1 L (.ref a :: st) h Q = kO (ai_fld h a 9 2) (fun w => RR S d 88 4 L (w :: st) h Q) := RR.get rfl rfl rfl
theorem r88_4 {a : Nat} : RR S d 88 4 L (.ref a :: st) h Q = kO (ai_fld h a 7 1) (fun w => RR S d 88 7 L (w :: st) h Q) := RR.get rfl rfl rfl
theorem r88_7 : RR S d 88 7 L st h Q = RR S d 88 9 L (.int 8 :: st) h Q := RR.bip (n := 8) rfl (by decide) rfl
theorem r88_9 {x y : Int32} : RR S d 88 9 L (.int y :: .int x :: st) h Q = if y ≤ x then RR S d 88 31 L st h Q else RR S d 88 12 L st h Q := RR.b2 (c := .ge) (off := 22) rfl rfl (by decide) rfl
theorem r88_12 : RR S d 88 12 L st h Q = kA (ai_look L 0) (fun x => RR S d 88 13 L (x :: st) h Q) := RR.lda_n rfl rfl rfl
theorem r88_13 {a : Nat} : RR S d 88 13 L (.ref a :: st) h Q = kO (ai_fld h a 9 0) (fun w => RR S d 88 16 L (w :: st) h Q) := RR.get rfl rfl rfl
theorem r88_16 : RR S d 88 16 L st h Q = kI (ai_look L 1) (fun x => RR S d 88 17 L (.int x :: st) h Q) := RR.ldi_n rfl rfl rfl
theorem r88_17 : RR S d 88 17 L st h Q = kI (ai_look L 2) (fun x => RR S d 88 18 L (.int x :: st) h Q) := RR.ldi_n rfl rfl rfl
theorem r88_18 {p0 : Int32} {p1 : Int32} {a : Nat} : RR S (d + 1) 88 18 L (.int p1 :: .int p0 :: .ref a :: st) h Q = kB (decide (ai_sum st ≤ 8)) (kB ((ai_obj h a 2).isSome) (RR S d 14 0 [(0, .ref a), (1, .int p0), (2, .int p1)] [] h (fun r h1 => RR S (d + 1) 88 21 L (r.toList ++ st) h1 Q))) := RR.cv (j := 65) (mn' := 14) (n := 2) rfl rfl rfl rfl rfl rfl
theorem r88_21 {x : Int32} : RR S d 88 21 L (.int x :: st) h Q = if x = 0 then RR S d 88 31 L st h Q else RR S d 88 24 L st h Q := RR.b1 (c := .eq) (off := 10) rfl rfl (by decide) rfl
theorem r88_24 : RR S d 88 24 L st h Q = kI (ai_look L 3) (fun x => RR S d 88 25 L (.int x :: st) h Q) := RR.ldi_n rfl rfl rfl
theorem r88_25 {p0 : Int32} : RR S (d + 1) 88 25 L (.int p0 :: st) h Q = kB (decide (ai_sum st ≤ 8)) (RR S d 109 0 [(0, .int p0)] [] h (fun r h1 => RR S (d + 1) 88 28 L (r.toList ++ st) h1 Q)) := RR.cs (j := 98) (mn' := 109) (n := 1) rfl rfl rfl rfl (by simp) rfl rfl
theorem r88_28 {x : Int32} : RR S d 88 28 L (.int x :: st) h Q = if ¬ x = 0 then RR S d 88 33 L st h Q else RR S d 88 31 L st h Q := RR.b1 (c := .ne) (off := 5) rfl rfl (by decide) rfl
theorem r88_31 : RR S d 88 31 L st h Q = RR S d 88 32 L (.int (-1) :: st) h Q := RR.icn (n := (-1)) rfl (by decide) rfl
theorem r88_32 {x : Int32} : RR S d 88 32 L [.int x] h Q = Q (some (.int x)) h := RR.rt rfl rfl rfl
theorem r88_33 : RR S d 88 33 L st h Q = kA (ai_look L 0) (fun x => RR S d 88 34 L (x :: st) h Q) := RR.lda_n rfl rfl rfl
theorem r88_34 : RR S d 88 34 L st h Q = kI (ai_look L 4) (fun x => RR S d 88 36 L (.int x :: st) h Q) := RR.ldi rfl rfl
theorem r88_36 {p0 : Int32} {a : Nat} : RR S (d + 1) 88 36 L (.int p0 :: .ref a :: st) h Q = kB (decide (ai_sum st ≤ 8)) (kB ((ai_obj h a 9).isSome) (RR S d 106 0 [(0, .ref a), (1, .int p0)] [] h (fun r h1 => RR S (d + 1) 88 39 L (r.toList ++ st) h1 Q))) := RR.cv (j := 111) (mn' := 106) (n := 1) rfl rfl rfl rfl rfl rfl
theorem r88_39 {x : Int32} : RR S d 88 39 L (.int x :: st) h Q = if x = 0 then RR S d 88 54 L st h Q else RR S d 88 42 L st h Q := RR.b1 (c := .eq) (off := 15) rfl rfl (by decide) rfl
theorem r88_42 : RR S d 88 42 L st h Q = kI (ai_look L 5) (fun x => RR S d 88 44 L (.int x :: st) h Q) := RR.ldi rfl rfl
theorem r88_44 : RR S d 88 44 L st h Q = RR S d 88 45 L (.int 1 :: st) h Q := RR.icn (n := 1) rfl (by decide) rfl
theorem r88_45 : RR S d 88 45 L st h Q = RR S d 88 48 L (.int 200 :: st) h Q := RR.sip (n := 200) rfl (by decide) rfl
theorem r88_48 {p0 : Int32} {p1 : Int32} {p2 : Int32} : RR S (d + 1) 88 48 L (.int p2 :: .int p1 :: .int p0 :: st) h Q = kB (decide (ai_sum st ≤ 8)) (RR S d 110 0 [(0, .int p0), (1, .int p1), (2, .int p2)] [] h (fun r h1 => RR S (d + 1) 88 51 L (r.toList ++ st) h1 Q)) := RR.cs (j := 57) (mn' := 110) (n := 3) rfl rfl rfl rfl (by simp) rfl rfl
theorem r88_51 {x : Int32} : RR S d 88 51 L (.int x :: st) h Q = if ¬ x = 0 then RR S d 88 56 L st h Q else RR S d 88 54 L st h Q := RR.b1 (c := .ne) (off := 5) rfl rfl (by decide) rfl
theorem r88_54 : RR S d 88 54 L st h Q = RR S d 88 55 L (.int (-1) :: st) h Q := RR.icn (n := (-1)) rfl (by decide) rfl
theorem r88_55 {x : Int32} : RR S d 88 55 L [.int x] h Q = Q (some (.int x)) h := RR.rt rfl rfl rfl
theorem r88_56 : RR S d 88 56 L st h Q = kA (ai_look L 0) (fun x => RR S d 88 57 L (x :: st) h Q) := RR.lda_n rfl rfl rfl
theorem r88_57 {a : Nat} : RR S d 88 57 L (.ref a :: st) h Q = kO (ai_fld h a 9 1) (fun w => RR S d 88 60 L (w :: st) h Q) := RR.get rfl rfl rfl
theorem r88_60 : RR S d 88 60 L st h Q = kI (ai_look L 1) (fun x => RR S d 88 61 L (.int x :: st) h Q) := RR.ldi_n rfl rfl rfl
theorem r88_61 : RR S d 88 61 L st h Q = kI (ai_look L 2) (fun x => RR S d 88 62 L (.int x :: st) h Q) := RR.ldi_n rfl rfl rfl
theorem r88_62 : RR S d 88 62 L st h Q = kI (ai_look L 3) (fun x => RR S d 88 63 L (.int x :: st) h Q) := RR.ldi_n rfl rfl rfl
theorem r88_63 : RR S d 88 63 L st h Q = RR S d 88 64 L (.int (-1) :: st) h Q := RR.icn (n := (-1)) rfl (by decide) rfl
theorem r88_64 {p0 : Int32} {p1 : Int32} {p2 : Int32} {p3 : Int32} {a : Nat} : RR S (d + 1) 88 64 L (.int p3 :: .int p2 :: .int p1 :: .int p0 :: .ref a :: st) h Q = kB (decide (ai_sum st ≤ 8)) (kB ((ai_obj h a 8).isSome) (RR S d 79 0 [(0, .ref a), (1, .int p0), (2, .int p1), (3, .int p2), (4, .int p3)] [] h (fun r h1 => RR S (d + 1) 88 67 L (r.toList ++ st) h1 Q))) := RR.cv (j := 114) (mn' := 79) (n := 4) rfl rfl rfl rfl rfl rfl
theorem r88_67 : RR S d 88 67 L st h Q = kI (ai_look L 5) (fun x => RR S d 88 69 L (.int x :: st) h Q) := RR.ldi rfl rfl
theorem r88_69 {p0 : Int32} {p1 : Int32} : RR S (d + 1) 88 69 L (.int p1 :: .int p0 :: st) h Q = kB (decide (ai_sum st ≤ 8)) (RR S d 107 0 [(0, .int p0), (1, .int p1)] [] h (fun r h1 => RR S (d + 1) 88 72 L (r.toList ++ st) h1 Q)) := RR.cs (j := 117) (mn' := 107) (n := 2) rfl rfl rfl rfl (by simp) rfl rfl
theorem r88_72 {x : Int32} : RR S d 88 72 L (.int x :: st) h Q = if ¬ x = 0 then RR S d 88 78 L st h Q else RR S d 88 75 L st h Q := RR.b1 (c := .ne) (off := 6) rfl rfl (by decide) rfl
theorem r88_75 : RR S d 88 75 L st h Q = RR S d 88 77 L (.int (-2) :: st) h Q := RR.bip (n := (-2)) rfl (by decide) rfl
theorem r88_77 {x : Int32} : RR S d 88 77 L [.int x] h Q = Q (some (.int x)) h := RR.rt rfl rfl rfl
theorem r88_78 : RR S d 88 78 L st h Q = RR S d 88 81 L (.ref h.1.length :: st) (h.1 ++ [.inr (6, [.int 0, .int 0, .null, .int 0, .int 0, .int 0])], h.2 + 6) Q := RR.do1 (81, L, .ref h.1.length :: st, (h.1 ++ [.inr (6, [.int 0, .int 0, .null, .int 0, .int 0, .int 0])], h.2 + 6)) rfl rfl rfl
theorem r88_81 {v : Value} (hv : v.category = 1) : RR S d 88 81 L (v :: st) h Q = RR S d 88 82 L (v :: v :: st) h Q := RR.dup rfl hv rfl
theorem r88_82 : RR S d 88 82 L st h Q = kI (ai_look L 3) (fun x => RR S d 88 83 L (.int x :: st) h Q) := RR.ldi_n rfl rfl rfl
theorem r88_83 : RR S d 88 83 L st h Q = kI (ai_look L 4) (fun x => RR S d 88 85 L (.int x :: st) h Q) := RR.ldi rfl rfl
theorem r88_85 {p0 : Int32} {p1 : Int32} {a : Nat} : RR S (d + 1) 88 85 L (.int p1 :: .int p0 :: .ref a :: st) h Q = kB (decide (ai_sum st ≤ 8)) (RR S d 60 0 [(0, .ref a), (1, .int p0), (2, .int p1)] [] h (fun r h1 => RR S (d + 1) 88 88 L (r.toList ++ st) h1 Q)) := RR.ci (j := 122) (mn' := 60) (n := 2) rfl rfl rfl rfl rfl rfl rfl
theorem r88_88 {x : Nat} : RR S d 88 88 L (.ref x :: st) h Q = RR S d 88 90 (ai_put 6 (.ref x) L) st h Q := RR.do1 (90, ai_put 6 (.ref x) L, st, h) rfl rfl rfl
theorem r88_88n : RR S d 88 88 L (.null :: st) h Q = RR S d 88 90 (ai_put 6 .null L) st h Q := RR.do1 (90, ai_put 6 .null L, st, h) rfl rfl rfl
theorem r88_88f {u : UInt32} : RR S d 88 88 L (.float u :: st) h Q = RR S d 88 90 (ai_put 6 (.float u) L) st h Q := RR.do1 (90, ai_put 6 (.float u) L, st, h) rfl rfl rfl
theorem r88_90 : RR S d 88 90 L st h Q = kA (ai_look L 0) (fun x => RR S d 88 91 L (x :: st) h Q) := RR.lda_n rfl rfl rfl
theorem r88_91 : RR S d 88 91 L st h Q = kA (ai_look L 6) (fun x => RR S d 88 93 L (x :: st) h Q) := RR.lda rfl rfl
theorem r88_93 : RR S d 88 93 L st h Q = kI (ai_look L 1) (fun x => RR S d 88 94 L (.int x :: st) h Q) := RR.ldi_n rfl rfl rfl
theorem r88_94 : RR S d 88 94 L st h Q = kI (ai_look L 2) (fun x => RR S d 88 95 L (.int x :: st) h Q) := RR.ldi_n rfl rfl rfl
theorem r88_95 : RR S d 88 95 L st h Q = kI (ai_look L 5) (fun x => RR S d 88 97 L (.int x :: st) h Q) := RR.ldi rfl rfl
theorem r88_97 {p0 : Nat} {p1 : Int32} {p2 : Int32} {p3 : Int32} {a : Nat} : RR S (d + 1) 88 97 L (.int p3 :: .int p2 :: .int p1 :: .ref p0 :: .ref a :: st) h Q = kB (decide (ai_sum st ≤ 8)) (kB ((ai_obj h a 9).isSome) (RR S d 105 0 [(0, .ref a), (1, .ref p0), (2, .int p1), (3, .int p2), (4, .int p3)] [] h (fun r h1 => RR S (d + 1) 88 100 L (r.toList ++ st) h1 Q))) := RR.cv (j := 125) (mn' := 105) (n := 4) rfl rfl rfl rfl rfl rfl
theorem r88_100 : RR S d 88 100 L st h Q = kA (ai_look L 0) (fun x => RR S d 88 101 L (x :: st) h Q) := RR.lda_n rfl rfl rfl
theorem r88_101 {a : Nat} : RR S d 88 101 L (.ref a :: st) h Q = kO (ai_fld h a 9 2) (fun w => RR S d 88 104 L (w :: st) h Q) := RR.get rfl rfl rfl
theorem r88_104 : RR S d 88 104 L st h Q = kA (ai_look L 6) (fun x => RR S d 88 106 L (x :: st) h Q) := RR.lda rfl rfl
theorem r88_106 {p0 : Nat} {a : Nat} : RR S (d + 1) 88 106 L (.ref p0 :: .ref a :: st) h Q = kB (decide (ai_sum st ≤ 8)) (kB ((ai_obj h a 7).isSome) (RR S d 65 0 [(0, .ref a), (1, .ref p0)] [] h (fun r h1 => RR S (d + 1) 88 109 L (r.toList ++ st) h1 Q))) := RR.cv (j := 129) (mn' := 65) (n := 1) rfl rfl rfl rfl rfl rfl
theorem r88_109 {x : Int32} : RR S d 88 109 L [.int x] h Q = Q (some (.int x)) h := RR.rt rfl rfl rfl
theorem r89_0 : RR S d 89 0 L st h Q = kA (ai_look L 0) (fun x => RR S d 89 1 L (x :: st) h Q) := RR.lda_n rfl rfl rfl
theorem r89_1 {a : Nat} : RR S d 89 1 L (.ref a :: st) h Q = kO (ai_fld h a 9 2) (fun w => RR S d 89 4 L (w :: st) h Q) := RR.get rfl rfl rfl
theorem r89_4 : RR S d 89 4 L st h Q = kI (ai_look L 1) (fun x => RR S d 89 5 L (.int x :: st) h Q) := RR.ldi_n rfl rfl rfl
theorem r89_5 {p0 : Int32} {a : Nat} : RR S (d + 1) 89 5 L (.int p0 :: .ref a :: st) h Q = kB (decide (ai_sum st ≤ 8)) (kB ((ai_obj h a 7).isSome) (RR S d 67 0 [(0, .ref a), (1, .int p0)] [] h (fun r h1 => RR S (d + 1) 89 8 L (r.toList ++ st) h1 Q))) := RR.cv (j := 133) (mn' := 67) (n := 1) rfl rfl rfl rfl rfl rfl
theorem r89_8 {x : Nat} : RR S d 89 8 L (.ref x :: st) h Q = RR S d 89 9 (ai_put 2 (.ref x) L) st h Q := RR.do1 (9, ai_put 2 (.ref x) L, st, h) rfl rfl rfl
theorem r89_8n : RR S d 89 8 L (.null :: st) h Q = RR S d 89 9 (ai_put 2 .null L) st h Q := RR.do1 (9, ai_put 2 .null L, st, h) rfl rfl rfl
theorem r89_8f {u : UInt32} : RR S d 89 8 L (.float u :: st) h Q = RR S d 89 9 (ai_put 2 (.float u) L) st h Q := RR.do1 (9, ai_put 2 (.float u) L, st, h) rfl rfl rfl
theorem r89_9 : RR S d 89 9 L st h Q = kA (ai_look L 2) (fun x => RR S d 89 10 L (x :: st) h Q) := RR.lda_n rfl rfl rfl
theorem r89_10 {x : Nat} : RR S d 89 10 L (.ref x :: st) h Q = RR S d 89 15 L st h Q := RR.nul (b := true) (off := 5) (tgt := 15) rfl rfl rfl (by decide) rfl rfl
theorem r89_10n : RR S d 89 10 L (.null :: st) h Q = RR S d 89 13 L st h Q := RR.nul (b := false) (off := 5) (tgt := 15) rfl rfl rfl (by decide) rfl rfl
theorem r89_13 : RR S d 89 13 L st h Q = RR S d 89 14 L (.int 0 :: st) h Q := RR.icn (n := 0) rfl (by decide) rfl
theorem r89_14f : RR S d 89 14 L [.int 0] h Q = Q (some (.int 0)) h := RR.zrt rfl rfl (by decide)
theorem r89_14t : RR S d 89 14 L [.int 1] h Q = Q (some (.int 1)) h := RR.zrt rfl rfl (by decide)
theorem r89_15 : RR S d 89 15 L st h Q = kA (ai_look L 2) (fun x => RR S d 89 16 L (x :: st) h Q) := RR.lda_n rfl rfl rfl
theorem r89_16 : RR S d 89 16 L st h Q = RR S d 89 17 L (.int (-1) :: st) h Q := RR.icn (n := (-1)) rfl (by decide) rfl
theorem r89_17 {x : Int32} {a : Nat} : RR S d 89 17 L (.int x :: .ref a :: st) h Q = kO (ai_obj h a 6) (fun fs => kB (decide (4 < fs.length)) (RR S d 89 20 L st (h.1.set a (.inr (6, fs.set 4 (.int x))), h.2) Q)) := RR.put rfl rfl (ai_okp_i rfl (by decide +kernel)) rfl
theorem r89_20 : RR S d 89 20 L st h Q = kA (ai_look L 0) (fun x => RR S d 89 21 L (x :: st) h Q) := RR.lda_n rfl rfl rfl
theorem r89_21 {a : Nat} : RR S d 89 21 L (.ref a :: st) h Q = kO (ai_fld h a 9 4) (fun w => RR S d 89 24 L (w :: st) h Q) := RR.get rfl rfl rfl
theorem r89_24 {a : Nat} : RR S (d + 1) 89 24 L (.ref a :: st) h Q = kB (decide (ai_sum st ≤ 8)) (kB ((ai_obj h a 3).isSome) (RR S d 33 0 [(0, .ref a)] [] h (fun r h1 => RR S (d + 1) 89 27 L (r.toList ++ st) h1 Q))) := RR.cv (j := 140) (mn' := 33) (n := 0) rfl rfl rfl rfl rfl rfl
theorem r89_27 : RR S d 89 27 L st h Q = kA (ai_look L 0) (fun x => RR S d 89 28 L (x :: st) h Q) := RR.lda_n rfl rfl rfl
theorem r89_28 {a : Nat} : RR S d 89 28 L (.ref a :: st) h Q = kO (ai_fld h a 9 5) (fun w => RR S d 89 31 L (w :: st) h Q) := RR.get rfl rfl rfl
theorem r89_31 : RR S d 89 31 L st h Q = RR S d 89 32 L (.int 1 :: st) h Q := RR.icn (n := 1) rfl (by decide) rfl
theorem r89_32t {a : Nat} : RR S d 89 32 L (.int 1 :: .ref a :: st) h Q = kO (ai_obj h a 4) (fun fs => kB (decide (8 < fs.length)) (RR S d 89 35 L st (h.1.set a (.inr (4, fs.set 8 (.int 1))), h.2) Q)) := RR.put rfl rfl (by decide +kernel) rfl
theorem r89_32f {a : Nat} : RR S d 89 32 L (.int 0 :: .ref a :: st) h Q = kO (ai_obj h a 4) (fun fs => kB (decide (8 < fs.length)) (RR S d 89 35 L st (h.1.set a (.inr (4, fs.set 8 (.int 0))), h.2) Q)) := RR.put rfl rfl (by decide +kernel) rfl
theorem r89_35 : RR S d 89 35 L st h Q = RR S d 89 36 L (.int 1 :: st) h Q := RR.icn (n := 1) rfl (by decide) rfl
theorem r89_36f : RR S d 89 36 L [.int 0] h Q = Q (some (.int 0)) h := RR.zrt rfl rfl (by decide)
theorem r89_36t : RR S d 89 36 L [.int 1] h Q = Q (some (.int 1)) h := RR.zrt rfl rfl (by decide)
theorem r90_0 : RR S d 90 0 L st h Q = kA (ai_look L 0) (fun x => RR S d 90 1 L (x :: st) h Q) := RR.lda_n rfl rfl rfl
theorem r90_1 {a : Nat} : RR S d 90 1 L (.ref a :: st) h Q = kO (ai_fld h a 9 4) (fun w => RR S d 90 4 L (w :: st) h Q) := RR.get rfl rfl rfl
theorem r90_4 {a : Nat} : RR S (d + 1) 90 4 L (.ref a :: st) h Q = kB (decide (ai_sum st ≤ 8)) (kB ((ai_obj h a 3).isSome) (RR S d 29 0 [(0, .ref a)] [] h (fun r h1 => RR S (d + 1) 90 7 L (r.toList ++ st) h1 Q))) := RR.cv (j := 143) (mn' := 29) (n := 0) rfl rfl rfl rfl rfl rfl
theorem r90_7 : RR S d 90 7 L st h Q = kA (ai_look L 0) (fun x => RR S d 90 8 L (x :: st) h Q) := RR.lda_n rfl rfl rfl
theorem r90_8 {a : Nat} : RR S d 90 8 L (.ref a :: st) h Q = kO (ai_fld h a 9 4) (fun w => RR S d 90 11 L (w :: st) h Q) := RR.get rfl rfl rfl
theorem r90_11 : RR S d 90 11 L st h Q = kA (ai_look L 0) (fun x => RR S d 90 12 L (x :: st) h Q) := RR.lda_n rfl rfl rfl
theorem r90_12 {a : Nat} : RR S d 90 12 L (.ref a :: st) h Q = kO (ai_fld h a 9 2) (fun w => RR S d 90 15 L (w :: st) h Q) := RR.get rfl rfl rfl
theorem r90_15 {a : Nat} : RR S (d + 1) 90 15 L (.ref a :: st) h Q = kB (decide (ai_sum st ≤ 8)) (kB ((ai_obj h a 7).isSome) (RR S d 68 0 [(0, .ref a)] [] h (fun r h1 => RR S (d + 1) 90 18 L (r.toList ++ st) h1 Q))) := RR.cv (j := 146) (mn' := 68) (n := 0) rfl rfl rfl rfl rfl rfl
theorem r90_18 {p0 : Int32} {a : Nat} : RR S (d + 1) 90 18 L (.int p0 :: .ref a :: st) h Q = kB (decide (ai_sum st ≤ 8)) (kB ((ai_obj h a 3).isSome) (RR S d 32 0 [(0, .ref a), (1, .int p0)] [] h (fun r h1 => RR S (d + 1) 90 21 L (r.toList ++ st) h1 Q))) := RR.cv (j := 150) (mn' := 32) (n := 1) rfl rfl rfl rfl rfl rfl
theorem r90_21 {x : Int32} : RR S d 90 21 L (.int x :: st) h Q = RR S d 90 22 (ai_put 1 (.int x) L) st h Q := RR.do1 (22, ai_put 1 (.int x) L, st, h) rfl rfl rfl
theorem r90_22 : RR S d 90 22 L st h Q = kA (ai_look L 0) (fun x => RR S d 90 23 L (x :: st) h Q) := RR.lda_n rfl rfl rfl
theorem r90_23 {a : Nat} : RR S d 90 23 L (.ref a :: st) h Q = kO (ai_fld h a 9 5) (fun w => RR S d 90 26 L (w :: st) h Q) := RR.get rfl rfl rfl
theorem r90_26 : RR S d 90 26 L st h Q = RR S d 90 27 L (.int 1 :: st) h Q := RR.icn (n := 1) rfl (by decide) rfl
theorem r90_27t {a : Nat} : RR S d 90 27 L (.int 1 :: .ref a :: st) h Q = kO (ai_obj h a 4) (fun fs => kB (decide (8 < fs.length)) (RR S d 90 30 L st (h.1.set a (.inr (4, fs.set 8 (.int 1))), h.2) Q)) := RR.put rfl rfl (by decide +kernel) rfl
theorem r90_27f {a : Nat} : RR S d 90 27 L (.int 0 :: .ref a :: st) h Q = kO (ai_obj h a 4) (fun fs => kB (decide (8 < fs.length)) (RR S d 90 30 L st (h.1.set a (.inr (4, fs.set 8 (.int 0))), h.2) Q)) := RR.put rfl rfl (by decide +kernel) rfl
theorem r90_30 : RR S d 90 30 L st h Q = kI (ai_look L 1) (fun x => RR S d 90 31 L (.int x :: st) h Q) := RR.ldi_n rfl rfl rfl
theorem r90_31 {x : Int32} : RR S d 90 31 L [.int x] h Q = Q (some (.int x)) h := RR.rt rfl rfl rfl
theorem r91_0 : RR S d 91 0 L st h Q = kA (ai_look L 0) (fun x => RR S d 91 1 L (x :: st) h Q) := RR.lda_n rfl rfl rfl
theorem r91_1 {a : Nat} : RR S d 91 1 L (.ref a :: st) h Q = kO (ai_fld h a 9 4) (fun w => RR S d 91 4 L (w :: st) h Q) := RR.get rfl rfl rfl
theorem r91_4 {a : Nat} : RR S (d + 1) 91 4 L (.ref a :: st) h Q = kB (decide (ai_sum st ≤ 8)) (kB ((ai_obj h a 3).isSome) (RR S d 29 0 [(0, .ref a)] [] h (fun r h1 => RR S (d + 1) 91 7 L (r.toList ++ st) h1 Q))) := RR.cv (j := 143) (mn' := 29) (n := 0) rfl rfl rfl rfl rfl rfl
theorem r91_7 : RR S d 91 7 L st h Q = kA (ai_look L 0) (fun x => RR S d 91 8 L (x :: st) h Q) := RR.lda_n rfl rfl rfl
theorem r91_8 {a : Nat} : RR S d 91 8 L (.ref a :: st) h Q = kO (ai_fld h a 9 4) (fun w => RR S d 91 11 L (w :: st) h Q) := RR.get rfl rfl rfl
theorem r91_11 : RR S d 91 11 L st h Q = kA (ai_look L 0) (fun x => RR S d 91 12 L (x :: st) h Q) := RR.lda_n rfl rfl rfl
theorem r91_12 {a : Nat} : RR S d 91 12 L (.ref a :: st) h Q = kO (ai_fld h a 9 2) (fun w => RR S d 91 15 L (w :: st) h Q) := RR.get rfl rfl rfl
theorem r91_15 {a : Nat} : RR S (d + 1) 91 15 L (.ref a :: st) h Q = kB (decide (ai_sum st ≤ 8)) (kB ((ai_obj h a 7).isSome) (RR S d 70 0 [(0, .ref a)] [] h (fun r h1 => RR S (d + 1) 91 18 L (r.toList ++ st) h1 Q))) := RR.cv (j := 153) (mn' := 70) (n := 0) rfl rfl rfl rfl rfl rfl
theorem r91_18 {p0 : Int32} {a : Nat} : RR S (d + 1) 91 18 L (.int p0 :: .ref a :: st) h Q = kB (decide (ai_sum st ≤ 8)) (kB ((ai_obj h a 3).isSome) (RR S d 32 0 [(0, .ref a), (1, .int p0)] [] h (fun r h1 => RR S (d + 1) 91 21 L (r.toList ++ st) h1 Q))) := RR.cv (j := 150) (mn' := 32) (n := 1) rfl rfl rfl rfl rfl rfl
theorem r91_21 {x : Int32} : RR S d 91 21 L (.int x :: st) h Q = RR S d 91 22 (ai_put 1 (.int x) L) st h Q := RR.do1 (22, ai_put 1 (.int x) L, st, h) rfl rfl rfl
theorem r91_22 : RR S d 91 22 L st h Q = kA (ai_look L 0) (fun x => RR S d 91 23 L (x :: st) h Q) := RR.lda_n rfl rfl rfl
theorem r91_23 {a : Nat} : RR S d 91 23 L (.ref a :: st) h Q = kO (ai_fld h a 9 5) (fun w => RR S d 91 26 L (w :: st) h Q) := RR.get rfl rfl rfl
theorem r91_26 : RR S d 91 26 L st h Q = RR S d 91 27 L (.int 1 :: st) h Q := RR.icn (n := 1) rfl (by decide) rfl
theorem r91_27t {a : Nat} : RR S d 91 27 L (.int 1 :: .ref a :: st) h Q = kO (ai_obj h a 4) (fun fs => kB (decide (8 < fs.length)) (RR S d 91 30 L st (h.1.set a (.inr (4, fs.set 8 (.int 1))), h.2) Q)) := RR.put rfl rfl (by decide +kernel) rfl
theorem r91_27f {a : Nat} : RR S d 91 27 L (.int 0 :: .ref a :: st) h Q = kO (ai_obj h a 4) (fun fs => kB (decide (8 < fs.length)) (RR S d 91 30 L st (h.1.set a (.inr (4, fs.set 8 (.int 0))), h.2) Q)) := RR.put rfl rfl (by decide +kernel) rfl
theorem r91_30 : RR S d 91 30 L st h Q = kI (ai_look L 1) (fun x => RR S d 91 31 L (.int x :: st) h Q) := RR.ldi_n rfl rfl rfl
theorem r91_31 {x : Int32} : RR S d 91 31 L [.int x] h Q = Q (some (.int x)) h := RR.rt rfl rfl rfl
theorem r92_0 : RR S d 92 0 L st h Q = kA (ai_look L 0) (fun x => RR S d 92 1 L (x :: st) h Q) := RR.lda_n rfl rfl rfl
theorem r92_1 {a : Nat} : RR S d 92 1 L (.ref a :: st) h Q = kO (ai_fld h a 9 4) (fun w => RR S d 92 4 L (w :: st) h Q) := RR.get rfl rfl rfl
theorem r92_4 {a : Nat} : RR S (d + 1) 92 4 L (.ref a :: st) h Q = kB (decide (ai_sum st ≤ 8)) (kB ((ai_obj h a 3).isSome) (RR S d 29 0 [(0, .ref a)] [] h (fun r h1 => RR S (d + 1) 92 7 L (r.toList ++ st) h1 Q))) := RR.cv (j := 143) (mn' := 29) (n := 0) rfl rfl rfl rfl rfl rfl
theorem r92_7 : RR S d 92 7 L st h Q = kA (ai_look L 0) (fun x => RR S d 92 8 L (x :: st) h Q) := RR.lda_n rfl rfl rfl
theorem r92_8 {a : Nat} : RR S d 92 8 L (.ref a :: st) h Q = kO (ai_fld h a 9 4) (fun w => RR S d 92 11 L (w :: st) h Q) := RR.get rfl rfl rfl
theorem r92_11 {a : Nat} : RR S (d + 1) 92 11 L (.ref a :: st) h Q = kB (decide (ai_sum st ≤ 8)) (kB ((ai_obj h a 3).isSome) (RR S d 30 0 [(0, .ref a)] [] h (fun r h1 => RR S (d + 1) 92 14 L (r.toList ++ st) h1 Q))) := RR.cv (j := 156) (mn' := 30) (n := 0) rfl rfl rfl rfl rfl rfl
theorem r92_14 {x : Int32} : RR S d 92 14 L (.int x :: st) h Q = RR S d 92 15 (ai_put 1 (.int x) L) st h Q := RR.do1 (15, ai_put 1 (.int x) L, st, h) rfl rfl rfl
theorem r92_15 : RR S d 92 15 L st h Q = kA (ai_look L 0) (fun x => RR S d 92 16 L (x :: st) h Q) := RR.lda_n rfl rfl rfl
theorem r92_16 {a : Nat} : RR S d 92 16 L (.ref a :: st) h Q = kO (ai_fld h a 9 5) (fun w => RR S d 92 19 L (w :: st) h Q) := RR.get rfl rfl rfl
theorem r92_19 : RR S d 92 19 L st h Q = RR S d 92 20 L (.int 1 :: st) h Q := RR.icn (n := 1) rfl (by decide) rfl
theorem r92_20t {a : Nat} : RR S d 92 20 L (.int 1 :: .ref a :: st) h Q = kO (ai_obj h a 4) (fun fs => kB (decide (8 < fs.length)) (RR S d 92 23 L st (h.1.set a (.inr (4, fs.set 8 (.int 1))), h.2) Q)) := RR.put rfl rfl (by decide +kernel) rfl
theorem r92_20f {a : Nat} : RR S d 92 20 L (.int 0 :: .ref a :: st) h Q = kO (ai_obj h a 4) (fun fs => kB (decide (8 < fs.length)) (RR S d 92 23 L st (h.1.set a (.inr (4, fs.set 8 (.int 0))), h.2) Q)) := RR.put rfl rfl (by decide +kernel) rfl
theorem r92_23 : RR S d 92 23 L st h Q = kI (ai_look L 1) (fun x => RR S d 92 24 L (.int x :: st) h Q) := RR.ldi_n rfl rfl rfl
theorem r92_24 {x : Int32} : RR S d 92 24 L [.int x] h Q = Q (some (.int x)) h := RR.rt rfl rfl rfl
theorem r93_0 : RR S d 93 0 L st h Q = kA (ai_look L 0) (fun x => RR S d 93 1 L (x :: st) h Q) := RR.lda_n rfl rfl rfl
theorem r93_1 {a : Nat} : RR S d 93 1 L (.ref a :: st) h Q = kO (ai_fld h a 9 2) (fun w => RR S d 93 4 L (w :: st) h Q) := RR.get rfl rfl rfl
theorem r93_4 : RR S d 93 4 L st h Q = kI (ai_look L 1) (fun x => RR S d 93 5 L (.int x :: st) h Q) := RR.ldi_n rfl rfl rfl
theorem r93_5 {p0 : Int32} {a : Nat} : RR S (d + 1) 93 5 L (.int p0 :: .ref a :: st) h Q = kB (decide (ai_sum st ≤ 8)) (kB ((ai_obj h a 7).isSome) (RR S d 67 0 [(0, .ref a), (1, .int p0)] [] h (fun r h1 => RR S (d + 1) 93 8 L (r.toList ++ st) h1 Q))) := RR.cv (j := 133) (mn' := 67) (n := 1) rfl rfl rfl rfl rfl rfl
theorem r93_8 {x : Nat} : RR S d 93 8 L (.ref x :: st) h Q = RR S d 93 9 (ai_put 3 (.ref x) L) st h Q := RR.do1 (9, ai_put 3 (.ref x) L, st, h) rfl rfl rfl
theorem r93_8n : RR S d 93 8 L (.null :: st) h Q = RR S d 93 9 (ai_put 3 .null L) st h Q := RR.do1 (9, ai_put 3 .null L, st, h) rfl rfl rfl
theorem r93_8f {u : UInt32} : RR S d 93 8 L (.float u :: st) h Q = RR S d 93 9 (ai_put 3 (.float u) L) st h Q := RR.do1 (9, ai_put 3 (.float u) L, st, h) rfl rfl rfl
theorem r93_9 : RR S d 93 9 L st h Q = kA (ai_look L 3) (fun x => RR S d 93 10 L (x :: st) h Q) := RR.lda_n rfl rfl rfl
theorem r93_10 {x : Nat} : RR S d 93 10 L (.ref x :: st) h Q = RR S d 93 15 L st h Q := RR.nul (b := true) (off := 5) (tgt := 15) rfl rfl rfl (by decide) rfl rfl
theorem r93_10n : RR S d 93 10 L (.null :: st) h Q = RR S d 93 13 L st h Q := RR.nul (b := false) (off := 5) (tgt := 15) rfl rfl rfl (by decide) rfl rfl
theorem r93_13 : RR S d 93 13 L st h Q = RR S d 93 14 L (.int (-1) :: st) h Q := RR.icn (n := (-1)) rfl (by decide) rfl
theorem r93_14 {x : Int32} : RR S d 93 14 L [.int x] h Q = Q (some (.int x)) h := RR.rt rfl rfl rfl
theorem r93_15 : RR S d 93 15 L st h Q = kA (ai_look L 3) (fun x => RR S d 93 16 L (x :: st) h Q) := RR.lda_n rfl rfl rfl
theorem r93_16 {a : Nat} : RR S (d + 1) 93 16 L (.ref a :: st) h Q = kB (decide (ai_sum st ≤ 8)) (kB ((ai_obj h a 6).isSome) (RR S d 63 0 [(0, .ref a)] [] h (fun r h1 => RR S (d + 1) 93 19 L (r.toList ++ st) h1 Q))) := RR.cv (j := 159) (mn' := 63) (n := 0) rfl rfl rfl rfl rfl rfl
theorem r93_19 {x : Int32} : RR S d 93 19 L (.int x :: st) h Q = RR S d 93 21 (ai_put 4 (.int x) L) st h Q := RR.do1 (21, ai_put 4 (.int x) L, st, h) rfl rfl rfl
theorem r93_21 : RR S d 93 21 L st h Q = kI (ai_look L 2) (fun x => RR S d 93 22 L (.int x :: st) h Q) := RR.ldi_n rfl rfl rfl
theorem r93_52 : RR S d 93 52 L st h Q = kA (ai_look L 3) (fun x => RR S d 93 53 L (x :: st) h Q) := RR.lda_n rfl rfl rfl
theorem r93_53 {a : Nat} : RR S d 93 53 L (.ref a :: st) h Q = kO (ai_fld h a 6 4) (fun w => RR S d 93 56 L (w :: st) h Q) := RR.get rfl rfl rfl
theorem r93_56 {x : Int32} : RR S d 93 56 L [.int x] h Q = Q (some (.int x)) h := RR.rt rfl rfl rfl
theorem r93_57 : RR S d 93 57 L st h Q = kA (ai_look L 3) (fun x => RR S d 93 58 L (x :: st) h Q) := RR.lda_n rfl rfl rfl
theorem r93_58 {a : Nat} : RR S d 93 58 L (.ref a :: st) h Q = kO (ai_fld h a 6 5) (fun w => RR S d 93 61 L (w :: st) h Q) := RR.get rfl rfl rfl
theorem r93_61 {x : Int32} : RR S d 93 61 L [.int x] h Q = Q (some (.int x)) h := RR.rt rfl rfl rfl
theorem r93_62 : RR S d 93 62 L st h Q = kI (ai_look L 4) (fun x => RR S d 93 64 L (.int x :: st) h Q) := RR.ldi rfl rfl
theorem r93_64 {p0 : Int32} : RR S (d + 1) 93 64 L (.int p0 :: st) h Q = kB (decide (ai_sum st ≤ 8)) (RR S d 74 0 [(0, .int p0)] [] h (fun r h1 => RR S (d + 1) 93 67 L (r.toList ++ st) h1 Q)) := RR.cs (j := 165) (mn' := 74) (n := 1) rfl rfl rfl rfl (by simp) rfl rfl
theorem r93_67 {x : Int32} : RR S d 93 67 L [.int x] h Q = Q (some (.int x)) h := RR.rt rfl rfl rfl
theorem r93_68 : RR S d 93 68 L st h Q = kI (ai_look L 4) (fun x => RR S d 93 70 L (.int x :: st) h Q) := RR.ldi rfl rfl
theorem r93_70 {p0 : Int32} : RR S (d + 1) 93 70 L (.int p0 :: st) h Q = kB (decide (ai_sum st ≤ 8)) (RR S d 72 0 [(0, .int p0)] [] h (fun r h1 => RR S (d + 1) 93 73 L (r.toList ++ st) h1 Q)) := RR.cs (j := 104) (mn' := 72) (n := 1) rfl rfl rfl rfl (by simp) rfl rfl
theorem r93_73 {x : Int32} : RR S d 93 73 L [.int x] h Q = Q (some (.int x)) h := RR.rt rfl rfl rfl
theorem r93_74 : RR S d 93 74 L st h Q = kI (ai_look L 2) (fun x => RR S d 93 75 L (.int x :: st) h Q) := RR.ldi_n rfl rfl rfl
theorem r93_75 : RR S d 93 75 L st h Q = RR S d 93 77 L (.int 10 :: st) h Q := RR.bip (n := 10) rfl (by decide) rfl
theorem r93_77 : RR S d 93 77 L st h Q = RR S d 93 79 L (.int 13 :: st) h Q := RR.bip (n := 13) rfl (by decide) rfl
theorem r93_79 {p0 : Int32} {p1 : Int32} {p2 : Int32} : RR S (d + 1) 93 79 L (.int p2 :: .int p1 :: .int p0 :: st) h Q = kB (decide (ai_sum st ≤ 8)) (RR S d 110 0 [(0, .int p0), (1, .int p1), (2, .int p2)] [] h (fun r h1 => RR S (d + 1) 93 82 L (r.toList ++ st) h1 Q)) := RR.cs (j := 57) (mn' := 110) (n := 3) rfl rfl rfl rfl (by simp) rfl rfl
theorem r93_82 {x : Int32} : RR S d 93 82 L (.int x :: st) h Q = if x = 0 then RR S d 93 95 L st h Q else RR S d 93 85 L st h Q := RR.b1 (c := .eq) (off := 13) rfl rfl (by decide) rfl
theorem r93_85 : RR S d 93 85 L st h Q = kI (ai_look L 4) (fun x => RR S d 93 87 L (.int x :: st) h Q) := RR.ldi rfl rfl
theorem r93_87 : RR S d 93 87 L st h Q = kI (ai_look L 2) (fun x => RR S d 93 88 L (.int x :: st) h Q) := RR.ldi_n rfl rfl rfl
theorem r93_88 : RR S d 93 88 L st h Q = RR S d 93 90 L (.int 10 :: st) h Q := RR.bip (n := 10) rfl (by decide) rfl
theorem r93_90 {x y : Int32} : RR S d 93 90 L (.int y :: .int x :: st) h Q = RR S d 93 91 L (.int (x - y) :: st) h Q := RR.do1 (91, L, .int (x - y) :: st, h) rfl rfl rfl
theorem r93_91 {p0 : Int32} {p1 : Int32} : RR S (d + 1) 93 91 L (.int p1 :: .int p0 :: st) h Q = kB (decide (ai_sum st ≤ 8)) (RR S d 73 0 [(0, .int p0), (1, .int p1)] [] h (fun r h1 => RR S (d + 1) 93 94 L (r.toList ++ st) h1 Q)) := RR.cs (j := 107) (mn' := 73) (n := 2) rfl rfl rfl rfl (by simp) rfl rfl
theorem r93_94 {x : Int32} : RR S d 93 94 L [.int x] h Q = Q (some (.int x)) h := RR.rt rfl rfl rfl
theorem r93_95 : RR S d 93 95 L st h Q = kI (ai_look L 4) (fun x => RR S d 93 97 L (.int x :: st) h Q) := RR.ldi rfl rfl
theorem r93_97 : RR S d 93 97 L st h Q = kI (ai_look L 2) (fun x => RR S d 93 98 L (.int x :: st) h Q) := RR.ldi_n rfl rfl rfl
theorem r93_98 : RR S d 93 98 L st h Q = RR S d 93 100 L (.int 20 :: st) h Q := RR.bip (n := 20) rfl (by decide) rfl
theorem r93_100 {x y : Int32} : RR S d 93 100 L (.int y :: .int x :: st) h Q = RR S d 93 101 L (.int (x - y) :: st) h Q := RR.do1 (101, L, .int (x - y) :: st, h) rfl rfl rfl
theorem r93_101 {p0 : Int32} {p1 : Int32} : RR S (d + 1) 93 101 L (.int p1 :: .int p0 :: st) h Q = kB (decide (ai_sum st ≤ 8)) (RR S d 75 0 [(0, .int p0), (1, .int p1)] [] h (fun r h1 => RR S (d + 1) 93 104 L (r.toList ++ st) h1 Q)) := RR.cs (j := 168) (mn' := 75) (n := 2) rfl rfl rfl rfl (by simp) rfl rfl
theorem r93_104 {x : Int32} : RR S d 93 104 L (.int x :: st) h Q = if x = 0 then RR S d 93 122 L st h Q else RR S d 93 107 L st h Q := RR.b1 (c := .eq) (off := 18) rfl rfl (by decide) rfl
theorem r93_107 : RR S d 93 107 L st h Q = kA (ai_look L 0) (fun x => RR S d 93 108 L (x :: st) h Q) := RR.lda_n rfl rfl rfl
theorem r93_108 {a : Nat} : RR S d 93 108 L (.ref a :: st) h Q = kO (ai_fld h a 9 0) (fun w => RR S d 93 111 L (w :: st) h Q) := RR.get rfl rfl rfl
theorem r93_111 : RR S d 93 111 L st h Q = kA (ai_look L 3) (fun x => RR S d 93 112 L (x :: st) h Q) := RR.lda_n rfl rfl rfl
theorem r93_112 : RR S d 93 112 L st h Q = kI (ai_look L 2) (fun x => RR S d 93 113 L (.int x :: st) h Q) := RR.ldi_n rfl rfl rfl
theorem r93_113 : RR S d 93 113 L st h Q = RR S d 93 115 L (.int 20 :: st) h Q := RR.bip (n := 20) rfl (by decide) rfl
theorem r93_115 {x y : Int32} : RR S d 93 115 L (.int y :: .int x :: st) h Q = RR S d 93 116 L (.int (x - y) :: st) h Q := RR.do1 (116, L, .int (x - y) :: st, h) rfl rfl rfl
theorem r93_116 {p0 : Nat} {p1 : Int32} {a : Nat} : RR S (d + 1) 93 116 L (.int p1 :: .ref p0 :: .ref a :: st) h Q = kB (decide (ai_sum st ≤ 8)) (kB ((ai_obj h a 2).isSome) (RR S d 25 0 [(0, .ref a), (1, .ref p0), (2, .int p1)] [] h (fun r h1 => RR S (d + 1) 93 119 L (r.toList ++ st) h1 Q))) := RR.cv (j := 171) (mn' := 25) (n := 2) rfl rfl rfl rfl rfl rfl
theorem r93_119 : RR S d 93 119 L st h Q = RR S d 93 123 L st h Q := RR.jmp (off := 4) rfl (by decide)
theorem r93_122 : RR S d 93 122 L st h Q = RR S d 93 123 L (.int (-1) :: st) h Q := RR.icn (n := (-1)) rfl (by decide) rfl
theorem r93_123 {x : Int32} : RR S d 93 123 L [.int x] h Q = Q (some (.int x)) h := RR.rt rfl rfl rfl
theorem r94_0 : RR S d 94 0 L st h Q = kA (ai_look L 0) (fun x => RR S d 94 1 L (x :: st) h Q) := RR.lda_n rfl rfl rfl
theorem r94_1 {a : Nat} : RR S d 94 1 L (.ref a :: st) h Q = kO (ai_fld h a 9 4) (fun w => RR S d 94 4 L (w :: st) h Q) := RR.get rfl rfl rfl
theorem r94_4 {a : Nat} : RR S d 94 4 L (.ref a :: st) h Q = kO (ai_fld h a 3 7) (fun w => RR S d 94 7 L (w :: st) h Q) := RR.get rfl rfl rfl
theorem r94_7 {x : Int32} : RR S d 94 7 L [.int x] h Q = Q (some (.int x)) h := RR.rt rfl rfl rfl
end Ru
