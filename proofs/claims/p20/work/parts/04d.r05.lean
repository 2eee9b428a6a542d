section Ru
variable {S : ai_S} {d : Nat} {L : ai_L} {st : List Value} {h : ai_H} {Q : Option Value → ai_H → Prop}
theorem r132_0 : RR S d 132 0 L st h Q = RR S d 132 1 L (.int 0 :: st) h Q := RR.icn (n := 0) rfl (by decide) rfl
theorem r132_1 {x : Int32} : RR S d 132 1 L (.int x :: st) h Q = RR S d 132 2 (ai_put 1 (.int x) L) st h Q := RR.do1 (2, ai_put 1 (.int x) L, st, h) rfl rfl rfl
theorem r132_2 : RR S d 132 2 L st h Q = kA (ai_look L 0) (fun x => RR S d 132 3 L (x :: st) h Q) := RR.lda_n rfl rfl rfl
theorem r132_3 {a : Nat} : RR S d 132 3 L (.ref a :: st) h Q = kO (ai_fld h a 10 33) (fun w => RR S d 132 6 L (w :: st) h Q) := RR.get rfl rfl rfl
theorem r132_6 : RR S d 132 6 L st h Q = RR S d 132 7 L (.int 0 :: st) h Q := RR.icn (n := 0) rfl (by decide) rfl
theorem r132_7 : RR S d 132 7 L st h Q = RR S d 132 8 L (.int 0 :: st) h Q := RR.icn (n := 0) rfl (by decide) rfl
theorem r132_8 {x y : Int32} {a : Nat} : RR S d 132 8 L (.int y :: .int x :: .ref a :: st) h Q = kO (ai_arr h a 0) (fun q => kB (ai_in x q.1) (RR S d 132 9 L st (h.1.set a (.inl (0, q.1, .inl (upd q.2 x.toNatClampNeg y))), h.2) Q)) := RR.ias rfl rfl
theorem r132_9 : RR S d 132 9 L st h Q = kI (ai_look L 1) (fun x => RR S d 132 10 L (.int x :: st) h Q) := RR.ldi_n rfl rfl rfl
theorem r132_10 : RR S d 132 10 L st h Q = kA (ai_look L 0) (fun x => RR S d 132 11 L (x :: st) h Q) := RR.lda_n rfl rfl rfl
theorem r132_11 {a : Nat} : RR S d 132 11 L (.ref a :: st) h Q = kO (ai_fld h a 10 34) (fun w => RR S d 132 14 L (w :: st) h Q) := RR.get rfl rfl rfl
theorem r132_14 {x y : Int32} : RR S d 132 14 L (.int y :: .int x :: st) h Q = if y ≤ x then RR S d 132 247 L st h Q else RR S d 132 17 L st h Q := RR.b2 (c := .ge) (off := 233) rfl rfl (by decide) rfl
theorem r132_17 : RR S d 132 17 L st h Q = kA (ai_look L 0) (fun x => RR S d 132 18 L (x :: st) h Q) := RR.lda_n rfl rfl rfl
theorem r132_18 {a : Nat} : RR S d 132 18 L (.ref a :: st) h Q = kO (ai_fld h a 10 32) (fun w => RR S d 132 21 L (w :: st) h Q) := RR.get rfl rfl rfl
theorem r132_21 : RR S d 132 21 L st h Q = kI (ai_look L 1) (fun x => RR S d 132 22 L (.int x :: st) h Q) := RR.ldi_n rfl rfl rfl
theorem r132_22 {x : Int32} {a : Nat} : RR S d 132 22 L (.int x :: .ref a :: st) h Q = kO (ai_arr h a 0) (fun q => kB (ai_in x q.1) (RR S d 132 23 L (.int (q.2 x.toNatClampNeg) :: st) h Q)) := RR.ial rfl rfl
theorem r132_23 {x : Int32} : RR S d 132 23 L (.int x :: st) h Q = RR S d 132 24 (ai_put 2 (.int x) L) st h Q := RR.do1 (24, ai_put 2 (.int x) L, st, h) rfl rfl rfl
theorem r132_24 : RR S d 132 24 L st h Q = RR S d 132 25 L (.int 0 :: st) h Q := RR.icn (n := 0) rfl (by decide) rfl
theorem r132_25 {x : Int32} : RR S d 132 25 L (.int x :: st) h Q = RR S d 132 26 (ai_put 3 (.int x) L) st h Q := RR.do1 (26, ai_put 3 (.int x) L, st, h) rfl rfl rfl
theorem r132_26 : RR S d 132 26 L st h Q = kI (ai_look L 3) (fun x => RR S d 132 27 L (.int x :: st) h Q) := RR.ldi_n rfl rfl rfl
theorem r132_27 {x : Int32} : RR S d 132 27 L (.int x :: st) h Q = if ¬ x = 0 then RR S d 132 131 L st h Q else RR S d 132 30 L st h Q := RR.b1 (c := .ne) (off := 104) rfl rfl (by decide) rfl
theorem r132_30 : RR S d 132 30 L st h Q = kA (ai_look L 0) (fun x => RR S d 132 31 L (x :: st) h Q) := RR.lda_n rfl rfl rfl
theorem r132_31 {a : Nat} : RR S d 132 31 L (.ref a :: st) h Q = kO (ai_fld h a 10 33) (fun w => RR S d 132 34 L (w :: st) h Q) := RR.get rfl rfl rfl
theorem r132_34 : RR S d 132 34 L st h Q = kI (ai_look L 1) (fun x => RR S d 132 35 L (.int x :: st) h Q) := RR.ldi_n rfl rfl rfl
theorem r132_35 {x : Int32} {a : Nat} : RR S d 132 35 L (.int x :: .ref a :: st) h Q = kO (ai_arr h a 0) (fun q => kB (ai_in x q.1) (RR S d 132 36 L (.int (q.2 x.toNatClampNeg) :: st) h Q)) := RR.ial rfl rfl
theorem r132_36 : RR S d 132 36 L st h Q = kA (ai_look L 0) (fun x => RR S d 132 37 L (x :: st) h Q) := RR.lda_n rfl rfl rfl
theorem r132_37 {a : Nat} : RR S d 132 37 L (.ref a :: st) h Q = kO (ai_fld h a 10 13) (fun w => RR S d 132 40 L (w :: st) h Q) := RR.get rfl rfl rfl
theorem r132_40 : RR S d 132 40 L st h Q = kI (ai_look L 2) (fun x => RR S d 132 41 L (.int x :: st) h Q) := RR.ldi_n rfl rfl rfl
theorem r132_41 {x : Int32} {a : Nat} : RR S d 132 41 L (.int x :: .ref a :: st) h Q = kO (ai_arr h a 0) (fun q => kB (ai_in x q.1) (RR S d 132 42 L (.int (q.2 x.toNatClampNeg) :: st) h Q)) := RR.ial rfl rfl
theorem r132_42 : RR S d 132 42 L st h Q = kA (ai_look L 0) (fun x => RR S d 132 43 L (x :: st) h Q) := RR.lda_n rfl rfl rfl
theorem r132_43 {a : Nat} : RR S d 132 43 L (.ref a :: st) h Q = kO (ai_fld h a 10 12) (fun w => RR S d 132 46 L (w :: st) h Q) := RR.get rfl rfl rfl
theorem r132_46 : RR S d 132 46 L st h Q = kI (ai_look L 2) (fun x => RR S d 132 47 L (.int x :: st) h Q) := RR.ldi_n rfl rfl rfl
theorem r132_47 {x : Int32} {a : Nat} : RR S d 132 47 L (.int x :: .ref a :: st) h Q = kO (ai_arr h a 0) (fun q => kB (ai_in x q.1) (RR S d 132 48 L (.int (q.2 x.toNatClampNeg) :: st) h Q)) := RR.ial rfl rfl
theorem r132_48 {x y : Int32} : RR S d 132 48 L (.int y :: .int x :: st) h Q = RR S d 132 49 L (.int (x * y) :: st) h Q := RR.do1 (49, L, .int (x * y) :: st, h) rfl rfl rfl
theorem r132_49 {x y : Int32} : RR S d 132 49 L (.int y :: .int x :: st) h Q = if y ≤ x then RR S d 132 131 L st h Q else RR S d 132 52 L st h Q := RR.b2 (c := .ge) (off := 82) rfl rfl (by decide) rfl
theorem r132_52 : RR S d 132 52 L st h Q = kA (ai_look L 0) (fun x => RR S d 132 53 L (x :: st) h Q) := RR.lda_n rfl rfl rfl
theorem r132_53 {a : Nat} : RR S d 132 53 L (.ref a :: st) h Q = kO (ai_fld h a 10 20) (fun w => RR S d 132 56 L (w :: st) h Q) := RR.get rfl rfl rfl
theorem r132_56 : RR S d 132 56 L st h Q = RR S d 132 58 L (.int 40000 :: st) h Q := RR.do1 (58, L, .int 40000 :: st, h) rfl rfl rfl
theorem r132_58 {x y : Int32} : RR S d 132 58 L (.int y :: .int x :: st) h Q = if ¬ x = y then RR S d 132 64 L st h Q else RR S d 132 61 L st h Q := RR.b2 (c := .ne) (off := 6) rfl rfl (by decide) rfl
theorem r132_61 : RR S d 132 61 L st h Q = RR S d 132 63 L (.int (-2) :: st) h Q := RR.bip (n := (-2)) rfl (by decide) rfl
theorem r132_63 {x : Int32} : RR S d 132 63 L [.int x] h Q = Q (some (.int x)) h := RR.rt rfl rfl rfl
theorem r132_64 : RR S d 132 64 L st h Q = kA (ai_look L 0) (fun x => RR S d 132 65 L (x :: st) h Q) := RR.lda_n rfl rfl rfl
theorem r132_65 {v : Value} (hv : v.category = 1) : RR S d 132 65 L (v :: st) h Q = RR S d 132 66 L (v :: v :: st) h Q := RR.dup rfl hv rfl
theorem r132_66 {a : Nat} : RR S d 132 66 L (.ref a :: st) h Q = kO (ai_fld h a 10 20) (fun w => RR S d 132 69 L (w :: st) h Q) := RR.get rfl rfl rfl
theorem r132_69 : RR S d 132 69 L st h Q = RR S d 132 70 L (.int 1 :: st) h Q := RR.icn (n := 1) rfl (by decide) rfl
theorem r132_70 {x y : Int32} : RR S d 132 70 L (.int y :: .int x :: st) h Q = RR S d 132 71 L (.int (x + y) :: st) h Q := RR.do1 (71, L, .int (x + y) :: st, h) rfl rfl rfl
theorem r132_71 {x : Int32} {a : Nat} : RR S d 132 71 L (.int x :: .ref a :: st) h Q = kO (ai_obj h a 10) (fun fs => kB (decide (20 < fs.length)) (RR S d 132 74 L st (h.1.set a (.inr (10, fs.set 20 (.int x))), h.2) Q)) := RR.put rfl rfl (ai_okp_i rfl (by decide +kernel)) rfl
theorem r132_74 : RR S d 132 74 L st h Q = kA (ai_look L 0) (fun x => RR S d 132 75 L (x :: st) h Q) := RR.lda_n rfl rfl rfl
theorem r132_75 : RR S d 132 75 L st h Q = kI (ai_look L 2) (fun x => RR S d 132 76 L (.int x :: st) h Q) := RR.ldi_n rfl rfl rfl
theorem r132_76 : RR S d 132 76 L st h Q = kA (ai_look L 0) (fun x => RR S d 132 77 L (x :: st) h Q) := RR.lda_n rfl rfl rfl
theorem r132_77 {a : Nat} : RR S d 132 77 L (.ref a :: st) h Q = kO (ai_fld h a 10 33) (fun w => RR S d 132 80 L (w :: st) h Q) := RR.get rfl rfl rfl
theorem r132_80 : RR S d 132 80 L st h Q = kI (ai_look L 1) (fun x => RR S d 132 81 L (.int x :: st) h Q) := RR.ldi_n rfl rfl rfl
theorem r132_81 {x : Int32} {a : Nat} : RR S d 132 81 L (.int x :: .ref a :: st) h Q = kO (ai_arr h a 0) (fun q => kB (ai_in x q.1) (RR S d 132 82 L (.int (q.2 x.toNatClampNeg) :: st) h Q)) := RR.ial rfl rfl
theorem r132_82 : RR S d 132 82 L st h Q = kA (ai_look L 0) (fun x => RR S d 132 83 L (x :: st) h Q) := RR.lda_n rfl rfl rfl
theorem r132_83 {a : Nat} : RR S d 132 83 L (.ref a :: st) h Q = kO (ai_fld h a 10 12) (fun w => RR S d 132 86 L (w :: st) h Q) := RR.get rfl rfl rfl
theorem r132_86 : RR S d 132 86 L st h Q = kI (ai_look L 2) (fun x => RR S d 132 87 L (.int x :: st) h Q) := RR.ldi_n rfl rfl rfl
theorem r132_87 {x : Int32} {a : Nat} : RR S d 132 87 L (.int x :: .ref a :: st) h Q = kO (ai_arr h a 0) (fun q => kB (ai_in x q.1) (RR S d 132 88 L (.int (q.2 x.toNatClampNeg) :: st) h Q)) := RR.ial rfl rfl
theorem r132_88 {x y : Int32} : RR S d 132 88 L (.int y :: .int x :: st) h Q = kB (decide (¬ y = 0)) (RR S d 132 89 L (.int (x / y) :: st) h Q) := RR.idiv rfl rfl
theorem r132_89 : RR S d 132 89 L st h Q = kA (ai_look L 0) (fun x => RR S d 132 90 L (x :: st) h Q) := RR.lda_n rfl rfl rfl
theorem r132_90 {a : Nat} : RR S d 132 90 L (.ref a :: st) h Q = kO (ai_fld h a 10 33) (fun w => RR S d 132 93 L (w :: st) h Q) := RR.get rfl rfl rfl
theorem r132_93 : RR S d 132 93 L st h Q = kI (ai_look L 1) (fun x => RR S d 132 94 L (.int x :: st) h Q) := RR.ldi_n rfl rfl rfl
theorem r132_94 {x : Int32} {a : Nat} : RR S d 132 94 L (.int x :: .ref a :: st) h Q = kO (ai_arr h a 0) (fun q => kB (ai_in x q.1) (RR S d 132 95 L (.int (q.2 x.toNatClampNeg) :: st) h Q)) := RR.ial rfl rfl
theorem r132_95 : RR S d 132 95 L st h Q = kA (ai_look L 0) (fun x => RR S d 132 96 L (x :: st) h Q) := RR.lda_n rfl rfl rfl
theorem r132_96 {a : Nat} : RR S d 132 96 L (.ref a :: st) h Q = kO (ai_fld h a 10 12) (fun w => RR S d 132 99 L (w :: st) h Q) := RR.get rfl rfl rfl
theorem r132_99 : RR S d 132 99 L st h Q = kI (ai_look L 2) (fun x => RR S d 132 100 L (.int x :: st) h Q) := RR.ldi_n rfl rfl rfl
theorem r132_100 {x : Int32} {a : Nat} : RR S d 132 100 L (.int x :: .ref a :: st) h Q = kO (ai_arr h a 0) (fun q => kB (ai_in x q.1) (RR S d 132 101 L (.int (q.2 x.toNatClampNeg) :: st) h Q)) := RR.ial rfl rfl
theorem r132_101 {x y : Int32} : RR S d 132 101 L (.int y :: .int x :: st) h Q = kB (decide (¬ y = 0)) (RR S d 132 102 L (.int (x - x / y * y) :: st) h Q) := RR.irem rfl rfl
theorem r132_102 {p0 : Int32} {p1 : Int32} {p2 : Int32} {a : Nat} : RR S (d + 1) 132 102 L (.int p2 :: .int p1 :: .int p0 :: .ref a :: st) h Q = kB (decide (ai_sum st ≤ 8)) (kB ((ai_obj h a 10).isSome) (RR S d 129 0 [(0, .ref a), (1, .int p0), (2, .int p1), (3, .int p2)] [] h (fun r h1 => RR S (d + 1) 132 105 L (r.toList ++ st) h1 Q))) := RR.cv (j := 177) (mn' := 129) (n := 3) rfl rfl rfl rfl rfl rfl
theorem r132_105 {x : Int32} : RR S d 132 105 L (.int x :: st) h Q = if ¬ x = 0 then RR S d 132 112 L st h Q else RR S d 132 108 L st h Q := RR.b1 (c := .ne) (off := 7) rfl rfl (by decide) rfl
theorem r132_108 : RR S d 132 108 L st h Q = RR S d 132 109 L (.int 1 :: st) h Q := RR.icn (n := 1) rfl (by decide) rfl
theorem r132_109 : RR S d 132 109 L st h Q = RR S d 132 113 L st h Q := RR.jmp (off := 4) rfl (by decide)
theorem r132_112 : RR S d 132 112 L st h Q = RR S d 132 113 L (.int 0 :: st) h Q := RR.icn (n := 0) rfl (by decide) rfl
theorem r132_113 {x : Int32} : RR S d 132 113 L (.int x :: st) h Q = RR S d 132 114 (ai_put 3 (.int x) L) st h Q := RR.do1 (114, ai_put 3 (.int x) L, st, h) rfl rfl rfl
theorem r132_114 : RR S d 132 114 L st h Q = kI (ai_look L 3) (fun x => RR S d 132 115 L (.int x :: st) h Q) := RR.ldi_n rfl rfl rfl
theorem r132_115 {x : Int32} : RR S d 132 115 L (.int x :: st) h Q = if ¬ x = 0 then RR S d 132 26 L st h Q else RR S d 132 118 L st h Q := RR.b1 (c := .ne) (off := (-89)) rfl rfl (by decide) rfl
theorem r132_118 : RR S d 132 118 L st h Q = kA (ai_look L 0) (fun x => RR S d 132 119 L (x :: st) h Q) := RR.lda_n rfl rfl rfl
theorem r132_119 {a : Nat} : RR S d 132 119 L (.ref a :: st) h Q = kO (ai_fld h a 10 33) (fun w => RR S d 132 122 L (w :: st) h Q) := RR.get rfl rfl rfl
theorem r132_122 : RR S d 132 122 L st h Q = kI (ai_look L 1) (fun x => RR S d 132 123 L (.int x :: st) h Q) := RR.ldi_n rfl rfl rfl
theorem r132_123 {v w : Value} (hv : v.category = 1) (hw : w.category = 1) : RR S d 132 123 L (v :: w :: st) h Q = RR S d 132 124 L (v :: w :: v :: w :: st) h Q := RR.dup2 rfl hv hw rfl
theorem r132_124 {x : Int32} {a : Nat} : RR S d 132 124 L (.int x :: .ref a :: st) h Q = kO (ai_arr h a 0) (fun q => kB (ai_in x q.1) (RR S d 132 125 L (.int (q.2 x.toNatClampNeg) :: st) h Q)) := RR.ial rfl rfl
theorem r132_125 : RR S d 132 125 L st h Q = RR S d 132 126 L (.int 1 :: st) h Q := RR.icn (n := 1) rfl (by decide) rfl
theorem r132_126 {x y : Int32} : RR S d 132 126 L (.int y :: .int x :: st) h Q = RR S d 132 127 L (.int (x + y) :: st) h Q := RR.do1 (127, L, .int (x + y) :: st, h) rfl rfl rfl
theorem r132_127 {x y : Int32} {a : Nat} : RR S d 132 127 L (.int y :: .int x :: .ref a :: st) h Q = kO (ai_arr h a 0) (fun q => kB (ai_in x q.1) (RR S d 132 128 L st (h.1.set a (.inl (0, q.1, .inl (upd q.2 x.toNatClampNeg y))), h.2) Q)) := RR.ias rfl rfl
theorem r132_128 : RR S d 132 128 L st h Q = RR S d 132 26 L st h Q := RR.jmp (off := (-102)) rfl (by decide)
theorem r132_131 : RR S d 132 131 L st h Q = kI (ai_look L 3) (fun x => RR S d 132 132 L (.int x :: st) h Q) := RR.ldi_n rfl rfl rfl
theorem r132_132 {x : Int32} : RR S d 132 132 L (.int x :: st) h Q = if x = 0 then RR S d 132 182 L st h Q else RR S d 132 135 L st h Q := RR.b1 (c := .eq) (off := 50) rfl rfl (by decide) rfl
theorem r132_135 : RR S d 132 135 L st h Q = kA (ai_look L 0) (fun x => RR S d 132 136 L (x :: st) h Q) := RR.lda_n rfl rfl rfl
theorem r132_136 : RR S d 132 136 L st h Q = kI (ai_look L 2) (fun x => RR S d 132 137 L (.int x :: st) h Q) := RR.ldi_n rfl rfl rfl
theorem r132_137 : RR S d 132 137 L st h Q = kA (ai_look L 0) (fun x => RR S d 132 138 L (x :: st) h Q) := RR.lda_n rfl rfl rfl
theorem r132_138 {a : Nat} : RR S d 132 138 L (.ref a :: st) h Q = kO (ai_fld h a 10 33) (fun w => RR S d 132 141 L (w :: st) h Q) := RR.get rfl rfl rfl
theorem r132_141 : RR S d 132 141 L st h Q = kI (ai_look L 1) (fun x => RR S d 132 142 L (.int x :: st) h Q) := RR.ldi_n rfl rfl rfl
theorem r132_142 {x : Int32} {a : Nat} : RR S d 132 142 L (.int x :: .ref a :: st) h Q = kO (ai_arr h a 0) (fun q => kB (ai_in x q.1) (RR S d 132 143 L (.int (q.2 x.toNatClampNeg) :: st) h Q)) := RR.ial rfl rfl
theorem r132_143 : RR S d 132 143 L st h Q = kA (ai_look L 0) (fun x => RR S d 132 144 L (x :: st) h Q) := RR.lda_n rfl rfl rfl
theorem r132_144 {a : Nat} : RR S d 132 144 L (.ref a :: st) h Q = kO (ai_fld h a 10 12) (fun w => RR S d 132 147 L (w :: st) h Q) := RR.get rfl rfl rfl
theorem r132_147 : RR S d 132 147 L st h Q = kI (ai_look L 2) (fun x => RR S d 132 148 L (.int x :: st) h Q) := RR.ldi_n rfl rfl rfl
theorem r132_148 {x : Int32} {a : Nat} : RR S d 132 148 L (.int x :: .ref a :: st) h Q = kO (ai_arr h a 0) (fun q => kB (ai_in x q.1) (RR S d 132 149 L (.int (q.2 x.toNatClampNeg) :: st) h Q)) := RR.ial rfl rfl
theorem r132_149 {x y : Int32} : RR S d 132 149 L (.int y :: .int x :: st) h Q = kB (decide (¬ y = 0)) (RR S d 132 150 L (.int (x / y) :: st) h Q) := RR.idiv rfl rfl
theorem r132_150 : RR S d 132 150 L st h Q = kA (ai_look L 0) (fun x => RR S d 132 151 L (x :: st) h Q) := RR.lda_n rfl rfl rfl
theorem r132_151 {a : Nat} : RR S d 132 151 L (.ref a :: st) h Q = kO (ai_fld h a 10 33) (fun w => RR S d 132 154 L (w :: st) h Q) := RR.get rfl rfl rfl
theorem r132_154 : RR S d 132 154 L st h Q = kI (ai_look L 1) (fun x => RR S d 132 155 L (.int x :: st) h Q) := RR.ldi_n rfl rfl rfl
theorem r132_155 {x : Int32} {a : Nat} : RR S d 132 155 L (.int x :: .ref a :: st) h Q = kO (ai_arr h a 0) (fun q => kB (ai_in x q.1) (RR S d 132 156 L (.int (q.2 x.toNatClampNeg) :: st) h Q)) := RR.ial rfl rfl
theorem r132_156 : RR S d 132 156 L st h Q = kA (ai_look L 0) (fun x => RR S d 132 157 L (x :: st) h Q) := RR.lda_n rfl rfl rfl
theorem r132_157 {a : Nat} : RR S d 132 157 L (.ref a :: st) h Q = kO (ai_fld h a 10 12) (fun w => RR S d 132 160 L (w :: st) h Q) := RR.get rfl rfl rfl
theorem r132_160 : RR S d 132 160 L st h Q = kI (ai_look L 2) (fun x => RR S d 132 161 L (.int x :: st) h Q) := RR.ldi_n rfl rfl rfl
theorem r132_161 {x : Int32} {a : Nat} : RR S d 132 161 L (.int x :: .ref a :: st) h Q = kO (ai_arr h a 0) (fun q => kB (ai_in x q.1) (RR S d 132 162 L (.int (q.2 x.toNatClampNeg) :: st) h Q)) := RR.ial rfl rfl
theorem r132_162 {x y : Int32} : RR S d 132 162 L (.int y :: .int x :: st) h Q = kB (decide (¬ y = 0)) (RR S d 132 163 L (.int (x - x / y * y) :: st) h Q) := RR.irem rfl rfl
theorem r132_163 : RR S d 132 163 L st h Q = kI (ai_look L 2) (fun x => RR S d 132 164 L (.int x :: st) h Q) := RR.ldi_n rfl rfl rfl
theorem r132_164 : RR S d 132 164 L st h Q = RR S d 132 165 L (.int 1 :: st) h Q := RR.icn (n := 1) rfl (by decide) rfl
theorem r132_165 {x y : Int32} : RR S d 132 165 L (.int y :: .int x :: st) h Q = RR S d 132 166 L (.int (x + y) :: st) h Q := RR.do1 (166, L, .int (x + y) :: st, h) rfl rfl rfl
theorem r132_166 {p0 : Int32} {p1 : Int32} {p2 : Int32} {p3 : Int32} {a : Nat} : RR S (d + 1) 132 166 L (.int p3 :: .int p2 :: .int p1 :: .int p0 :: .ref a :: st) h Q = kB (decide (ai_sum st ≤ 8)) (kB ((ai_obj h a 10).isSome) (RR S d 130 0 [(0, .ref a), (1, .int p0), (2, .int p1), (3, .int p2), (4, .int p3)] [] h (fun r h1 => RR S (d + 1) 132 169 L (r.toList ++ st) h1 Q))) := RR.cv (j := 166) (mn' := 130) (n := 4) rfl rfl rfl rfl rfl rfl
theorem r132_169 : RR S d 132 169 L st h Q = kI (ai_look L 1) (fun x => RR S d 132 172 (ai_put 1 (.int (x + 1)) L) st h Q) := RR.iinc (k := 1) (n := 1) rfl (by decide) (by decide) rfl
theorem r132_172 : RR S d 132 172 L st h Q = kA (ai_look L 0) (fun x => RR S d 132 173 L (x :: st) h Q) := RR.lda_n rfl rfl rfl
theorem r132_173 {a : Nat} : RR S d 132 173 L (.ref a :: st) h Q = kO (ai_fld h a 10 33) (fun w => RR S d 132 176 L (w :: st) h Q) := RR.get rfl rfl rfl
theorem r132_176 : RR S d 132 176 L st h Q = kI (ai_look L 1) (fun x => RR S d 132 177 L (.int x :: st) h Q) := RR.ldi_n rfl rfl rfl
theorem r132_177 : RR S d 132 177 L st h Q = RR S d 132 178 L (.int 0 :: st) h Q := RR.icn (n := 0) rfl (by decide) rfl
theorem r132_178 {x y : Int32} {a : Nat} : RR S d 132 178 L (.int y :: .int x :: .ref a :: st) h Q = kO (ai_arr h a 0) (fun q => kB (ai_in x q.1) (RR S d 132 179 L st (h.1.set a (.inl (0, q.1, .inl (upd q.2 x.toNatClampNeg y))), h.2) Q)) := RR.ias rfl rfl
theorem r132_179 : RR S d 132 179 L st h Q = RR S d 132 244 L st h Q := RR.jmp (off := 65) rfl (by decide)
theorem r132_182 : RR S d 132 182 L st h Q = kI (ai_look L 1) (fun x => RR S d 132 185 (ai_put 1 (.int (x + (-1))) L) st h Q) := RR.iinc (k := 1) (n := (-1)) rfl (by decide) (by decide) rfl
theorem r132_185 : RR S d 132 185 L st h Q = kI (ai_look L 1) (fun x => RR S d 132 186 L (.int x :: st) h Q) := RR.ldi_n rfl rfl rfl
theorem r132_186 {x : Int32} : RR S d 132 186 L (.int x :: st) h Q = if 0 ≤ x then RR S d 132 191 L st h Q else RR S d 132 189 L st h Q := RR.b1 (c := .ge) (off := 5) rfl rfl (by decide) rfl
theorem r132_189 : RR S d 132 189 L st h Q = RR S d 132 190 L (.int 0 :: st) h Q := RR.icn (n := 0) rfl (by decide) rfl
theorem r132_190 {x : Int32} : RR S d 132 190 L [.int x] h Q = Q (some (.int x)) h := RR.rt rfl rfl rfl
theorem r132_191 : RR S d 132 191 L st h Q = kA (ai_look L 0) (fun x => RR S d 132 192 L (x :: st) h Q) := RR.lda_n rfl rfl rfl
theorem r132_192 {a : Nat} : RR S d 132 192 L (.ref a :: st) h Q = kO (ai_fld h a 10 32) (fun w => RR S d 132 195 L (w :: st) h Q) := RR.get rfl rfl rfl
theorem r132_195 : RR S d 132 195 L st h Q = kI (ai_look L 1) (fun x => RR S d 132 196 L (.int x :: st) h Q) := RR.ldi_n rfl rfl rfl
theorem r132_196 {x : Int32} {a : Nat} : RR S d 132 196 L (.int x :: .ref a :: st) h Q = kO (ai_arr h a 0) (fun q => kB (ai_in x q.1) (RR S d 132 197 L (.int (q.2 x.toNatClampNeg) :: st) h Q)) := RR.ial rfl rfl
theorem r132_197 {x : Int32} : RR S d 132 197 L (.int x :: st) h Q = RR S d 132 199 (ai_put 4 (.int x) L) st h Q := RR.do1 (199, ai_put 4 (.int x) L, st, h) rfl rfl rfl
theorem r132_199 : RR S d 132 199 L st h Q = kA (ai_look L 0) (fun x => RR S d 132 200 L (x :: st) h Q) := RR.lda_n rfl rfl rfl
theorem r132_200 : RR S d 132 200 L st h Q = kI (ai_look L 4) (fun x => RR S d 132 202 L (.int x :: st) h Q) := RR.ldi rfl rfl
theorem r132_202 : RR S d 132 202 L st h Q = kA (ai_look L 0) (fun x => RR S d 132 203 L (x :: st) h Q) := RR.lda_n rfl rfl rfl
theorem r132_203 {a : Nat} : RR S d 132 203 L (.ref a :: st) h Q = kO (ai_fld h a 10 33) (fun w => RR S d 132 206 L (w :: st) h Q) := RR.get rfl rfl rfl
theorem r132_206 : RR S d 132 206 L st h Q = kI (ai_look L 1) (fun x => RR S d 132 207 L (.int x :: st) h Q) := RR.ldi_n rfl rfl rfl
theorem r132_207 {x : Int32} {a : Nat} : RR S d 132 207 L (.int x :: .ref a :: st) h Q = kO (ai_arr h a 0) (fun q => kB (ai_in x q.1) (RR S d 132 208 L (.int (q.2 x.toNatClampNeg) :: st) h Q)) := RR.ial rfl rfl
theorem r132_208 : RR S d 132 208 L st h Q = kA (ai_look L 0) (fun x => RR S d 132 209 L (x :: st) h Q) := RR.lda_n rfl rfl rfl
theorem r132_209 {a : Nat} : RR S d 132 209 L (.ref a :: st) h Q = kO (ai_fld h a 10 12) (fun w => RR S d 132 212 L (w :: st) h Q) := RR.get rfl rfl rfl
theorem r132_212 : RR S d 132 212 L st h Q = kI (ai_look L 4) (fun x => RR S d 132 214 L (.int x :: st) h Q) := RR.ldi rfl rfl
theorem r132_214 {x : Int32} {a : Nat} : RR S d 132 214 L (.int x :: .ref a :: st) h Q = kO (ai_arr h a 0) (fun q => kB (ai_in x q.1) (RR S d 132 215 L (.int (q.2 x.toNatClampNeg) :: st) h Q)) := RR.ial rfl rfl
theorem r132_215 {x y : Int32} : RR S d 132 215 L (.int y :: .int x :: st) h Q = kB (decide (¬ y = 0)) (RR S d 132 216 L (.int (x / y) :: st) h Q) := RR.idiv rfl rfl
theorem r132_216 : RR S d 132 216 L st h Q = kA (ai_look L 0) (fun x => RR S d 132 217 L (x :: st) h Q) := RR.lda_n rfl rfl rfl
theorem r132_217 {a : Nat} : RR S d 132 217 L (.ref a :: st) h Q = kO (ai_fld h a 10 33) (fun w => RR S d 132 220 L (w :: st) h Q) := RR.get rfl rfl rfl
theorem r132_220 : RR S d 132 220 L st h Q = kI (ai_look L 1) (fun x => RR S d 132 221 L (.int x :: st) h Q) := RR.ldi_n rfl rfl rfl
theorem r132_221 {x : Int32} {a : Nat} : RR S d 132 221 L (.int x :: .ref a :: st) h Q = kO (ai_arr h a 0) (fun q => kB (ai_in x q.1) (RR S d 132 222 L (.int (q.2 x.toNatClampNeg) :: st) h Q)) := RR.ial rfl rfl
theorem r132_222 : RR S d 132 222 L st h Q = kA (ai_look L 0) (fun x => RR S d 132 223 L (x :: st) h Q) := RR.lda_n rfl rfl rfl
theorem r132_223 {a : Nat} : RR S d 132 223 L (.ref a :: st) h Q = kO (ai_fld h a 10 12) (fun w => RR S d 132 226 L (w :: st) h Q) := RR.get rfl rfl rfl
theorem r132_226 : RR S d 132 226 L st h Q = kI (ai_look L 4) (fun x => RR S d 132 228 L (.int x :: st) h Q) := RR.ldi rfl rfl
theorem r132_228 {x : Int32} {a : Nat} : RR S d 132 228 L (.int x :: .ref a :: st) h Q = kO (ai_arr h a 0) (fun q => kB (ai_in x q.1) (RR S d 132 229 L (.int (q.2 x.toNatClampNeg) :: st) h Q)) := RR.ial rfl rfl
theorem r132_229 {x y : Int32} : RR S d 132 229 L (.int y :: .int x :: st) h Q = kB (decide (¬ y = 0)) (RR S d 132 230 L (.int (x - x / y * y) :: st) h Q) := RR.irem rfl rfl
theorem r132_230 : RR S d 132 230 L st h Q = RR S d 132 231 L (.int 0 :: st) h Q := RR.icn (n := 0) rfl (by decide) rfl
theorem r132_231 {p0 : Int32} {p1 : Int32} {p2 : Int32} {p3 : Int32} {a : Nat} : RR S (d + 1) 132 231 L (.int p3 :: .int p2 :: .int p1 :: .int p0 :: .ref a :: st) h Q = kB (decide (ai_sum st ≤ 8)) (kB ((ai_obj h a 10).isSome) (RR S d 130 0 [(0, .ref a), (1, .int p0), (2, .int p1), (3, .int p2), (4, .int p3)] [] h (fun r h1 => RR S (d + 1) 132 234 L (r.toList ++ st) h1 Q))) := RR.cv (j := 166) (mn' := 130) (n := 4) rfl rfl rfl rfl rfl rfl
theorem r132_234 : RR S d 132 234 L st h Q = kA (ai_look L 0) (fun x => RR S d 132 235 L (x :: st) h Q) := RR.lda_n rfl rfl rfl
theorem r132_235 {a : Nat} : RR S d 132 235 L (.ref a :: st) h Q = kO (ai_fld h a 10 33) (fun w => RR S d 132 238 L (w :: st) h Q) := RR.get rfl rfl rfl
theorem r132_238 : RR S d 132 238 L st h Q = kI (ai_look L 1) (fun x => RR S d 132 239 L (.int x :: st) h Q) := RR.ldi_n rfl rfl rfl
theorem r132_239 {v w : Value} (hv : v.category = 1) (hw : w.category = 1) : RR S d 132 239 L (v :: w :: st) h Q = RR S d 132 240 L (v :: w :: v :: w :: st) h Q := RR.dup2 rfl hv hw rfl
theorem r132_240 {x : Int32} {a : Nat} : RR S d 132 240 L (.int x :: .ref a :: st) h Q = kO (ai_arr h a 0) (fun q => kB (ai_in x q.1) (RR S d 132 241 L (.int (q.2 x.toNatClampNeg) :: st) h Q)) := RR.ial rfl rfl
theorem r132_241 : RR S d 132 241 L st h Q = RR S d 132 242 L (.int 1 :: st) h Q := RR.icn (n := 1) rfl (by decide) rfl
theorem r132_242 {x y : Int32} : RR S d 132 242 L (.int y :: .int x :: st) h Q = RR S d 132 243 L (.int (x + y) :: st) h Q := RR.do1 (243, L, .int (x + y) :: st, h) rfl rfl rfl
theorem r132_243 {x y : Int32} {a : Nat} : RR S d 132 243 L (.int y :: .int x :: .ref a :: st) h Q = kO (ai_arr h a 0) (fun q => kB (ai_in x q.1) (RR S d 132 244 L st (h.1.set a (.inl (0, q.1, .inl (upd q.2 x.toNatClampNeg y))), h.2) Q)) := RR.ias rfl rfl
theorem r132_244 : RR S d 132 244 L st h Q = RR S d 132 9 L st h Q := RR.jmp (off := (-235)) rfl (by decide)
theorem r132_247 : RR S d 132 247 L st h Q = RR S d 132 248 L (.int 1 :: st) h Q := RR.icn (n := 1) rfl (by decide) rfl
theorem r132_248 {x : Int32} : RR S d 132 248 L [.int x] h Q = Q (some (.int x)) h := RR.rt rfl rfl rfl
theorem r133_0 : RR S d 133 0 L st h Q = RR S d 133 1 L (.int 0 :: st) h Q := RR.icn (n := 0) rfl (by decide) rfl
theorem r133_1 {x : Int32} : RR S d 133 1 L (.int x :: st) h Q = RR S d 133 2 (ai_put 2 (.int x) L) st h Q := RR.do1 (2, ai_put 2 (.int x) L, st, h) rfl rfl rfl
theorem r133_2 : RR S d 133 2 L st h Q = kI (ai_look L 2) (fun x => RR S d 133 3 L (.int x :: st) h Q) := RR.ldi_n rfl rfl rfl
theorem r133_3 : RR S d 133 3 L st h Q = RR S d 133 6 L (.int 1440 :: st) h Q := RR.sip (n := 1440) rfl (by decide) rfl
theorem r133_6 {x y : Int32} : RR S d 133 6 L (.int y :: .int x :: st) h Q = if y ≤ x then RR S d 133 22 L st h Q else RR S d 133 9 L st h Q := RR.b2 (c := .ge) (off := 16) rfl rfl (by decide) rfl
theorem r133_9 : RR S d 133 9 L st h Q = kA (ai_look L 0) (fun x => RR S d 133 10 L (x :: st) h Q) := RR.lda_n rfl rfl rfl
theorem r133_10 {a : Nat} : RR S d 133 10 L (.ref a :: st) h Q = kO (ai_fld h a 10 21) (fun w => RR S d 133 13 L (w :: st) h Q) := RR.get rfl rfl rfl
theorem r133_13 : RR S d 133 13 L st h Q = kI (ai_look L 2) (fun x => RR S d 133 14 L (.int x :: st) h Q) := RR.ldi_n rfl rfl rfl
theorem r133_14 : RR S d 133 14 L st h Q = RR S d 133 15 L (.int 0 :: st) h Q := RR.icn (n := 0) rfl (by decide) rfl
theorem r133_15 {x y : Int32} {a : Nat} : RR S d 133 15 L (.int y :: .int x :: .ref a :: st) h Q = kO (ai_arr h a 0) (fun q => kB (ai_in x q.1) (RR S d 133 16 L st (h.1.set a (.inl (0, q.1, .inl (upd q.2 x.toNatClampNeg y))), h.2) Q)) := RR.ias rfl rfl
theorem r133_16 : RR S d 133 16 L st h Q = kI (ai_look L 2) (fun x => RR S d 133 19 (ai_put 2 (.int (x + 1)) L) st h Q) := RR.iinc (k := 2) (n := 1) rfl (by decide) (by decide) rfl
theorem r133_19 : RR S d 133 19 L st h Q = RR S d 133 2 L st h Q := RR.jmp (off := (-17)) rfl (by decide)
theorem r133_22 : RR S d 133 22 L st h Q = kA (ai_look L 0) (fun x => RR S d 133 23 L (x :: st) h Q) := RR.lda_n rfl rfl rfl
theorem r133_23 : RR S d 133 23 L st h Q = RR S d 133 24 L (.int 0 :: st) h Q := RR.icn (n := 0) rfl (by decide) rfl
theorem r133_24 {x : Int32} {a : Nat} : RR S d 133 24 L (.int x :: .ref a :: st) h Q = kO (ai_obj h a 10) (fun fs => kB (decide (34 < fs.length)) (RR S d 133 27 L st (h.1.set a (.inr (10, fs.set 34 (.int x))), h.2) Q)) := RR.put rfl rfl (ai_okp_i rfl (by decide +kernel)) rfl
theorem r133_27 : RR S d 133 27 L st h Q = RR S d 133 28 L (.int 0 :: st) h Q := RR.icn (n := 0) rfl (by decide) rfl
theorem r133_28 {x : Int32} : RR S d 133 28 L (.int x :: st) h Q = RR S d 133 29 (ai_put 2 (.int x) L) st h Q := RR.do1 (29, ai_put 2 (.int x) L, st, h) rfl rfl rfl
theorem r133_29 : RR S d 133 29 L st h Q = kI (ai_look L 2) (fun x => RR S d 133 30 L (.int x :: st) h Q) := RR.ldi_n rfl rfl rfl
theorem r133_30 : RR S d 133 30 L st h Q = kA (ai_look L 0) (fun x => RR S d 133 31 L (x :: st) h Q) := RR.lda_n rfl rfl rfl
theorem r133_31 {a : Nat} : RR S d 133 31 L (.ref a :: st) h Q = kO (ai_fld h a 10 10) (fun w => RR S d 133 34 L (w :: st) h Q) := RR.get rfl rfl rfl
theorem r133_34 {x y : Int32} : RR S d 133 34 L (.int y :: .int x :: st) h Q = if y ≤ x then RR S d 133 104 L st h Q else RR S d 133 37 L st h Q := RR.b2 (c := .ge) (off := 70) rfl rfl (by decide) rfl
theorem r133_37 : RR S d 133 37 L st h Q = kA (ai_look L 0) (fun x => RR S d 133 38 L (x :: st) h Q) := RR.lda_n rfl rfl rfl
theorem r133_38 {a : Nat} : RR S d 133 38 L (.ref a :: st) h Q = kO (ai_fld h a 10 17) (fun w => RR S d 133 41 L (w :: st) h Q) := RR.get rfl rfl rfl
theorem r133_41 : RR S d 133 41 L st h Q = kI (ai_look L 2) (fun x => RR S d 133 42 L (.int x :: st) h Q) := RR.ldi_n rfl rfl rfl
theorem r133_42 {x : Int32} {a : Nat} : RR S d 133 42 L (.int x :: .ref a :: st) h Q = kO (ai_arr h a 1) (fun q => kB (ai_in x q.1) (RR S d 133 43 L (.int (q.2 x.toNatClampNeg) :: st) h Q)) := RR.bal rfl rfl
theorem r133_43 {x : Int32} : RR S d 133 43 L (.int x :: st) h Q = if x = 0 then RR S d 133 55 L st h Q else RR S d 133 46 L st h Q := RR.b1 (c := .eq) (off := 12) rfl rfl (by decide) rfl
theorem r133_46 : RR S d 133 46 L st h Q = kI (ai_look L 1) (fun x => RR S d 133 47 L (.int x :: st) h Q) := RR.ldi_n rfl rfl rfl
theorem r133_47 : RR S d 133 47 L st h Q = kI (ai_look L 2) (fun x => RR S d 133 48 L (.int x :: st) h Q) := RR.ldi_n rfl rfl rfl
theorem r133_48 {x y : Int32} : RR S d 133 48 L (.int y :: .int x :: st) h Q = RR S d 133 49 L (.int (x >>> (y &&& 31)) :: st) h Q := RR.do1 (49, L, .int (x >>> (y &&& 31)) :: st, h) rfl rfl rfl
theorem r133_49 : RR S d 133 49 L st h Q = RR S d 133 50 L (.int 1 :: st) h Q := RR.icn (n := 1) rfl (by decide) rfl
theorem r133_50 {x y : Int32} : RR S d 133 50 L (.int y :: .int x :: st) h Q = RR S d 133 51 L (.int (x &&& y) :: st) h Q := RR.do1 (51, L, .int (x &&& y) :: st, h) rfl rfl rfl
theorem r133_51 : RR S d 133 51 L st h Q = RR S d 133 52 L (.int 1 :: st) h Q := RR.icn (n := 1) rfl (by decide) rfl
theorem r133_52 {x y : Int32} : RR S d 133 52 L (.int y :: .int x :: st) h Q = if ¬ x = y then RR S d 133 78 L st h Q else RR S d 133 55 L st h Q := RR.b2 (c := .ne) (off := 26) rfl rfl (by decide) rfl
theorem r133_55 : RR S d 133 55 L st h Q = kA (ai_look L 0) (fun x => RR S d 133 56 L (x :: st) h Q) := RR.lda_n rfl rfl rfl
theorem r133_56 {a : Nat} : RR S d 133 56 L (.ref a :: st) h Q = kO (ai_fld h a 10 32) (fun w => RR S d 133 59 L (w :: st) h Q) := RR.get rfl rfl rfl
theorem r133_59 : RR S d 133 59 L st h Q = kA (ai_look L 0) (fun x => RR S d 133 60 L (x :: st) h Q) := RR.lda_n rfl rfl rfl
theorem r133_60 {a : Nat} : RR S d 133 60 L (.ref a :: st) h Q = kO (ai_fld h a 10 34) (fun w => RR S d 133 63 L (w :: st) h Q) := RR.get rfl rfl rfl
theorem r133_63 : RR S d 133 63 L st h Q = kI (ai_look L 2) (fun x => RR S d 133 64 L (.int x :: st) h Q) := RR.ldi_n rfl rfl rfl
theorem r133_64 {x y : Int32} {a : Nat} : RR S d 133 64 L (.int y :: .int x :: .ref a :: st) h Q = kO (ai_arr h a 0) (fun q => kB (ai_in x q.1) (RR S d 133 65 L st (h.1.set a (.inl (0, q.1, .inl (upd q.2 x.toNatClampNeg y))), h.2) Q)) := RR.ias rfl rfl
theorem r133_65 : RR S d 133 65 L st h Q = kA (ai_look L 0) (fun x => RR S d 133 66 L (x :: st) h Q) := RR.lda_n rfl rfl rfl
theorem r133_66 {v : Value} (hv : v.category = 1) : RR S d 133 66 L (v :: st) h Q = RR S d 133 67 L (v :: v :: st) h Q := RR.dup rfl hv rfl
theorem r133_67 {a : Nat} : RR S d 133 67 L (.ref a :: st) h Q = kO (ai_fld h a 10 34) (fun w => RR S d 133 70 L (w :: st) h Q) := RR.get rfl rfl rfl
theorem r133_70 : RR S d 133 70 L st h Q = RR S d 133 71 L (.int 1 :: st) h Q := RR.icn (n := 1) rfl (by decide) rfl
theorem r133_71 {x y : Int32} : RR S d 133 71 L (.int y :: .int x :: st) h Q = RR S d 133 72 L (.int (x + y) :: st) h Q := RR.do1 (72, L, .int (x + y) :: st, h) rfl rfl rfl
theorem r133_72 {x : Int32} {a : Nat} : RR S d 133 72 L (.int x :: .ref a :: st) h Q = kO (ai_obj h a 10) (fun fs => kB (decide (34 < fs.length)) (RR S d 133 75 L st (h.1.set a (.inr (10, fs.set 34 (.int x))), h.2) Q)) := RR.put rfl rfl (ai_okp_i rfl (by decide +kernel)) rfl
theorem r133_75 : RR S d 133 75 L st h Q = RR S d 133 98 L st h Q := RR.jmp (off := 23) rfl (by decide)
theorem r133_78 : RR S d 133 78 L st h Q = kA (ai_look L 0) (fun x => RR S d 133 79 L (x :: st) h Q) := RR.lda_n rfl rfl rfl
theorem r133_79 : RR S d 133 79 L st h Q = kI (ai_look L 2) (fun x => RR S d 133 80 L (.int x :: st) h Q) := RR.ldi_n rfl rfl rfl
theorem r133_80 : RR S d 133 80 L st h Q = kA (ai_look L 0) (fun x => RR S d 133 81 L (x :: st) h Q) := RR.lda_n rfl rfl rfl
theorem r133_81 {a : Nat} : RR S d 133 81 L (.ref a :: st) h Q = kO (ai_fld h a 10 18) (fun w => RR S d 133 84 L (w :: st) h Q) := RR.get rfl rfl rfl
theorem r133_84 : RR S d 133 84 L st h Q = kI (ai_look L 2) (fun x => RR S d 133 85 L (.int x :: st) h Q) := RR.ldi_n rfl rfl rfl
theorem r133_85 {x : Int32} {a : Nat} : RR S d 133 85 L (.int x :: .ref a :: st) h Q = kO (ai_arr h a 0) (fun q => kB (ai_in x q.1) (RR S d 133 86 L (.int (q.2 x.toNatClampNeg) :: st) h Q)) := RR.ial rfl rfl
theorem r133_86 : RR S d 133 86 L st h Q = kA (ai_look L 0) (fun x => RR S d 133 87 L (x :: st) h Q) := RR.lda_n rfl rfl rfl
theorem r133_87 {a : Nat} : RR S d 133 87 L (.ref a :: st) h Q = kO (ai_fld h a 10 19) (fun w => RR S d 133 90 L (w :: st) h Q) := RR.get rfl rfl rfl
theorem r133_90 : RR S d 133 90 L st h Q = kI (ai_look L 2) (fun x => RR S d 133 91 L (.int x :: st) h Q) := RR.ldi_n rfl rfl rfl
theorem r133_91 {x : Int32} {a : Nat} : RR S d 133 91 L (.int x :: .ref a :: st) h Q = kO (ai_arr h a 0) (fun q => kB (ai_in x q.1) (RR S d 133 92 L (.int (q.2 x.toNatClampNeg) :: st) h Q)) := RR.ial rfl rfl
theorem r133_92 : RR S d 133 92 L st h Q = kI (ai_look L 2) (fun x => RR S d 133 93 L (.int x :: st) h Q) := RR.ldi_n rfl rfl rfl
theorem r133_93 : RR S d 133 93 L st h Q = RR S d 133 94 L (.int 1 :: st) h Q := RR.icn (n := 1) rfl (by decide) rfl
theorem r133_94 {x y : Int32} : RR S d 133 94 L (.int y :: .int x :: st) h Q = RR S d 133 95 L (.int (x + y) :: st) h Q := RR.do1 (95, L, .int (x + y) :: st, h) rfl rfl rfl
theorem r133_95 {p0 : Int32} {p1 : Int32} {p2 : Int32} {p3 : Int32} {a : Nat} : RR S (d + 1) 133 95 L (.int p3 :: .int p2 :: .int p1 :: .int p0 :: .ref a :: st) h Q = kB (decide (ai_sum st ≤ 8)) (kB ((ai_obj h a 10).isSome) (RR S d 130 0 [(0, .ref a), (1, .int p0), (2, .int p1), (3, .int p2), (4, .int p3)] [] h (fun r h1 => RR S (d + 1) 133 98 L (r.toList ++ st) h1 Q))) := RR.cv (j := 166) (mn' := 130) (n := 4) rfl rfl rfl rfl rfl rfl
theorem r133_98 : RR S d 133 98 L st h Q = kI (ai_look L 2) (fun x => RR S d 133 101 (ai_put 2 (.int (x + 1)) L) st h Q) := RR.iinc (k := 2) (n := 1) rfl (by decide) (by decide) rfl
theorem r133_101 : RR S d 133 101 L st h Q = RR S d 133 29 L st h Q := RR.jmp (off := (-72)) rfl (by decide)
theorem r133_104 : RR S d 133 104 L st h Q = kA (ai_look L 0) (fun x => RR S d 133 105 L (x :: st) h Q) := RR.lda_n rfl rfl rfl
theorem r133_105 {a : Nat} : RR S (d + 1) 133 105 L (.ref a :: st) h Q = kB (decide (ai_sum st ≤ 8)) (kB ((ai_obj h a 10).isSome) (RR S d 132 0 [(0, .ref a)] [] h (fun r h1 => RR S (d + 1) 133 108 L (r.toList ++ st) h1 Q))) := RR.cv (j := 180) (mn' := 132) (n := 0) rfl rfl rfl rfl rfl rfl
theorem r133_108 {x : Int32} : RR S d 133 108 L (.int x :: st) h Q = RR S d 133 109 (ai_put 2 (.int x) L) st h Q := RR.do1 (109, ai_put 2 (.int x) L, st, h) rfl rfl rfl
theorem r133_109 : RR S d 133 109 L st h Q = RR S d 133 110 L (.int 0 :: st) h Q := RR.icn (n := 0) rfl (by decide) rfl
theorem r133_110 {x : Int32} : RR S d 133 110 L (.int x :: st) h Q = RR S d 133 111 (ai_put 3 (.int x) L) st h Q := RR.do1 (111, ai_put 3 (.int x) L, st, h) rfl rfl rfl
theorem r133_111 : RR S d 133 111 L st h Q = kI (ai_look L 3) (fun x => RR S d 133 112 L (.int x :: st) h Q) := RR.ldi_n rfl rfl rfl
theorem r133_112 : RR S d 133 112 L st h Q = kA (ai_look L 0) (fun x => RR S d 133 113 L (x :: st) h Q) := RR.lda_n rfl rfl rfl
theorem r133_113 {a : Nat} : RR S d 133 113 L (.ref a :: st) h Q = kO (ai_fld h a 10 34) (fun w => RR S d 133 116 L (w :: st) h Q) := RR.get rfl rfl rfl
theorem r133_116 {x y : Int32} : RR S d 133 116 L (.int y :: .int x :: st) h Q = if y ≤ x then RR S d 133 188 L st h Q else RR S d 133 119 L st h Q := RR.b2 (c := .ge) (off := 72) rfl rfl (by decide) rfl
theorem r133_119 : RR S d 133 119 L st h Q = kI (ai_look L 2) (fun x => RR S d 133 120 L (.int x :: st) h Q) := RR.ldi_n rfl rfl rfl
theorem r133_120 : RR S d 133 120 L st h Q = RR S d 133 121 L (.int 1 :: st) h Q := RR.icn (n := 1) rfl (by decide) rfl
theorem r133_121 {x y : Int32} : RR S d 133 121 L (.int y :: .int x :: st) h Q = if ¬ x = y then RR S d 133 188 L st h Q else RR S d 133 124 L st h Q := RR.b2 (c := .ne) (off := 67) rfl rfl (by decide) rfl
theorem r133_124 : RR S d 133 124 L st h Q = kA (ai_look L 0) (fun x => RR S d 133 125 L (x :: st) h Q) := RR.lda_n rfl rfl rfl
theorem r133_125 {a : Nat} : RR S d 133 125 L (.ref a :: st) h Q = kO (ai_fld h a 10 32) (fun w => RR S d 133 128 L (w :: st) h Q) := RR.get rfl rfl rfl
theorem r133_128 : RR S d 133 128 L st h Q = kI (ai_look L 3) (fun x => RR S d 133 129 L (.int x :: st) h Q) := RR.ldi_n rfl rfl rfl
theorem r133_129 {x : Int32} {a : Nat} : RR S d 133 129 L (.int x :: .ref a :: st) h Q = kO (ai_arr h a 0) (fun q => kB (ai_in x q.1) (RR S d 133 130 L (.int (q.2 x.toNatClampNeg) :: st) h Q)) := RR.ial rfl rfl
theorem r133_130 {x : Int32} : RR S d 133 130 L (.int x :: st) h Q = RR S d 133 132 (ai_put 4 (.int x) L) st h Q := RR.do1 (132, ai_put 4 (.int x) L, st, h) rfl rfl rfl
theorem r133_132 : RR S d 133 132 L st h Q = kA (ai_look L 0) (fun x => RR S d 133 133 L (x :: st) h Q) := RR.lda_n rfl rfl rfl
theorem r133_133 {a : Nat} : RR S d 133 133 L (.ref a :: st) h Q = kO (ai_fld h a 10 17) (fun w => RR S d 133 136 L (w :: st) h Q) := RR.get rfl rfl rfl
theorem r133_136 : RR S d 133 136 L st h Q = kI (ai_look L 4) (fun x => RR S d 133 138 L (.int x :: st) h Q) := RR.ldi rfl rfl
theorem r133_138 : RR S d 133 138 L st h Q = RR S d 133 139 L (.int 1 :: st) h Q := RR.icn (n := 1) rfl (by decide) rfl
theorem r133_139 {x y : Int32} {a : Nat} : RR S d 133 139 L (.int y :: .int x :: .ref a :: st) h Q = kO (ai_arr h a 1) (fun q => kB (ai_in x q.1 && decide (y &&& 1 = y)) (RR S d 133 140 L st (h.1.set a (.inl (1, q.1, .inl (upd q.2 x.toNatClampNeg y))), h.2) Q)) := RR.bas rfl rfl
theorem r133_140 : RR S d 133 140 L st h Q = kA (ai_look L 0) (fun x => RR S d 133 141 L (x :: st) h Q) := RR.lda_n rfl rfl rfl
theorem r133_141 {a : Nat} : RR S d 133 141 L (.ref a :: st) h Q = kO (ai_fld h a 10 18) (fun w => RR S d 133 144 L (w :: st) h Q) := RR.get rfl rfl rfl
theorem r133_144 : RR S d 133 144 L st h Q = kI (ai_look L 4) (fun x => RR S d 133 146 L (.int x :: st) h Q) := RR.ldi rfl rfl
theorem r133_146 : RR S d 133 146 L st h Q = kA (ai_look L 0) (fun x => RR S d 133 147 L (x :: st) h Q) := RR.lda_n rfl rfl rfl
theorem r133_147 {a : Nat} : RR S d 133 147 L (.ref a :: st) h Q = kO (ai_fld h a 10 33) (fun w => RR S d 133 150 L (w :: st) h Q) := RR.get rfl rfl rfl
theorem r133_150 : RR S d 133 150 L st h Q = kI (ai_look L 3) (fun x => RR S d 133 151 L (.int x :: st) h Q) := RR.ldi_n rfl rfl rfl
theorem r133_151 {x : Int32} {a : Nat} : RR S d 133 151 L (.int x :: .ref a :: st) h Q = kO (ai_arr h a 0) (fun q => kB (ai_in x q.1) (RR S d 133 152 L (.int (q.2 x.toNatClampNeg) :: st) h Q)) := RR.ial rfl rfl
theorem r133_152 : RR S d 133 152 L st h Q = kA (ai_look L 0) (fun x => RR S d 133 153 L (x :: st) h Q) := RR.lda_n rfl rfl rfl
theorem r133_153 {a : Nat} : RR S d 133 153 L (.ref a :: st) h Q = kO (ai_fld h a 10 12) (fun w => RR S d 133 156 L (w :: st) h Q) := RR.get rfl rfl rfl
theorem r133_156 : RR S d 133 156 L st h Q = kI (ai_look L 4) (fun x => RR S d 133 158 L (.int x :: st) h Q) := RR.ldi rfl rfl
theorem r133_158 {x : Int32} {a : Nat} : RR S d 133 158 L (.int x :: .ref a :: st) h Q = kO (ai_arr h a 0) (fun q => kB (ai_in x q.1) (RR S d 133 159 L (.int (q.2 x.toNatClampNeg) :: st) h Q)) := RR.ial rfl rfl
theorem r133_159 {x y : Int32} : RR S d 133 159 L (.int y :: .int x :: st) h Q = kB (decide (¬ y = 0)) (RR S d 133 160 L (.int (x / y) :: st) h Q) := RR.idiv rfl rfl
theorem r133_160 {x y : Int32} {a : Nat} : RR S d 133 160 L (.int y :: .int x :: .ref a :: st) h Q = kO (ai_arr h a 0) (fun q => kB (ai_in x q.1) (RR S d 133 161 L st (h.1.set a (.inl (0, q.1, .inl (upd q.2 x.toNatClampNeg y))), h.2) Q)) := RR.ias rfl rfl
theorem r133_161 : RR S d 133 161 L st h Q = kA (ai_look L 0) (fun x => RR S d 133 162 L (x :: st) h Q) := RR.lda_n rfl rfl rfl
theorem r133_162 {a : Nat} : RR S d 133 162 L (.ref a :: st) h Q = kO (ai_fld h a 10 19) (fun w => RR S d 133 165 L (w :: st) h Q) := RR.get rfl rfl rfl
theorem r133_165 : RR S d 133 165 L st h Q = kI (ai_look L 4) (fun x => RR S d 133 167 L (.int x :: st) h Q) := RR.ldi rfl rfl
theorem r133_167 : RR S d 133 167 L st h Q = kA (ai_look L 0) (fun x => RR S d 133 168 L (x :: st) h Q) := RR.lda_n rfl rfl rfl
theorem r133_168 {a : Nat} : RR S d 133 168 L (.ref a :: st) h Q = kO (ai_fld h a 10 33) (fun w => RR S d 133 171 L (w :: st) h Q) := RR.get rfl rfl rfl
theorem r133_171 : RR S d 133 171 L st h Q = kI (ai_look L 3) (fun x => RR S d 133 172 L (.int x :: st) h Q) := RR.ldi_n rfl rfl rfl
theorem r133_172 {x : Int32} {a : Nat} : RR S d 133 172 L (.int x :: .ref a :: st) h Q = kO (ai_arr h a 0) (fun q => kB (ai_in x q.1) (RR S d 133 173 L (.int (q.2 x.toNatClampNeg) :: st) h Q)) := RR.ial rfl rfl
theorem r133_173 : RR S d 133 173 L st h Q = kA (ai_look L 0) (fun x => RR S d 133 174 L (x :: st) h Q) := RR.lda_n rfl rfl rfl
theorem r133_174 {a : Nat} : RR S d 133 174 L (.ref a :: st) h Q = kO (ai_fld h a 10 12) (fun w => RR S d 133 177 L (w :: st) h Q) := RR.get rfl rfl rfl
theorem r133_177 : RR S d 133 177 L st h Q = kI (ai_look L 4) (fun x => RR S d 133 179 L (.int x :: st) h Q) := RR.ldi rfl rfl
theorem r133_179 {x : Int32} {a : Nat} : RR S d 133 179 L (.int x :: .ref a :: st) h Q = kO (ai_arr h a 0) (fun q => kB (ai_in x q.1) (RR S d 133 180 L (.int (q.2 x.toNatClampNeg) :: st) h Q)) := RR.ial rfl rfl
theorem r133_180 {x y : Int32} : RR S d 133 180 L (.int y :: .int x :: st) h Q = kB (decide (¬ y = 0)) (RR S d 133 181 L (.int (x - x / y * y) :: st) h Q) := RR.irem rfl rfl
theorem r133_181 {x y : Int32} {a : Nat} : RR S d 133 181 L (.int y :: .int x :: .ref a :: st) h Q = kO (ai_arr h a 0) (fun q => kB (ai_in x q.1) (RR S d 133 182 L st (h.1.set a (.inl (0, q.1, .inl (upd q.2 x.toNatClampNeg y))), h.2) Q)) := RR.ias rfl rfl
theorem r133_182 : RR S d 133 182 L st h Q = kI (ai_look L 3) (fun x => RR S d 133 185 (ai_put 3 (.int (x + 1)) L) st h Q) := RR.iinc (k := 3) (n := 1) rfl (by decide) (by decide) rfl
theorem r133_185 : RR S d 133 185 L st h Q = RR S d 133 111 L st h Q := RR.jmp (off := (-74)) rfl (by decide)
theorem r133_188 : RR S d 133 188 L st h Q = kA (ai_look L 0) (fun x => RR S d 133 189 L (x :: st) h Q) := RR.lda_n rfl rfl rfl
theorem r133_189 {a : Nat} : RR S (d + 1) 133 189 L (.ref a :: st) h Q = kB (decide (ai_sum st ≤ 8)) (kB ((ai_obj h a 10).isSome) (RR S d 131 0 [(0, .ref a)] [] h (fun r h1 => RR S (d + 1) 133 192 L (r.toList ++ st) h1 Q))) := RR.cv (j := 159) (mn' := 131) (n := 0) rfl rfl rfl rfl rfl rfl
theorem r133_192 : RR S d 133 192 L st h Q = kI (ai_look L 2) (fun x => RR S d 133 193 L (.int x :: st) h Q) := RR.ldi_n rfl rfl rfl
theorem r133_193 {x : Int32} : RR S d 133 193 L [.int x] h Q = Q (some (.int x)) h := RR.rt rfl rfl rfl
theorem r134_0 : RR S d 134 0 L st h Q = kA (ai_look L 0) (fun x => RR S d 134 1 L (x :: st) h Q) := RR.lda_n rfl rfl rfl
theorem r134_1 : RR S d 134 1 L st h Q = RR S d 134 2 L (.int 0 :: st) h Q := RR.icn (n := 0) rfl (by decide) rfl
theorem r134_2 {x : Int32} {a : Nat} : RR S d 134 2 L (.int x :: .ref a :: st) h Q = kO (ai_obj h a 10) (fun fs => kB (decide (20 < fs.length)) (RR S d 134 5 L st (h.1.set a (.inr (10, fs.set 20 (.int x))), h.2) Q)) := RR.put rfl rfl (ai_okp_i rfl (by decide +kernel)) rfl
theorem r134_5 : RR S d 134 5 L st h Q = kA (ai_look L 0) (fun x => RR S d 134 6 L (x :: st) h Q) := RR.lda_n rfl rfl rfl
theorem r134_6 : RR S d 134 6 L st h Q = RR S d 134 9 L (.int 255 :: st) h Q := RR.sip (n := 255) rfl (by decide) rfl
theorem r134_9 {p0 : Int32} {a : Nat} : RR S (d + 1) 134 9 L (.int p0 :: .ref a :: st) h Q = kB (decide (ai_sum st ≤ 8)) (kB ((ai_obj h a 10).isSome) (RR S d 133 0 [(0, .ref a), (1, .int p0)] [] h (fun r h1 => RR S (d + 1) 134 12 L (r.toList ++ st) h1 Q))) := RR.cv (j := 184) (mn' := 133) (n := 1) rfl rfl rfl rfl rfl rfl
theorem r134_12 {x : Int32} : RR S d 134 12 L [.int x] h Q = Q (some (.int x)) h := RR.rt rfl rfl rfl
theorem r135_0 : RR S d 135 0 L st h Q = kA (ai_look L 0) (fun x => RR S d 135 1 L (x :: st) h Q) := RR.lda_n rfl rfl rfl
theorem r135_1 : RR S d 135 1 L st h Q = RR S d 135 2 L (.int 0 :: st) h Q := RR.icn (n := 0) rfl (by decide) rfl
theorem r135_2 {x : Int32} {a : Nat} : RR S d 135 2 L (.int x :: .ref a :: st) h Q = kO (ai_obj h a 10) (fun fs => kB (decide (20 < fs.length)) (RR S d 135 5 L st (h.1.set a (.inr (10, fs.set 20 (.int x))), h.2) Q)) := RR.put rfl rfl (ai_okp_i rfl (by decide +kernel)) rfl
theorem r135_5 : RR S d 135 5 L st h Q = kA (ai_look L 0) (fun x => RR S d 135 6 L (x :: st) h Q) := RR.lda_n rfl rfl rfl
theorem r135_6 : RR S d 135 6 L st h Q = RR S d 135 7 L (.int 0 :: st) h Q := RR.icn (n := 0) rfl (by decide) rfl
theorem r135_7 {p0 : Int32} {a : Nat} : RR S (d + 1) 135 7 L (.int p0 :: .ref a :: st) h Q = kB (decide (ai_sum st ≤ 8)) (kB ((ai_obj h a 10).isSome) (RR S d 133 0 [(0, .ref a), (1, .int p0)] [] h (fun r h1 => RR S (d + 1) 135 10 L (r.toList ++ st) h1 Q))) := RR.cv (j := 184) (mn' := 133) (n := 1) rfl rfl rfl rfl rfl rfl
theorem r135_10 {x : Int32} : RR S d 135 10 L [.int x] h Q = Q (some (.int x)) h := RR.rt rfl rfl rfl
theorem r136_0 : RR S d 136 0 L st h Q = RR S d 136 1 L (.int 0 :: st) h Q := RR.icn (n := 0) rfl (by decide) rfl
theorem r136_1 {x : Int32} : RR S d 136 1 L (.int x :: st) h Q = RR S d 136 2 (ai_put 1 (.int x) L) st h Q := RR.do1 (2, ai_put 1 (.int x) L, st, h) rfl rfl rfl
theorem r136_2 : RR S d 136 2 L st h Q = RR S d 136 3 L (.int 0 :: st) h Q := RR.icn (n := 0) rfl (by decide) rfl
theorem r136_3 {x : Int32} : RR S d 136 3 L (.int x :: st) h Q = RR S d 136 4 (ai_put 2 (.int x) L) st h Q := RR.do1 (4, ai_put 2 (.int x) L, st, h) rfl rfl rfl
theorem r136_4 : RR S d 136 4 L st h Q = kI (ai_look L 2) (fun x => RR S d 136 5 L (.int x :: st) h Q) := RR.ldi_n rfl rfl rfl
theorem r136_5 : RR S d 136 5 L st h Q = kA (ai_look L 0) (fun x => RR S d 136 6 L (x :: st) h Q) := RR.lda_n rfl rfl rfl
theorem r136_6 {a : Nat} : RR S d 136 6 L (.ref a :: st) h Q = kO (ai_fld h a 10 10) (fun w => RR S d 136 9 L (w :: st) h Q) := RR.get rfl rfl rfl
theorem r136_9 {x y : Int32} : RR S d 136 9 L (.int y :: .int x :: st) h Q = if y ≤ x then RR S d 136 37 L st h Q else RR S d 136 12 L st h Q := RR.b2 (c := .ge) (off := 28) rfl rfl (by decide) rfl
theorem r136_12 : RR S d 136 12 L st h Q = kA (ai_look L 0) (fun x => RR S d 136 13 L (x :: st) h Q) := RR.lda_n rfl rfl rfl
theorem r136_13 {a : Nat} : RR S d 136 13 L (.ref a :: st) h Q = kO (ai_fld h a 10 17) (fun w => RR S d 136 16 L (w :: st) h Q) := RR.get rfl rfl rfl
theorem r136_16 : RR S d 136 16 L st h Q = kI (ai_look L 2) (fun x => RR S d 136 17 L (.int x :: st) h Q) := RR.ldi_n rfl rfl rfl
theorem r136_17 {x : Int32} {a : Nat} : RR S d 136 17 L (.int x :: .ref a :: st) h Q = kO (ai_arr h a 1) (fun q => kB (ai_in x q.1) (RR S d 136 18 L (.int (q.2 x.toNatClampNeg) :: st) h Q)) := RR.bal rfl rfl
theorem r136_18 {x : Int32} : RR S d 136 18 L (.int x :: st) h Q = if x = 0 then RR S d 136 29 L st h Q else RR S d 136 21 L st h Q := RR.b1 (c := .eq) (off := 11) rfl rfl (by decide) rfl
theorem r136_21 : RR S d 136 21 L st h Q = kI (ai_look L 1) (fun x => RR S d 136 22 L (.int x :: st) h Q) := RR.ldi_n rfl rfl rfl
theorem r136_22 : RR S d 136 22 L st h Q = RR S d 136 23 L (.int 1 :: st) h Q := RR.icn (n := 1) rfl (by decide) rfl
theorem r136_23 : RR S d 136 23 L st h Q = kI (ai_look L 2) (fun x => RR S d 136 24 L (.int x :: st) h Q) := RR.ldi_n rfl rfl rfl
theorem r136_24 {x y : Int32} : RR S d 136 24 L (.int y :: .int x :: st) h Q = RR S d 136 25 L (.int (x <<< (y &&& 31)) :: st) h Q := RR.do1 (25, L, .int (x <<< (y &&& 31)) :: st, h) rfl rfl rfl
theorem r136_25 {x y : Int32} : RR S d 136 25 L (.int y :: .int x :: st) h Q = RR S d 136 26 L (.int (x ||| y) :: st) h Q := RR.do1 (26, L, .int (x ||| y) :: st, h) rfl rfl rfl
theorem r136_26 : RR S d 136 26 L st h Q = RR S d 136 30 L st h Q := RR.jmp (off := 4) rfl (by decide)
theorem r136_29 : RR S d 136 29 L st h Q = kI (ai_look L 1) (fun x => RR S d 136 30 L (.int x :: st) h Q) := RR.ldi_n rfl rfl rfl
theorem r136_30 {x : Int32} : RR S d 136 30 L (.int x :: st) h Q = RR S d 136 31 (ai_put 1 (.int x) L) st h Q := RR.do1 (31, ai_put 1 (.int x) L, st, h) rfl rfl rfl
theorem r136_31 : RR S d 136 31 L st h Q = kI (ai_look L 2) (fun x => RR S d 136 34 (ai_put 2 (.int (x + 1)) L) st h Q) := RR.iinc (k := 2) (n := 1) rfl (by decide) (by decide) rfl
theorem r136_34 : RR S d 136 34 L st h Q = RR S d 136 4 L st h Q := RR.jmp (off := (-30)) rfl (by decide)
theorem r136_37 : RR S d 136 37 L st h Q = kI (ai_look L 1) (fun x => RR S d 136 38 L (.int x :: st) h Q) := RR.ldi_n rfl rfl rfl
theorem r136_38 {x : Int32} : RR S d 136 38 L [.int x] h Q = Q (some (.int x)) h := RR.rt rfl rfl rfl
theorem r137_0 : RR S d 137 0 L st h Q = RR S d 137 1 L (.int 0 :: st) h Q := RR.icn (n := 0) rfl (by decide) rfl
theorem r137_1 {x : Int32} : RR S d 137 1 L (.int x :: st) h Q = RR S d 137 2 (ai_put 1 (.int x) L) st h Q := RR.do1 (2, ai_put 1 (.int x) L, st, h) rfl rfl rfl
theorem r137_2 : RR S d 137 2 L st h Q = RR S d 137 3 L (.int 0 :: st) h Q := RR.icn (n := 0) rfl (by decide) rfl
theorem r137_3 {x : Int32} : RR S d 137 3 L (.int x :: st) h Q = RR S d 137 4 (ai_put 2 (.int x) L) st h Q := RR.do1 (4, ai_put 2 (.int x) L, st, h) rfl rfl rfl
theorem r137_4 : RR S d 137 4 L st h Q = kI (ai_look L 2) (fun x => RR S d 137 5 L (.int x :: st) h Q) := RR.ldi_n rfl rfl rfl
theorem r137_5 : RR S d 137 5 L st h Q = RR S d 137 7 L (.int 8 :: st) h Q := RR.bip (n := 8) rfl (by decide) rfl
theorem r137_7 {x y : Int32} : RR S d 137 7 L (.int y :: .int x :: st) h Q = if y ≤ x then RR S d 137 24 L st h Q else RR S d 137 10 L st h Q := RR.b2 (c := .ge) (off := 17) rfl rfl (by decide) rfl
theorem r137_10 : RR S d 137 10 L st h Q = kI (ai_look L 1) (fun x => RR S d 137 11 L (.int x :: st) h Q) := RR.ldi_n rfl rfl rfl
theorem r137_11 : RR S d 137 11 L st h Q = kI (ai_look L 0) (fun x => RR S d 137 12 L (.int x :: st) h Q) := RR.ldi_n rfl rfl rfl
theorem r137_12 : RR S d 137 12 L st h Q = kI (ai_look L 2) (fun x => RR S d 137 13 L (.int x :: st) h Q) := RR.ldi_n rfl rfl rfl
theorem r137_13 {x y : Int32} : RR S d 137 13 L (.int y :: .int x :: st) h Q = RR S d 137 14 L (.int (x >>> (y &&& 31)) :: st) h Q := RR.do1 (14, L, .int (x >>> (y &&& 31)) :: st, h) rfl rfl rfl
theorem r137_14 : RR S d 137 14 L st h Q = RR S d 137 15 L (.int 1 :: st) h Q := RR.icn (n := 1) rfl (by decide) rfl
theorem r137_15 {x y : Int32} : RR S d 137 15 L (.int y :: .int x :: st) h Q = RR S d 137 16 L (.int (x &&& y) :: st) h Q := RR.do1 (16, L, .int (x &&& y) :: st, h) rfl rfl rfl
theorem r137_16 {x y : Int32} : RR S d 137 16 L (.int y :: .int x :: st) h Q = RR S d 137 17 L (.int (x + y) :: st) h Q := RR.do1 (17, L, .int (x + y) :: st, h) rfl rfl rfl
theorem r137_17 {x : Int32} : RR S d 137 17 L (.int x :: st) h Q = RR S d 137 18 (ai_put 1 (.int x) L) st h Q := RR.do1 (18, ai_put 1 (.int x) L, st, h) rfl rfl rfl
theorem r137_18 : RR S d 137 18 L st h Q = kI (ai_look L 2) (fun x => RR S d 137 21 (ai_put 2 (.int (x + 1)) L) st h Q) := RR.iinc (k := 2) (n := 1) rfl (by decide) (by decide) rfl
theorem r137_21 : RR S d 137 21 L st h Q = RR S d 137 4 L st h Q := RR.jmp (off := (-17)) rfl (by decide)
theorem r137_24 : RR S d 137 24 L st h Q = kI (ai_look L 1) (fun x => RR S d 137 25 L (.int x :: st) h Q) := RR.ldi_n rfl rfl rfl
theorem r137_25 {x : Int32} : RR S d 137 25 L [.int x] h Q = Q (some (.int x)) h := RR.rt rfl rfl rfl
theorem r138_0 : RR S d 138 0 L st h Q = RR S d 138 1 L (.int 0 :: st) h Q := RR.icn (n := 0) rfl (by decide) rfl
theorem r138_1 {x : Int32} : RR S d 138 1 L (.int x :: st) h Q = RR S d 138 2 (ai_put 2 (.int x) L) st h Q := RR.do1 (2, ai_put 2 (.int x) L, st, h) rfl rfl rfl
theorem r138_2 : RR S d 138 2 L st h Q = kI (ai_look L 2) (fun x => RR S d 138 3 L (.int x :: st) h Q) := RR.ldi_n rfl rfl rfl
theorem r138_3 : RR S d 138 3 L st h Q = RR S d 138 5 L (.int 8 :: st) h Q := RR.bip (n := 8) rfl (by decide) rfl
theorem r138_5 {x y : Int32} : RR S d 138 5 L (.int y :: .int x :: st) h Q = if y ≤ x then RR S d 138 42 L st h Q else RR S d 138 8 L st h Q := RR.b2 (c := .ge) (off := 37) rfl rfl (by decide) rfl
theorem r138_8 : RR S d 138 8 L st h Q = kI (ai_look L 0) (fun x => RR S d 138 9 L (.int x :: st) h Q) := RR.ldi_n rfl rfl rfl
theorem r138_9 : RR S d 138 9 L st h Q = kI (ai_look L 2) (fun x => RR S d 138 10 L (.int x :: st) h Q) := RR.ldi_n rfl rfl rfl
theorem r138_10 {x y : Int32} : RR S d 138 10 L (.int y :: .int x :: st) h Q = RR S d 138 11 L (.int (x >>> (y &&& 31)) :: st) h Q := RR.do1 (11, L, .int (x >>> (y &&& 31)) :: st, h) rfl rfl rfl
theorem r138_11 : RR S d 138 11 L st h Q = RR S d 138 12 L (.int 1 :: st) h Q := RR.icn (n := 1) rfl (by decide) rfl
theorem r138_12 {x y : Int32} : RR S d 138 12 L (.int y :: .int x :: st) h Q = RR S d 138 13 L (.int (x &&& y) :: st) h Q := RR.do1 (13, L, .int (x &&& y) :: st, h) rfl rfl rfl
theorem r138_13 : RR S d 138 13 L st h Q = kI (ai_look L 1) (fun x => RR S d 138 14 L (.int x :: st) h Q) := RR.ldi_n rfl rfl rfl
theorem r138_14 : RR S d 138 14 L st h Q = kI (ai_look L 2) (fun x => RR S d 138 15 L (.int x :: st) h Q) := RR.ldi_n rfl rfl rfl
theorem r138_15 {x y : Int32} : RR S d 138 15 L (.int y :: .int x :: st) h Q = RR S d 138 16 L (.int (x >>> (y &&& 31)) :: st) h Q := RR.do1 (16, L, .int (x >>> (y &&& 31)) :: st, h) rfl rfl rfl
theorem r138_16 : RR S d 138 16 L st h Q = RR S d 138 17 L (.int 1 :: st) h Q := RR.icn (n := 1) rfl (by decide) rfl
theorem r138_17 {x y : Int32} : RR S d 138 17 L (.int y :: .int x :: st) h Q = RR S d 138 18 L (.int (x &&& y) :: st) h Q := RR.do1 (18, L, .int (x &&& y) :: st, h) rfl rfl rfl
theorem r138_18 {x y : Int32} : RR S d 138 18 L (.int y :: .int x :: st) h Q = if x = y then RR S d 138 36 L st h Q else RR S d 138 21 L st h Q := RR.b2 (c := .eq) (off := 18) rfl rfl (by decide) rfl
theorem r138_21 : RR S d 138 21 L st h Q = kI (ai_look L 0) (fun x => RR S d 138 22 L (.int x :: st) h Q) := RR.ldi_n rfl rfl rfl
theorem r138_22 : RR S d 138 22 L st h Q = kI (ai_look L 2) (fun x => RR S d 138 23 L (.int x :: st) h Q) := RR.ldi_n rfl rfl rfl
theorem r138_23 {x y : Int32} : RR S d 138 23 L (.int y :: .int x :: st) h Q = RR S d 138 24 L (.int (x >>> (y &&& 31)) :: st) h Q := RR.do1 (24, L, .int (x >>> (y &&& 31)) :: st, h) rfl rfl rfl
theorem r138_24 : RR S d 138 24 L st h Q = RR S d 138 25 L (.int 1 :: st) h Q := RR.icn (n := 1) rfl (by decide) rfl
theorem r138_25 {x y : Int32} : RR S d 138 25 L (.int y :: .int x :: st) h Q = RR S d 138 26 L (.int (x &&& y) :: st) h Q := RR.do1 (26, L, .int (x &&& y) :: st, h) rfl rfl rfl
theorem r138_26 : RR S d 138 26 L st h Q = RR S d 138 27 L (.int 1 :: st) h Q := RR.icn (n := 1) rfl (by decide) rfl
theorem r138_27 {x y : Int32} : RR S d 138 27 L (.int y :: .int x :: st) h Q = if ¬ x = y then RR S d 138 34 L st h Q else RR S d 138 30 L st h Q := RR.b2 (c := .ne) (off := 7) rfl rfl (by decide) rfl
theorem r138_30 : RR S d 138 30 L st h Q = RR S d 138 31 L (.int 1 :: st) h Q := RR.icn (n := 1) rfl (by decide) rfl
theorem r138_31 : RR S d 138 31 L st h Q = RR S d 138 35 L st h Q := RR.jmp (off := 4) rfl (by decide)
theorem r138_34 : RR S d 138 34 L st h Q = RR S d 138 35 L (.int 0 :: st) h Q := RR.icn (n := 0) rfl (by decide) rfl
theorem r138_35f : RR S d 138 35 L [.int 0] h Q = Q (some (.int 0)) h := RR.zrt rfl rfl (by decide)
theorem r138_35t : RR S d 138 35 L [.int 1] h Q = Q (some (.int 1)) h := RR.zrt rfl rfl (by decide)
theorem r138_36 : RR S d 138 36 L st h Q = kI (ai_look L 2) (fun x => RR S d 138 39 (ai_put 2 (.int (x + 1)) L) st h Q) := RR.iinc (k := 2) (n := 1) rfl (by decide) (by decide) rfl
theorem r138_39 : RR S d 138 39 L st h Q = RR S d 138 2 L st h Q := RR.jmp (off := (-37)) rfl (by decide)
theorem r138_42 : RR S d 138 42 L st h Q = RR S d 138 43 L (.int 0 :: st) h Q := RR.icn (n := 0) rfl (by decide) rfl
theorem r138_43f : RR S d 138 43 L [.int 0] h Q = Q (some (.int 0)) h := RR.zrt rfl rfl (by decide)
theorem r138_43t : RR S d 138 43 L [.int 1] h Q = Q (some (.int 1)) h := RR.zrt rfl rfl (by decide)
theorem r139_0 : RR S d 139 0 L st h Q = RR S d 139 1 L (.int (-1) :: st) h Q := RR.icn (n := (-1)) rfl (by decide) rfl
theorem r139_1 {x : Int32} : RR S d 139 1 L (.int x :: st) h Q = RR S d 139 3 (ai_put 4 (.int x) L) st h Q := RR.do1 (3, ai_put 4 (.int x) L, st, h) rfl rfl rfl
theorem r139_3 : RR S d 139 3 L st h Q = RR S d 139 4 L (.int 0 :: st) h Q := RR.icn (n := 0) rfl (by decide) rfl
theorem r139_4 {x : Int32} : RR S d 139 4 L (.int x :: st) h Q = RR S d 139 6 (ai_put 5 (.int x) L) st h Q := RR.do1 (6, ai_put 5 (.int x) L, st, h) rfl rfl rfl
theorem r139_6 : RR S d 139 6 L st h Q = kI (ai_look L 5) (fun x => RR S d 139 8 L (.int x :: st) h Q) := RR.ldi rfl rfl
theorem r139_8 : RR S d 139 8 L st h Q = RR S d 139 11 L (.int 256 :: st) h Q := RR.sip (n := 256) rfl (by decide) rfl
theorem r139_11 {x y : Int32} : RR S d 139 11 L (.int y :: .int x :: st) h Q = if y ≤ x then RR S d 139 82 L st h Q else RR S d 139 14 L st h Q := RR.b2 (c := .ge) (off := 71) rfl rfl (by decide) rfl
theorem r139_14 : RR S d 139 14 L st h Q = kI (ai_look L 5) (fun x => RR S d 139 16 L (.int x :: st) h Q) := RR.ldi rfl rfl
theorem r139_16 : RR S d 139 16 L st h Q = kI (ai_look L 1) (fun x => RR S d 139 17 L (.int x :: st) h Q) := RR.ldi_n rfl rfl rfl
theorem r139_17 : RR S d 139 17 L st h Q = RR S d 139 18 L (.int (-1) :: st) h Q := RR.icn (n := (-1)) rfl (by decide) rfl
theorem r139_18 {x y : Int32} : RR S d 139 18 L (.int y :: .int x :: st) h Q = RR S d 139 19 L (.int (x ^^^ y) :: st) h Q := RR.do1 (19, L, .int (x ^^^ y) :: st, h) rfl rfl rfl
theorem r139_19 {x y : Int32} : RR S d 139 19 L (.int y :: .int x :: st) h Q = RR S d 139 20 L (.int (x &&& y) :: st) h Q := RR.do1 (20, L, .int (x &&& y) :: st, h) rfl rfl rfl
theorem r139_20 {x : Int32} : RR S d 139 20 L (.int x :: st) h Q = if ¬ x = 0 then RR S d 139 49 L st h Q else RR S d 139 23 L st h Q := RR.b1 (c := .ne) (off := 29) rfl rfl (by decide) rfl
theorem r139_23 : RR S d 139 23 L st h Q = kI (ai_look L 5) (fun x => RR S d 139 25 L (.int x :: st) h Q) := RR.ldi rfl rfl
theorem r139_25 {p0 : Int32} : RR S (d + 1) 139 25 L (.int p0 :: st) h Q = kB (decide (ai_sum st ≤ 8)) (RR S d 137 0 [(0, .int p0)] [] h (fun r h1 => RR S (d + 1) 139 28 L (r.toList ++ st) h1 Q)) := RR.cs (j := 188) (mn' := 137) (n := 1) rfl rfl rfl rfl (by simp) rfl rfl
theorem r139_28 : RR S d 139 28 L st h Q = kI (ai_look L 2) (fun x => RR S d 139 29 L (.int x :: st) h Q) := RR.ldi_n rfl rfl rfl
theorem r139_29 {x y : Int32} : RR S d 139 29 L (.int y :: .int x :: st) h Q = if ¬ x = y then RR S d 139 49 L st h Q else RR S d 139 32 L st h Q := RR.b2 (c := .ne) (off := 20) rfl rfl (by decide) rfl
theorem r139_32 : RR S d 139 32 L st h Q = kI (ai_look L 3) (fun x => RR S d 139 33 L (.int x :: st) h Q) := RR.ldi_n rfl rfl rfl
theorem r139_33 {x : Int32} : RR S d 139 33 L (.int x :: st) h Q = if x < 0 then RR S d 139 45 L st h Q else RR S d 139 36 L st h Q := RR.b1 (c := .lt) (off := 12) rfl rfl (by decide) rfl
theorem r139_36 : RR S d 139 36 L st h Q = kI (ai_look L 3) (fun x => RR S d 139 37 L (.int x :: st) h Q) := RR.ldi_n rfl rfl rfl
theorem r139_37 : RR S d 139 37 L st h Q = kI (ai_look L 5) (fun x => RR S d 139 39 L (.int x :: st) h Q) := RR.ldi rfl rfl
theorem r139_39 {p0 : Int32} {p1 : Int32} : RR S (d + 1) 139 39 L (.int p1 :: .int p0 :: st) h Q = kB (decide (ai_sum st ≤ 8)) (RR S d 138 0 [(0, .int p0), (1, .int p1)] [] h (fun r h1 => RR S (d + 1) 139 42 L (r.toList ++ st) h1 Q)) := RR.cs (j := 191) (mn' := 138) (n := 2) rfl rfl rfl rfl (by simp) rfl rfl
theorem r139_42 {x : Int32} : RR S d 139 42 L (.int x :: st) h Q = if x = 0 then RR S d 139 49 L st h Q else RR S d 139 45 L st h Q := RR.b1 (c := .eq) (off := 7) rfl rfl (by decide) rfl
theorem r139_45 : RR S d 139 45 L st h Q = RR S d 139 46 L (.int 1 :: st) h Q := RR.icn (n := 1) rfl (by decide) rfl
theorem r139_46 : RR S d 139 46 L st h Q = RR S d 139 50 L st h Q := RR.jmp (off := 4) rfl (by decide)
theorem r139_49 : RR S d 139 49 L st h Q = RR S d 139 50 L (.int 0 :: st) h Q := RR.icn (n := 0) rfl (by decide) rfl
theorem r139_50 {x : Int32} : RR S d 139 50 L (.int x :: st) h Q = RR S d 139 52 (ai_put 6 (.int x) L) st h Q := RR.do1 (52, ai_put 6 (.int x) L, st, h) rfl rfl rfl
theorem r139_52 : RR S d 139 52 L st h Q = kI (ai_look L 6) (fun x => RR S d 139 54 L (.int x :: st) h Q) := RR.ldi rfl rfl
theorem r139_54 {x : Int32} : RR S d 139 54 L (.int x :: st) h Q = if x = 0 then RR S d 139 76 L st h Q else RR S d 139 57 L st h Q := RR.b1 (c := .eq) (off := 22) rfl rfl (by decide) rfl
theorem r139_57 : RR S d 139 57 L st h Q = kI (ai_look L 4) (fun x => RR S d 139 59 L (.int x :: st) h Q) := RR.ldi rfl rfl
theorem r139_59 {x : Int32} : RR S d 139 59 L (.int x :: st) h Q = if x < 0 then RR S d 139 72 L st h Q else RR S d 139 62 L st h Q := RR.b1 (c := .lt) (off := 13) rfl rfl (by decide) rfl
theorem r139_62 : RR S d 139 62 L st h Q = kI (ai_look L 5) (fun x => RR S d 139 64 L (.int x :: st) h Q) := RR.ldi rfl rfl
theorem r139_64 : RR S d 139 64 L st h Q = kI (ai_look L 4) (fun x => RR S d 139 66 L (.int x :: st) h Q) := RR.ldi rfl rfl
theorem r139_66 {p0 : Int32} {p1 : Int32} : RR S (d + 1) 139 66 L (.int p1 :: .int p0 :: st) h Q = kB (decide (ai_sum st ≤ 8)) (RR S d 138 0 [(0, .int p0), (1, .int p1)] [] h (fun r h1 => RR S (d + 1) 139 69 L (r.toList ++ st) h1 Q)) := RR.cs (j := 191) (mn' := 138) (n := 2) rfl rfl rfl rfl (by simp) rfl rfl
theorem r139_69 {x : Int32} : RR S d 139 69 L (.int x :: st) h Q = if x = 0 then RR S d 139 76 L st h Q else RR S d 139 72 L st h Q := RR.b1 (c := .eq) (off := 7) rfl rfl (by decide) rfl
theorem r139_72 : RR S d 139 72 L st h Q = kI (ai_look L 5) (fun x => RR S d 139 74 L (.int x :: st) h Q) := RR.ldi rfl rfl
theorem r139_74 {x : Int32} : RR S d 139 74 L (.int x :: st) h Q = RR S d 139 76 (ai_put 4 (.int x) L) st h Q := RR.do1 (76, ai_put 4 (.int x) L, st, h) rfl rfl rfl
theorem r139_76 : RR S d 139 76 L st h Q = kI (ai_look L 5) (fun x => RR S d 139 79 (ai_put 5 (.int (x + 1)) L) st h Q) := RR.iinc (k := 5) (n := 1) rfl (by decide) (by decide) rfl
theorem r139_79 : RR S d 139 79 L st h Q = RR S d 139 6 L st h Q := RR.jmp (off := (-73)) rfl (by decide)
theorem r139_82 : RR S d 139 82 L st h Q = kI (ai_look L 4) (fun x => RR S d 139 84 L (.int x :: st) h Q) := RR.ldi rfl rfl
theorem r139_84 {x : Int32} : RR S d 139 84 L [.int x] h Q = Q (some (.int x)) h := RR.rt rfl rfl rfl
theorem r140_0 : RR S d 140 0 L st h Q = kA (ai_look L 0) (fun x => RR S d 140 1 L (x :: st) h Q) := RR.lda_n rfl rfl rfl
theorem r140_1 : RR S d 140 1 L st h Q = RR S d 140 2 L (.int 0 :: st) h Q := RR.icn (n := 0) rfl (by decide) rfl
theorem r140_2 {x : Int32} {a : Nat} : RR S d 140 2 L (.int x :: .ref a :: st) h Q = kO (ai_obj h a 10) (fun fs => kB (decide (20 < fs.length)) (RR S d 140 5 L st (h.1.set a (.inr (10, fs.set 20 (.int x))), h.2) Q)) := RR.put rfl rfl (ai_okp_i rfl (by decide +kernel)) rfl
theorem r140_5 : RR S d 140 5 L st h Q = kA (ai_look L 0) (fun x => RR S d 140 6 L (x :: st) h Q) := RR.lda_n rfl rfl rfl
theorem r140_6 {a : Nat} : RR S (d + 1) 140 6 L (.ref a :: st) h Q = kB (decide (ai_sum st ≤ 8)) (kB ((ai_obj h a 10).isSome) (RR S d 136 0 [(0, .ref a)] [] h (fun r h1 => RR S (d + 1) 140 9 L (r.toList ++ st) h1 Q))) := RR.cv (j := 195) (mn' := 136) (n := 0) rfl rfl rfl rfl rfl rfl
theorem r140_9 {x : Int32} : RR S d 140 9 L (.int x :: st) h Q = RR S d 140 10 (ai_put 1 (.int x) L) st h Q := RR.do1 (10, ai_put 1 (.int x) L, st, h) rfl rfl rfl
theorem r140_10 : RR S d 140 10 L st h Q = RR S d 140 11 L (.int 0 :: st) h Q := RR.icn (n := 0) rfl (by decide) rfl
theorem r140_11 {x : Int32} : RR S d 140 11 L (.int x :: st) h Q = RR S d 140 12 (ai_put 2 (.int x) L) st h Q := RR.do1 (12, ai_put 2 (.int x) L, st, h) rfl rfl rfl
theorem r140_12 : RR S d 140 12 L st h Q = kI (ai_look L 2) (fun x => RR S d 140 13 L (.int x :: st) h Q) := RR.ldi_n rfl rfl rfl
theorem r140_13 : RR S d 140 13 L st h Q = RR S d 140 14 L (.int 4 :: st) h Q := RR.icn (n := 4) rfl (by decide) rfl
theorem r140_14 {x y : Int32} : RR S d 140 14 L (.int y :: .int x :: st) h Q = if y ≤ x then RR S d 140 71 L st h Q else RR S d 140 17 L st h Q := RR.b2 (c := .ge) (off := 57) rfl rfl (by decide) rfl
theorem r140_17 : RR S d 140 17 L st h Q = kA (ai_look L 0) (fun x => RR S d 140 18 L (x :: st) h Q) := RR.lda_n rfl rfl rfl
theorem r140_18 : RR S d 140 18 L st h Q = kI (ai_look L 1) (fun x => RR S d 140 19 L (.int x :: st) h Q) := RR.ldi_n rfl rfl rfl
theorem r140_19 : RR S d 140 19 L st h Q = kI (ai_look L 2) (fun x => RR S d 140 20 L (.int x :: st) h Q) := RR.ldi_n rfl rfl rfl
theorem r140_20 : RR S d 140 20 L st h Q = RR S d 140 21 L (.int (-1) :: st) h Q := RR.icn (n := (-1)) rfl (by decide) rfl
theorem r140_21 {p0 : Int32} {p1 : Int32} {p2 : Int32} {a : Nat} : RR S (d + 1) 140 21 L (.int p2 :: .int p1 :: .int p0 :: .ref a :: st) h Q = kB (decide (ai_sum st ≤ 8)) (kB ((ai_obj h a 10).isSome) (RR S d 139 0 [(0, .ref a), (1, .int p0), (2, .int p1), (3, .int p2)] [] h (fun r h1 => RR S (d + 1) 140 24 L (r.toList ++ st) h1 Q))) := RR.cv (j := 198) (mn' := 139) (n := 3) rfl rfl rfl rfl rfl rfl
theorem r140_24 {x : Int32} : RR S d 140 24 L (.int x :: st) h Q = RR S d 140 25 (ai_put 3 (.int x) L) st h Q := RR.do1 (25, ai_put 3 (.int x) L, st, h) rfl rfl rfl
theorem r140_25 : RR S d 140 25 L st h Q = kI (ai_look L 3) (fun x => RR S d 140 26 L (.int x :: st) h Q) := RR.ldi_n rfl rfl rfl
theorem r140_26 {x : Int32} : RR S d 140 26 L (.int x :: st) h Q = if x < 0 then RR S d 140 65 L st h Q else RR S d 140 29 L st h Q := RR.b1 (c := .lt) (off := 39) rfl rfl (by decide) rfl
theorem r140_29 : RR S d 140 29 L st h Q = kA (ai_look L 0) (fun x => RR S d 140 30 L (x :: st) h Q) := RR.lda_n rfl rfl rfl
theorem r140_30 : RR S d 140 30 L st h Q = kI (ai_look L 3) (fun x => RR S d 140 31 L (.int x :: st) h Q) := RR.ldi_n rfl rfl rfl
theorem r140_31 {p0 : Int32} {a : Nat} : RR S (d + 1) 140 31 L (.int p0 :: .ref a :: st) h Q = kB (decide (ai_sum st ≤ 8)) (kB ((ai_obj h a 10).isSome) (RR S d 133 0 [(0, .ref a), (1, .int p0)] [] h (fun r h1 => RR S (d + 1) 140 34 L (r.toList ++ st) h1 Q))) := RR.cv (j := 184) (mn' := 133) (n := 1) rfl rfl rfl rfl rfl rfl
theorem r140_34 {x : Int32} : RR S d 140 34 L (.int x :: st) h Q = RR S d 140 36 (ai_put 4 (.int x) L) st h Q := RR.do1 (36, ai_put 4 (.int x) L, st, h) rfl rfl rfl
theorem r140_36 : RR S d 140 36 L st h Q = kI (ai_look L 4) (fun x => RR S d 140 38 L (.int x :: st) h Q) := RR.ldi rfl rfl
theorem r140_38 {x : Int32} : RR S d 140 38 L (.int x :: st) h Q = if x = 0 then RR S d 140 54 L st h Q else RR S d 140 41 L st h Q := RR.b1 (c := .eq) (off := 16) rfl rfl (by decide) rfl
theorem r140_41 : RR S d 140 41 L st h Q = kI (ai_look L 4) (fun x => RR S d 140 43 L (.int x :: st) h Q) := RR.ldi rfl rfl
theorem r140_43 : RR S d 140 43 L st h Q = RR S d 140 44 L (.int 1 :: st) h Q := RR.icn (n := 1) rfl (by decide) rfl
theorem r140_44 {x y : Int32} : RR S d 140 44 L (.int y :: .int x :: st) h Q = if ¬ x = y then RR S d 140 51 L st h Q else RR S d 140 47 L st h Q := RR.b2 (c := .ne) (off := 7) rfl rfl (by decide) rfl
theorem r140_47 : RR S d 140 47 L st h Q = kI (ai_look L 2) (fun x => RR S d 140 48 L (.int x :: st) h Q) := RR.ldi_n rfl rfl rfl
theorem r140_48 : RR S d 140 48 L st h Q = RR S d 140 53 L st h Q := RR.jmp (off := 5) rfl (by decide)
theorem r140_51 : RR S d 140 51 L st h Q = RR S d 140 53 L (.int (-2) :: st) h Q := RR.bip (n := (-2)) rfl (by decide) rfl
theorem r140_53 {x : Int32} : RR S d 140 53 L [.int x] h Q = Q (some (.int x)) h := RR.rt rfl rfl rfl
theorem r140_54 : RR S d 140 54 L st h Q = kA (ai_look L 0) (fun x => RR S d 140 55 L (x :: st) h Q) := RR.lda_n rfl rfl rfl
theorem r140_55 : RR S d 140 55 L st h Q = kI (ai_look L 1) (fun x => RR S d 140 56 L (.int x :: st) h Q) := RR.ldi_n rfl rfl rfl
theorem r140_56 : RR S d 140 56 L st h Q = kI (ai_look L 2) (fun x => RR S d 140 57 L (.int x :: st) h Q) := RR.ldi_n rfl rfl rfl
theorem r140_57 : RR S d 140 57 L st h Q = kI (ai_look L 3) (fun x => RR S d 140 58 L (.int x :: st) h Q) := RR.ldi_n rfl rfl rfl
theorem r140_58 {p0 : Int32} {p1 : Int32} {p2 : Int32} {a : Nat} : RR S (d + 1) 140 58 L (.int p2 :: .int p1 :: .int p0 :: .ref a :: st) h Q = kB (decide (ai_sum st ≤ 8)) (kB ((ai_obj h a 10).isSome) (RR S d 139 0 [(0, .ref a), (1, .int p0), (2, .int p1), (3, .int p2)] [] h (fun r h1 => RR S (d + 1) 140 61 L (r.toList ++ st) h1 Q))) := RR.cv (j := 198) (mn' := 139) (n := 3) rfl rfl rfl rfl rfl rfl
theorem r140_61 {x : Int32} : RR S d 140 61 L (.int x :: st) h Q = RR S d 140 62 (ai_put 3 (.int x) L) st h Q := RR.do1 (62, ai_put 3 (.int x) L, st, h) rfl rfl rfl
theorem r140_62 : RR S d 140 62 L st h Q = RR S d 140 25 L st h Q := RR.jmp (off := (-37)) rfl (by decide)
theorem r140_65 : RR S d 140 65 L st h Q = kI (ai_look L 2) (fun x => RR S d 140 68 (ai_put 2 (.int (x + 1)) L) st h Q) := RR.iinc (k := 2) (n := 1) rfl (by decide) (by decide) rfl
theorem r140_68 : RR S d 140 68 L st h Q = RR S d 140 12 L st h Q := RR.jmp (off := (-56)) rfl (by decide)
theorem r140_71 : RR S d 140 71 L st h Q = RR S d 140 72 L (.int (-1) :: st) h Q := RR.icn (n := (-1)) rfl (by decide) rfl
theorem r140_72 {x : Int32} : RR S d 140 72 L [.int x] h Q = Q (some (.int x)) h := RR.rt rfl rfl rfl
theorem r141_0 : RR S d 141 0 L st h Q = kI (ai_look L 1) (fun x => RR S d 141 1 L (.int x :: st) h Q) := RR.ldi_n rfl rfl rfl
theorem r141_1 {x : Int32} : RR S d 141 1 L (.int x :: st) h Q = if x < 0 then RR S d 141 25 L st h Q else RR S d 141 4 L st h Q := RR.b1 (c := .lt) (off := 24) rfl rfl (by decide) rfl
theorem r141_4 : RR S d 141 4 L st h Q = kI (ai_look L 1) (fun x => RR S d 141 5 L (.int x :: st) h Q) := RR.ldi_n rfl rfl rfl
theorem r141_5 : RR S d 141 5 L st h Q = kA (ai_look L 0) (fun x => RR S d 141 6 L (x :: st) h Q) := RR.lda_n rfl rfl rfl
theorem r141_6 {a : Nat} : RR S d 141 6 L (.ref a :: st) h Q = kO (ai_fld h a 10 10) (fun w => RR S d 141 9 L (w :: st) h Q) := RR.get rfl rfl rfl
theorem r141_9 {x y : Int32} : RR S d 141 9 L (.int y :: .int x :: st) h Q = if y ≤ x then RR S d 141 25 L st h Q else RR S d 141 12 L st h Q := RR.b2 (c := .ge) (off := 16) rfl rfl (by decide) rfl
theorem r141_12 : RR S d 141 12 L st h Q = kA (ai_look L 0) (fun x => RR S d 141 13 L (x :: st) h Q) := RR.lda_n rfl rfl rfl
theorem r141_13 {a : Nat} : RR S d 141 13 L (.ref a :: st) h Q = kO (ai_fld h a 10 17) (fun w => RR S d 141 16 L (w :: st) h Q) := RR.get rfl rfl rfl
theorem r141_16 : RR S d 141 16 L st h Q = kI (ai_look L 1) (fun x => RR S d 141 17 L (.int x :: st) h Q) := RR.ldi_n rfl rfl rfl
theorem r141_17 {x : Int32} {a : Nat} : RR S d 141 17 L (.int x :: .ref a :: st) h Q = kO (ai_arr h a 1) (fun q => kB (ai_in x q.1) (RR S d 141 18 L (.int (q.2 x.toNatClampNeg) :: st) h Q)) := RR.bal rfl rfl
theorem r141_18 {x : Int32} : RR S d 141 18 L (.int x :: st) h Q = if x = 0 then RR S d 141 25 L st h Q else RR S d 141 21 L st h Q := RR.b1 (c := .eq) (off := 7) rfl rfl (by decide) rfl
theorem r141_21 : RR S d 141 21 L st h Q = RR S d 141 22 L (.int 1 :: st) h Q := RR.icn (n := 1) rfl (by decide) rfl
theorem r141_22 : RR S d 141 22 L st h Q = RR S d 141 26 L st h Q := RR.jmp (off := 4) rfl (by decide)
theorem r141_25 : RR S d 141 25 L st h Q = RR S d 141 26 L (.int 0 :: st) h Q := RR.icn (n := 0) rfl (by decide) rfl
theorem r141_26f : RR S d 141 26 L [.int 0] h Q = Q (some (.int 0)) h := RR.zrt rfl rfl (by decide)
theorem r141_26t : RR S d 141 26 L [.int 1] h Q = Q (some (.int 1)) h := RR.zrt rfl rfl (by decide)
theorem r142_0 : RR S d 142 0 L st h Q = kA (ai_look L 0) (fun x => RR S d 142 1 L (x :: st) h Q) := RR.lda_n rfl rfl rfl
theorem r142_1 : RR S d 142 1 L st h Q = kI (ai_look L 1) (fun x => RR S d 142 2 L (.int x :: st) h Q) := RR.ldi_n rfl rfl rfl
theorem r142_2 {p0 : Int32} {a : Nat} : RR S (d + 1) 142 2 L (.int p0 :: .ref a :: st) h Q = kB (decide (ai_sum st ≤ 8)) (kB ((ai_obj h a 10).isSome) (RR S d 141 0 [(0, .ref a), (1, .int p0)] [] h (fun r h1 => RR S (d + 1) 142 5 L (r.toList ++ st) h1 Q))) := RR.cv (j := 202) (mn' := 141) (n := 1) rfl rfl rfl rfl rfl rfl
theorem r142_5 {x : Int32} : RR S d 142 5 L (.int x :: st) h Q = if ¬ x = 0 then RR S d 142 10 L st h Q else RR S d 142 8 L st h Q := RR.b1 (c := .ne) (off := 5) rfl rfl (by decide) rfl
theorem r142_8 : RR S d 142 8 L st h Q = RR S d 142 9 L (.int (-1) :: st) h Q := RR.icn (n := (-1)) rfl (by decide) rfl
theorem r142_9 {x : Int32} : RR S d 142 9 L [.int x] h Q = Q (some (.int x)) h := RR.rt rfl rfl rfl
theorem r142_10 : RR S d 142 10 L st h Q = RR S d 142 11 L (.int 3 :: st) h Q := RR.icn (n := 3) rfl (by decide) rfl
theorem r142_11 : RR S d 142 11 L st h Q = kI (ai_look L 1) (fun x => RR S d 142 12 L (.int x :: st) h Q) := RR.ldi_n rfl rfl rfl
theorem r142_12 {x y : Int32} : RR S d 142 12 L (.int y :: .int x :: st) h Q = RR S d 142 13 L (.int (x * y) :: st) h Q := RR.do1 (13, L, .int (x * y) :: st, h) rfl rfl rfl
theorem r142_13 : RR S d 142 13 L st h Q = kA (ai_look L 0) (fun x => RR S d 142 14 L (x :: st) h Q) := RR.lda_n rfl rfl rfl
theorem r142_14 {a : Nat} : RR S d 142 14 L (.ref a :: st) h Q = kO (ai_fld h a 10 18) (fun w => RR S d 142 17 L (w :: st) h Q) := RR.get rfl rfl rfl
theorem r142_17 : RR S d 142 17 L st h Q = kI (ai_look L 1) (fun x => RR S d 142 18 L (.int x :: st) h Q) := RR.ldi_n rfl rfl rfl
theorem r142_18 {x : Int32} {a : Nat} : RR S d 142 18 L (.int x :: .ref a :: st) h Q = kO (ai_arr h a 0) (fun q => kB (ai_in x q.1) (RR S d 142 19 L (.int (q.2 x.toNatClampNeg) :: st) h Q)) := RR.ial rfl rfl
theorem r142_19 {x y : Int32} : RR S d 142 19 L (.int y :: .int x :: st) h Q = RR S d 142 20 L (.int (x + y) :: st) h Q := RR.do1 (20, L, .int (x + y) :: st, h) rfl rfl rfl
theorem r142_20 {x : Int32} : RR S d 142 20 L (.int x :: st) h Q = RR S d 142 21 (ai_put 3 (.int x) L) st h Q := RR.do1 (21, ai_put 3 (.int x) L, st, h) rfl rfl rfl
theorem r142_21 : RR S d 142 21 L st h Q = kA (ai_look L 0) (fun x => RR S d 142 22 L (x :: st) h Q) := RR.lda_n rfl rfl rfl
theorem r142_22 {a : Nat} : RR S d 142 22 L (.ref a :: st) h Q = kO (ai_fld h a 10 14) (fun w => RR S d 142 25 L (w :: st) h Q) := RR.get rfl rfl rfl
theorem r142_25 : RR S d 142 25 L st h Q = kI (ai_look L 3) (fun x => RR S d 142 26 L (.int x :: st) h Q) := RR.ldi_n rfl rfl rfl
theorem r142_26 {x : Int32} {a : Nat} : RR S d 142 26 L (.int x :: .ref a :: st) h Q = kO (ai_arr h a 0) (fun q => kB (ai_in x q.1) (RR S d 142 27 L (.int (q.2 x.toNatClampNeg) :: st) h Q)) := RR.ial rfl rfl
theorem r142_27 {x : Int32} : RR S d 142 27 L (.int x :: st) h Q = RR S d 142 29 (ai_put 4 (.int x) L) st h Q := RR.do1 (29, ai_put 4 (.int x) L, st, h) rfl rfl rfl
theorem r142_29 : RR S d 142 29 L st h Q = kI (ai_look L 2) (fun x => RR S d 142 30 L (.int x :: st) h Q) := RR.ldi_n rfl rfl rfl
theorem r142_30 : RR S d 142 30 L st h Q = RR S d 142 32 L (.int 10 :: st) h Q := RR.bip (n := 10) rfl (by decide) rfl
theorem r142_32 {x y : Int32} : RR S d 142 32 L (.int y :: .int x :: st) h Q = if x < y then RR S d 142 58 L st h Q else RR S d 142 35 L st h Q := RR.b2 (c := .lt) (off := 26) rfl rfl (by decide) rfl
theorem r142_35 : RR S d 142 35 L st h Q = kI (ai_look L 2) (fun x => RR S d 142 36 L (.int x :: st) h Q) := RR.ldi_n rfl rfl rfl
theorem r142_36 : RR S d 142 36 L st h Q = RR S d 142 38 L (.int 10 :: st) h Q := RR.bip (n := 10) rfl (by decide) rfl
theorem r142_38 : RR S d 142 38 L st h Q = kI (ai_look L 4) (fun x => RR S d 142 40 L (.int x :: st) h Q) := RR.ldi rfl rfl
theorem r142_40 {x y : Int32} : RR S d 142 40 L (.int y :: .int x :: st) h Q = RR S d 142 41 L (.int (x + y) :: st) h Q := RR.do1 (41, L, .int (x + y) :: st, h) rfl rfl rfl
theorem r142_41 {x y : Int32} : RR S d 142 41 L (.int y :: .int x :: st) h Q = if y ≤ x then RR S d 142 58 L st h Q else RR S d 142 44 L st h Q := RR.b2 (c := .ge) (off := 17) rfl rfl (by decide) rfl
theorem r142_44 : RR S d 142 44 L st h Q = kA (ai_look L 0) (fun x => RR S d 142 45 L (x :: st) h Q) := RR.lda_n rfl rfl rfl
theorem r142_45 {a : Nat} : RR S d 142 45 L (.ref a :: st) h Q = kO (ai_fld h a 10 15) (fun w => RR S d 142 48 L (w :: st) h Q) := RR.get rfl rfl rfl
theorem r142_48 : RR S d 142 48 L st h Q = RR S d 142 49 L (.int 4 :: st) h Q := RR.icn (n := 4) rfl (by decide) rfl
theorem r142_49 : RR S d 142 49 L st h Q = kI (ai_look L 3) (fun x => RR S d 142 50 L (.int x :: st) h Q) := RR.ldi_n rfl rfl rfl
theorem r142_50 {x y : Int32} : RR S d 142 50 L (.int y :: .int x :: st) h Q = RR S d 142 51 L (.int (x * y) :: st) h Q := RR.do1 (51, L, .int (x * y) :: st, h) rfl rfl rfl
theorem r142_51 : RR S d 142 51 L st h Q = kI (ai_look L 2) (fun x => RR S d 142 52 L (.int x :: st) h Q) := RR.ldi_n rfl rfl rfl
theorem r142_52 {x y : Int32} : RR S d 142 52 L (.int y :: .int x :: st) h Q = RR S d 142 53 L (.int (x + y) :: st) h Q := RR.do1 (53, L, .int (x + y) :: st, h) rfl rfl rfl
theorem r142_53 : RR S d 142 53 L st h Q = RR S d 142 55 L (.int 10 :: st) h Q := RR.bip (n := 10) rfl (by decide) rfl
theorem r142_55 {x y : Int32} : RR S d 142 55 L (.int y :: .int x :: st) h Q = RR S d 142 56 L (.int (x - y) :: st) h Q := RR.do1 (56, L, .int (x - y) :: st, h) rfl rfl rfl
theorem r142_56 {x : Int32} {a : Nat} : RR S d 142 56 L (.int x :: .ref a :: st) h Q = kO (ai_arr h a 0) (fun q => kB (ai_in x q.1) (RR S d 142 57 L (.int (q.2 x.toNatClampNeg) :: st) h Q)) := RR.ial rfl rfl
theorem r142_57 {x : Int32} : RR S d 142 57 L [.int x] h Q = Q (some (.int x)) h := RR.rt rfl rfl rfl
theorem r142_58 : RR S d 142 58 L st h Q = kI (ai_look L 2) (fun x => RR S d 142 59 L (.int x :: st) h Q) := RR.ldi_n rfl rfl rfl
theorem r142_59 : RR S d 142 59 L st h Q = RR S d 142 61 L (.int 20 :: st) h Q := RR.bip (n := 20) rfl (by decide) rfl
theorem r142_61 {x y : Int32} : RR S d 142 61 L (.int y :: .int x :: st) h Q = if x < y then RR S d 142 95 L st h Q else RR S d 142 64 L st h Q := RR.b2 (c := .lt) (off := 34) rfl rfl (by decide) rfl
theorem r142_64 : RR S d 142 64 L st h Q = kI (ai_look L 2) (fun x => RR S d 142 65 L (.int x :: st) h Q) := RR.ldi_n rfl rfl rfl
theorem r142_65 : RR S d 142 65 L st h Q = RR S d 142 67 L (.int 20 :: st) h Q := RR.bip (n := 20) rfl (by decide) rfl
theorem r142_67 : RR S d 142 67 L st h Q = kI (ai_look L 4) (fun x => RR S d 142 69 L (.int x :: st) h Q) := RR.ldi rfl rfl
theorem r142_69 {x y : Int32} : RR S d 142 69 L (.int y :: .int x :: st) h Q = RR S d 142 70 L (.int (x + y) :: st) h Q := RR.do1 (70, L, .int (x + y) :: st, h) rfl rfl rfl
theorem r142_70 {x y : Int32} : RR S d 142 70 L (.int y :: .int x :: st) h Q = if y ≤ x then RR S d 142 95 L st h Q else RR S d 142 73 L st h Q := RR.b2 (c := .ge) (off := 25) rfl rfl (by decide) rfl
theorem r142_73 : RR S d 142 73 L st h Q = kA (ai_look L 0) (fun x => RR S d 142 74 L (x :: st) h Q) := RR.lda_n rfl rfl rfl
theorem r142_74 : RR S d 142 74 L st h Q = kI (ai_look L 1) (fun x => RR S d 142 75 L (.int x :: st) h Q) := RR.ldi_n rfl rfl rfl
theorem r142_75 : RR S d 142 75 L st h Q = kA (ai_look L 0) (fun x => RR S d 142 76 L (x :: st) h Q) := RR.lda_n rfl rfl rfl
theorem r142_76 {a : Nat} : RR S d 142 76 L (.ref a :: st) h Q = kO (ai_fld h a 10 18) (fun w => RR S d 142 79 L (w :: st) h Q) := RR.get rfl rfl rfl
theorem r142_79 : RR S d 142 79 L st h Q = kI (ai_look L 1) (fun x => RR S d 142 80 L (.int x :: st) h Q) := RR.ldi_n rfl rfl rfl
theorem r142_80 {x : Int32} {a : Nat} : RR S d 142 80 L (.int x :: .ref a :: st) h Q = kO (ai_arr h a 0) (fun q => kB (ai_in x q.1) (RR S d 142 81 L (.int (q.2 x.toNatClampNeg) :: st) h Q)) := RR.ial rfl rfl
theorem r142_81 : RR S d 142 81 L st h Q = kA (ai_look L 0) (fun x => RR S d 142 82 L (x :: st) h Q) := RR.lda_n rfl rfl rfl
theorem r142_82 {a : Nat} : RR S d 142 82 L (.ref a :: st) h Q = kO (ai_fld h a 10 19) (fun w => RR S d 142 85 L (w :: st) h Q) := RR.get rfl rfl rfl
theorem r142_85 : RR S d 142 85 L st h Q = kI (ai_look L 1) (fun x => RR S d 142 86 L (.int x :: st) h Q) := RR.ldi_n rfl rfl rfl
theorem r142_86 {x : Int32} {a : Nat} : RR S d 142 86 L (.int x :: .ref a :: st) h Q = kO (ai_arr h a 0) (fun q => kB (ai_in x q.1) (RR S d 142 87 L (.int (q.2 x.toNatClampNeg) :: st) h Q)) := RR.ial rfl rfl
theorem r142_87 : RR S d 142 87 L st h Q = kI (ai_look L 2) (fun x => RR S d 142 88 L (.int x :: st) h Q) := RR.ldi_n rfl rfl rfl
theorem r142_88 : RR S d 142 88 L st h Q = RR S d 142 90 L (.int 20 :: st) h Q := RR.bip (n := 20) rfl (by decide) rfl
theorem r142_90 {x y : Int32} : RR S d 142 90 L (.int y :: .int x :: st) h Q = RR S d 142 91 L (.int (x - y) :: st) h Q := RR.do1 (91, L, .int (x - y) :: st, h) rfl rfl rfl
theorem r142_91 {p0 : Int32} {p1 : Int32} {p2 : Int32} {p3 : Int32} {a : Nat} : RR S (d + 1) 142 91 L (.int p3 :: .int p2 :: .int p1 :: .int p0 :: .ref a :: st) h Q = kB (decide (ai_sum st ≤ 8)) (kB ((ai_obj h a 10).isSome) (RR S d 128 0 [(0, .ref a), (1, .int p0), (2, .int p1), (3, .int p2), (4, .int p3)] [] h (fun r h1 => RR S (d + 1) 142 94 L (r.toList ++ st) h1 Q))) := RR.cv (j := 162) (mn' := 128) (n := 4) rfl rfl rfl rfl rfl rfl
theorem r142_94 {x : Int32} : RR S d 142 94 L [.int x] h Q = Q (some (.int x)) h := RR.rt rfl rfl rfl
theorem r142_95 : RR S d 142 95 L st h Q = kI (ai_look L 2) (fun x => RR S d 142 96 L (.int x :: st) h Q) := RR.ldi_n rfl rfl rfl
theorem r142_128 : RR S d 142 128 L st h Q = kA (ai_look L 0) (fun x => RR S d 142 129 L (x :: st) h Q) := RR.lda_n rfl rfl rfl
theorem r142_129 {a : Nat} : RR S d 142 129 L (.ref a :: st) h Q = kO (ai_fld h a 10 18) (fun w => RR S d 142 132 L (w :: st) h Q) := RR.get rfl rfl rfl
theorem r142_132 : RR S d 142 132 L st h Q = kI (ai_look L 1) (fun x => RR S d 142 133 L (.int x :: st) h Q) := RR.ldi_n rfl rfl rfl
theorem r142_133 {x : Int32} {a : Nat} : RR S d 142 133 L (.int x :: .ref a :: st) h Q = kO (ai_arr h a 0) (fun q => kB (ai_in x q.1) (RR S d 142 134 L (.int (q.2 x.toNatClampNeg) :: st) h Q)) := RR.ial rfl rfl
theorem r142_134 {x : Int32} : RR S d 142 134 L [.int x] h Q = Q (some (.int x)) h := RR.rt rfl rfl rfl
theorem r142_135 : RR S d 142 135 L st h Q = kA (ai_look L 0) (fun x => RR S d 142 136 L (x :: st) h Q) := RR.lda_n rfl rfl rfl
theorem r142_136 {a : Nat} : RR S d 142 136 L (.ref a :: st) h Q = kO (ai_fld h a 10 19) (fun w => RR S d 142 139 L (w :: st) h Q) := RR.get rfl rfl rfl
theorem r142_139 : RR S d 142 139 L st h Q = kI (ai_look L 1) (fun x => RR S d 142 140 L (.int x :: st) h Q) := RR.ldi_n rfl rfl rfl
theorem r142_140 {x : Int32} {a : Nat} : RR S d 142 140 L (.int x :: .ref a :: st) h Q = kO (ai_arr h a 0) (fun q => kB (ai_in x q.1) (RR S d 142 141 L (.int (q.2 x.toNatClampNeg) :: st) h Q)) := RR.ial rfl rfl
theorem r142_141 {x : Int32} : RR S d 142 141 L [.int x] h Q = Q (some (.int x)) h := RR.rt rfl rfl rfl
theorem r142_142 : RR S d 142 142 L st h Q = kI (ai_look L 4) (fun x => RR S d 142 144 L (.int x :: st) h Q) := RR.ldi rfl rfl
theorem r142_144 {x : Int32} : RR S d 142 144 L [.int x] h Q = Q (some (.int x)) h := RR.rt rfl rfl rfl
theorem r142_145 : RR S d 142 145 L st h Q = kA (ai_look L 0) (fun x => RR S d 142 146 L (x :: st) h Q) := RR.lda_n rfl rfl rfl
theorem r142_146 {a : Nat} : RR S d 142 146 L (.ref a :: st) h Q = kO (ai_fld h a 10 16) (fun w => RR S d 142 149 L (w :: st) h Q) := RR.get rfl rfl rfl
theorem r142_149 : RR S d 142 149 L st h Q = kI (ai_look L 3) (fun x => RR S d 142 150 L (.int x :: st) h Q) := RR.ldi_n rfl rfl rfl
theorem r142_150 {x : Int32} {a : Nat} : RR S d 142 150 L (.int x :: .ref a :: st) h Q = kO (ai_arr h a 0) (fun q => kB (ai_in x q.1) (RR S d 142 151 L (.int (q.2 x.toNatClampNeg) :: st) h Q)) := RR.ial rfl rfl
theorem r142_151 {x : Int32} : RR S d 142 151 L [.int x] h Q = Q (some (.int x)) h := RR.rt rfl rfl rfl
theorem r142_152 : RR S d 142 152 L st h Q = RR S d 142 153 L (.int (-1) :: st) h Q := RR.icn (n := (-1)) rfl (by decide) rfl
theorem r142_153 {x : Int32} : RR S d 142 153 L [.int x] h Q = Q (some (.int x)) h := RR.rt rfl rfl rfl
theorem r143_0 : RR S d 143 0 L st h Q = kA (ai_look L 0) (fun x => RR S d 143 1 L (x :: st) h Q) := RR.lda_n rfl rfl rfl
theorem r143_1 {a : Nat} : RR S d 143 1 L (.ref a :: st) h Q = kO (ai_fld h a 10 20) (fun w => RR S d 143 4 L (w :: st) h Q) := RR.get rfl rfl rfl
theorem r143_4 {x : Int32} : RR S d 143 4 L [.int x] h Q = Q (some (.int x)) h := RR.rt rfl rfl rfl
theorem r144_0 : RR S d 144 0 L st h Q = kA (ai_look L 0) (fun x => RR S d 144 1 L (x :: st) h Q) := RR.lda_n rfl rfl rfl
theorem r144_1 : RR S d 144 1 L st h Q = kI (ai_look L 1) (fun x => RR S d 144 2 L (.int x :: st) h Q) := RR.ldi_n rfl rfl rfl
theorem r144_2 {p0 : Int32} {a : Nat} : RR S (d + 1) 144 2 L (.int p0 :: .ref a :: st) h Q = kB (decide (ai_sum st ≤ 8)) (kB ((ai_obj h a 10).isSome) (RR S d 114 0 [(0, .ref a), (1, .int p0)] [] h (fun r h1 => RR S (d + 1) 144 5 L (r.toList ++ st) h1 Q))) := RR.cv (j := 205) (mn' := 114) (n := 1) rfl rfl rfl rfl rfl rfl
theorem r144_5 {x : Int32} : RR S d 144 5 L (.int x :: st) h Q = if x = 0 then RR S d 144 20 L st h Q else RR S d 144 8 L st h Q := RR.b1 (c := .eq) (off := 15) rfl rfl (by decide) rfl
theorem r144_8 : RR S d 144 8 L st h Q = kI (ai_look L 2) (fun x => RR S d 144 9 L (.int x :: st) h Q) := RR.ldi_n rfl rfl rfl
theorem r144_9 {x : Int32} : RR S d 144 9 L (.int x :: st) h Q = if x < 0 then RR S d 144 20 L st h Q else RR S d 144 12 L st h Q := RR.b1 (c := .lt) (off := 11) rfl rfl (by decide) rfl
theorem r144_12 : RR S d 144 12 L st h Q = kI (ai_look L 2) (fun x => RR S d 144 13 L (.int x :: st) h Q) := RR.ldi_n rfl rfl rfl
theorem r144_13 : RR S d 144 13 L st h Q = kA (ai_look L 0) (fun x => RR S d 144 14 L (x :: st) h Q) := RR.lda_n rfl rfl rfl
theorem r144_14 {a : Nat} : RR S d 144 14 L (.ref a :: st) h Q = kO (ai_fld h a 10 8) (fun w => RR S d 144 17 L (w :: st) h Q) := RR.get rfl rfl rfl
theorem r144_17 {x y : Int32} : RR S d 144 17 L (.int y :: .int x :: st) h Q = if x < y then RR S d 144 23 L st h Q else RR S d 144 20 L st h Q := RR.b2 (c := .lt) (off := 6) rfl rfl (by decide) rfl
theorem r144_20 : RR S d 144 20 L st h Q = RR S d 144 22 L (.int (-2) :: st) h Q := RR.bip (n := (-2)) rfl (by decide) rfl
theorem r144_22 {x : Int32} : RR S d 144 22 L [.int x] h Q = Q (some (.int x)) h := RR.rt rfl rfl rfl
theorem r144_23 : RR S d 144 23 L st h Q = kA (ai_look L 0) (fun x => RR S d 144 24 L (x :: st) h Q) := RR.lda_n rfl rfl rfl
theorem r144_24 {a : Nat} : RR S d 144 24 L (.ref a :: st) h Q = kO (ai_fld h a 10 21) (fun w => RR S d 144 27 L (w :: st) h Q) := RR.get rfl rfl rfl
theorem r144_27 : RR S d 144 27 L st h Q = RR S d 144 29 L (.int 120 :: st) h Q := RR.bip (n := 120) rfl (by decide) rfl
theorem r144_29 : RR S d 144 29 L st h Q = kI (ai_look L 1) (fun x => RR S d 144 30 L (.int x :: st) h Q) := RR.ldi_n rfl rfl rfl
theorem r144_30 {x y : Int32} : RR S d 144 30 L (.int y :: .int x :: st) h Q = RR S d 144 31 L (.int (x * y) :: st) h Q := RR.do1 (31, L, .int (x * y) :: st, h) rfl rfl rfl
theorem r144_31 : RR S d 144 31 L st h Q = kI (ai_look L 2) (fun x => RR S d 144 32 L (.int x :: st) h Q) := RR.ldi_n rfl rfl rfl
theorem r144_32 {x y : Int32} : RR S d 144 32 L (.int y :: .int x :: st) h Q = RR S d 144 33 L (.int (x + y) :: st) h Q := RR.do1 (33, L, .int (x + y) :: st, h) rfl rfl rfl
theorem r144_33 {x : Int32} {a : Nat} : RR S d 144 33 L (.int x :: .ref a :: st) h Q = kO (ai_arr h a 0) (fun q => kB (ai_in x q.1) (RR S d 144 34 L (.int (q.2 x.toNatClampNeg) :: st) h Q)) := RR.ial rfl rfl
theorem r144_34 : RR S d 144 34 L st h Q = RR S d 144 35 L (.int 1 :: st) h Q := RR.icn (n := 1) rfl (by decide) rfl
theorem r144_35 {x y : Int32} : RR S d 144 35 L (.int y :: .int x :: st) h Q = RR S d 144 36 L (.int (x - y) :: st) h Q := RR.do1 (36, L, .int (x - y) :: st, h) rfl rfl rfl
theorem r144_36 {x : Int32} : RR S d 144 36 L [.int x] h Q = Q (some (.int x)) h := RR.rt rfl rfl rfl
theorem r145_0 : RR S d 145 0 L st h Q = kI (ai_look L 1) (fun x => RR S d 145 1 L (.int x :: st) h Q) := RR.ldi_n rfl rfl rfl
theorem r145_1 : RR S d 145 1 L st h Q = kA (ai_look L 0) (fun x => RR S d 145 2 L (x :: st) h Q) := RR.lda_n rfl rfl rfl
theorem r145_2 {a : Nat} : RR S d 145 2 L (.ref a :: st) h Q = kO (ai_fld h a 10 8) (fun w => RR S d 145 5 L (w :: st) h Q) := RR.get rfl rfl rfl
theorem r145_5 {x y : Int32} : RR S d 145 5 L (.int y :: .int x :: st) h Q = kB (decide (¬ y = 0)) (RR S d 145 6 L (.int (x - x / y * y) :: st) h Q) := RR.irem rfl rfl
theorem r145_6 {x : Int32} : RR S d 145 6 L (.int x :: st) h Q = RR S d 145 7 (ai_put 2 (.int x) L) st h Q := RR.do1 (7, ai_put 2 (.int x) L, st, h) rfl rfl rfl
theorem r145_7 : RR S d 145 7 L st h Q = kI (ai_look L 2) (fun x => RR S d 145 8 L (.int x :: st) h Q) := RR.ldi_n rfl rfl rfl
theorem r145_8 {x : Int32} : RR S d 145 8 L (.int x :: st) h Q = if 0 ≤ x then RR S d 145 20 L st h Q else RR S d 145 11 L st h Q := RR.b1 (c := .ge) (off := 12) rfl rfl (by decide) rfl
theorem r145_11 : RR S d 145 11 L st h Q = kI (ai_look L 2) (fun x => RR S d 145 12 L (.int x :: st) h Q) := RR.ldi_n rfl rfl rfl
theorem r145_12 : RR S d 145 12 L st h Q = kA (ai_look L 0) (fun x => RR S d 145 13 L (x :: st) h Q) := RR.lda_n rfl rfl rfl
theorem r145_13 {a : Nat} : RR S d 145 13 L (.ref a :: st) h Q = kO (ai_fld h a 10 8) (fun w => RR S d 145 16 L (w :: st) h Q) := RR.get rfl rfl rfl
theorem r145_16 {x y : Int32} : RR S d 145 16 L (.int y :: .int x :: st) h Q = RR S d 145 17 L (.int (x + y) :: st) h Q := RR.do1 (17, L, .int (x + y) :: st, h) rfl rfl rfl
theorem r145_17 : RR S d 145 17 L st h Q = RR S d 145 21 L st h Q := RR.jmp (off := 4) rfl (by decide)
theorem r145_20 : RR S d 145 20 L st h Q = kI (ai_look L 2) (fun x => RR S d 145 21 L (.int x :: st) h Q) := RR.ldi_n rfl rfl rfl
theorem r145_21 {x : Int32} : RR S d 145 21 L [.int x] h Q = Q (some (.int x)) h := RR.rt rfl rfl rfl
theorem r146_0 : RR S d 146 0 L st h Q = RR S d 146 1 L (.int 0 :: st) h Q := RR.icn (n := 0) rfl (by decide) rfl
theorem r146_1 {x : Int32} : RR S d 146 1 L (.int x :: st) h Q = RR S d 146 3 (ai_put 4 (.int x) L) st h Q := RR.do1 (3, ai_put 4 (.int x) L, st, h) rfl rfl rfl
theorem r146_3 : RR S d 146 3 L st h Q = kI (ai_look L 4) (fun x => RR S d 146 5 L (.int x :: st) h Q) := RR.ldi rfl rfl
theorem r146_5 : RR S d 146 5 L st h Q = kI (ai_look L 3) (fun x => RR S d 146 6 L (.int x :: st) h Q) := RR.ldi_n rfl rfl rfl
theorem r146_6 {x y : Int32} : RR S d 146 6 L (.int y :: .int x :: st) h Q = if y ≤ x then RR S d 146 47 L st h Q else RR S d 146 9 L st h Q := RR.b2 (c := .ge) (off := 41) rfl rfl (by decide) rfl
theorem r146_9 : RR S d 146 9 L st h Q = kI (ai_look L 4) (fun x => RR S d 146 11 L (.int x :: st) h Q) := RR.ldi rfl rfl
theorem r146_11 : RR S d 146 11 L st h Q = kA (ai_look L 0) (fun x => RR S d 146 12 L (x :: st) h Q) := RR.lda_n rfl rfl rfl
theorem r146_12 {a : Nat} : RR S d 146 12 L (.ref a :: st) h Q = kO (ai_fld h a 10 8) (fun w => RR S d 146 15 L (w :: st) h Q) := RR.get rfl rfl rfl
theorem r146_15 {x y : Int32} : RR S d 146 15 L (.int y :: .int x :: st) h Q = if y ≤ x then RR S d 146 47 L st h Q else RR S d 146 18 L st h Q := RR.b2 (c := .ge) (off := 32) rfl rfl (by decide) rfl
theorem r146_18 : RR S d 146 18 L st h Q = kA (ai_look L 0) (fun x => RR S d 146 19 L (x :: st) h Q) := RR.lda_n rfl rfl rfl
theorem r146_19 {a : Nat} : RR S d 146 19 L (.ref a :: st) h Q = kO (ai_fld h a 10 21) (fun w => RR S d 146 22 L (w :: st) h Q) := RR.get rfl rfl rfl
theorem r146_22 : RR S d 146 22 L st h Q = RR S d 146 24 L (.int 120 :: st) h Q := RR.bip (n := 120) rfl (by decide) rfl
theorem r146_24 : RR S d 146 24 L st h Q = kI (ai_look L 1) (fun x => RR S d 146 25 L (.int x :: st) h Q) := RR.ldi_n rfl rfl rfl
theorem r146_25 {x y : Int32} : RR S d 146 25 L (.int y :: .int x :: st) h Q = RR S d 146 26 L (.int (x * y) :: st) h Q := RR.do1 (26, L, .int (x * y) :: st, h) rfl rfl rfl
theorem r146_26 : RR S d 146 26 L st h Q = kA (ai_look L 0) (fun x => RR S d 146 27 L (x :: st) h Q) := RR.lda_n rfl rfl rfl
theorem r146_27 : RR S d 146 27 L st h Q = kI (ai_look L 2) (fun x => RR S d 146 28 L (.int x :: st) h Q) := RR.ldi_n rfl rfl rfl
theorem r146_28 : RR S d 146 28 L st h Q = kI (ai_look L 4) (fun x => RR S d 146 30 L (.int x :: st) h Q) := RR.ldi rfl rfl
theorem r146_30 {x y : Int32} : RR S d 146 30 L (.int y :: .int x :: st) h Q = RR S d 146 31 L (.int (x + y) :: st) h Q := RR.do1 (31, L, .int (x + y) :: st, h) rfl rfl rfl
theorem r146_31 {p0 : Int32} {a : Nat} : RR S (d + 1) 146 31 L (.int p0 :: .ref a :: st) h Q = kB (decide (ai_sum st ≤ 8)) (kB ((ai_obj h a 10).isSome) (RR S d 145 0 [(0, .ref a), (1, .int p0)] [] h (fun r h1 => RR S (d + 1) 146 34 L (r.toList ++ st) h1 Q))) := RR.cv (j := 208) (mn' := 145) (n := 1) rfl rfl rfl rfl rfl rfl
theorem r146_34 {x y : Int32} : RR S d 146 34 L (.int y :: .int x :: st) h Q = RR S d 146 35 L (.int (x + y) :: st) h Q := RR.do1 (35, L, .int (x + y) :: st, h) rfl rfl rfl
theorem r146_35 {x : Int32} {a : Nat} : RR S d 146 35 L (.int x :: .ref a :: st) h Q = kO (ai_arr h a 0) (fun q => kB (ai_in x q.1) (RR S d 146 36 L (.int (q.2 x.toNatClampNeg) :: st) h Q)) := RR.ial rfl rfl
theorem r146_36 {x : Int32} : RR S d 146 36 L (.int x :: st) h Q = if x = 0 then RR S d 146 41 L st h Q else RR S d 146 39 L st h Q := RR.b1 (c := .eq) (off := 5) rfl rfl (by decide) rfl
theorem r146_39 : RR S d 146 39 L st h Q = RR S d 146 40 L (.int 0 :: st) h Q := RR.icn (n := 0) rfl (by decide) rfl
theorem r146_40f : RR S d 146 40 L [.int 0] h Q = Q (some (.int 0)) h := RR.zrt rfl rfl (by decide)
theorem r146_40t : RR S d 146 40 L [.int 1] h Q = Q (some (.int 1)) h := RR.zrt rfl rfl (by decide)
theorem r146_41 : RR S d 146 41 L st h Q = kI (ai_look L 4) (fun x => RR S d 146 44 (ai_put 4 (.int (x + 1)) L) st h Q) := RR.iinc (k := 4) (n := 1) rfl (by decide) (by decide) rfl
theorem r146_44 : RR S d 146 44 L st h Q = RR S d 146 3 L st h Q := RR.jmp (off := (-41)) rfl (by decide)
theorem r146_47 : RR S d 146 47 L st h Q = RR S d 146 48 L (.int 1 :: st) h Q := RR.icn (n := 1) rfl (by decide) rfl
theorem r146_48f : RR S d 146 48 L [.int 0] h Q = Q (some (.int 0)) h := RR.zrt rfl rfl (by decide)
theorem r146_48t : RR S d 146 48 L [.int 1] h Q = Q (some (.int 1)) h := RR.zrt rfl rfl (by decide)
theorem r147_0 : RR S d 147 0 L st h Q = kA (ai_look L 0) (fun x => RR S d 147 1 L (x :: st) h Q) := RR.lda_n rfl rfl rfl
theorem r147_1 : RR S d 147 1 L st h Q = kI (ai_look L 1) (fun x => RR S d 147 2 L (.int x :: st) h Q) := RR.ldi_n rfl rfl rfl
theorem r147_2 {p0 : Int32} {a : Nat} : RR S (d + 1) 147 2 L (.int p0 :: .ref a :: st) h Q = kB (decide (ai_sum st ≤ 8)) (kB ((ai_obj h a 10).isSome) (RR S d 114 0 [(0, .ref a), (1, .int p0)] [] h (fun r h1 => RR S (d + 1) 147 5 L (r.toList ++ st) h1 Q))) := RR.cv (j := 205) (mn' := 114) (n := 1) rfl rfl rfl rfl rfl rfl
theorem r147_5 {x : Int32} : RR S d 147 5 L (.int x :: st) h Q = if x = 0 then RR S d 147 27 L st h Q else RR S d 147 8 L st h Q := RR.b1 (c := .eq) (off := 22) rfl rfl (by decide) rfl
theorem r147_8 : RR S d 147 8 L st h Q = kI (ai_look L 2) (fun x => RR S d 147 9 L (.int x :: st) h Q) := RR.ldi_n rfl rfl rfl
theorem r147_9 {x : Int32} : RR S d 147 9 L (.int x :: st) h Q = if x < 0 then RR S d 147 27 L st h Q else RR S d 147 12 L st h Q := RR.b1 (c := .lt) (off := 18) rfl rfl (by decide) rfl
theorem r147_12 : RR S d 147 12 L st h Q = kI (ai_look L 2) (fun x => RR S d 147 13 L (.int x :: st) h Q) := RR.ldi_n rfl rfl rfl
theorem r147_13 : RR S d 147 13 L st h Q = kA (ai_look L 0) (fun x => RR S d 147 14 L (x :: st) h Q) := RR.lda_n rfl rfl rfl
theorem r147_14 {a : Nat} : RR S d 147 14 L (.ref a :: st) h Q = kO (ai_fld h a 10 8) (fun w => RR S d 147 17 L (w :: st) h Q) := RR.get rfl rfl rfl
theorem r147_17 {x y : Int32} : RR S d 147 17 L (.int y :: .int x :: st) h Q = if y ≤ x then RR S d 147 27 L st h Q else RR S d 147 20 L st h Q := RR.b2 (c := .ge) (off := 10) rfl rfl (by decide) rfl
theorem r147_20 : RR S d 147 20 L st h Q = kI (ai_look L 3) (fun x => RR S d 147 21 L (.int x :: st) h Q) := RR.ldi_n rfl rfl rfl
theorem r147_21 {p0 : Int32} : RR S (d + 1) 147 21 L (.int p0 :: st) h Q = kB (decide (ai_sum st ≤ 8)) (RR S d 124 0 [(0, .int p0)] [] h (fun r h1 => RR S (d + 1) 147 24 L (r.toList ++ st) h1 Q)) := RR.cs (j := 152) (mn' := 124) (n := 1) rfl rfl rfl rfl (by simp) rfl rfl
theorem r147_24 {x : Int32} : RR S d 147 24 L (.int x :: st) h Q = if ¬ x = 0 then RR S d 147 30 L st h Q else RR S d 147 27 L st h Q := RR.b1 (c := .ne) (off := 6) rfl rfl (by decide) rfl
theorem r147_27 : RR S d 147 27 L st h Q = RR S d 147 29 L (.int (-2) :: st) h Q := RR.bip (n := (-2)) rfl (by decide) rfl
theorem r147_29 {x : Int32} : RR S d 147 29 L [.int x] h Q = Q (some (.int x)) h := RR.rt rfl rfl rfl
theorem r147_30 : RR S d 147 30 L st h Q = RR S d 147 31 L (.int 0 :: st) h Q := RR.icn (n := 0) rfl (by decide) rfl
theorem r147_31 {x : Int32} : RR S d 147 31 L (.int x :: st) h Q = RR S d 147 33 (ai_put 4 (.int x) L) st h Q := RR.do1 (33, ai_put 4 (.int x) L, st, h) rfl rfl rfl
theorem r147_33 : RR S d 147 33 L st h Q = kI (ai_look L 4) (fun x => RR S d 147 35 L (.int x :: st) h Q) := RR.ldi rfl rfl
theorem r147_35 : RR S d 147 35 L st h Q = kA (ai_look L 0) (fun x => RR S d 147 36 L (x :: st) h Q) := RR.lda_n rfl rfl rfl
theorem r147_36 {a : Nat} : RR S d 147 36 L (.ref a :: st) h Q = kO (ai_fld h a 10 8) (fun w => RR S d 147 39 L (w :: st) h Q) := RR.get rfl rfl rfl
theorem r147_39 {x y : Int32} : RR S d 147 39 L (.int y :: .int x :: st) h Q = if y ≤ x then RR S d 147 71 L st h Q else RR S d 147 42 L st h Q := RR.b2 (c := .ge) (off := 32) rfl rfl (by decide) rfl
theorem r147_42 : RR S d 147 42 L st h Q = kA (ai_look L 0) (fun x => RR S d 147 43 L (x :: st) h Q) := RR.lda_n rfl rfl rfl
theorem r147_43 : RR S d 147 43 L st h Q = kI (ai_look L 1) (fun x => RR S d 147 44 L (.int x :: st) h Q) := RR.ldi_n rfl rfl rfl
theorem r147_44 : RR S d 147 44 L st h Q = kI (ai_look L 2) (fun x => RR S d 147 45 L (.int x :: st) h Q) := RR.ldi_n rfl rfl rfl
theorem r147_45 : RR S d 147 45 L st h Q = kI (ai_look L 4) (fun x => RR S d 147 47 L (.int x :: st) h Q) := RR.ldi rfl rfl
theorem r147_47 {x y : Int32} : RR S d 147 47 L (.int y :: .int x :: st) h Q = RR S d 147 48 L (.int (x + y) :: st) h Q := RR.do1 (48, L, .int (x + y) :: st, h) rfl rfl rfl
theorem r147_48 : RR S d 147 48 L st h Q = kI (ai_look L 3) (fun x => RR S d 147 49 L (.int x :: st) h Q) := RR.ldi_n rfl rfl rfl
theorem r147_49 : RR S d 147 49 L st h Q = kA (ai_look L 0) (fun x => RR S d 147 50 L (x :: st) h Q) := RR.lda_n rfl rfl rfl
theorem r147_50 {a : Nat} : RR S d 147 50 L (.ref a :: st) h Q = kO (ai_fld h a 10 7) (fun w => RR S d 147 53 L (w :: st) h Q) := RR.get rfl rfl rfl
theorem r147_53 : RR S d 147 53 L st h Q = kI (ai_look L 1) (fun x => RR S d 147 54 L (.int x :: st) h Q) := RR.ldi_n rfl rfl rfl
theorem r147_54 {x : Int32} {a : Nat} : RR S d 147 54 L (.int x :: .ref a :: st) h Q = kO (ai_arr h a 0) (fun q => kB (ai_in x q.1) (RR S d 147 55 L (.int (q.2 x.toNatClampNeg) :: st) h Q)) := RR.ial rfl rfl
theorem r147_55 {x y : Int32} : RR S d 147 55 L (.int y :: .int x :: st) h Q = RR S d 147 56 L (.int (x * y) :: st) h Q := RR.do1 (56, L, .int (x * y) :: st, h) rfl rfl rfl
theorem r147_56 {p0 : Int32} {p1 : Int32} {p2 : Int32} {a : Nat} : RR S (d + 1) 147 56 L (.int p2 :: .int p1 :: .int p0 :: .ref a :: st) h Q = kB (decide (ai_sum st ≤ 8)) (kB ((ai_obj h a 10).isSome) (RR S d 146 0 [(0, .ref a), (1, .int p0), (2, .int p1), (3, .int p2)] [] h (fun r h1 => RR S (d + 1) 147 59 L (r.toList ++ st) h1 Q))) := RR.cv (j := 211) (mn' := 146) (n := 3) rfl rfl rfl rfl rfl rfl
theorem r147_59 {x : Int32} : RR S d 147 59 L (.int x :: st) h Q = if x = 0 then RR S d 147 65 L st h Q else RR S d 147 62 L st h Q := RR.b1 (c := .eq) (off := 6) rfl rfl (by decide) rfl
theorem r147_62 : RR S d 147 62 L st h Q = kI (ai_look L 4) (fun x => RR S d 147 64 L (.int x :: st) h Q) := RR.ldi rfl rfl
theorem r147_64 {x : Int32} : RR S d 147 64 L [.int x] h Q = Q (some (.int x)) h := RR.rt rfl rfl rfl
theorem r147_65 : RR S d 147 65 L st h Q = kI (ai_look L 4) (fun x => RR S d 147 68 (ai_put 4 (.int (x + 1)) L) st h Q) := RR.iinc (k := 4) (n := 1) rfl (by decide) (by decide) rfl
theorem r147_68 : RR S d 147 68 L st h Q = RR S d 147 33 L st h Q := RR.jmp (off := (-35)) rfl (by decide)
theorem r147_71 : RR S d 147 71 L st h Q = RR S d 147 72 L (.int (-1) :: st) h Q := RR.icn (n := (-1)) rfl (by decide) rfl
theorem r147_72 {x : Int32} : RR S d 147 72 L [.int x] h Q = Q (some (.int x)) h := RR.rt rfl rfl rfl
theorem r148_0 : RR S d 148 0 L st h Q = kA (ai_look L 0) (fun x => RR S d 148 1 L (x :: st) h Q) := RR.lda_n rfl rfl rfl
theorem r148_1 : RR S d 148 1 L st h Q = kI (ai_look L 1) (fun x => RR S d 148 2 L (.int x :: st) h Q) := RR.ldi_n rfl rfl rfl
theorem r148_2 {p0 : Int32} {a : Nat} : RR S (d + 1) 148 2 L (.int p0 :: .ref a :: st) h Q = kB (decide (ai_sum st ≤ 8)) (kB ((ai_obj h a 10).isSome) (RR S d 114 0 [(0, .ref a), (1, .int p0)] [] h (fun r h1 => RR S (d + 1) 148 5 L (r.toList ++ st) h1 Q))) := RR.cv (j := 205) (mn' := 114) (n := 1) rfl rfl rfl rfl rfl rfl
theorem r148_5 {x : Int32} : RR S d 148 5 L (.int x :: st) h Q = if x = 0 then RR S d 148 15 L st h Q else RR S d 148 8 L st h Q := RR.b1 (c := .eq) (off := 10) rfl rfl (by decide) rfl
theorem r148_8 : RR S d 148 8 L st h Q = kI (ai_look L 2) (fun x => RR S d 148 9 L (.int x :: st) h Q) := RR.ldi_n rfl rfl rfl
theorem r148_9 {p0 : Int32} : RR S (d + 1) 148 9 L (.int p0 :: st) h Q = kB (decide (ai_sum st ≤ 8)) (RR S d 124 0 [(0, .int p0)] [] h (fun r h1 => RR S (d + 1) 148 12 L (r.toList ++ st) h1 Q)) := RR.cs (j := 152) (mn' := 124) (n := 1) rfl rfl rfl rfl (by simp) rfl rfl
theorem r148_12 {x : Int32} : RR S d 148 12 L (.int x :: st) h Q = if ¬ x = 0 then RR S d 148 18 L st h Q else RR S d 148 15 L st h Q := RR.b1 (c := .ne) (off := 6) rfl rfl (by decide) rfl
theorem r148_15 : RR S d 148 15 L st h Q = RR S d 148 17 L (.int (-2) :: st) h Q := RR.bip (n := (-2)) rfl (by decide) rfl
theorem r148_17 {x : Int32} : RR S d 148 17 L [.int x] h Q = Q (some (.int x)) h := RR.rt rfl rfl rfl
theorem r148_18 : RR S d 148 18 L st h Q = RR S d 148 19 L (.int 0 :: st) h Q := RR.icn (n := 0) rfl (by decide) rfl
theorem r148_19 {x : Int32} : RR S d 148 19 L (.int x :: st) h Q = RR S d 148 20 (ai_put 3 (.int x) L) st h Q := RR.do1 (20, ai_put 3 (.int x) L, st, h) rfl rfl rfl
theorem r148_20 : RR S d 148 20 L st h Q = RR S d 148 21 L (.int 0 :: st) h Q := RR.icn (n := 0) rfl (by decide) rfl
theorem r148_21 {x : Int32} : RR S d 148 21 L (.int x :: st) h Q = RR S d 148 23 (ai_put 4 (.int x) L) st h Q := RR.do1 (23, ai_put 4 (.int x) L, st, h) rfl rfl rfl
theorem r148_23 : RR S d 148 23 L st h Q = kI (ai_look L 4) (fun x => RR S d 148 25 L (.int x :: st) h Q) := RR.ldi rfl rfl
theorem r148_25 : RR S d 148 25 L st h Q = kA (ai_look L 0) (fun x => RR S d 148 26 L (x :: st) h Q) := RR.lda_n rfl rfl rfl
theorem r148_26 {a : Nat} : RR S d 148 26 L (.ref a :: st) h Q = kO (ai_fld h a 10 8) (fun w => RR S d 148 29 L (w :: st) h Q) := RR.get rfl rfl rfl
theorem r148_29 {x y : Int32} : RR S d 148 29 L (.int y :: .int x :: st) h Q = if y ≤ x then RR S d 148 74 L st h Q else RR S d 148 32 L st h Q := RR.b2 (c := .ge) (off := 45) rfl rfl (by decide) rfl
theorem r148_32 : RR S d 148 32 L st h Q = kI (ai_look L 3) (fun x => RR S d 148 33 L (.int x :: st) h Q) := RR.ldi_n rfl rfl rfl
theorem r148_33 {x : Int32} : RR S d 148 33 L (.int x :: st) h Q = if x < 0 then RR S d 148 74 L st h Q else RR S d 148 36 L st h Q := RR.b1 (c := .lt) (off := 41) rfl rfl (by decide) rfl
theorem r148_36 : RR S d 148 36 L st h Q = kA (ai_look L 0) (fun x => RR S d 148 37 L (x :: st) h Q) := RR.lda_n rfl rfl rfl
theorem r148_37 : RR S d 148 37 L st h Q = kI (ai_look L 1) (fun x => RR S d 148 38 L (.int x :: st) h Q) := RR.ldi_n rfl rfl rfl
theorem r148_38 : RR S d 148 38 L st h Q = kI (ai_look L 4) (fun x => RR S d 148 40 L (.int x :: st) h Q) := RR.ldi rfl rfl
theorem r148_40 : RR S d 148 40 L st h Q = kI (ai_look L 2) (fun x => RR S d 148 41 L (.int x :: st) h Q) := RR.ldi_n rfl rfl rfl
theorem r148_41 {p0 : Int32} {p1 : Int32} {p2 : Int32} {a : Nat} : RR S (d + 1) 148 41 L (.int p2 :: .int p1 :: .int p0 :: .ref a :: st) h Q = kB (decide (ai_sum st ≤ 8)) (kB ((ai_obj h a 10).isSome) (RR S d 147 0 [(0, .ref a), (1, .int p0), (2, .int p1), (3, .int p2)] [] h (fun r h1 => RR S (d + 1) 148 44 L (r.toList ++ st) h1 Q))) := RR.cv (j := 214) (mn' := 147) (n := 3) rfl rfl rfl rfl rfl rfl
theorem r148_44 {x : Int32} : RR S d 148 44 L (.int x :: st) h Q = RR S d 148 46 (ai_put 5 (.int x) L) st h Q := RR.do1 (46, ai_put 5 (.int x) L, st, h) rfl rfl rfl
theorem r148_46 : RR S d 148 46 L st h Q = kI (ai_look L 5) (fun x => RR S d 148 48 L (.int x :: st) h Q) := RR.ldi rfl rfl
theorem r148_48 {x : Int32} : RR S d 148 48 L (.int x :: st) h Q = if 0 ≤ x then RR S d 148 55 L st h Q else RR S d 148 51 L st h Q := RR.b1 (c := .ge) (off := 7) rfl rfl (by decide) rfl
theorem r148_51 : RR S d 148 51 L st h Q = RR S d 148 52 L (.int (-1) :: st) h Q := RR.icn (n := (-1)) rfl (by decide) rfl
theorem r148_52 : RR S d 148 52 L st h Q = RR S d 148 67 L st h Q := RR.jmp (off := 15) rfl (by decide)
theorem r148_55 : RR S d 148 55 L st h Q = kI (ai_look L 5) (fun x => RR S d 148 57 L (.int x :: st) h Q) := RR.ldi rfl rfl
theorem r148_57 : RR S d 148 57 L st h Q = kI (ai_look L 3) (fun x => RR S d 148 58 L (.int x :: st) h Q) := RR.ldi_n rfl rfl rfl
theorem r148_58 {x y : Int32} : RR S d 148 58 L (.int y :: .int x :: st) h Q = if x ≤ y then RR S d 148 66 L st h Q else RR S d 148 61 L st h Q := RR.b2 (c := .le) (off := 8) rfl rfl (by decide) rfl
theorem r148_61 : RR S d 148 61 L st h Q = kI (ai_look L 5) (fun x => RR S d 148 63 L (.int x :: st) h Q) := RR.ldi rfl rfl
theorem r148_63 : RR S d 148 63 L st h Q = RR S d 148 67 L st h Q := RR.jmp (off := 4) rfl (by decide)
theorem r148_66 : RR S d 148 66 L st h Q = kI (ai_look L 3) (fun x => RR S d 148 67 L (.int x :: st) h Q) := RR.ldi_n rfl rfl rfl
theorem r148_67 {x : Int32} : RR S d 148 67 L (.int x :: st) h Q = RR S d 148 68 (ai_put 3 (.int x) L) st h Q := RR.do1 (68, ai_put 3 (.int x) L, st, h) rfl rfl rfl
theorem r148_68 : RR S d 148 68 L st h Q = kI (ai_look L 4) (fun x => RR S d 148 71 (ai_put 4 (.int (x + 1)) L) st h Q) := RR.iinc (k := 4) (n := 1) rfl (by decide) (by decide) rfl
theorem r148_71 : RR S d 148 71 L st h Q = RR S d 148 23 L st h Q := RR.jmp (off := (-48)) rfl (by decide)
theorem r148_74 : RR S d 148 74 L st h Q = kI (ai_look L 3) (fun x => RR S d 148 75 L (.int x :: st) h Q) := RR.ldi_n rfl rfl rfl
theorem r148_75 {x : Int32} : RR S d 148 75 L [.int x] h Q = Q (some (.int x)) h := RR.rt rfl rfl rfl
theorem r149_0 : RR S d 149 0 L st h Q = kA (ai_look L 0) (fun x => RR S d 149 1 L (x :: st) h Q) := RR.lda_n rfl rfl rfl
theorem r149_1 : RR S d 149 1 L st h Q = kI (ai_look L 1) (fun x => RR S d 149 2 L (.int x :: st) h Q) := RR.ldi_n rfl rfl rfl
theorem r149_2 {p0 : Int32} {a : Nat} : RR S (d + 1) 149 2 L (.int p0 :: .ref a :: st) h Q = kB (decide (ai_sum st ≤ 8)) (kB ((ai_obj h a 10).isSome) (RR S d 113 0 [(0, .ref a), (1, .int p0)] [] h (fun r h1 => RR S (d + 1) 149 5 L (r.toList ++ st) h1 Q))) := RR.cv (j := 121) (mn' := 113) (n := 1) rfl rfl rfl rfl rfl rfl
theorem r149_5 {x : Int32} : RR S d 149 5 L (.int x :: st) h Q = if x = 0 then RR S d 149 25 L st h Q else RR S d 149 8 L st h Q := RR.b1 (c := .eq) (off := 20) rfl rfl (by decide) rfl
theorem r149_8 : RR S d 149 8 L st h Q = kI (ai_look L 2) (fun x => RR S d 149 9 L (.int x :: st) h Q) := RR.ldi_n rfl rfl rfl
theorem r149_9 : RR S d 149 9 L st h Q = kA (ai_look L 0) (fun x => RR S d 149 10 L (x :: st) h Q) := RR.lda_n rfl rfl rfl
theorem r149_10 {a : Nat} : RR S d 149 10 L (.ref a :: st) h Q = kO (ai_fld h a 10 9) (fun w => RR S d 149 13 L (w :: st) h Q) := RR.get rfl rfl rfl
theorem r149_13 {x : Int32} : RR S d 149 13 L (.int x :: st) h Q = RR S d 149 14 L (.int (-x) :: st) h Q := RR.do1 (14, L, .int (-x) :: st, h) rfl rfl rfl
theorem r149_14 {x y : Int32} : RR S d 149 14 L (.int y :: .int x :: st) h Q = if x < y then RR S d 149 25 L st h Q else RR S d 149 17 L st h Q := RR.b2 (c := .lt) (off := 11) rfl rfl (by decide) rfl
theorem r149_17 : RR S d 149 17 L st h Q = kI (ai_look L 2) (fun x => RR S d 149 18 L (.int x :: st) h Q) := RR.ldi_n rfl rfl rfl
theorem r149_18 : RR S d 149 18 L st h Q = kA (ai_look L 0) (fun x => RR S d 149 19 L (x :: st) h Q) := RR.lda_n rfl rfl rfl
theorem r149_19 {a : Nat} : RR S d 149 19 L (.ref a :: st) h Q = kO (ai_fld h a 10 9) (fun w => RR S d 149 22 L (w :: st) h Q) := RR.get rfl rfl rfl
theorem r149_22 {x y : Int32} : RR S d 149 22 L (.int y :: .int x :: st) h Q = if x ≤ y then RR S d 149 27 L st h Q else RR S d 149 25 L st h Q := RR.b2 (c := .le) (off := 5) rfl rfl (by decide) rfl
theorem r149_25 : RR S d 149 25 L st h Q = RR S d 149 26 L (.int 0 :: st) h Q := RR.icn (n := 0) rfl (by decide) rfl
theorem r149_26f : RR S d 149 26 L [.int 0] h Q = Q (some (.int 0)) h := RR.zrt rfl rfl (by decide)
theorem r149_26t : RR S d 149 26 L [.int 1] h Q = Q (some (.int 1)) h := RR.zrt rfl rfl (by decide)
theorem r149_27 : RR S d 149 27 L st h Q = kA (ai_look L 0) (fun x => RR S d 149 28 L (x :: st) h Q) := RR.lda_n rfl rfl rfl
theorem r149_28 {a : Nat} : RR S d 149 28 L (.ref a :: st) h Q = kO (ai_fld h a 10 2) (fun w => RR S d 149 31 L (w :: st) h Q) := RR.get rfl rfl rfl
theorem r149_31 : RR S d 149 31 L st h Q = kI (ai_look L 1) (fun x => RR S d 149 32 L (.int x :: st) h Q) := RR.ldi_n rfl rfl rfl
theorem r149_32 : RR S d 149 32 L st h Q = kI (ai_look L 2) (fun x => RR S d 149 33 L (.int x :: st) h Q) := RR.ldi_n rfl rfl rfl
theorem r149_33 {x y : Int32} {a : Nat} : RR S d 149 33 L (.int y :: .int x :: .ref a :: st) h Q = kO (ai_arr h a 0) (fun q => kB (ai_in x q.1) (RR S d 149 34 L st (h.1.set a (.inl (0, q.1, .inl (upd q.2 x.toNatClampNeg y))), h.2) Q)) := RR.ias rfl rfl
theorem r149_34 : RR S d 149 34 L st h Q = kA (ai_look L 0) (fun x => RR S d 149 35 L (x :: st) h Q) := RR.lda_n rfl rfl rfl
theorem r149_35 : RR S d 149 35 L st h Q = RR S d 149 36 L (.int 1 :: st) h Q := RR.icn (n := 1) rfl (by decide) rfl
theorem r149_36t {a : Nat} : RR S d 149 36 L (.int 1 :: .ref a :: st) h Q = kO (ai_obj h a 10) (fun fs => kB (decide (35 < fs.length)) (RR S d 149 39 L st (h.1.set a (.inr (10, fs.set 35 (.int 1))), h.2) Q)) := RR.put rfl rfl (by decide +kernel) rfl
theorem r149_36f {a : Nat} : RR S d 149 36 L (.int 0 :: .ref a :: st) h Q = kO (ai_obj h a 10) (fun fs => kB (decide (35 < fs.length)) (RR S d 149 39 L st (h.1.set a (.inr (10, fs.set 35 (.int 0))), h.2) Q)) := RR.put rfl rfl (by decide +kernel) rfl
theorem r149_39 : RR S d 149 39 L st h Q = RR S d 149 40 L (.int 1 :: st) h Q := RR.icn (n := 1) rfl (by decide) rfl
theorem r149_40f : RR S d 149 40 L [.int 0] h Q = Q (some (.int 0)) h := RR.zrt rfl rfl (by decide)
theorem r149_40t : RR S d 149 40 L [.int 1] h Q = Q (some (.int 1)) h := RR.zrt rfl rfl (by decide)
theorem r150_0 : RR S d 150 0 L st h Q = kA (ai_look L 0) (fun x => RR S d 150 1 L (x :: st) h Q) := RR.lda_n rfl rfl rfl
theorem r150_1 {a : Nat} : RR S d 150 1 L (.ref a :: st) h Q = kO (ai_fld h a 10 22) (fun w => RR S d 150 4 L (w :: st) h Q) := RR.get rfl rfl rfl
theorem r150_4 : RR S d 150 4 L st h Q = RR S d 150 6 L (.int 60 :: st) h Q := RR.bip (n := 60) rfl (by decide) rfl
theorem r150_6 {x y : Int32} : RR S d 150 6 L (.int y :: .int x :: st) h Q = if x = y then RR S d 150 49 L st h Q else RR S d 150 9 L st h Q := RR.b2 (c := .eq) (off := 43) rfl rfl (by decide) rfl
theorem r150_9 : RR S d 150 9 L st h Q = kI (ai_look L 1) (fun x => RR S d 150 10 L (.int x :: st) h Q) := RR.ldi_n rfl rfl rfl
theorem r150_10 {x : Int32} : RR S d 150 10 L (.int x :: st) h Q = if x < 0 then RR S d 150 49 L st h Q else RR S d 150 13 L st h Q := RR.b1 (c := .lt) (off := 39) rfl rfl (by decide) rfl
theorem r150_13 : RR S d 150 13 L st h Q = kI (ai_look L 1) (fun x => RR S d 150 14 L (.int x :: st) h Q) := RR.ldi_n rfl rfl rfl
theorem r150_14 : RR S d 150 14 L st h Q = RR S d 150 17 L (.int 999 :: st) h Q := RR.sip (n := 999) rfl (by decide) rfl
theorem r150_17 {x y : Int32} : RR S d 150 17 L (.int y :: .int x :: st) h Q = if y < x then RR S d 150 49 L st h Q else RR S d 150 20 L st h Q := RR.b2 (c := .gt) (off := 32) rfl rfl (by decide) rfl
theorem r150_20 : RR S d 150 20 L st h Q = kA (ai_look L 0) (fun x => RR S d 150 21 L (x :: st) h Q) := RR.lda_n rfl rfl rfl
theorem r150_21 : RR S d 150 21 L st h Q = kI (ai_look L 2) (fun x => RR S d 150 22 L (.int x :: st) h Q) := RR.ldi_n rfl rfl rfl
theorem r150_22 {p0 : Int32} {a : Nat} : RR S (d + 1) 150 22 L (.int p0 :: .ref a :: st) h Q = kB (decide (ai_sum st ≤ 8)) (kB ((ai_obj h a 10).isSome) (RR S d 113 0 [(0, .ref a), (1, .int p0)] [] h (fun r h1 => RR S (d + 1) 150 25 L (r.toList ++ st) h1 Q))) := RR.cv (j := 121) (mn' := 113) (n := 1) rfl rfl rfl rfl rfl rfl
theorem r150_25 {x : Int32} : RR S d 150 25 L (.int x :: st) h Q = if x = 0 then RR S d 150 49 L st h Q else RR S d 150 28 L st h Q := RR.b1 (c := .eq) (off := 24) rfl rfl (by decide) rfl
theorem r150_28 : RR S d 150 28 L st h Q = kA (ai_look L 0) (fun x => RR S d 150 29 L (x :: st) h Q) := RR.lda_n rfl rfl rfl
theorem r150_29 : RR S d 150 29 L st h Q = kI (ai_look L 3) (fun x => RR S d 150 30 L (.int x :: st) h Q) := RR.ldi_n rfl rfl rfl
theorem r150_30 {p0 : Int32} {a : Nat} : RR S (d + 1) 150 30 L (.int p0 :: .ref a :: st) h Q = kB (decide (ai_sum st ≤ 8)) (kB ((ai_obj h a 10).isSome) (RR S d 113 0 [(0, .ref a), (1, .int p0)] [] h (fun r h1 => RR S (d + 1) 150 33 L (r.toList ++ st) h1 Q))) := RR.cv (j := 121) (mn' := 113) (n := 1) rfl rfl rfl rfl rfl rfl
theorem r150_33 {x : Int32} : RR S d 150 33 L (.int x :: st) h Q = if x = 0 then RR S d 150 49 L st h Q else RR S d 150 36 L st h Q := RR.b1 (c := .eq) (off := 16) rfl rfl (by decide) rfl
theorem r150_36 : RR S d 150 36 L st h Q = kI (ai_look L 2) (fun x => RR S d 150 37 L (.int x :: st) h Q) := RR.ldi_n rfl rfl rfl
theorem r150_37 : RR S d 150 37 L st h Q = kI (ai_look L 3) (fun x => RR S d 150 38 L (.int x :: st) h Q) := RR.ldi_n rfl rfl rfl
theorem r150_38 {x y : Int32} : RR S d 150 38 L (.int y :: .int x :: st) h Q = if x = y then RR S d 150 49 L st h Q else RR S d 150 41 L st h Q := RR.b2 (c := .eq) (off := 11) rfl rfl (by decide) rfl
theorem r150_41 : RR S d 150 41 L st h Q = kI (ai_look L 4) (fun x => RR S d 150 43 L (.int x :: st) h Q) := RR.ldi rfl rfl
theorem r150_43 {p0 : Int32} : RR S (d + 1) 150 43 L (.int p0 :: st) h Q = kB (decide (ai_sum st ≤ 8)) (RR S d 124 0 [(0, .int p0)] [] h (fun r h1 => RR S (d + 1) 150 46 L (r.toList ++ st) h1 Q)) := RR.cs (j := 152) (mn' := 124) (n := 1) rfl rfl rfl rfl (by simp) rfl rfl
theorem r150_46 {x : Int32} : RR S d 150 46 L (.int x :: st) h Q = if ¬ x = 0 then RR S d 150 51 L st h Q else RR S d 150 49 L st h Q := RR.b1 (c := .ne) (off := 5) rfl rfl (by decide) rfl
theorem r150_49 : RR S d 150 49 L st h Q = RR S d 150 50 L (.int (-1) :: st) h Q := RR.icn (n := (-1)) rfl (by decide) rfl
theorem r150_50 {x : Int32} : RR S d 150 50 L [.int x] h Q = Q (some (.int x)) h := RR.rt rfl rfl rfl
theorem r150_51 : RR S d 150 51 L st h Q = kA (ai_look L 0) (fun x => RR S d 150 52 L (x :: st) h Q) := RR.lda_n rfl rfl rfl
theorem r150_52 : RR S d 150 52 L st h Q = kI (ai_look L 2) (fun x => RR S d 150 53 L (.int x :: st) h Q) := RR.ldi_n rfl rfl rfl
theorem r150_53 : RR S d 150 53 L st h Q = kI (ai_look L 3) (fun x => RR S d 150 54 L (.int x :: st) h Q) := RR.ldi_n rfl rfl rfl
theorem r150_54 : RR S d 150 54 L st h Q = kI (ai_look L 4) (fun x => RR S d 150 56 L (.int x :: st) h Q) := RR.ldi rfl rfl
theorem r150_56 {p0 : Int32} {p1 : Int32} {p2 : Int32} {a : Nat} : RR S (d + 1) 150 56 L (.int p2 :: .int p1 :: .int p0 :: .ref a :: st) h Q = kB (decide (ai_sum st ≤ 8)) (kB ((ai_obj h a 10).isSome) (RR S d 121 0 [(0, .ref a), (1, .int p0), (2, .int p1), (3, .int p2)] [] h (fun r h1 => RR S (d + 1) 150 59 L (r.toList ++ st) h1 Q))) := RR.cv (j := 155) (mn' := 121) (n := 3) rfl rfl rfl rfl rfl rfl
theorem r150_59 : RR S d 150 59 L st h Q = kA (ai_look L 0) (fun x => RR S d 150 60 L (x :: st) h Q) := RR.lda_n rfl rfl rfl
theorem r150_60 {a : Nat} : RR S d 150 60 L (.ref a :: st) h Q = kO (ai_fld h a 10 27) (fun w => RR S d 150 63 L (w :: st) h Q) := RR.get rfl rfl rfl
theorem r150_63 {x : Int32} : RR S d 150 63 L (.int x :: st) h Q = if ¬ x = 0 then RR S d 150 69 L st h Q else RR S d 150 66 L st h Q := RR.b1 (c := .ne) (off := 6) rfl rfl (by decide) rfl
theorem r150_66 : RR S d 150 66 L st h Q = RR S d 150 68 L (.int (-2) :: st) h Q := RR.bip (n := (-2)) rfl (by decide) rfl
theorem r150_68 {x : Int32} : RR S d 150 68 L [.int x] h Q = Q (some (.int x)) h := RR.rt rfl rfl rfl
theorem r150_69 : RR S d 150 69 L st h Q = kA (ai_look L 0) (fun x => RR S d 150 70 L (x :: st) h Q) := RR.lda_n rfl rfl rfl
theorem r150_70 {a : Nat} : RR S d 150 70 L (.ref a :: st) h Q = kO (ai_fld h a 10 23) (fun w => RR S d 150 73 L (w :: st) h Q) := RR.get rfl rfl rfl
theorem r150_73 : RR S d 150 73 L st h Q = kA (ai_look L 0) (fun x => RR S d 150 74 L (x :: st) h Q) := RR.lda_n rfl rfl rfl
theorem r150_74 {a : Nat} : RR S d 150 74 L (.ref a :: st) h Q = kO (ai_fld h a 10 22) (fun w => RR S d 150 77 L (w :: st) h Q) := RR.get rfl rfl rfl
theorem r150_77 : RR S d 150 77 L st h Q = kI (ai_look L 1) (fun x => RR S d 150 78 L (.int x :: st) h Q) := RR.ldi_n rfl rfl rfl
theorem r150_78 {x y : Int32} {a : Nat} : RR S d 150 78 L (.int y :: .int x :: .ref a :: st) h Q = kO (ai_arr h a 0) (fun q => kB (ai_in x q.1) (RR S d 150 79 L st (h.1.set a (.inl (0, q.1, .inl (upd q.2 x.toNatClampNeg y))), h.2) Q)) := RR.ias rfl rfl
theorem r150_79 : RR S d 150 79 L st h Q = kA (ai_look L 0) (fun x => RR S d 150 80 L (x :: st) h Q) := RR.lda_n rfl rfl rfl
theorem r150_80 {a : Nat} : RR S d 150 80 L (.ref a :: st) h Q = kO (ai_fld h a 10 24) (fun w => RR S d 150 83 L (w :: st) h Q) := RR.get rfl rfl rfl
theorem r150_83 : RR S d 150 83 L st h Q = kA (ai_look L 0) (fun x => RR S d 150 84 L (x :: st) h Q) := RR.lda_n rfl rfl rfl
theorem r150_84 {a : Nat} : RR S d 150 84 L (.ref a :: st) h Q = kO (ai_fld h a 10 22) (fun w => RR S d 150 87 L (w :: st) h Q) := RR.get rfl rfl rfl
theorem r150_87 : RR S d 150 87 L st h Q = kI (ai_look L 4) (fun x => RR S d 150 89 L (.int x :: st) h Q) := RR.ldi rfl rfl
theorem r150_89 {x y : Int32} {a : Nat} : RR S d 150 89 L (.int y :: .int x :: .ref a :: st) h Q = kO (ai_arr h a 0) (fun q => kB (ai_in x q.1) (RR S d 150 90 L st (h.1.set a (.inl (0, q.1, .inl (upd q.2 x.toNatClampNeg y))), h.2) Q)) := RR.ias rfl rfl
theorem r150_90 : RR S d 150 90 L st h Q = kA (ai_look L 0) (fun x => RR S d 150 91 L (x :: st) h Q) := RR.lda_n rfl rfl rfl
theorem r150_91 {a : Nat} : RR S d 150 91 L (.ref a :: st) h Q = kO (ai_fld h a 10 25) (fun w => RR S d 150 94 L (w :: st) h Q) := RR.get rfl rfl rfl
theorem r150_94 : RR S d 150 94 L st h Q = kA (ai_look L 0) (fun x => RR S d 150 95 L (x :: st) h Q) := RR.lda_n rfl rfl rfl
theorem r150_95 {a : Nat} : RR S d 150 95 L (.ref a :: st) h Q = kO (ai_fld h a 10 22) (fun w => RR S d 150 98 L (w :: st) h Q) := RR.get rfl rfl rfl
theorem r150_98 : RR S d 150 98 L st h Q = kA (ai_look L 0) (fun x => RR S d 150 99 L (x :: st) h Q) := RR.lda_n rfl rfl rfl
theorem r150_99 {a : Nat} : RR S d 150 99 L (.ref a :: st) h Q = kO (ai_fld h a 10 28) (fun w => RR S d 150 102 L (w :: st) h Q) := RR.get rfl rfl rfl
theorem r150_102 : RR S d 150 102 L st h Q = RR S d 150 103 L (.int 0 :: st) h Q := RR.icn (n := 0) rfl (by decide) rfl
theorem r150_103 {x : Int32} {a : Nat} : RR S d 150 103 L (.int x :: .ref a :: st) h Q = kO (ai_arr h a 0) (fun q => kB (ai_in x q.1) (RR S d 150 104 L (.int (q.2 x.toNatClampNeg) :: st) h Q)) := RR.ial rfl rfl
theorem r150_104 {x y : Int32} {a : Nat} : RR S d 150 104 L (.int y :: .int x :: .ref a :: st) h Q = kO (ai_arr h a 0) (fun q => kB (ai_in x q.1) (RR S d 150 105 L st (h.1.set a (.inl (0, q.1, .inl (upd q.2 x.toNatClampNeg y))), h.2) Q)) := RR.ias rfl rfl
theorem r150_105 : RR S d 150 105 L st h Q = RR S d 150 106 L (.int 0 :: st) h Q := RR.icn (n := 0) rfl (by decide) rfl
theorem r150_106 {x : Int32} : RR S d 150 106 L (.int x :: st) h Q = RR S d 150 108 (ai_put 5 (.int x) L) st h Q := RR.do1 (108, ai_put 5 (.int x) L, st, h) rfl rfl rfl
theorem r150_108 : RR S d 150 108 L st h Q = kI (ai_look L 5) (fun x => RR S d 150 110 L (.int x :: st) h Q) := RR.ldi rfl rfl
theorem r150_110 : RR S d 150 110 L st h Q = kA (ai_look L 0) (fun x => RR S d 150 111 L (x :: st) h Q) := RR.lda_n rfl rfl rfl
theorem r150_111 {a : Nat} : RR S d 150 111 L (.ref a :: st) h Q = kO (ai_fld h a 10 28) (fun w => RR S d 150 114 L (w :: st) h Q) := RR.get rfl rfl rfl
theorem r150_114 : RR S d 150 114 L st h Q = RR S d 150 115 L (.int 0 :: st) h Q := RR.icn (n := 0) rfl (by decide) rfl
theorem r150_115 {x : Int32} {a : Nat} : RR S d 150 115 L (.int x :: .ref a :: st) h Q = kO (ai_arr h a 0) (fun q => kB (ai_in x q.1) (RR S d 150 116 L (.int (q.2 x.toNatClampNeg) :: st) h Q)) := RR.ial rfl rfl
theorem r150_116 {x y : Int32} : RR S d 150 116 L (.int y :: .int x :: st) h Q = if y ≤ x then RR S d 150 146 L st h Q else RR S d 150 119 L st h Q := RR.b2 (c := .ge) (off := 30) rfl rfl (by decide) rfl
theorem r150_119 : RR S d 150 119 L st h Q = kA (ai_look L 0) (fun x => RR S d 150 120 L (x :: st) h Q) := RR.lda_n rfl rfl rfl
theorem r150_120 {a : Nat} : RR S d 150 120 L (.ref a :: st) h Q = kO (ai_fld h a 10 26) (fun w => RR S d 150 123 L (w :: st) h Q) := RR.get rfl rfl rfl
theorem r150_123 : RR S d 150 123 L st h Q = RR S d 150 124 L (.int 4 :: st) h Q := RR.icn (n := 4) rfl (by decide) rfl
theorem r150_124 : RR S d 150 124 L st h Q = kA (ai_look L 0) (fun x => RR S d 150 125 L (x :: st) h Q) := RR.lda_n rfl rfl rfl
theorem r150_125 {a : Nat} : RR S d 150 125 L (.ref a :: st) h Q = kO (ai_fld h a 10 22) (fun w => RR S d 150 128 L (w :: st) h Q) := RR.get rfl rfl rfl
theorem r150_128 {x y : Int32} : RR S d 150 128 L (.int y :: .int x :: st) h Q = RR S d 150 129 L (.int (x * y) :: st) h Q := RR.do1 (129, L, .int (x * y) :: st, h) rfl rfl rfl
theorem r150_129 : RR S d 150 129 L st h Q = kI (ai_look L 5) (fun x => RR S d 150 131 L (.int x :: st) h Q) := RR.ldi rfl rfl
theorem r150_131 {x y : Int32} : RR S d 150 131 L (.int y :: .int x :: st) h Q = RR S d 150 132 L (.int (x + y) :: st) h Q := RR.do1 (132, L, .int (x + y) :: st, h) rfl rfl rfl
theorem r150_132 : RR S d 150 132 L st h Q = kA (ai_look L 0) (fun x => RR S d 150 133 L (x :: st) h Q) := RR.lda_n rfl rfl rfl
theorem r150_133 {a : Nat} : RR S d 150 133 L (.ref a :: st) h Q = kO (ai_fld h a 10 29) (fun w => RR S d 150 136 L (w :: st) h Q) := RR.get rfl rfl rfl
theorem r150_136 : RR S d 150 136 L st h Q = kI (ai_look L 5) (fun x => RR S d 150 138 L (.int x :: st) h Q) := RR.ldi rfl rfl
theorem r150_138 {x : Int32} {a : Nat} : RR S d 150 138 L (.int x :: .ref a :: st) h Q = kO (ai_arr h a 0) (fun q => kB (ai_in x q.1) (RR S d 150 139 L (.int (q.2 x.toNatClampNeg) :: st) h Q)) := RR.ial rfl rfl
theorem r150_139 {x y : Int32} {a : Nat} : RR S d 150 139 L (.int y :: .int x :: .ref a :: st) h Q = kO (ai_arr h a 0) (fun q => kB (ai_in x q.1) (RR S d 150 140 L st (h.1.set a (.inl (0, q.1, .inl (upd q.2 x.toNatClampNeg y))), h.2) Q)) := RR.ias rfl rfl
theorem r150_140 : RR S d 150 140 L st h Q = kI (ai_look L 5) (fun x => RR S d 150 143 (ai_put 5 (.int (x + 1)) L) st h Q) := RR.iinc (k := 5) (n := 1) rfl (by decide) (by decide) rfl
theorem r150_143 : RR S d 150 143 L st h Q = RR S d 150 108 L st h Q := RR.jmp (off := (-35)) rfl (by decide)
theorem r150_146 : RR S d 150 146 L st h Q = kA (ai_look L 0) (fun x => RR S d 150 147 L (x :: st) h Q) := RR.lda_n rfl rfl rfl
theorem r150_147 {v : Value} (hv : v.category = 1) : RR S d 150 147 L (v :: st) h Q = RR S d 150 148 L (v :: v :: st) h Q := RR.dup rfl hv rfl
theorem r150_148 {a : Nat} : RR S d 150 148 L (.ref a :: st) h Q = kO (ai_fld h a 10 22) (fun w => RR S d 150 151 L (w :: st) h Q) := RR.get rfl rfl rfl
theorem r150_151 : RR S d 150 151 L st h Q = RR S d 150 152 L (.int 1 :: st) h Q := RR.icn (n := 1) rfl (by decide) rfl
theorem r150_152 {x y : Int32} : RR S d 150 152 L (.int y :: .int x :: st) h Q = RR S d 150 153 L (.int (x + y) :: st) h Q := RR.do1 (153, L, .int (x + y) :: st, h) rfl rfl rfl
theorem r150_153 {x : Int32} {a : Nat} : RR S d 150 153 L (.int x :: .ref a :: st) h Q = kO (ai_obj h a 10) (fun fs => kB (decide (22 < fs.length)) (RR S d 150 156 L st (h.1.set a (.inr (10, fs.set 22 (.int x))), h.2) Q)) := RR.put rfl rfl (ai_okp_i rfl (by decide +kernel)) rfl
theorem r150_156 : RR S d 150 156 L st h Q = kA (ai_look L 0) (fun x => RR S d 150 157 L (x :: st) h Q) := RR.lda_n rfl rfl rfl
theorem r150_157 : RR S d 150 157 L st h Q = RR S d 150 158 L (.int 1 :: st) h Q := RR.icn (n := 1) rfl (by decide) rfl
theorem r150_158t {a : Nat} : RR S d 150 158 L (.int 1 :: .ref a :: st) h Q = kO (ai_obj h a 10) (fun fs => kB (decide (35 < fs.length)) (RR S d 150 161 L st (h.1.set a (.inr (10, fs.set 35 (.int 1))), h.2) Q)) := RR.put rfl rfl (by decide +kernel) rfl
theorem r150_158f {a : Nat} : RR S d 150 158 L (.int 0 :: .ref a :: st) h Q = kO (ai_obj h a 10) (fun fs => kB (decide (35 < fs.length)) (RR S d 150 161 L st (h.1.set a (.inr (10, fs.set 35 (.int 0))), h.2) Q)) := RR.put rfl rfl (by decide +kernel) rfl
theorem r150_161 : RR S d 150 161 L st h Q = kA (ai_look L 0) (fun x => RR S d 150 162 L (x :: st) h Q) := RR.lda_n rfl rfl rfl
theorem r150_162 {a : Nat} : RR S d 150 162 L (.ref a :: st) h Q = kO (ai_fld h a 10 22) (fun w => RR S d 150 165 L (w :: st) h Q) := RR.get rfl rfl rfl
theorem r150_165 : RR S d 150 165 L st h Q = RR S d 150 166 L (.int 1 :: st) h Q := RR.icn (n := 1) rfl (by decide) rfl
theorem r150_166 {x y : Int32} : RR S d 150 166 L (.int y :: .int x :: st) h Q = RR S d 150 167 L (.int (x - y) :: st) h Q := RR.do1 (167, L, .int (x - y) :: st, h) rfl rfl rfl
theorem r150_167 {x : Int32} : RR S d 150 167 L [.int x] h Q = Q (some (.int x)) h := RR.rt rfl rfl rfl
theorem r151_0 : RR S d 151 0 L st h Q = kA (ai_look L 0) (fun x => RR S d 151 1 L (x :: st) h Q) := RR.lda_n rfl rfl rfl
theorem r151_1 {a : Nat} : RR S d 151 1 L (.ref a :: st) h Q = kO (ai_fld h a 10 15) (fun w => RR S d 151 4 L (w :: st) h Q) := RR.get rfl rfl rfl
theorem r151_4 : RR S d 151 4 L st h Q = RR S d 151 5 L (.int 4 :: st) h Q := RR.icn (n := 4) rfl (by decide) rfl
theorem r151_5 : RR S d 151 5 L st h Q = RR S d 151 6 L (.int 3 :: st) h Q := RR.icn (n := 3) rfl (by decide) rfl
theorem r151_6 : RR S d 151 6 L st h Q = kI (ai_look L 1) (fun x => RR S d 151 7 L (.int x :: st) h Q) := RR.ldi_n rfl rfl rfl
theorem r151_7 {x y : Int32} : RR S d 151 7 L (.int y :: .int x :: st) h Q = RR S d 151 8 L (.int (x * y) :: st) h Q := RR.do1 (8, L, .int (x * y) :: st, h) rfl rfl rfl
theorem r151_8 : RR S d 151 8 L st h Q = kA (ai_look L 0) (fun x => RR S d 151 9 L (x :: st) h Q) := RR.lda_n rfl rfl rfl
theorem r151_9 {a : Nat} : RR S d 151 9 L (.ref a :: st) h Q = kO (ai_fld h a 10 18) (fun w => RR S d 151 12 L (w :: st) h Q) := RR.get rfl rfl rfl
theorem r151_12 : RR S d 151 12 L st h Q = kI (ai_look L 1) (fun x => RR S d 151 13 L (.int x :: st) h Q) := RR.ldi_n rfl rfl rfl
theorem r151_13 {x : Int32} {a : Nat} : RR S d 151 13 L (.int x :: .ref a :: st) h Q = kO (ai_arr h a 0) (fun q => kB (ai_in x q.1) (RR S d 151 14 L (.int (q.2 x.toNatClampNeg) :: st) h Q)) := RR.ial rfl rfl
theorem r151_14 {x y : Int32} : RR S d 151 14 L (.int y :: .int x :: st) h Q = RR S d 151 15 L (.int (x + y) :: st) h Q := RR.do1 (15, L, .int (x + y) :: st, h) rfl rfl rfl
theorem r151_15 {x y : Int32} : RR S d 151 15 L (.int y :: .int x :: st) h Q = RR S d 151 16 L (.int (x * y) :: st) h Q := RR.do1 (16, L, .int (x * y) :: st, h) rfl rfl rfl
theorem r151_16 : RR S d 151 16 L st h Q = kI (ai_look L 3) (fun x => RR S d 151 17 L (.int x :: st) h Q) := RR.ldi_n rfl rfl rfl
theorem r151_17 {x y : Int32} : RR S d 151 17 L (.int y :: .int x :: st) h Q = RR S d 151 18 L (.int (x + y) :: st) h Q := RR.do1 (18, L, .int (x + y) :: st, h) rfl rfl rfl
theorem r151_18 {x : Int32} {a : Nat} : RR S d 151 18 L (.int x :: .ref a :: st) h Q = kO (ai_arr h a 0) (fun q => kB (ai_in x q.1) (RR S d 151 19 L (.int (q.2 x.toNatClampNeg) :: st) h Q)) := RR.ial rfl rfl
theorem r151_19 {x : Int32} : RR S d 151 19 L (.int x :: st) h Q = RR S d 151 21 (ai_put 4 (.int x) L) st h Q := RR.do1 (21, ai_put 4 (.int x) L, st, h) rfl rfl rfl
theorem r151_21 : RR S d 151 21 L st h Q = kA (ai_look L 0) (fun x => RR S d 151 22 L (x :: st) h Q) := RR.lda_n rfl rfl rfl
theorem r151_22 : RR S d 151 22 L st h Q = kI (ai_look L 1) (fun x => RR S d 151 23 L (.int x :: st) h Q) := RR.ldi_n rfl rfl rfl
theorem r151_23 : RR S d 151 23 L st h Q = kA (ai_look L 0) (fun x => RR S d 151 24 L (x :: st) h Q) := RR.lda_n rfl rfl rfl
theorem r151_24 {a : Nat} : RR S d 151 24 L (.ref a :: st) h Q = kO (ai_fld h a 10 18) (fun w => RR S d 151 27 L (w :: st) h Q) := RR.get rfl rfl rfl
theorem r151_27 : RR S d 151 27 L st h Q = kI (ai_look L 1) (fun x => RR S d 151 28 L (.int x :: st) h Q) := RR.ldi_n rfl rfl rfl
theorem r151_28 {x : Int32} {a : Nat} : RR S d 151 28 L (.int x :: .ref a :: st) h Q = kO (ai_arr h a 0) (fun q => kB (ai_in x q.1) (RR S d 151 29 L (.int (q.2 x.toNatClampNeg) :: st) h Q)) := RR.ial rfl rfl
theorem r151_29 : RR S d 151 29 L st h Q = kA (ai_look L 0) (fun x => RR S d 151 30 L (x :: st) h Q) := RR.lda_n rfl rfl rfl
theorem r151_30 {a : Nat} : RR S d 151 30 L (.ref a :: st) h Q = kO (ai_fld h a 10 19) (fun w => RR S d 151 33 L (w :: st) h Q) := RR.get rfl rfl rfl
theorem r151_33 : RR S d 151 33 L st h Q = kI (ai_look L 1) (fun x => RR S d 151 34 L (.int x :: st) h Q) := RR.ldi_n rfl rfl rfl
theorem r151_34 {x : Int32} {a : Nat} : RR S d 151 34 L (.int x :: .ref a :: st) h Q = kO (ai_arr h a 0) (fun q => kB (ai_in x q.1) (RR S d 151 35 L (.int (q.2 x.toNatClampNeg) :: st) h Q)) := RR.ial rfl rfl
theorem r151_35 : RR S d 151 35 L st h Q = kI (ai_look L 3) (fun x => RR S d 151 36 L (.int x :: st) h Q) := RR.ldi_n rfl rfl rfl
theorem r151_36 {p0 : Int32} {p1 : Int32} {p2 : Int32} {p3 : Int32} {a : Nat} : RR S (d + 1) 151 36 L (.int p3 :: .int p2 :: .int p1 :: .int p0 :: .ref a :: st) h Q = kB (decide (ai_sum st ≤ 8)) (kB ((ai_obj h a 10).isSome) (RR S d 128 0 [(0, .ref a), (1, .int p0), (2, .int p1), (3, .int p2), (4, .int p3)] [] h (fun r h1 => RR S (d + 1) 151 39 L (r.toList ++ st) h1 Q))) := RR.cv (j := 162) (mn' := 128) (n := 4) rfl rfl rfl rfl rfl rfl
theorem r151_39 : RR S d 151 39 L st h Q = kI (ai_look L 2) (fun x => RR S d 151 40 L (.int x :: st) h Q) := RR.ldi_n rfl rfl rfl
theorem r151_40 : RR S d 151 40 L st h Q = kA (ai_look L 0) (fun x => RR S d 151 41 L (x :: st) h Q) := RR.lda_n rfl rfl rfl
theorem r151_41 {a : Nat} : RR S d 151 41 L (.ref a :: st) h Q = kO (ai_fld h a 10 12) (fun w => RR S d 151 44 L (w :: st) h Q) := RR.get rfl rfl rfl
theorem r151_44 : RR S d 151 44 L st h Q = kI (ai_look L 1) (fun x => RR S d 151 45 L (.int x :: st) h Q) := RR.ldi_n rfl rfl rfl
theorem r151_45 {x : Int32} {a : Nat} : RR S d 151 45 L (.int x :: .ref a :: st) h Q = kO (ai_arr h a 0) (fun q => kB (ai_in x q.1) (RR S d 151 46 L (.int (q.2 x.toNatClampNeg) :: st) h Q)) := RR.ial rfl rfl
theorem r151_46 {x y : Int32} : RR S d 151 46 L (.int y :: .int x :: st) h Q = RR S d 151 47 L (.int (x * y) :: st) h Q := RR.do1 (47, L, .int (x * y) :: st, h) rfl rfl rfl
theorem r151_47 {x y : Int32} : RR S d 151 47 L (.int y :: .int x :: st) h Q = RR S d 151 48 L (.int (x + y) :: st) h Q := RR.do1 (48, L, .int (x + y) :: st, h) rfl rfl rfl
theorem r151_48 : RR S d 151 48 L st h Q = kA (ai_look L 0) (fun x => RR S d 151 49 L (x :: st) h Q) := RR.lda_n rfl rfl rfl
theorem r151_49 {a : Nat} : RR S d 151 49 L (.ref a :: st) h Q = kO (ai_fld h a 10 2) (fun w => RR S d 151 52 L (w :: st) h Q) := RR.get rfl rfl rfl
theorem r151_52 : RR S d 151 52 L st h Q = kA (ai_look L 0) (fun x => RR S d 151 53 L (x :: st) h Q) := RR.lda_n rfl rfl rfl
theorem r151_53 {a : Nat} : RR S d 151 53 L (.ref a :: st) h Q = kO (ai_fld h a 10 4) (fun w => RR S d 151 56 L (w :: st) h Q) := RR.get rfl rfl rfl
theorem r151_56 : RR S d 151 56 L st h Q = kI (ai_look L 4) (fun x => RR S d 151 58 L (.int x :: st) h Q) := RR.ldi rfl rfl
theorem r151_58 {x : Int32} {a : Nat} : RR S d 151 58 L (.int x :: .ref a :: st) h Q = kO (ai_arr h a 0) (fun q => kB (ai_in x q.1) (RR S d 151 59 L (.int (q.2 x.toNatClampNeg) :: st) h Q)) := RR.ial rfl rfl
theorem r151_59 {x : Int32} {a : Nat} : RR S d 151 59 L (.int x :: .ref a :: st) h Q = kO (ai_arr h a 0) (fun q => kB (ai_in x q.1) (RR S d 151 60 L (.int (q.2 x.toNatClampNeg) :: st) h Q)) := RR.ial rfl rfl
theorem r151_60 {x y : Int32} : RR S d 151 60 L (.int y :: .int x :: st) h Q = RR S d 151 61 L (.int (x + y) :: st) h Q := RR.do1 (61, L, .int (x + y) :: st, h) rfl rfl rfl
theorem r151_61 {x : Int32} : RR S d 151 61 L [.int x] h Q = Q (some (.int x)) h := RR.rt rfl rfl rfl
end Ru
