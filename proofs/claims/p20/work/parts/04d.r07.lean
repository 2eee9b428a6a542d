section Ru
variable {S : ai_S} {d : Nat} {L : ai_L} {st : List Value} {h : ai_H} {Q : Option Value → ai_H → Prop}
theorem r165_0 : RR S d 165 0 L st h Q = RR S d 165 3 L (.ref h.1.length :: st) (h.1 ++ [.inr (9, [.null, .null, .null, .null, .null, .null])], h.2 + 6) Q := RR.do1 (3, L, .ref h.1.length :: st, (h.1 ++ [.inr (9, [.null, .null, .null, .null, .null, .null])], h.2 + 6)) rfl rfl rfl
theorem r165_3 {v : Value} (hv : v.category = 1) : RR S d 165 3 L (v :: st) h Q = RR S d 165 4 L (v :: v :: st) h Q := RR.dup rfl hv rfl
theorem r165_4 {a : Nat} : RR S (d + 1) 165 4 L (.ref a :: st) h Q = kB (decide (ai_sum st ≤ 8)) (RR S d 82 0 [(0, .ref a)] [] h (fun r h1 => RR S (d + 1) 165 7 L (r.toList ++ st) h1 Q)) := RR.ci (j := 9) (mn' := 82) (n := 0) rfl rfl rfl rfl rfl rfl rfl
theorem r165_7 {x : Nat} : RR S d 165 7 L (.ref x :: st) h Q = RR S d 165 8 (ai_put 1 (.ref x) L) st h Q := RR.do1 (8, ai_put 1 (.ref x) L, st, h) rfl rfl rfl
theorem r165_7n : RR S d 165 7 L (.null :: st) h Q = RR S d 165 8 (ai_put 1 .null L) st h Q := RR.do1 (8, ai_put 1 .null L, st, h) rfl rfl rfl
theorem r165_8 : RR S d 165 8 L st h Q = RR S d 165 11 L (.ref h.1.length :: st) (h.1 ++ [.inr (10, [.int 0, .null, .null, .int 0, .null, .null, .null, .null, .int 0, .int 0, .int 0, .null, .null, .null, .null, .null, .null, .null, .null, .null, .int 0, .null, .int 0, .null, .null, .null, .null, .int 0, .null, .null, .null, .null, .null, .null, .int 0, .int 0, .null, .null, .null, .null, .null, .null])], h.2 + 42) Q := RR.do1 (11, L, .ref h.1.length :: st, (h.1 ++ [.inr (10, [.int 0, .null, .null, .int 0, .null, .null, .null, .null, .int 0, .int 0, .int 0, .null, .null, .null, .null, .null, .null, .null, .null, .null, .int 0, .null, .int 0, .null, .null, .null, .null, .int 0, .null, .null, .null, .null, .null, .null, .int 0, .int 0, .null, .null, .null, .null, .null, .null])], h.2 + 42)) rfl rfl rfl
theorem r165_11 {v : Value} (hv : v.category = 1) : RR S d 165 11 L (v :: st) h Q = RR S d 165 12 L (v :: v :: st) h Q := RR.dup rfl hv rfl
theorem r165_12 {a : Nat} : RR S (d + 1) 165 12 L (.ref a :: st) h Q = kB (decide (ai_sum st ≤ 8)) (RR S d 112 0 [(0, .ref a)] [] h (fun r h1 => RR S (d + 1) 165 15 L (r.toList ++ st) h1 Q)) := RR.ci (j := 12) (mn' := 112) (n := 0) rfl rfl rfl rfl rfl rfl rfl
theorem r165_15 {x : Nat} : RR S d 165 15 L (.ref x :: st) h Q = RR S d 165 16 (ai_put 2 (.ref x) L) st h Q := RR.do1 (16, ai_put 2 (.ref x) L, st, h) rfl rfl rfl
theorem r165_15n : RR S d 165 15 L (.null :: st) h Q = RR S d 165 16 (ai_put 2 .null L) st h Q := RR.do1 (16, ai_put 2 .null L, st, h) rfl rfl rfl
theorem r165_16 : RR S d 165 16 L st h Q = RR S d 165 17 L (.int 0 :: st) h Q := RR.icn (n := 0) rfl (by decide) rfl
theorem r165_17 {x : Int32} : RR S d 165 17 L (.int x :: st) h Q = RR S d 165 18 (ai_put 3 (.int x) L) st h Q := RR.do1 (18, ai_put 3 (.int x) L, st, h) rfl rfl rfl
theorem r165_18 : RR S d 165 18 L st h Q = kI (ai_look L 3) (fun x => RR S d 165 19 L (.int x :: st) h Q) := RR.ldi_n rfl rfl rfl
theorem r165_19 : RR S d 165 19 L st h Q = kA (ai_look L 0) (fun x => RR S d 165 20 L (x :: st) h Q) := RR.lda_n rfl rfl rfl
theorem r165_20 {a : Nat} : RR S d 165 20 L (.ref a :: st) h Q = kO (ai_alen h a) (fun n => RR S d 165 21 L (.int (Int32.ofNat n) :: st) h Q) := RR.alen rfl rfl
theorem r165_20x {u : UInt32} : RR S d 165 20 L (.float u :: st) h Q = RR S d 165 21 L (.int (Int32.ofNat (ai_ext S u).1) :: st) h Q := RR.do1 (21, L, .int (Int32.ofNat (ai_ext S u).1) :: st, h) rfl rfl rfl
theorem r165_21 : RR S d 165 21 L st h Q = RR S d 165 23 L (.int 6 :: st) h Q := RR.bip (n := 6) rfl (by decide) rfl
theorem r165_23 {x y : Int32} : RR S d 165 23 L (.int y :: .int x :: st) h Q = RR S d 165 24 L (.int (x - y) :: st) h Q := RR.do1 (24, L, .int (x - y) :: st, h) rfl rfl rfl
theorem r165_24 {x y : Int32} : RR S d 165 24 L (.int y :: .int x :: st) h Q = if y < x then RR S d 165 858 L st h Q else RR S d 165 27 L st h Q := RR.b2 (c := .gt) (off := 834) rfl rfl (by decide) rfl
theorem r165_27 : RR S d 165 27 L st h Q = kA (ai_look L 0) (fun x => RR S d 165 28 L (x :: st) h Q) := RR.lda_n rfl rfl rfl
theorem r165_28 : RR S d 165 28 L st h Q = kI (ai_look L 3) (fun x => RR S d 165 29 L (.int x :: st) h Q) := RR.ldi_n rfl rfl rfl
theorem r165_29 {x : Int32} {a : Nat} : RR S d 165 29 L (.int x :: .ref a :: st) h Q = kO (ai_arr h a 0) (fun q => kB (ai_in x q.1) (RR S d 165 30 L (.int (q.2 x.toNatClampNeg) :: st) h Q)) := RR.ial rfl rfl
theorem r165_29x {x : Int32} {u : UInt32} : RR S d 165 29 L (.int x :: .float u :: st) h Q = kB (ai_in x (ai_ext S u).1) (RR S d 165 30 L (.int ((ai_ext S u).2 x.toNatClampNeg) :: st) h Q) := RR.iax rfl rfl
theorem r165_30 : RR S d 165 30 L st h Q = RR S d 165 32 L (.int 31 :: st) h Q := RR.bip (n := 31) rfl (by decide) rfl
theorem r165_32 {x y : Int32} : RR S d 165 32 L (.int y :: .int x :: st) h Q = RR S d 165 33 L (.int (x &&& y) :: st) h Q := RR.do1 (33, L, .int (x &&& y) :: st, h) rfl rfl rfl
theorem r165_136 : RR S d 165 136 L st h Q = kA (ai_look L 1) (fun x => RR S d 165 137 L (x :: st) h Q) := RR.lda_n rfl rfl rfl
theorem r165_137 : RR S d 165 137 L st h Q = kA (ai_look L 0) (fun x => RR S d 165 138 L (x :: st) h Q) := RR.lda_n rfl rfl rfl
theorem r165_138 : RR S d 165 138 L st h Q = kI (ai_look L 3) (fun x => RR S d 165 139 L (.int x :: st) h Q) := RR.ldi_n rfl rfl rfl
theorem r165_139 : RR S d 165 139 L st h Q = RR S d 165 140 L (.int 1 :: st) h Q := RR.icn (n := 1) rfl (by decide) rfl
theorem r165_140 {x y : Int32} : RR S d 165 140 L (.int y :: .int x :: st) h Q = RR S d 165 141 L (.int (x + y) :: st) h Q := RR.do1 (141, L, .int (x + y) :: st, h) rfl rfl rfl
theorem r165_141 {x : Int32} {a : Nat} : RR S d 165 141 L (.int x :: .ref a :: st) h Q = kO (ai_arr h a 0) (fun q => kB (ai_in x q.1) (RR S d 165 142 L (.int (q.2 x.toNatClampNeg) :: st) h Q)) := RR.ial rfl rfl
theorem r165_141x {x : Int32} {u : UInt32} : RR S d 165 141 L (.int x :: .float u :: st) h Q = kB (ai_in x (ai_ext S u).1) (RR S d 165 142 L (.int ((ai_ext S u).2 x.toNatClampNeg) :: st) h Q) := RR.iax rfl rfl
theorem r165_142 {p0 : Int32} {a : Nat} : RR S (d + 1) 165 142 L (.int p0 :: .ref a :: st) h Q = kB (decide (ai_sum st ≤ 8)) (kB ((ai_obj h a 9).isSome) (RR S d 83 0 [(0, .ref a), (1, .int p0)] [] h (fun r h1 => RR S (d + 1) 165 145 L (r.toList ++ st) h1 Q))) := RR.cv (j := 13) (mn' := 83) (n := 1) rfl rfl rfl rfl rfl rfl
theorem r165_145 {x : Int32} : RR S d 165 145 L (.int x :: st) h Q = RR S d 165 146 L st h Q := RR.pop rfl rfl rfl
theorem r165_146 : RR S d 165 146 L st h Q = kA (ai_look L 2) (fun x => RR S d 165 147 L (x :: st) h Q) := RR.lda_n rfl rfl rfl
theorem r165_147 : RR S d 165 147 L st h Q = kA (ai_look L 0) (fun x => RR S d 165 148 L (x :: st) h Q) := RR.lda_n rfl rfl rfl
theorem r165_148 : RR S d 165 148 L st h Q = kI (ai_look L 3) (fun x => RR S d 165 149 L (.int x :: st) h Q) := RR.ldi_n rfl rfl rfl
theorem r165_149 : RR S d 165 149 L st h Q = RR S d 165 150 L (.int 1 :: st) h Q := RR.icn (n := 1) rfl (by decide) rfl
theorem r165_150 {x y : Int32} : RR S d 165 150 L (.int y :: .int x :: st) h Q = RR S d 165 151 L (.int (x + y) :: st) h Q := RR.do1 (151, L, .int (x + y) :: st, h) rfl rfl rfl
theorem r165_151 {x : Int32} {a : Nat} : RR S d 165 151 L (.int x :: .ref a :: st) h Q = kO (ai_arr h a 0) (fun q => kB (ai_in x q.1) (RR S d 165 152 L (.int (q.2 x.toNatClampNeg) :: st) h Q)) := RR.ial rfl rfl
theorem r165_151x {x : Int32} {u : UInt32} : RR S d 165 151 L (.int x :: .float u :: st) h Q = kB (ai_in x (ai_ext S u).1) (RR S d 165 152 L (.int ((ai_ext S u).2 x.toNatClampNeg) :: st) h Q) := RR.iax rfl rfl
theorem r165_152 {p0 : Int32} {a : Nat} : RR S (d + 1) 165 152 L (.int p0 :: .ref a :: st) h Q = kB (decide (ai_sum st ≤ 8)) (kB ((ai_obj h a 10).isSome) (RR S d 115 0 [(0, .ref a), (1, .int p0)] [] h (fun r h1 => RR S (d + 1) 165 155 L (r.toList ++ st) h1 Q))) := RR.cv (j := 17) (mn' := 115) (n := 1) rfl rfl rfl rfl rfl rfl
theorem r165_155 {x : Int32} : RR S d 165 155 L (.int x :: st) h Q = RR S d 165 156 L st h Q := RR.pop rfl rfl rfl
theorem r165_156 : RR S d 165 156 L st h Q = RR S d 165 852 L st h Q := RR.jmp (off := 696) rfl (by decide)
theorem r165_159 : RR S d 165 159 L st h Q = kA (ai_look L 1) (fun x => RR S d 165 160 L (x :: st) h Q) := RR.lda_n rfl rfl rfl
theorem r165_160 : RR S d 165 160 L st h Q = kA (ai_look L 0) (fun x => RR S d 165 161 L (x :: st) h Q) := RR.lda_n rfl rfl rfl
theorem r165_161 : RR S d 165 161 L st h Q = kI (ai_look L 3) (fun x => RR S d 165 162 L (.int x :: st) h Q) := RR.ldi_n rfl rfl rfl
theorem r165_162 : RR S d 165 162 L st h Q = RR S d 165 163 L (.int 1 :: st) h Q := RR.icn (n := 1) rfl (by decide) rfl
theorem r165_163 {x y : Int32} : RR S d 165 163 L (.int y :: .int x :: st) h Q = RR S d 165 164 L (.int (x + y) :: st) h Q := RR.do1 (164, L, .int (x + y) :: st, h) rfl rfl rfl
theorem r165_164 {x : Int32} {a : Nat} : RR S d 165 164 L (.int x :: .ref a :: st) h Q = kO (ai_arr h a 0) (fun q => kB (ai_in x q.1) (RR S d 165 165 L (.int (q.2 x.toNatClampNeg) :: st) h Q)) := RR.ial rfl rfl
theorem r165_164x {x : Int32} {u : UInt32} : RR S d 165 164 L (.int x :: .float u :: st) h Q = kB (ai_in x (ai_ext S u).1) (RR S d 165 165 L (.int ((ai_ext S u).2 x.toNatClampNeg) :: st) h Q) := RR.iax rfl rfl
theorem r165_165 : RR S d 165 165 L st h Q = kA (ai_look L 0) (fun x => RR S d 165 166 L (x :: st) h Q) := RR.lda_n rfl rfl rfl
theorem r165_166 : RR S d 165 166 L st h Q = kI (ai_look L 3) (fun x => RR S d 165 167 L (.int x :: st) h Q) := RR.ldi_n rfl rfl rfl
theorem r165_167 : RR S d 165 167 L st h Q = RR S d 165 168 L (.int 2 :: st) h Q := RR.icn (n := 2) rfl (by decide) rfl
theorem r165_168 {x y : Int32} : RR S d 165 168 L (.int y :: .int x :: st) h Q = RR S d 165 169 L (.int (x + y) :: st) h Q := RR.do1 (169, L, .int (x + y) :: st, h) rfl rfl rfl
theorem r165_169 {x : Int32} {a : Nat} : RR S d 165 169 L (.int x :: .ref a :: st) h Q = kO (ai_arr h a 0) (fun q => kB (ai_in x q.1) (RR S d 165 170 L (.int (q.2 x.toNatClampNeg) :: st) h Q)) := RR.ial rfl rfl
theorem r165_169x {x : Int32} {u : UInt32} : RR S d 165 169 L (.int x :: .float u :: st) h Q = kB (ai_in x (ai_ext S u).1) (RR S d 165 170 L (.int ((ai_ext S u).2 x.toNatClampNeg) :: st) h Q) := RR.iax rfl rfl
theorem r165_170 : RR S d 165 170 L st h Q = kA (ai_look L 0) (fun x => RR S d 165 171 L (x :: st) h Q) := RR.lda_n rfl rfl rfl
theorem r165_171 : RR S d 165 171 L st h Q = kI (ai_look L 3) (fun x => RR S d 165 172 L (.int x :: st) h Q) := RR.ldi_n rfl rfl rfl
theorem r165_172 : RR S d 165 172 L st h Q = RR S d 165 173 L (.int 3 :: st) h Q := RR.icn (n := 3) rfl (by decide) rfl
theorem r165_173 {x y : Int32} : RR S d 165 173 L (.int y :: .int x :: st) h Q = RR S d 165 174 L (.int (x + y) :: st) h Q := RR.do1 (174, L, .int (x + y) :: st, h) rfl rfl rfl
theorem r165_174 {x : Int32} {a : Nat} : RR S d 165 174 L (.int x :: .ref a :: st) h Q = kO (ai_arr h a 0) (fun q => kB (ai_in x q.1) (RR S d 165 175 L (.int (q.2 x.toNatClampNeg) :: st) h Q)) := RR.ial rfl rfl
theorem r165_174x {x : Int32} {u : UInt32} : RR S d 165 174 L (.int x :: .float u :: st) h Q = kB (ai_in x (ai_ext S u).1) (RR S d 165 175 L (.int ((ai_ext S u).2 x.toNatClampNeg) :: st) h Q) := RR.iax rfl rfl
theorem r165_175 : RR S d 165 175 L st h Q = kA (ai_look L 0) (fun x => RR S d 165 176 L (x :: st) h Q) := RR.lda_n rfl rfl rfl
theorem r165_176 : RR S d 165 176 L st h Q = kI (ai_look L 3) (fun x => RR S d 165 177 L (.int x :: st) h Q) := RR.ldi_n rfl rfl rfl
theorem r165_177 : RR S d 165 177 L st h Q = RR S d 165 178 L (.int 4 :: st) h Q := RR.icn (n := 4) rfl (by decide) rfl
theorem r165_178 {x y : Int32} : RR S d 165 178 L (.int y :: .int x :: st) h Q = RR S d 165 179 L (.int (x + y) :: st) h Q := RR.do1 (179, L, .int (x + y) :: st, h) rfl rfl rfl
theorem r165_179 {x : Int32} {a : Nat} : RR S d 165 179 L (.int x :: .ref a :: st) h Q = kO (ai_arr h a 0) (fun q => kB (ai_in x q.1) (RR S d 165 180 L (.int (q.2 x.toNatClampNeg) :: st) h Q)) := RR.ial rfl rfl
theorem r165_179x {x : Int32} {u : UInt32} : RR S d 165 179 L (.int x :: .float u :: st) h Q = kB (ai_in x (ai_ext S u).1) (RR S d 165 180 L (.int ((ai_ext S u).2 x.toNatClampNeg) :: st) h Q) := RR.iax rfl rfl
theorem r165_180 {p0 : Int32} {p1 : Int32} {p2 : Int32} {p3 : Int32} {a : Nat} : RR S (d + 1) 165 180 L (.int p3 :: .int p2 :: .int p1 :: .int p0 :: .ref a :: st) h Q = kB (decide (ai_sum st ≤ 8)) (kB ((ai_obj h a 9).isSome) (RR S d 84 0 [(0, .ref a), (1, .int p0), (2, .int p1), (3, .int p2), (4, .int p3)] [] h (fun r h1 => RR S (d + 1) 165 183 L (r.toList ++ st) h1 Q))) := RR.cv (j := 18) (mn' := 84) (n := 4) rfl rfl rfl rfl rfl rfl
theorem r165_183 {x : Int32} : RR S d 165 183 L (.int x :: st) h Q = RR S d 165 184 L st h Q := RR.pop rfl rfl rfl
theorem r165_184 : RR S d 165 184 L st h Q = kA (ai_look L 2) (fun x => RR S d 165 185 L (x :: st) h Q) := RR.lda_n rfl rfl rfl
theorem r165_185 : RR S d 165 185 L st h Q = kA (ai_look L 0) (fun x => RR S d 165 186 L (x :: st) h Q) := RR.lda_n rfl rfl rfl
theorem r165_186 : RR S d 165 186 L st h Q = kI (ai_look L 3) (fun x => RR S d 165 187 L (.int x :: st) h Q) := RR.ldi_n rfl rfl rfl
theorem r165_187 : RR S d 165 187 L st h Q = RR S d 165 188 L (.int 1 :: st) h Q := RR.icn (n := 1) rfl (by decide) rfl
theorem r165_188 {x y : Int32} : RR S d 165 188 L (.int y :: .int x :: st) h Q = RR S d 165 189 L (.int (x + y) :: st) h Q := RR.do1 (189, L, .int (x + y) :: st, h) rfl rfl rfl
theorem r165_189 {x : Int32} {a : Nat} : RR S d 165 189 L (.int x :: .ref a :: st) h Q = kO (ai_arr h a 0) (fun q => kB (ai_in x q.1) (RR S d 165 190 L (.int (q.2 x.toNatClampNeg) :: st) h Q)) := RR.ial rfl rfl
theorem r165_189x {x : Int32} {u : UInt32} : RR S d 165 189 L (.int x :: .float u :: st) h Q = kB (ai_in x (ai_ext S u).1) (RR S d 165 190 L (.int ((ai_ext S u).2 x.toNatClampNeg) :: st) h Q) := RR.iax rfl rfl
theorem r165_190 : RR S d 165 190 L st h Q = kA (ai_look L 0) (fun x => RR S d 165 191 L (x :: st) h Q) := RR.lda_n rfl rfl rfl
theorem r165_191 : RR S d 165 191 L st h Q = kI (ai_look L 3) (fun x => RR S d 165 192 L (.int x :: st) h Q) := RR.ldi_n rfl rfl rfl
theorem r165_192 : RR S d 165 192 L st h Q = RR S d 165 193 L (.int 2 :: st) h Q := RR.icn (n := 2) rfl (by decide) rfl
theorem r165_193 {x y : Int32} : RR S d 165 193 L (.int y :: .int x :: st) h Q = RR S d 165 194 L (.int (x + y) :: st) h Q := RR.do1 (194, L, .int (x + y) :: st, h) rfl rfl rfl
theorem r165_194 {x : Int32} {a : Nat} : RR S d 165 194 L (.int x :: .ref a :: st) h Q = kO (ai_arr h a 0) (fun q => kB (ai_in x q.1) (RR S d 165 195 L (.int (q.2 x.toNatClampNeg) :: st) h Q)) := RR.ial rfl rfl
theorem r165_194x {x : Int32} {u : UInt32} : RR S d 165 194 L (.int x :: .float u :: st) h Q = kB (ai_in x (ai_ext S u).1) (RR S d 165 195 L (.int ((ai_ext S u).2 x.toNatClampNeg) :: st) h Q) := RR.iax rfl rfl
theorem r165_195 : RR S d 165 195 L st h Q = kA (ai_look L 0) (fun x => RR S d 165 196 L (x :: st) h Q) := RR.lda_n rfl rfl rfl
theorem r165_196 : RR S d 165 196 L st h Q = kI (ai_look L 3) (fun x => RR S d 165 197 L (.int x :: st) h Q) := RR.ldi_n rfl rfl rfl
theorem r165_197 : RR S d 165 197 L st h Q = RR S d 165 198 L (.int 3 :: st) h Q := RR.icn (n := 3) rfl (by decide) rfl
theorem r165_198 {x y : Int32} : RR S d 165 198 L (.int y :: .int x :: st) h Q = RR S d 165 199 L (.int (x + y) :: st) h Q := RR.do1 (199, L, .int (x + y) :: st, h) rfl rfl rfl
theorem r165_199 {x : Int32} {a : Nat} : RR S d 165 199 L (.int x :: .ref a :: st) h Q = kO (ai_arr h a 0) (fun q => kB (ai_in x q.1) (RR S d 165 200 L (.int (q.2 x.toNatClampNeg) :: st) h Q)) := RR.ial rfl rfl
theorem r165_199x {x : Int32} {u : UInt32} : RR S d 165 199 L (.int x :: .float u :: st) h Q = kB (ai_in x (ai_ext S u).1) (RR S d 165 200 L (.int ((ai_ext S u).2 x.toNatClampNeg) :: st) h Q) := RR.iax rfl rfl
theorem r165_200 : RR S d 165 200 L st h Q = kA (ai_look L 0) (fun x => RR S d 165 201 L (x :: st) h Q) := RR.lda_n rfl rfl rfl
theorem r165_201 : RR S d 165 201 L st h Q = kI (ai_look L 3) (fun x => RR S d 165 202 L (.int x :: st) h Q) := RR.ldi_n rfl rfl rfl
theorem r165_202 : RR S d 165 202 L st h Q = RR S d 165 203 L (.int 4 :: st) h Q := RR.icn (n := 4) rfl (by decide) rfl
theorem r165_203 {x y : Int32} : RR S d 165 203 L (.int y :: .int x :: st) h Q = RR S d 165 204 L (.int (x + y) :: st) h Q := RR.do1 (204, L, .int (x + y) :: st, h) rfl rfl rfl
theorem r165_204 {x : Int32} {a : Nat} : RR S d 165 204 L (.int x :: .ref a :: st) h Q = kO (ai_arr h a 0) (fun q => kB (ai_in x q.1) (RR S d 165 205 L (.int (q.2 x.toNatClampNeg) :: st) h Q)) := RR.ial rfl rfl
theorem r165_204x {x : Int32} {u : UInt32} : RR S d 165 204 L (.int x :: .float u :: st) h Q = kB (ai_in x (ai_ext S u).1) (RR S d 165 205 L (.int ((ai_ext S u).2 x.toNatClampNeg) :: st) h Q) := RR.iax rfl rfl
theorem r165_205 {p0 : Int32} {p1 : Int32} {p2 : Int32} {p3 : Int32} {a : Nat} : RR S (d + 1) 165 205 L (.int p3 :: .int p2 :: .int p1 :: .int p0 :: .ref a :: st) h Q = kB (decide (ai_sum st ≤ 8)) (kB ((ai_obj h a 10).isSome) (RR S d 116 0 [(0, .ref a), (1, .int p0), (2, .int p1), (3, .int p2), (4, .int p3)] [] h (fun r h1 => RR S (d + 1) 165 208 L (r.toList ++ st) h1 Q))) := RR.cv (j := 22) (mn' := 116) (n := 4) rfl rfl rfl rfl rfl rfl
theorem r165_208 {x : Int32} : RR S d 165 208 L (.int x :: st) h Q = RR S d 165 209 L st h Q := RR.pop rfl rfl rfl
theorem r165_209 : RR S d 165 209 L st h Q = RR S d 165 852 L st h Q := RR.jmp (off := 643) rfl (by decide)
theorem r165_212 : RR S d 165 212 L st h Q = kA (ai_look L 1) (fun x => RR S d 165 213 L (x :: st) h Q) := RR.lda_n rfl rfl rfl
theorem r165_213 : RR S d 165 213 L st h Q = kA (ai_look L 0) (fun x => RR S d 165 214 L (x :: st) h Q) := RR.lda_n rfl rfl rfl
theorem r165_214 : RR S d 165 214 L st h Q = kI (ai_look L 3) (fun x => RR S d 165 215 L (.int x :: st) h Q) := RR.ldi_n rfl rfl rfl
theorem r165_215 : RR S d 165 215 L st h Q = RR S d 165 216 L (.int 1 :: st) h Q := RR.icn (n := 1) rfl (by decide) rfl
theorem r165_216 {x y : Int32} : RR S d 165 216 L (.int y :: .int x :: st) h Q = RR S d 165 217 L (.int (x + y) :: st) h Q := RR.do1 (217, L, .int (x + y) :: st, h) rfl rfl rfl
theorem r165_217 {x : Int32} {a : Nat} : RR S d 165 217 L (.int x :: .ref a :: st) h Q = kO (ai_arr h a 0) (fun q => kB (ai_in x q.1) (RR S d 165 218 L (.int (q.2 x.toNatClampNeg) :: st) h Q)) := RR.ial rfl rfl
theorem r165_217x {x : Int32} {u : UInt32} : RR S d 165 217 L (.int x :: .float u :: st) h Q = kB (ai_in x (ai_ext S u).1) (RR S d 165 218 L (.int ((ai_ext S u).2 x.toNatClampNeg) :: st) h Q) := RR.iax rfl rfl
theorem r165_218 {p0 : Int32} {a : Nat} : RR S (d + 1) 165 218 L (.int p0 :: .ref a :: st) h Q = kB (decide (ai_sum st ≤ 8)) (kB ((ai_obj h a 9).isSome) (RR S d 85 0 [(0, .ref a), (1, .int p0)] [] h (fun r h1 => RR S (d + 1) 165 221 L (r.toList ++ st) h1 Q))) := RR.cv (j := 23) (mn' := 85) (n := 1) rfl rfl rfl rfl rfl rfl
theorem r165_221 {x : Int32} : RR S d 165 221 L (.int x :: st) h Q = RR S d 165 222 L st h Q := RR.pop rfl rfl rfl
theorem r165_222 : RR S d 165 222 L st h Q = kA (ai_look L 2) (fun x => RR S d 165 223 L (x :: st) h Q) := RR.lda_n rfl rfl rfl
theorem r165_223 : RR S d 165 223 L st h Q = kA (ai_look L 0) (fun x => RR S d 165 224 L (x :: st) h Q) := RR.lda_n rfl rfl rfl
theorem r165_224 : RR S d 165 224 L st h Q = kI (ai_look L 3) (fun x => RR S d 165 225 L (.int x :: st) h Q) := RR.ldi_n rfl rfl rfl
theorem r165_225 : RR S d 165 225 L st h Q = RR S d 165 226 L (.int 1 :: st) h Q := RR.icn (n := 1) rfl (by decide) rfl
theorem r165_226 {x y : Int32} : RR S d 165 226 L (.int y :: .int x :: st) h Q = RR S d 165 227 L (.int (x + y) :: st) h Q := RR.do1 (227, L, .int (x + y) :: st, h) rfl rfl rfl
theorem r165_227 {x : Int32} {a : Nat} : RR S d 165 227 L (.int x :: .ref a :: st) h Q = kO (ai_arr h a 0) (fun q => kB (ai_in x q.1) (RR S d 165 228 L (.int (q.2 x.toNatClampNeg) :: st) h Q)) := RR.ial rfl rfl
theorem r165_227x {x : Int32} {u : UInt32} : RR S d 165 227 L (.int x :: .float u :: st) h Q = kB (ai_in x (ai_ext S u).1) (RR S d 165 228 L (.int ((ai_ext S u).2 x.toNatClampNeg) :: st) h Q) := RR.iax rfl rfl
theorem r165_228 {p0 : Int32} {a : Nat} : RR S (d + 1) 165 228 L (.int p0 :: .ref a :: st) h Q = kB (decide (ai_sum st ≤ 8)) (kB ((ai_obj h a 10).isSome) (RR S d 117 0 [(0, .ref a), (1, .int p0)] [] h (fun r h1 => RR S (d + 1) 165 231 L (r.toList ++ st) h1 Q))) := RR.cv (j := 27) (mn' := 117) (n := 1) rfl rfl rfl rfl rfl rfl
theorem r165_231 {x : Int32} : RR S d 165 231 L (.int x :: st) h Q = RR S d 165 232 L st h Q := RR.pop rfl rfl rfl
theorem r165_232 : RR S d 165 232 L st h Q = RR S d 165 852 L st h Q := RR.jmp (off := 620) rfl (by decide)
theorem r165_235 : RR S d 165 235 L st h Q = kA (ai_look L 1) (fun x => RR S d 165 236 L (x :: st) h Q) := RR.lda_n rfl rfl rfl
theorem r165_236 : RR S d 165 236 L st h Q = kA (ai_look L 0) (fun x => RR S d 165 237 L (x :: st) h Q) := RR.lda_n rfl rfl rfl
theorem r165_237 : RR S d 165 237 L st h Q = kI (ai_look L 3) (fun x => RR S d 165 238 L (.int x :: st) h Q) := RR.ldi_n rfl rfl rfl
theorem r165_238 : RR S d 165 238 L st h Q = RR S d 165 239 L (.int 1 :: st) h Q := RR.icn (n := 1) rfl (by decide) rfl
theorem r165_239 {x y : Int32} : RR S d 165 239 L (.int y :: .int x :: st) h Q = RR S d 165 240 L (.int (x + y) :: st) h Q := RR.do1 (240, L, .int (x + y) :: st, h) rfl rfl rfl
theorem r165_240 {x : Int32} {a : Nat} : RR S d 165 240 L (.int x :: .ref a :: st) h Q = kO (ai_arr h a 0) (fun q => kB (ai_in x q.1) (RR S d 165 241 L (.int (q.2 x.toNatClampNeg) :: st) h Q)) := RR.ial rfl rfl
theorem r165_240x {x : Int32} {u : UInt32} : RR S d 165 240 L (.int x :: .float u :: st) h Q = kB (ai_in x (ai_ext S u).1) (RR S d 165 241 L (.int ((ai_ext S u).2 x.toNatClampNeg) :: st) h Q) := RR.iax rfl rfl
theorem r165_241 {p0 : Int32} {a : Nat} : RR S (d + 1) 165 241 L (.int p0 :: .ref a :: st) h Q = kB (decide (ai_sum st ≤ 8)) (kB ((ai_obj h a 9).isSome) (RR S d 86 0 [(0, .ref a), (1, .int p0)] [] h (fun r h1 => RR S (d + 1) 165 244 L (r.toList ++ st) h1 Q))) := RR.cv (j := 28) (mn' := 86) (n := 1) rfl rfl rfl rfl rfl rfl
theorem r165_244 {x : Int32} : RR S d 165 244 L (.int x :: st) h Q = RR S d 165 245 L st h Q := RR.pop rfl rfl rfl
theorem r165_245 : RR S d 165 245 L st h Q = kA (ai_look L 2) (fun x => RR S d 165 246 L (x :: st) h Q) := RR.lda_n rfl rfl rfl
theorem r165_246 : RR S d 165 246 L st h Q = kA (ai_look L 0) (fun x => RR S d 165 247 L (x :: st) h Q) := RR.lda_n rfl rfl rfl
theorem r165_247 : RR S d 165 247 L st h Q = kI (ai_look L 3) (fun x => RR S d 165 248 L (.int x :: st) h Q) := RR.ldi_n rfl rfl rfl
theorem r165_248 : RR S d 165 248 L st h Q = RR S d 165 249 L (.int 1 :: st) h Q := RR.icn (n := 1) rfl (by decide) rfl
theorem r165_249 {x y : Int32} : RR S d 165 249 L (.int y :: .int x :: st) h Q = RR S d 165 250 L (.int (x + y) :: st) h Q := RR.do1 (250, L, .int (x + y) :: st, h) rfl rfl rfl
theorem r165_250 {x : Int32} {a : Nat} : RR S d 165 250 L (.int x :: .ref a :: st) h Q = kO (ai_arr h a 0) (fun q => kB (ai_in x q.1) (RR S d 165 251 L (.int (q.2 x.toNatClampNeg) :: st) h Q)) := RR.ial rfl rfl
theorem r165_250x {x : Int32} {u : UInt32} : RR S d 165 250 L (.int x :: .float u :: st) h Q = kB (ai_in x (ai_ext S u).1) (RR S d 165 251 L (.int ((ai_ext S u).2 x.toNatClampNeg) :: st) h Q) := RR.iax rfl rfl
theorem r165_251 {p0 : Int32} {a : Nat} : RR S (d + 1) 165 251 L (.int p0 :: .ref a :: st) h Q = kB (decide (ai_sum st ≤ 8)) (kB ((ai_obj h a 10).isSome) (RR S d 118 0 [(0, .ref a), (1, .int p0)] [] h (fun r h1 => RR S (d + 1) 165 254 L (r.toList ++ st) h1 Q))) := RR.cv (j := 31) (mn' := 118) (n := 1) rfl rfl rfl rfl rfl rfl
theorem r165_254 {x : Int32} : RR S d 165 254 L (.int x :: st) h Q = RR S d 165 255 L st h Q := RR.pop rfl rfl rfl
theorem r165_255 : RR S d 165 255 L st h Q = RR S d 165 852 L st h Q := RR.jmp (off := 597) rfl (by decide)
theorem r165_258 : RR S d 165 258 L st h Q = kA (ai_look L 1) (fun x => RR S d 165 259 L (x :: st) h Q) := RR.lda_n rfl rfl rfl
theorem r165_259 : RR S d 165 259 L st h Q = kA (ai_look L 0) (fun x => RR S d 165 260 L (x :: st) h Q) := RR.lda_n rfl rfl rfl
theorem r165_260 : RR S d 165 260 L st h Q = kI (ai_look L 3) (fun x => RR S d 165 261 L (.int x :: st) h Q) := RR.ldi_n rfl rfl rfl
theorem r165_261 : RR S d 165 261 L st h Q = RR S d 165 262 L (.int 1 :: st) h Q := RR.icn (n := 1) rfl (by decide) rfl
theorem r165_262 {x y : Int32} : RR S d 165 262 L (.int y :: .int x :: st) h Q = RR S d 165 263 L (.int (x + y) :: st) h Q := RR.do1 (263, L, .int (x + y) :: st, h) rfl rfl rfl
theorem r165_263 {x : Int32} {a : Nat} : RR S d 165 263 L (.int x :: .ref a :: st) h Q = kO (ai_arr h a 0) (fun q => kB (ai_in x q.1) (RR S d 165 264 L (.int (q.2 x.toNatClampNeg) :: st) h Q)) := RR.ial rfl rfl
theorem r165_263x {x : Int32} {u : UInt32} : RR S d 165 263 L (.int x :: .float u :: st) h Q = kB (ai_in x (ai_ext S u).1) (RR S d 165 264 L (.int ((ai_ext S u).2 x.toNatClampNeg) :: st) h Q) := RR.iax rfl rfl
theorem r165_264 : RR S d 165 264 L st h Q = kA (ai_look L 0) (fun x => RR S d 165 265 L (x :: st) h Q) := RR.lda_n rfl rfl rfl
theorem r165_265 : RR S d 165 265 L st h Q = kI (ai_look L 3) (fun x => RR S d 165 266 L (.int x :: st) h Q) := RR.ldi_n rfl rfl rfl
theorem r165_266 : RR S d 165 266 L st h Q = RR S d 165 267 L (.int 2 :: st) h Q := RR.icn (n := 2) rfl (by decide) rfl
theorem r165_267 {x y : Int32} : RR S d 165 267 L (.int y :: .int x :: st) h Q = RR S d 165 268 L (.int (x + y) :: st) h Q := RR.do1 (268, L, .int (x + y) :: st, h) rfl rfl rfl
theorem r165_268 {x : Int32} {a : Nat} : RR S d 165 268 L (.int x :: .ref a :: st) h Q = kO (ai_arr h a 0) (fun q => kB (ai_in x q.1) (RR S d 165 269 L (.int (q.2 x.toNatClampNeg) :: st) h Q)) := RR.ial rfl rfl
theorem r165_268x {x : Int32} {u : UInt32} : RR S d 165 268 L (.int x :: .float u :: st) h Q = kB (ai_in x (ai_ext S u).1) (RR S d 165 269 L (.int ((ai_ext S u).2 x.toNatClampNeg) :: st) h Q) := RR.iax rfl rfl
theorem r165_269 : RR S d 165 269 L st h Q = kA (ai_look L 0) (fun x => RR S d 165 270 L (x :: st) h Q) := RR.lda_n rfl rfl rfl
theorem r165_270 : RR S d 165 270 L st h Q = kI (ai_look L 3) (fun x => RR S d 165 271 L (.int x :: st) h Q) := RR.ldi_n rfl rfl rfl
theorem r165_271 : RR S d 165 271 L st h Q = RR S d 165 272 L (.int 3 :: st) h Q := RR.icn (n := 3) rfl (by decide) rfl
theorem r165_272 {x y : Int32} : RR S d 165 272 L (.int y :: .int x :: st) h Q = RR S d 165 273 L (.int (x + y) :: st) h Q := RR.do1 (273, L, .int (x + y) :: st, h) rfl rfl rfl
theorem r165_273 {x : Int32} {a : Nat} : RR S d 165 273 L (.int x :: .ref a :: st) h Q = kO (ai_arr h a 0) (fun q => kB (ai_in x q.1) (RR S d 165 274 L (.int (q.2 x.toNatClampNeg) :: st) h Q)) := RR.ial rfl rfl
theorem r165_273x {x : Int32} {u : UInt32} : RR S d 165 273 L (.int x :: .float u :: st) h Q = kB (ai_in x (ai_ext S u).1) (RR S d 165 274 L (.int ((ai_ext S u).2 x.toNatClampNeg) :: st) h Q) := RR.iax rfl rfl
theorem r165_274 : RR S d 165 274 L st h Q = kA (ai_look L 0) (fun x => RR S d 165 275 L (x :: st) h Q) := RR.lda_n rfl rfl rfl
theorem r165_275 : RR S d 165 275 L st h Q = kI (ai_look L 3) (fun x => RR S d 165 276 L (.int x :: st) h Q) := RR.ldi_n rfl rfl rfl
theorem r165_276 : RR S d 165 276 L st h Q = RR S d 165 277 L (.int 4 :: st) h Q := RR.icn (n := 4) rfl (by decide) rfl
theorem r165_277 {x y : Int32} : RR S d 165 277 L (.int y :: .int x :: st) h Q = RR S d 165 278 L (.int (x + y) :: st) h Q := RR.do1 (278, L, .int (x + y) :: st, h) rfl rfl rfl
theorem r165_278 {x : Int32} {a : Nat} : RR S d 165 278 L (.int x :: .ref a :: st) h Q = kO (ai_arr h a 0) (fun q => kB (ai_in x q.1) (RR S d 165 279 L (.int (q.2 x.toNatClampNeg) :: st) h Q)) := RR.ial rfl rfl
theorem r165_278x {x : Int32} {u : UInt32} : RR S d 165 278 L (.int x :: .float u :: st) h Q = kB (ai_in x (ai_ext S u).1) (RR S d 165 279 L (.int ((ai_ext S u).2 x.toNatClampNeg) :: st) h Q) := RR.iax rfl rfl
theorem r165_279 : RR S d 165 279 L st h Q = kA (ai_look L 0) (fun x => RR S d 165 280 L (x :: st) h Q) := RR.lda_n rfl rfl rfl
theorem r165_280 : RR S d 165 280 L st h Q = kI (ai_look L 3) (fun x => RR S d 165 281 L (.int x :: st) h Q) := RR.ldi_n rfl rfl rfl
theorem r165_281 : RR S d 165 281 L st h Q = RR S d 165 282 L (.int 5 :: st) h Q := RR.icn (n := 5) rfl (by decide) rfl
theorem r165_282 {x y : Int32} : RR S d 165 282 L (.int y :: .int x :: st) h Q = RR S d 165 283 L (.int (x + y) :: st) h Q := RR.do1 (283, L, .int (x + y) :: st, h) rfl rfl rfl
theorem r165_283 {x : Int32} {a : Nat} : RR S d 165 283 L (.int x :: .ref a :: st) h Q = kO (ai_arr h a 0) (fun q => kB (ai_in x q.1) (RR S d 165 284 L (.int (q.2 x.toNatClampNeg) :: st) h Q)) := RR.ial rfl rfl
theorem r165_283x {x : Int32} {u : UInt32} : RR S d 165 283 L (.int x :: .float u :: st) h Q = kB (ai_in x (ai_ext S u).1) (RR S d 165 284 L (.int ((ai_ext S u).2 x.toNatClampNeg) :: st) h Q) := RR.iax rfl rfl
theorem r165_284 {p0 : Int32} {p1 : Int32} {p2 : Int32} {p3 : Int32} {p4 : Int32} {a : Nat} : RR S (d + 1) 165 284 L (.int p4 :: .int p3 :: .int p2 :: .int p1 :: .int p0 :: .ref a :: st) h Q = kB (decide (ai_sum st ≤ 8)) (kB ((ai_obj h a 9).isSome) (RR S d 87 0 [(0, .ref a), (1, .int p0), (2, .int p1), (3, .int p2), (4, .int p3), (5, .int p4)] [] h (fun r h1 => RR S (d + 1) 165 287 L (r.toList ++ st) h1 Q))) := RR.cv (j := 32) (mn' := 87) (n := 5) rfl rfl rfl rfl rfl rfl
theorem r165_287 {x : Int32} : RR S d 165 287 L (.int x :: st) h Q = RR S d 165 288 L st h Q := RR.pop rfl rfl rfl
theorem r165_288 : RR S d 165 288 L st h Q = kA (ai_look L 2) (fun x => RR S d 165 289 L (x :: st) h Q) := RR.lda_n rfl rfl rfl
theorem r165_289 : RR S d 165 289 L st h Q = kA (ai_look L 0) (fun x => RR S d 165 290 L (x :: st) h Q) := RR.lda_n rfl rfl rfl
theorem r165_290 : RR S d 165 290 L st h Q = kI (ai_look L 3) (fun x => RR S d 165 291 L (.int x :: st) h Q) := RR.ldi_n rfl rfl rfl
theorem r165_291 : RR S d 165 291 L st h Q = RR S d 165 292 L (.int 1 :: st) h Q := RR.icn (n := 1) rfl (by decide) rfl
theorem r165_292 {x y : Int32} : RR S d 165 292 L (.int y :: .int x :: st) h Q = RR S d 165 293 L (.int (x + y) :: st) h Q := RR.do1 (293, L, .int (x + y) :: st, h) rfl rfl rfl
theorem r165_293 {x : Int32} {a : Nat} : RR S d 165 293 L (.int x :: .ref a :: st) h Q = kO (ai_arr h a 0) (fun q => kB (ai_in x q.1) (RR S d 165 294 L (.int (q.2 x.toNatClampNeg) :: st) h Q)) := RR.ial rfl rfl
theorem r165_293x {x : Int32} {u : UInt32} : RR S d 165 293 L (.int x :: .float u :: st) h Q = kB (ai_in x (ai_ext S u).1) (RR S d 165 294 L (.int ((ai_ext S u).2 x.toNatClampNeg) :: st) h Q) := RR.iax rfl rfl
theorem r165_294 : RR S d 165 294 L st h Q = kA (ai_look L 0) (fun x => RR S d 165 295 L (x :: st) h Q) := RR.lda_n rfl rfl rfl
theorem r165_295 : RR S d 165 295 L st h Q = kI (ai_look L 3) (fun x => RR S d 165 296 L (.int x :: st) h Q) := RR.ldi_n rfl rfl rfl
theorem r165_296 : RR S d 165 296 L st h Q = RR S d 165 297 L (.int 2 :: st) h Q := RR.icn (n := 2) rfl (by decide) rfl
theorem r165_297 {x y : Int32} : RR S d 165 297 L (.int y :: .int x :: st) h Q = RR S d 165 298 L (.int (x + y) :: st) h Q := RR.do1 (298, L, .int (x + y) :: st, h) rfl rfl rfl
theorem r165_298 {x : Int32} {a : Nat} : RR S d 165 298 L (.int x :: .ref a :: st) h Q = kO (ai_arr h a 0) (fun q => kB (ai_in x q.1) (RR S d 165 299 L (.int (q.2 x.toNatClampNeg) :: st) h Q)) := RR.ial rfl rfl
theorem r165_298x {x : Int32} {u : UInt32} : RR S d 165 298 L (.int x :: .float u :: st) h Q = kB (ai_in x (ai_ext S u).1) (RR S d 165 299 L (.int ((ai_ext S u).2 x.toNatClampNeg) :: st) h Q) := RR.iax rfl rfl
theorem r165_299 : RR S d 165 299 L st h Q = kA (ai_look L 0) (fun x => RR S d 165 300 L (x :: st) h Q) := RR.lda_n rfl rfl rfl
set_option maxRecDepth 20000 in
theorem r165_300 : RR S d 165 300 L st h Q = kI (ai_look L 3) (fun x => RR S d 165 301 L (.int x :: st) h Q) := RR.ldi_n rfl rfl rfl
set_option maxRecDepth 20000 in
theorem r165_301 : RR S d 165 301 L st h Q = RR S d 165 302 L (.int 3 :: st) h Q := RR.icn (n := 3) rfl (by decide) rfl
set_option maxRecDepth 20000 in
theorem r165_302 {x y : Int32} : RR S d 165 302 L (.int y :: .int x :: st) h Q = RR S d 165 303 L (.int (x + y) :: st) h Q := RR.do1 (303, L, .int (x + y) :: st, h) rfl rfl rfl
set_option maxRecDepth 20000 in
theorem r165_303 {x : Int32} {a : Nat} : RR S d 165 303 L (.int x :: .ref a :: st) h Q = kO (ai_arr h a 0) (fun q => kB (ai_in x q.1) (RR S d 165 304 L (.int (q.2 x.toNatClampNeg) :: st) h Q)) := RR.ial rfl rfl
set_option maxRecDepth 20000 in
theorem r165_303x {x : Int32} {u : UInt32} : RR S d 165 303 L (.int x :: .float u :: st) h Q = kB (ai_in x (ai_ext S u).1) (RR S d 165 304 L (.int ((ai_ext S u).2 x.toNatClampNeg) :: st) h Q) := RR.iax rfl rfl
set_option maxRecDepth 20000 in
theorem r165_304 : RR S d 165 304 L st h Q = kA (ai_look L 0) (fun x => RR S d 165 305 L (x :: st) h Q) := RR.lda_n rfl rfl rfl
set_option maxRecDepth 20000 in
theorem r165_305 : RR S d 165 305 L st h Q = kI (ai_look L 3) (fun x => RR S d 165 306 L (.int x :: st) h Q) := RR.ldi_n rfl rfl rfl
set_option maxRecDepth 20000 in
theorem r165_306 : RR S d 165 306 L st h Q = RR S d 165 307 L (.int 4 :: st) h Q := RR.icn (n := 4) rfl (by decide) rfl
set_option maxRecDepth 20000 in
theorem r165_307 {x y : Int32} : RR S d 165 307 L (.int y :: .int x :: st) h Q = RR S d 165 308 L (.int (x + y) :: st) h Q := RR.do1 (308, L, .int (x + y) :: st, h) rfl rfl rfl
set_option maxRecDepth 20000 in
theorem r165_308 {x : Int32} {a : Nat} : RR S d 165 308 L (.int x :: .ref a :: st) h Q = kO (ai_arr h a 0) (fun q => kB (ai_in x q.1) (RR S d 165 309 L (.int (q.2 x.toNatClampNeg) :: st) h Q)) := RR.ial rfl rfl
set_option maxRecDepth 20000 in
theorem r165_308x {x : Int32} {u : UInt32} : RR S d 165 308 L (.int x :: .float u :: st) h Q = kB (ai_in x (ai_ext S u).1) (RR S d 165 309 L (.int ((ai_ext S u).2 x.toNatClampNeg) :: st) h Q) := RR.iax rfl rfl
set_option maxRecDepth 20000 in
theorem r165_309 : RR S d 165 309 L st h Q = kA (ai_look L 0) (fun x => RR S d 165 310 L (x :: st) h Q) := RR.lda_n rfl rfl rfl
set_option maxRecDepth 20000 in
theorem r165_310 : RR S d 165 310 L st h Q = kI (ai_look L 3) (fun x => RR S d 165 311 L (.int x :: st) h Q) := RR.ldi_n rfl rfl rfl
set_option maxRecDepth 20000 in
theorem r165_311 : RR S d 165 311 L st h Q = RR S d 165 312 L (.int 5 :: st) h Q := RR.icn (n := 5) rfl (by decide) rfl
set_option maxRecDepth 20000 in
theorem r165_312 {x y : Int32} : RR S d 165 312 L (.int y :: .int x :: st) h Q = RR S d 165 313 L (.int (x + y) :: st) h Q := RR.do1 (313, L, .int (x + y) :: st, h) rfl rfl rfl
set_option maxRecDepth 20000 in
theorem r165_313 {x : Int32} {a : Nat} : RR S d 165 313 L (.int x :: .ref a :: st) h Q = kO (ai_arr h a 0) (fun q => kB (ai_in x q.1) (RR S d 165 314 L (.int (q.2 x.toNatClampNeg) :: st) h Q)) := RR.ial rfl rfl
set_option maxRecDepth 20000 in
theorem r165_313x {x : Int32} {u : UInt32} : RR S d 165 313 L (.int x :: .float u :: st) h Q = kB (ai_in x (ai_ext S u).1) (RR S d 165 314 L (.int ((ai_ext S u).2 x.toNatClampNeg) :: st) h Q) := RR.iax rfl rfl
set_option maxRecDepth 20000 in
theorem r165_314 {p0 : Int32} {p1 : Int32} {p2 : Int32} {p3 : Int32} {p4 : Int32} {a : Nat} : RR S (d + 1) 165 314 L (.int p4 :: .int p3 :: .int p2 :: .int p1 :: .int p0 :: .ref a :: st) h Q = kB (decide (ai_sum st ≤ 8)) (kB ((ai_obj h a 10).isSome) (RR S d 125 0 [(0, .ref a), (1, .int p0), (2, .int p1), (3, .int p2), (4, .int p3), (5, .int p4)] [] h (fun r h1 => RR S (d + 1) 165 317 L (r.toList ++ st) h1 Q))) := RR.cv (j := 36) (mn' := 125) (n := 5) rfl rfl rfl rfl rfl rfl
set_option maxRecDepth 20000 in
theorem r165_317 {x : Int32} : RR S d 165 317 L (.int x :: st) h Q = RR S d 165 318 L st h Q := RR.pop rfl rfl rfl
set_option maxRecDepth 20000 in
theorem r165_318 : RR S d 165 318 L st h Q = RR S d 165 852 L st h Q := RR.jmp (off := 534) rfl (by decide)
set_option maxRecDepth 20000 in
theorem r165_321 : RR S d 165 321 L st h Q = kA (ai_look L 1) (fun x => RR S d 165 322 L (x :: st) h Q) := RR.lda_n rfl rfl rfl
set_option maxRecDepth 20000 in
theorem r165_322 : RR S d 165 322 L st h Q = kA (ai_look L 0) (fun x => RR S d 165 323 L (x :: st) h Q) := RR.lda_n rfl rfl rfl
set_option maxRecDepth 20000 in
theorem r165_323 : RR S d 165 323 L st h Q = kI (ai_look L 3) (fun x => RR S d 165 324 L (.int x :: st) h Q) := RR.ldi_n rfl rfl rfl
set_option maxRecDepth 20000 in
theorem r165_324 : RR S d 165 324 L st h Q = RR S d 165 325 L (.int 1 :: st) h Q := RR.icn (n := 1) rfl (by decide) rfl
set_option maxRecDepth 20000 in
theorem r165_325 {x y : Int32} : RR S d 165 325 L (.int y :: .int x :: st) h Q = RR S d 165 326 L (.int (x + y) :: st) h Q := RR.do1 (326, L, .int (x + y) :: st, h) rfl rfl rfl
set_option maxRecDepth 20000 in
theorem r165_326 {x : Int32} {a : Nat} : RR S d 165 326 L (.int x :: .ref a :: st) h Q = kO (ai_arr h a 0) (fun q => kB (ai_in x q.1) (RR S d 165 327 L (.int (q.2 x.toNatClampNeg) :: st) h Q)) := RR.ial rfl rfl
set_option maxRecDepth 20000 in
theorem r165_326x {x : Int32} {u : UInt32} : RR S d 165 326 L (.int x :: .float u :: st) h Q = kB (ai_in x (ai_ext S u).1) (RR S d 165 327 L (.int ((ai_ext S u).2 x.toNatClampNeg) :: st) h Q) := RR.iax rfl rfl
set_option maxRecDepth 20000 in
theorem r165_327 : RR S d 165 327 L st h Q = kA (ai_look L 0) (fun x => RR S d 165 328 L (x :: st) h Q) := RR.lda_n rfl rfl rfl
set_option maxRecDepth 20000 in
theorem r165_328 : RR S d 165 328 L st h Q = kI (ai_look L 3) (fun x => RR S d 165 329 L (.int x :: st) h Q) := RR.ldi_n rfl rfl rfl
set_option maxRecDepth 20000 in
theorem r165_329 : RR S d 165 329 L st h Q = RR S d 165 330 L (.int 2 :: st) h Q := RR.icn (n := 2) rfl (by decide) rfl
set_option maxRecDepth 20000 in
theorem r165_330 {x y : Int32} : RR S d 165 330 L (.int y :: .int x :: st) h Q = RR S d 165 331 L (.int (x + y) :: st) h Q := RR.do1 (331, L, .int (x + y) :: st, h) rfl rfl rfl
set_option maxRecDepth 20000 in
theorem r165_331 {x : Int32} {a : Nat} : RR S d 165 331 L (.int x :: .ref a :: st) h Q = kO (ai_arr h a 0) (fun q => kB (ai_in x q.1) (RR S d 165 332 L (.int (q.2 x.toNatClampNeg) :: st) h Q)) := RR.ial rfl rfl
set_option maxRecDepth 20000 in
theorem r165_331x {x : Int32} {u : UInt32} : RR S d 165 331 L (.int x :: .float u :: st) h Q = kB (ai_in x (ai_ext S u).1) (RR S d 165 332 L (.int ((ai_ext S u).2 x.toNatClampNeg) :: st) h Q) := RR.iax rfl rfl
set_option maxRecDepth 20000 in
theorem r165_332 : RR S d 165 332 L st h Q = kA (ai_look L 0) (fun x => RR S d 165 333 L (x :: st) h Q) := RR.lda_n rfl rfl rfl
set_option maxRecDepth 20000 in
theorem r165_333 : RR S d 165 333 L st h Q = kI (ai_look L 3) (fun x => RR S d 165 334 L (.int x :: st) h Q) := RR.ldi_n rfl rfl rfl
set_option maxRecDepth 20000 in
theorem r165_334 : RR S d 165 334 L st h Q = RR S d 165 335 L (.int 3 :: st) h Q := RR.icn (n := 3) rfl (by decide) rfl
set_option maxRecDepth 20000 in
theorem r165_335 {x y : Int32} : RR S d 165 335 L (.int y :: .int x :: st) h Q = RR S d 165 336 L (.int (x + y) :: st) h Q := RR.do1 (336, L, .int (x + y) :: st, h) rfl rfl rfl
set_option maxRecDepth 20000 in
theorem r165_336 {x : Int32} {a : Nat} : RR S d 165 336 L (.int x :: .ref a :: st) h Q = kO (ai_arr h a 0) (fun q => kB (ai_in x q.1) (RR S d 165 337 L (.int (q.2 x.toNatClampNeg) :: st) h Q)) := RR.ial rfl rfl
set_option maxRecDepth 20000 in
theorem r165_336x {x : Int32} {u : UInt32} : RR S d 165 336 L (.int x :: .float u :: st) h Q = kB (ai_in x (ai_ext S u).1) (RR S d 165 337 L (.int ((ai_ext S u).2 x.toNatClampNeg) :: st) h Q) := RR.iax rfl rfl
set_option maxRecDepth 20000 in
theorem r165_337 : RR S d 165 337 L st h Q = kA (ai_look L 0) (fun x => RR S d 165 338 L (x :: st) h Q) := RR.lda_n rfl rfl rfl
set_option maxRecDepth 20000 in
theorem r165_338 : RR S d 165 338 L st h Q = kI (ai_look L 3) (fun x => RR S d 165 339 L (.int x :: st) h Q) := RR.ldi_n rfl rfl rfl
set_option maxRecDepth 20000 in
theorem r165_339 : RR S d 165 339 L st h Q = RR S d 165 340 L (.int 4 :: st) h Q := RR.icn (n := 4) rfl (by decide) rfl
set_option maxRecDepth 20000 in
theorem r165_340 {x y : Int32} : RR S d 165 340 L (.int y :: .int x :: st) h Q = RR S d 165 341 L (.int (x + y) :: st) h Q := RR.do1 (341, L, .int (x + y) :: st, h) rfl rfl rfl
set_option maxRecDepth 20000 in
theorem r165_341 {x : Int32} {a : Nat} : RR S d 165 341 L (.int x :: .ref a :: st) h Q = kO (ai_arr h a 0) (fun q => kB (ai_in x q.1) (RR S d 165 342 L (.int (q.2 x.toNatClampNeg) :: st) h Q)) := RR.ial rfl rfl
set_option maxRecDepth 20000 in
theorem r165_341x {x : Int32} {u : UInt32} : RR S d 165 341 L (.int x :: .float u :: st) h Q = kB (ai_in x (ai_ext S u).1) (RR S d 165 342 L (.int ((ai_ext S u).2 x.toNatClampNeg) :: st) h Q) := RR.iax rfl rfl
set_option maxRecDepth 20000 in
theorem r165_342 : RR S d 165 342 L st h Q = kA (ai_look L 0) (fun x => RR S d 165 343 L (x :: st) h Q) := RR.lda_n rfl rfl rfl
set_option maxRecDepth 20000 in
theorem r165_343 : RR S d 165 343 L st h Q = kI (ai_look L 3) (fun x => RR S d 165 344 L (.int x :: st) h Q) := RR.ldi_n rfl rfl rfl
set_option maxRecDepth 20000 in
theorem r165_344 : RR S d 165 344 L st h Q = RR S d 165 345 L (.int 5 :: st) h Q := RR.icn (n := 5) rfl (by decide) rfl
set_option maxRecDepth 20000 in
theorem r165_345 {x y : Int32} : RR S d 165 345 L (.int y :: .int x :: st) h Q = RR S d 165 346 L (.int (x + y) :: st) h Q := RR.do1 (346, L, .int (x + y) :: st, h) rfl rfl rfl
set_option maxRecDepth 20000 in
theorem r165_346 {x : Int32} {a : Nat} : RR S d 165 346 L (.int x :: .ref a :: st) h Q = kO (ai_arr h a 0) (fun q => kB (ai_in x q.1) (RR S d 165 347 L (.int (q.2 x.toNatClampNeg) :: st) h Q)) := RR.ial rfl rfl
set_option maxRecDepth 20000 in
theorem r165_346x {x : Int32} {u : UInt32} : RR S d 165 346 L (.int x :: .float u :: st) h Q = kB (ai_in x (ai_ext S u).1) (RR S d 165 347 L (.int ((ai_ext S u).2 x.toNatClampNeg) :: st) h Q) := RR.iax rfl rfl
set_option maxRecDepth 20000 in
theorem r165_347 {p0 : Int32} {p1 : Int32} {p2 : Int32} {p3 : Int32} {p4 : Int32} {a : Nat} : RR S (d + 1) 165 347 L (.int p4 :: .int p3 :: .int p2 :: .int p1 :: .int p0 :: .ref a :: st) h Q = kB (decide (ai_sum st ≤ 8)) (kB ((ai_obj h a 9).isSome) (RR S d 88 0 [(0, .ref a), (1, .int p0), (2, .int p1), (3, .int p2), (4, .int p3), (5, .int p4)] [] h (fun r h1 => RR S (d + 1) 165 350 L (r.toList ++ st) h1 Q))) := RR.cv (j := 37) (mn' := 88) (n := 5) rfl rfl rfl rfl rfl rfl
set_option maxRecDepth 20000 in
theorem r165_350 {x : Int32} : RR S d 165 350 L (.int x :: st) h Q = RR S d 165 351 L st h Q := RR.pop rfl rfl rfl
set_option maxRecDepth 20000 in
theorem r165_351 : RR S d 165 351 L st h Q = kA (ai_look L 2) (fun x => RR S d 165 352 L (x :: st) h Q) := RR.lda_n rfl rfl rfl
set_option maxRecDepth 20000 in
theorem r165_352 : RR S d 165 352 L st h Q = kA (ai_look L 0) (fun x => RR S d 165 353 L (x :: st) h Q) := RR.lda_n rfl rfl rfl
set_option maxRecDepth 20000 in
theorem r165_353 : RR S d 165 353 L st h Q = kI (ai_look L 3) (fun x => RR S d 165 354 L (.int x :: st) h Q) := RR.ldi_n rfl rfl rfl
set_option maxRecDepth 20000 in
theorem r165_354 : RR S d 165 354 L st h Q = RR S d 165 355 L (.int 1 :: st) h Q := RR.icn (n := 1) rfl (by decide) rfl
set_option maxRecDepth 20000 in
theorem r165_355 {x y : Int32} : RR S d 165 355 L (.int y :: .int x :: st) h Q = RR S d 165 356 L (.int (x + y) :: st) h Q := RR.do1 (356, L, .int (x + y) :: st, h) rfl rfl rfl
set_option maxRecDepth 20000 in
theorem r165_356 {x : Int32} {a : Nat} : RR S d 165 356 L (.int x :: .ref a :: st) h Q = kO (ai_arr h a 0) (fun q => kB (ai_in x q.1) (RR S d 165 357 L (.int (q.2 x.toNatClampNeg) :: st) h Q)) := RR.ial rfl rfl
set_option maxRecDepth 20000 in
theorem r165_356x {x : Int32} {u : UInt32} : RR S d 165 356 L (.int x :: .float u :: st) h Q = kB (ai_in x (ai_ext S u).1) (RR S d 165 357 L (.int ((ai_ext S u).2 x.toNatClampNeg) :: st) h Q) := RR.iax rfl rfl
set_option maxRecDepth 20000 in
theorem r165_357 : RR S d 165 357 L st h Q = kA (ai_look L 0) (fun x => RR S d 165 358 L (x :: st) h Q) := RR.lda_n rfl rfl rfl
set_option maxRecDepth 20000 in
theorem r165_358 : RR S d 165 358 L st h Q = kI (ai_look L 3) (fun x => RR S d 165 359 L (.int x :: st) h Q) := RR.ldi_n rfl rfl rfl
set_option maxRecDepth 20000 in
theorem r165_359 : RR S d 165 359 L st h Q = RR S d 165 360 L (.int 2 :: st) h Q := RR.icn (n := 2) rfl (by decide) rfl
set_option maxRecDepth 20000 in
theorem r165_360 {x y : Int32} : RR S d 165 360 L (.int y :: .int x :: st) h Q = RR S d 165 361 L (.int (x + y) :: st) h Q := RR.do1 (361, L, .int (x + y) :: st, h) rfl rfl rfl
set_option maxRecDepth 20000 in
theorem r165_361 {x : Int32} {a : Nat} : RR S d 165 361 L (.int x :: .ref a :: st) h Q = kO (ai_arr h a 0) (fun q => kB (ai_in x q.1) (RR S d 165 362 L (.int (q.2 x.toNatClampNeg) :: st) h Q)) := RR.ial rfl rfl
set_option maxRecDepth 20000 in
theorem r165_361x {x : Int32} {u : UInt32} : RR S d 165 361 L (.int x :: .float u :: st) h Q = kB (ai_in x (ai_ext S u).1) (RR S d 165 362 L (.int ((ai_ext S u).2 x.toNatClampNeg) :: st) h Q) := RR.iax rfl rfl
set_option maxRecDepth 20000 in
theorem r165_362 : RR S d 165 362 L st h Q = kA (ai_look L 0) (fun x => RR S d 165 363 L (x :: st) h Q) := RR.lda_n rfl rfl rfl
set_option maxRecDepth 20000 in
theorem r165_363 : RR S d 165 363 L st h Q = kI (ai_look L 3) (fun x => RR S d 165 364 L (.int x :: st) h Q) := RR.ldi_n rfl rfl rfl
set_option maxRecDepth 20000 in
theorem r165_364 : RR S d 165 364 L st h Q = RR S d 165 365 L (.int 3 :: st) h Q := RR.icn (n := 3) rfl (by decide) rfl
set_option maxRecDepth 20000 in
theorem r165_365 {x y : Int32} : RR S d 165 365 L (.int y :: .int x :: st) h Q = RR S d 165 366 L (.int (x + y) :: st) h Q := RR.do1 (366, L, .int (x + y) :: st, h) rfl rfl rfl
set_option maxRecDepth 20000 in
theorem r165_366 {x : Int32} {a : Nat} : RR S d 165 366 L (.int x :: .ref a :: st) h Q = kO (ai_arr h a 0) (fun q => kB (ai_in x q.1) (RR S d 165 367 L (.int (q.2 x.toNatClampNeg) :: st) h Q)) := RR.ial rfl rfl
set_option maxRecDepth 20000 in
theorem r165_366x {x : Int32} {u : UInt32} : RR S d 165 366 L (.int x :: .float u :: st) h Q = kB (ai_in x (ai_ext S u).1) (RR S d 165 367 L (.int ((ai_ext S u).2 x.toNatClampNeg) :: st) h Q) := RR.iax rfl rfl
set_option maxRecDepth 20000 in
theorem r165_367 : RR S d 165 367 L st h Q = kA (ai_look L 0) (fun x => RR S d 165 368 L (x :: st) h Q) := RR.lda_n rfl rfl rfl
set_option maxRecDepth 20000 in
theorem r165_368 : RR S d 165 368 L st h Q = kI (ai_look L 3) (fun x => RR S d 165 369 L (.int x :: st) h Q) := RR.ldi_n rfl rfl rfl
set_option maxRecDepth 20000 in
theorem r165_369 : RR S d 165 369 L st h Q = RR S d 165 370 L (.int 4 :: st) h Q := RR.icn (n := 4) rfl (by decide) rfl
set_option maxRecDepth 20000 in
theorem r165_370 {x y : Int32} : RR S d 165 370 L (.int y :: .int x :: st) h Q = RR S d 165 371 L (.int (x + y) :: st) h Q := RR.do1 (371, L, .int (x + y) :: st, h) rfl rfl rfl
set_option maxRecDepth 20000 in
theorem r165_371 {x : Int32} {a : Nat} : RR S d 165 371 L (.int x :: .ref a :: st) h Q = kO (ai_arr h a 0) (fun q => kB (ai_in x q.1) (RR S d 165 372 L (.int (q.2 x.toNatClampNeg) :: st) h Q)) := RR.ial rfl rfl
set_option maxRecDepth 20000 in
theorem r165_371x {x : Int32} {u : UInt32} : RR S d 165 371 L (.int x :: .float u :: st) h Q = kB (ai_in x (ai_ext S u).1) (RR S d 165 372 L (.int ((ai_ext S u).2 x.toNatClampNeg) :: st) h Q) := RR.iax rfl rfl
set_option maxRecDepth 20000 in
theorem r165_372 : RR S d 165 372 L st h Q = kA (ai_look L 0) (fun x => RR S d 165 373 L (x :: st) h Q) := RR.lda_n rfl rfl rfl
set_option maxRecDepth 20000 in
theorem r165_373 : RR S d 165 373 L st h Q = kI (ai_look L 3) (fun x => RR S d 165 374 L (.int x :: st) h Q) := RR.ldi_n rfl rfl rfl
set_option maxRecDepth 20000 in
theorem r165_374 : RR S d 165 374 L st h Q = RR S d 165 375 L (.int 5 :: st) h Q := RR.icn (n := 5) rfl (by decide) rfl
set_option maxRecDepth 20000 in
theorem r165_375 {x y : Int32} : RR S d 165 375 L (.int y :: .int x :: st) h Q = RR S d 165 376 L (.int (x + y) :: st) h Q := RR.do1 (376, L, .int (x + y) :: st, h) rfl rfl rfl
set_option maxRecDepth 20000 in
theorem r165_376 {x : Int32} {a : Nat} : RR S d 165 376 L (.int x :: .ref a :: st) h Q = kO (ai_arr h a 0) (fun q => kB (ai_in x q.1) (RR S d 165 377 L (.int (q.2 x.toNatClampNeg) :: st) h Q)) := RR.ial rfl rfl
set_option maxRecDepth 20000 in
theorem r165_376x {x : Int32} {u : UInt32} : RR S d 165 376 L (.int x :: .float u :: st) h Q = kB (ai_in x (ai_ext S u).1) (RR S d 165 377 L (.int ((ai_ext S u).2 x.toNatClampNeg) :: st) h Q) := RR.iax rfl rfl
set_option maxRecDepth 20000 in
theorem r165_377 {p0 : Int32} {p1 : Int32} {p2 : Int32} {p3 : Int32} {p4 : Int32} {a : Nat} : RR S (d + 1) 165 377 L (.int p4 :: .int p3 :: .int p2 :: .int p1 :: .int p0 :: .ref a :: st) h Q = kB (decide (ai_sum st ≤ 8)) (kB ((ai_obj h a 10).isSome) (RR S d 126 0 [(0, .ref a), (1, .int p0), (2, .int p1), (3, .int p2), (4, .int p3), (5, .int p4)] [] h (fun r h1 => RR S (d + 1) 165 380 L (r.toList ++ st) h1 Q))) := RR.cv (j := 40) (mn' := 126) (n := 5) rfl rfl rfl rfl rfl rfl
set_option maxRecDepth 20000 in
theorem r165_380 {x : Int32} : RR S d 165 380 L (.int x :: st) h Q = RR S d 165 381 L st h Q := RR.pop rfl rfl rfl
set_option maxRecDepth 20000 in
theorem r165_381 : RR S d 165 381 L st h Q = RR S d 165 852 L st h Q := RR.jmp (off := 471) rfl (by decide)
set_option maxRecDepth 20000 in
theorem r165_384 : RR S d 165 384 L st h Q = kA (ai_look L 1) (fun x => RR S d 165 385 L (x :: st) h Q) := RR.lda_n rfl rfl rfl
set_option maxRecDepth 20000 in
theorem r165_385 : RR S d 165 385 L st h Q = kA (ai_look L 0) (fun x => RR S d 165 386 L (x :: st) h Q) := RR.lda_n rfl rfl rfl
set_option maxRecDepth 20000 in
theorem r165_386 : RR S d 165 386 L st h Q = kI (ai_look L 3) (fun x => RR S d 165 387 L (.int x :: st) h Q) := RR.ldi_n rfl rfl rfl
set_option maxRecDepth 20000 in
theorem r165_387 : RR S d 165 387 L st h Q = RR S d 165 388 L (.int 1 :: st) h Q := RR.icn (n := 1) rfl (by decide) rfl
set_option maxRecDepth 20000 in
theorem r165_388 {x y : Int32} : RR S d 165 388 L (.int y :: .int x :: st) h Q = RR S d 165 389 L (.int (x + y) :: st) h Q := RR.do1 (389, L, .int (x + y) :: st, h) rfl rfl rfl
set_option maxRecDepth 20000 in
theorem r165_389 {x : Int32} {a : Nat} : RR S d 165 389 L (.int x :: .ref a :: st) h Q = kO (ai_arr h a 0) (fun q => kB (ai_in x q.1) (RR S d 165 390 L (.int (q.2 x.toNatClampNeg) :: st) h Q)) := RR.ial rfl rfl
set_option maxRecDepth 20000 in
theorem r165_389x {x : Int32} {u : UInt32} : RR S d 165 389 L (.int x :: .float u :: st) h Q = kB (ai_in x (ai_ext S u).1) (RR S d 165 390 L (.int ((ai_ext S u).2 x.toNatClampNeg) :: st) h Q) := RR.iax rfl rfl
set_option maxRecDepth 20000 in
theorem r165_390 {p0 : Int32} {a : Nat} : RR S (d + 1) 165 390 L (.int p0 :: .ref a :: st) h Q = kB (decide (ai_sum st ≤ 8)) (kB ((ai_obj h a 9).isSome) (RR S d 89 0 [(0, .ref a), (1, .int p0)] [] h (fun r h1 => RR S (d + 1) 165 393 L (r.toList ++ st) h1 Q))) := RR.cv (j := 41) (mn' := 89) (n := 1) rfl rfl rfl rfl rfl rfl
set_option maxRecDepth 20000 in
theorem r165_393 {x : Int32} : RR S d 165 393 L (.int x :: st) h Q = RR S d 165 394 L st h Q := RR.pop rfl rfl rfl
set_option maxRecDepth 20000 in
theorem r165_394 : RR S d 165 394 L st h Q = kA (ai_look L 2) (fun x => RR S d 165 395 L (x :: st) h Q) := RR.lda_n rfl rfl rfl
set_option maxRecDepth 20000 in
theorem r165_395 : RR S d 165 395 L st h Q = kA (ai_look L 0) (fun x => RR S d 165 396 L (x :: st) h Q) := RR.lda_n rfl rfl rfl
set_option maxRecDepth 20000 in
theorem r165_396 : RR S d 165 396 L st h Q = kI (ai_look L 3) (fun x => RR S d 165 397 L (.int x :: st) h Q) := RR.ldi_n rfl rfl rfl
set_option maxRecDepth 20000 in
theorem r165_397 : RR S d 165 397 L st h Q = RR S d 165 398 L (.int 1 :: st) h Q := RR.icn (n := 1) rfl (by decide) rfl
set_option maxRecDepth 20000 in
theorem r165_398 {x y : Int32} : RR S d 165 398 L (.int y :: .int x :: st) h Q = RR S d 165 399 L (.int (x + y) :: st) h Q := RR.do1 (399, L, .int (x + y) :: st, h) rfl rfl rfl
set_option maxRecDepth 20000 in
theorem r165_399 {x : Int32} {a : Nat} : RR S d 165 399 L (.int x :: .ref a :: st) h Q = kO (ai_arr h a 0) (fun q => kB (ai_in x q.1) (RR S d 165 400 L (.int (q.2 x.toNatClampNeg) :: st) h Q)) := RR.ial rfl rfl
set_option maxRecDepth 20000 in
theorem r165_399x {x : Int32} {u : UInt32} : RR S d 165 399 L (.int x :: .float u :: st) h Q = kB (ai_in x (ai_ext S u).1) (RR S d 165 400 L (.int ((ai_ext S u).2 x.toNatClampNeg) :: st) h Q) := RR.iax rfl rfl
set_option maxRecDepth 20000 in
theorem r165_400 {p0 : Int32} {a : Nat} : RR S (d + 1) 165 400 L (.int p0 :: .ref a :: st) h Q = kB (decide (ai_sum st ≤ 8)) (kB ((ai_obj h a 10).isSome) (RR S d 127 0 [(0, .ref a), (1, .int p0)] [] h (fun r h1 => RR S (d + 1) 165 403 L (r.toList ++ st) h1 Q))) := RR.cv (j := 44) (mn' := 127) (n := 1) rfl rfl rfl rfl rfl rfl
set_option maxRecDepth 20000 in
theorem r165_403 {x : Int32} : RR S d 165 403 L (.int x :: st) h Q = RR S d 165 404 L st h Q := RR.pop rfl rfl rfl
set_option maxRecDepth 20000 in
theorem r165_404 : RR S d 165 404 L st h Q = RR S d 165 852 L st h Q := RR.jmp (off := 448) rfl (by decide)
set_option maxRecDepth 20000 in
theorem r165_407 : RR S d 165 407 L st h Q = kA (ai_look L 1) (fun x => RR S d 165 408 L (x :: st) h Q) := RR.lda_n rfl rfl rfl
set_option maxRecDepth 20000 in
theorem r165_408 {a : Nat} : RR S (d + 1) 165 408 L (.ref a :: st) h Q = kB (decide (ai_sum st ≤ 8)) (kB ((ai_obj h a 9).isSome) (RR S d 90 0 [(0, .ref a)] [] h (fun r h1 => RR S (d + 1) 165 411 L (r.toList ++ st) h1 Q))) := RR.cv (j := 45) (mn' := 90) (n := 0) rfl rfl rfl rfl rfl rfl
set_option maxRecDepth 20000 in
theorem r165_411 {x : Int32} : RR S d 165 411 L (.int x :: st) h Q = RR S d 165 412 L st h Q := RR.pop rfl rfl rfl
set_option maxRecDepth 20000 in
theorem r165_412 : RR S d 165 412 L st h Q = kA (ai_look L 2) (fun x => RR S d 165 413 L (x :: st) h Q) := RR.lda_n rfl rfl rfl
set_option maxRecDepth 20000 in
theorem r165_413 {a : Nat} : RR S (d + 1) 165 413 L (.ref a :: st) h Q = kB (decide (ai_sum st ≤ 8)) (kB ((ai_obj h a 10).isSome) (RR S d 134 0 [(0, .ref a)] [] h (fun r h1 => RR S (d + 1) 165 416 L (r.toList ++ st) h1 Q))) := RR.cv (j := 49) (mn' := 134) (n := 0) rfl rfl rfl rfl rfl rfl
set_option maxRecDepth 20000 in
theorem r165_416 {x : Int32} : RR S d 165 416 L (.int x :: st) h Q = RR S d 165 417 L st h Q := RR.pop rfl rfl rfl
set_option maxRecDepth 20000 in
theorem r165_417 : RR S d 165 417 L st h Q = RR S d 165 852 L st h Q := RR.jmp (off := 435) rfl (by decide)
set_option maxRecDepth 20000 in
theorem r165_420 : RR S d 165 420 L st h Q = kA (ai_look L 1) (fun x => RR S d 165 421 L (x :: st) h Q) := RR.lda_n rfl rfl rfl
set_option maxRecDepth 20000 in
theorem r165_421 {a : Nat} : RR S (d + 1) 165 421 L (.ref a :: st) h Q = kB (decide (ai_sum st ≤ 8)) (kB ((ai_obj h a 9).isSome) (RR S d 91 0 [(0, .ref a)] [] h (fun r h1 => RR S (d + 1) 165 424 L (r.toList ++ st) h1 Q))) := RR.cv (j := 50) (mn' := 91) (n := 0) rfl rfl rfl rfl rfl rfl
set_option maxRecDepth 20000 in
theorem r165_424 {x : Int32} : RR S d 165 424 L (.int x :: st) h Q = RR S d 165 425 L st h Q := RR.pop rfl rfl rfl
set_option maxRecDepth 20000 in
theorem r165_425 : RR S d 165 425 L st h Q = kA (ai_look L 2) (fun x => RR S d 165 426 L (x :: st) h Q) := RR.lda_n rfl rfl rfl
set_option maxRecDepth 20000 in
theorem r165_426 {a : Nat} : RR S (d + 1) 165 426 L (.ref a :: st) h Q = kB (decide (ai_sum st ≤ 8)) (kB ((ai_obj h a 10).isSome) (RR S d 135 0 [(0, .ref a)] [] h (fun r h1 => RR S (d + 1) 165 429 L (r.toList ++ st) h1 Q))) := RR.cv (j := 53) (mn' := 135) (n := 0) rfl rfl rfl rfl rfl rfl
set_option maxRecDepth 20000 in
theorem r165_429 {x : Int32} : RR S d 165 429 L (.int x :: st) h Q = RR S d 165 430 L st h Q := RR.pop rfl rfl rfl
set_option maxRecDepth 20000 in
theorem r165_430 : RR S d 165 430 L st h Q = RR S d 165 852 L st h Q := RR.jmp (off := 422) rfl (by decide)
set_option maxRecDepth 20000 in
theorem r165_433 : RR S d 165 433 L st h Q = kA (ai_look L 1) (fun x => RR S d 165 434 L (x :: st) h Q) := RR.lda_n rfl rfl rfl
set_option maxRecDepth 20000 in
theorem r165_434 {a : Nat} : RR S (d + 1) 165 434 L (.ref a :: st) h Q = kB (decide (ai_sum st ≤ 8)) (kB ((ai_obj h a 9).isSome) (RR S d 92 0 [(0, .ref a)] [] h (fun r h1 => RR S (d + 1) 165 437 L (r.toList ++ st) h1 Q))) := RR.cv (j := 54) (mn' := 92) (n := 0) rfl rfl rfl rfl rfl rfl
set_option maxRecDepth 20000 in
theorem r165_437 {x : Int32} : RR S d 165 437 L (.int x :: st) h Q = RR S d 165 438 L st h Q := RR.pop rfl rfl rfl
set_option maxRecDepth 20000 in
theorem r165_438 : RR S d 165 438 L st h Q = kA (ai_look L 2) (fun x => RR S d 165 439 L (x :: st) h Q) := RR.lda_n rfl rfl rfl
set_option maxRecDepth 20000 in
theorem r165_439 {a : Nat} : RR S (d + 1) 165 439 L (.ref a :: st) h Q = kB (decide (ai_sum st ≤ 8)) (kB ((ai_obj h a 10).isSome) (RR S d 140 0 [(0, .ref a)] [] h (fun r h1 => RR S (d + 1) 165 442 L (r.toList ++ st) h1 Q))) := RR.cv (j := 57) (mn' := 140) (n := 0) rfl rfl rfl rfl rfl rfl
set_option maxRecDepth 20000 in
theorem r165_442 {x : Int32} : RR S d 165 442 L (.int x :: st) h Q = RR S d 165 443 L st h Q := RR.pop rfl rfl rfl
set_option maxRecDepth 20000 in
theorem r165_443 : RR S d 165 443 L st h Q = RR S d 165 852 L st h Q := RR.jmp (off := 409) rfl (by decide)
set_option maxRecDepth 20000 in
theorem r165_446 : RR S d 165 446 L st h Q = kA (ai_look L 1) (fun x => RR S d 165 447 L (x :: st) h Q) := RR.lda_n rfl rfl rfl
set_option maxRecDepth 20000 in
theorem r165_447 : RR S d 165 447 L st h Q = kA (ai_look L 0) (fun x => RR S d 165 448 L (x :: st) h Q) := RR.lda_n rfl rfl rfl
set_option maxRecDepth 20000 in
theorem r165_448 : RR S d 165 448 L st h Q = kI (ai_look L 3) (fun x => RR S d 165 449 L (.int x :: st) h Q) := RR.ldi_n rfl rfl rfl
set_option maxRecDepth 20000 in
theorem r165_449 : RR S d 165 449 L st h Q = RR S d 165 450 L (.int 1 :: st) h Q := RR.icn (n := 1) rfl (by decide) rfl
set_option maxRecDepth 20000 in
theorem r165_450 {x y : Int32} : RR S d 165 450 L (.int y :: .int x :: st) h Q = RR S d 165 451 L (.int (x + y) :: st) h Q := RR.do1 (451, L, .int (x + y) :: st, h) rfl rfl rfl
set_option maxRecDepth 20000 in
theorem r165_451 {x : Int32} {a : Nat} : RR S d 165 451 L (.int x :: .ref a :: st) h Q = kO (ai_arr h a 0) (fun q => kB (ai_in x q.1) (RR S d 165 452 L (.int (q.2 x.toNatClampNeg) :: st) h Q)) := RR.ial rfl rfl
set_option maxRecDepth 20000 in
theorem r165_451x {x : Int32} {u : UInt32} : RR S d 165 451 L (.int x :: .float u :: st) h Q = kB (ai_in x (ai_ext S u).1) (RR S d 165 452 L (.int ((ai_ext S u).2 x.toNatClampNeg) :: st) h Q) := RR.iax rfl rfl
set_option maxRecDepth 20000 in
theorem r165_452 : RR S d 165 452 L st h Q = kA (ai_look L 0) (fun x => RR S d 165 453 L (x :: st) h Q) := RR.lda_n rfl rfl rfl
set_option maxRecDepth 20000 in
theorem r165_453 : RR S d 165 453 L st h Q = kI (ai_look L 3) (fun x => RR S d 165 454 L (.int x :: st) h Q) := RR.ldi_n rfl rfl rfl
set_option maxRecDepth 20000 in
theorem r165_454 : RR S d 165 454 L st h Q = RR S d 165 455 L (.int 2 :: st) h Q := RR.icn (n := 2) rfl (by decide) rfl
set_option maxRecDepth 20000 in
theorem r165_455 {x y : Int32} : RR S d 165 455 L (.int y :: .int x :: st) h Q = RR S d 165 456 L (.int (x + y) :: st) h Q := RR.do1 (456, L, .int (x + y) :: st, h) rfl rfl rfl
set_option maxRecDepth 20000 in
theorem r165_456 {x : Int32} {a : Nat} : RR S d 165 456 L (.int x :: .ref a :: st) h Q = kO (ai_arr h a 0) (fun q => kB (ai_in x q.1) (RR S d 165 457 L (.int (q.2 x.toNatClampNeg) :: st) h Q)) := RR.ial rfl rfl
set_option maxRecDepth 20000 in
theorem r165_456x {x : Int32} {u : UInt32} : RR S d 165 456 L (.int x :: .float u :: st) h Q = kB (ai_in x (ai_ext S u).1) (RR S d 165 457 L (.int ((ai_ext S u).2 x.toNatClampNeg) :: st) h Q) := RR.iax rfl rfl
set_option maxRecDepth 20000 in
theorem r165_457 {p0 : Int32} {p1 : Int32} {a : Nat} : RR S (d + 1) 165 457 L (.int p1 :: .int p0 :: .ref a :: st) h Q = kB (decide (ai_sum st ≤ 8)) (kB ((ai_obj h a 9).isSome) (RR S d 93 0 [(0, .ref a), (1, .int p0), (2, .int p1)] [] h (fun r h1 => RR S (d + 1) 165 460 L (r.toList ++ st) h1 Q))) := RR.cv (j := 58) (mn' := 93) (n := 2) rfl rfl rfl rfl rfl rfl
set_option maxRecDepth 20000 in
theorem r165_460 {x : Int32} : RR S d 165 460 L (.int x :: st) h Q = RR S d 165 461 L st h Q := RR.pop rfl rfl rfl
set_option maxRecDepth 20000 in
theorem r165_461 : RR S d 165 461 L st h Q = kA (ai_look L 2) (fun x => RR S d 165 462 L (x :: st) h Q) := RR.lda_n rfl rfl rfl
set_option maxRecDepth 20000 in
theorem r165_462 : RR S d 165 462 L st h Q = kA (ai_look L 0) (fun x => RR S d 165 463 L (x :: st) h Q) := RR.lda_n rfl rfl rfl
set_option maxRecDepth 20000 in
theorem r165_463 : RR S d 165 463 L st h Q = kI (ai_look L 3) (fun x => RR S d 165 464 L (.int x :: st) h Q) := RR.ldi_n rfl rfl rfl
set_option maxRecDepth 20000 in
theorem r165_464 : RR S d 165 464 L st h Q = RR S d 165 465 L (.int 1 :: st) h Q := RR.icn (n := 1) rfl (by decide) rfl
set_option maxRecDepth 20000 in
theorem r165_465 {x y : Int32} : RR S d 165 465 L (.int y :: .int x :: st) h Q = RR S d 165 466 L (.int (x + y) :: st) h Q := RR.do1 (466, L, .int (x + y) :: st, h) rfl rfl rfl
set_option maxRecDepth 20000 in
theorem r165_466 {x : Int32} {a : Nat} : RR S d 165 466 L (.int x :: .ref a :: st) h Q = kO (ai_arr h a 0) (fun q => kB (ai_in x q.1) (RR S d 165 467 L (.int (q.2 x.toNatClampNeg) :: st) h Q)) := RR.ial rfl rfl
set_option maxRecDepth 20000 in
theorem r165_466x {x : Int32} {u : UInt32} : RR S d 165 466 L (.int x :: .float u :: st) h Q = kB (ai_in x (ai_ext S u).1) (RR S d 165 467 L (.int ((ai_ext S u).2 x.toNatClampNeg) :: st) h Q) := RR.iax rfl rfl
set_option maxRecDepth 20000 in
theorem r165_467 : RR S d 165 467 L st h Q = kA (ai_look L 0) (fun x => RR S d 165 468 L (x :: st) h Q) := RR.lda_n rfl rfl rfl
set_option maxRecDepth 20000 in
theorem r165_468 : RR S d 165 468 L st h Q = kI (ai_look L 3) (fun x => RR S d 165 469 L (.int x :: st) h Q) := RR.ldi_n rfl rfl rfl
set_option maxRecDepth 20000 in
theorem r165_469 : RR S d 165 469 L st h Q = RR S d 165 470 L (.int 2 :: st) h Q := RR.icn (n := 2) rfl (by decide) rfl
set_option maxRecDepth 20000 in
theorem r165_470 {x y : Int32} : RR S d 165 470 L (.int y :: .int x :: st) h Q = RR S d 165 471 L (.int (x + y) :: st) h Q := RR.do1 (471, L, .int (x + y) :: st, h) rfl rfl rfl
set_option maxRecDepth 20000 in
theorem r165_471 {x : Int32} {a : Nat} : RR S d 165 471 L (.int x :: .ref a :: st) h Q = kO (ai_arr h a 0) (fun q => kB (ai_in x q.1) (RR S d 165 472 L (.int (q.2 x.toNatClampNeg) :: st) h Q)) := RR.ial rfl rfl
set_option maxRecDepth 20000 in
theorem r165_471x {x : Int32} {u : UInt32} : RR S d 165 471 L (.int x :: .float u :: st) h Q = kB (ai_in x (ai_ext S u).1) (RR S d 165 472 L (.int ((ai_ext S u).2 x.toNatClampNeg) :: st) h Q) := RR.iax rfl rfl
set_option maxRecDepth 20000 in
theorem r165_472 {p0 : Int32} {p1 : Int32} {a : Nat} : RR S (d + 1) 165 472 L (.int p1 :: .int p0 :: .ref a :: st) h Q = kB (decide (ai_sum st ≤ 8)) (kB ((ai_obj h a 10).isSome) (RR S d 142 0 [(0, .ref a), (1, .int p0), (2, .int p1)] [] h (fun r h1 => RR S (d + 1) 165 475 L (r.toList ++ st) h1 Q))) := RR.cv (j := 62) (mn' := 142) (n := 2) rfl rfl rfl rfl rfl rfl
set_option maxRecDepth 20000 in
theorem r165_475 {x : Int32} : RR S d 165 475 L (.int x :: st) h Q = RR S d 165 476 L st h Q := RR.pop rfl rfl rfl
set_option maxRecDepth 20000 in
theorem r165_476 : RR S d 165 476 L st h Q = RR S d 165 852 L st h Q := RR.jmp (off := 376) rfl (by decide)
set_option maxRecDepth 20000 in
theorem r165_479 : RR S d 165 479 L st h Q = kA (ai_look L 1) (fun x => RR S d 165 480 L (x :: st) h Q) := RR.lda_n rfl rfl rfl
set_option maxRecDepth 20000 in
theorem r165_480 {a : Nat} : RR S (d + 1) 165 480 L (.ref a :: st) h Q = kB (decide (ai_sum st ≤ 8)) (kB ((ai_obj h a 9).isSome) (RR S d 94 0 [(0, .ref a)] [] h (fun r h1 => RR S (d + 1) 165 483 L (r.toList ++ st) h1 Q))) := RR.cv (j := 63) (mn' := 94) (n := 0) rfl rfl rfl rfl rfl rfl
set_option maxRecDepth 20000 in
theorem r165_483 {x : Int32} : RR S d 165 483 L (.int x :: st) h Q = RR S d 165 484 L st h Q := RR.pop rfl rfl rfl
set_option maxRecDepth 20000 in
theorem r165_484 : RR S d 165 484 L st h Q = kA (ai_look L 2) (fun x => RR S d 165 485 L (x :: st) h Q) := RR.lda_n rfl rfl rfl
set_option maxRecDepth 20000 in
theorem r165_485 {a : Nat} : RR S (d + 1) 165 485 L (.ref a :: st) h Q = kB (decide (ai_sum st ≤ 8)) (kB ((ai_obj h a 10).isSome) (RR S d 143 0 [(0, .ref a)] [] h (fun r h1 => RR S (d + 1) 165 488 L (r.toList ++ st) h1 Q))) := RR.cv (j := 66) (mn' := 143) (n := 0) rfl rfl rfl rfl rfl rfl
set_option maxRecDepth 20000 in
theorem r165_488 {x : Int32} : RR S d 165 488 L (.int x :: st) h Q = RR S d 165 489 L st h Q := RR.pop rfl rfl rfl
set_option maxRecDepth 20000 in
theorem r165_489 : RR S d 165 489 L st h Q = RR S d 165 852 L st h Q := RR.jmp (off := 363) rfl (by decide)
set_option maxRecDepth 20000 in
theorem r165_492 : RR S d 165 492 L st h Q = kA (ai_look L 1) (fun x => RR S d 165 493 L (x :: st) h Q) := RR.lda_n rfl rfl rfl
set_option maxRecDepth 20000 in
theorem r165_493 : RR S d 165 493 L st h Q = kA (ai_look L 0) (fun x => RR S d 165 494 L (x :: st) h Q) := RR.lda_n rfl rfl rfl
set_option maxRecDepth 20000 in
theorem r165_494 : RR S d 165 494 L st h Q = kI (ai_look L 3) (fun x => RR S d 165 495 L (.int x :: st) h Q) := RR.ldi_n rfl rfl rfl
set_option maxRecDepth 20000 in
theorem r165_495 : RR S d 165 495 L st h Q = RR S d 165 496 L (.int 1 :: st) h Q := RR.icn (n := 1) rfl (by decide) rfl
set_option maxRecDepth 20000 in
theorem r165_496 {x y : Int32} : RR S d 165 496 L (.int y :: .int x :: st) h Q = RR S d 165 497 L (.int (x + y) :: st) h Q := RR.do1 (497, L, .int (x + y) :: st, h) rfl rfl rfl
set_option maxRecDepth 20000 in
theorem r165_497 {x : Int32} {a : Nat} : RR S d 165 497 L (.int x :: .ref a :: st) h Q = kO (ai_arr h a 0) (fun q => kB (ai_in x q.1) (RR S d 165 498 L (.int (q.2 x.toNatClampNeg) :: st) h Q)) := RR.ial rfl rfl
set_option maxRecDepth 20000 in
theorem r165_497x {x : Int32} {u : UInt32} : RR S d 165 497 L (.int x :: .float u :: st) h Q = kB (ai_in x (ai_ext S u).1) (RR S d 165 498 L (.int ((ai_ext S u).2 x.toNatClampNeg) :: st) h Q) := RR.iax rfl rfl
set_option maxRecDepth 20000 in
theorem r165_498 : RR S d 165 498 L st h Q = kA (ai_look L 0) (fun x => RR S d 165 499 L (x :: st) h Q) := RR.lda_n rfl rfl rfl
set_option maxRecDepth 20000 in
theorem r165_499 : RR S d 165 499 L st h Q = kI (ai_look L 3) (fun x => RR S d 165 500 L (.int x :: st) h Q) := RR.ldi_n rfl rfl rfl
set_option maxRecDepth 20000 in
theorem r165_500 : RR S d 165 500 L st h Q = RR S d 165 501 L (.int 2 :: st) h Q := RR.icn (n := 2) rfl (by decide) rfl
set_option maxRecDepth 20000 in
theorem r165_501 {x y : Int32} : RR S d 165 501 L (.int y :: .int x :: st) h Q = RR S d 165 502 L (.int (x + y) :: st) h Q := RR.do1 (502, L, .int (x + y) :: st, h) rfl rfl rfl
set_option maxRecDepth 20000 in
theorem r165_502 {x : Int32} {a : Nat} : RR S d 165 502 L (.int x :: .ref a :: st) h Q = kO (ai_arr h a 0) (fun q => kB (ai_in x q.1) (RR S d 165 503 L (.int (q.2 x.toNatClampNeg) :: st) h Q)) := RR.ial rfl rfl
set_option maxRecDepth 20000 in
theorem r165_502x {x : Int32} {u : UInt32} : RR S d 165 502 L (.int x :: .float u :: st) h Q = kB (ai_in x (ai_ext S u).1) (RR S d 165 503 L (.int ((ai_ext S u).2 x.toNatClampNeg) :: st) h Q) := RR.iax rfl rfl
set_option maxRecDepth 20000 in
theorem r165_503 {p0 : Int32} {p1 : Int32} {a : Nat} : RR S (d + 1) 165 503 L (.int p1 :: .int p0 :: .ref a :: st) h Q = kB (decide (ai_sum st ≤ 8)) (kB ((ai_obj h a 9).isSome) (RR S d 95 0 [(0, .ref a), (1, .int p0), (2, .int p1)] [] h (fun r h1 => RR S (d + 1) 165 506 L (r.toList ++ st) h1 Q))) := RR.cv (j := 67) (mn' := 95) (n := 2) rfl rfl rfl rfl rfl rfl
set_option maxRecDepth 20000 in
theorem r165_506 {x : Int32} : RR S d 165 506 L (.int x :: st) h Q = RR S d 165 507 L st h Q := RR.pop rfl rfl rfl
set_option maxRecDepth 20000 in
theorem r165_507 : RR S d 165 507 L st h Q = kA (ai_look L 2) (fun x => RR S d 165 508 L (x :: st) h Q) := RR.lda_n rfl rfl rfl
set_option maxRecDepth 20000 in
theorem r165_508 : RR S d 165 508 L st h Q = kA (ai_look L 0) (fun x => RR S d 165 509 L (x :: st) h Q) := RR.lda_n rfl rfl rfl
set_option maxRecDepth 20000 in
theorem r165_509 : RR S d 165 509 L st h Q = kI (ai_look L 3) (fun x => RR S d 165 510 L (.int x :: st) h Q) := RR.ldi_n rfl rfl rfl
set_option maxRecDepth 20000 in
theorem r165_510 : RR S d 165 510 L st h Q = RR S d 165 511 L (.int 1 :: st) h Q := RR.icn (n := 1) rfl (by decide) rfl
set_option maxRecDepth 20000 in
theorem r165_511 {x y : Int32} : RR S d 165 511 L (.int y :: .int x :: st) h Q = RR S d 165 512 L (.int (x + y) :: st) h Q := RR.do1 (512, L, .int (x + y) :: st, h) rfl rfl rfl
set_option maxRecDepth 20000 in
theorem r165_512 {x : Int32} {a : Nat} : RR S d 165 512 L (.int x :: .ref a :: st) h Q = kO (ai_arr h a 0) (fun q => kB (ai_in x q.1) (RR S d 165 513 L (.int (q.2 x.toNatClampNeg) :: st) h Q)) := RR.ial rfl rfl
set_option maxRecDepth 20000 in
theorem r165_512x {x : Int32} {u : UInt32} : RR S d 165 512 L (.int x :: .float u :: st) h Q = kB (ai_in x (ai_ext S u).1) (RR S d 165 513 L (.int ((ai_ext S u).2 x.toNatClampNeg) :: st) h Q) := RR.iax rfl rfl
set_option maxRecDepth 20000 in
theorem r165_513 : RR S d 165 513 L st h Q = kA (ai_look L 0) (fun x => RR S d 165 514 L (x :: st) h Q) := RR.lda_n rfl rfl rfl
set_option maxRecDepth 20000 in
theorem r165_514 : RR S d 165 514 L st h Q = kI (ai_look L 3) (fun x => RR S d 165 515 L (.int x :: st) h Q) := RR.ldi_n rfl rfl rfl
set_option maxRecDepth 20000 in
theorem r165_515 : RR S d 165 515 L st h Q = RR S d 165 516 L (.int 2 :: st) h Q := RR.icn (n := 2) rfl (by decide) rfl
set_option maxRecDepth 20000 in
theorem r165_516 {x y : Int32} : RR S d 165 516 L (.int y :: .int x :: st) h Q = RR S d 165 517 L (.int (x + y) :: st) h Q := RR.do1 (517, L, .int (x + y) :: st, h) rfl rfl rfl
set_option maxRecDepth 20000 in
theorem r165_517 {x : Int32} {a : Nat} : RR S d 165 517 L (.int x :: .ref a :: st) h Q = kO (ai_arr h a 0) (fun q => kB (ai_in x q.1) (RR S d 165 518 L (.int (q.2 x.toNatClampNeg) :: st) h Q)) := RR.ial rfl rfl
set_option maxRecDepth 20000 in
theorem r165_517x {x : Int32} {u : UInt32} : RR S d 165 517 L (.int x :: .float u :: st) h Q = kB (ai_in x (ai_ext S u).1) (RR S d 165 518 L (.int ((ai_ext S u).2 x.toNatClampNeg) :: st) h Q) := RR.iax rfl rfl
set_option maxRecDepth 20000 in
theorem r165_518 {p0 : Int32} {p1 : Int32} {a : Nat} : RR S (d + 1) 165 518 L (.int p1 :: .int p0 :: .ref a :: st) h Q = kB (decide (ai_sum st ≤ 8)) (kB ((ai_obj h a 10).isSome) (RR S d 144 0 [(0, .ref a), (1, .int p0), (2, .int p1)] [] h (fun r h1 => RR S (d + 1) 165 521 L (r.toList ++ st) h1 Q))) := RR.cv (j := 70) (mn' := 144) (n := 2) rfl rfl rfl rfl rfl rfl
set_option maxRecDepth 20000 in
theorem r165_521 {x : Int32} : RR S d 165 521 L (.int x :: st) h Q = RR S d 165 522 L st h Q := RR.pop rfl rfl rfl
set_option maxRecDepth 20000 in
theorem r165_522 : RR S d 165 522 L st h Q = RR S d 165 852 L st h Q := RR.jmp (off := 330) rfl (by decide)
set_option maxRecDepth 20000 in
theorem r165_525 : RR S d 165 525 L st h Q = kA (ai_look L 1) (fun x => RR S d 165 526 L (x :: st) h Q) := RR.lda_n rfl rfl rfl
set_option maxRecDepth 20000 in
theorem r165_526 : RR S d 165 526 L st h Q = kA (ai_look L 0) (fun x => RR S d 165 527 L (x :: st) h Q) := RR.lda_n rfl rfl rfl
set_option maxRecDepth 20000 in
theorem r165_527 : RR S d 165 527 L st h Q = kI (ai_look L 3) (fun x => RR S d 165 528 L (.int x :: st) h Q) := RR.ldi_n rfl rfl rfl
set_option maxRecDepth 20000 in
theorem r165_528 : RR S d 165 528 L st h Q = RR S d 165 529 L (.int 1 :: st) h Q := RR.icn (n := 1) rfl (by decide) rfl
set_option maxRecDepth 20000 in
theorem r165_529 {x y : Int32} : RR S d 165 529 L (.int y :: .int x :: st) h Q = RR S d 165 530 L (.int (x + y) :: st) h Q := RR.do1 (530, L, .int (x + y) :: st, h) rfl rfl rfl
set_option maxRecDepth 20000 in
theorem r165_530 {x : Int32} {a : Nat} : RR S d 165 530 L (.int x :: .ref a :: st) h Q = kO (ai_arr h a 0) (fun q => kB (ai_in x q.1) (RR S d 165 531 L (.int (q.2 x.toNatClampNeg) :: st) h Q)) := RR.ial rfl rfl
set_option maxRecDepth 20000 in
theorem r165_530x {x : Int32} {u : UInt32} : RR S d 165 530 L (.int x :: .float u :: st) h Q = kB (ai_in x (ai_ext S u).1) (RR S d 165 531 L (.int ((ai_ext S u).2 x.toNatClampNeg) :: st) h Q) := RR.iax rfl rfl
set_option maxRecDepth 20000 in
theorem r165_531 : RR S d 165 531 L st h Q = kA (ai_look L 0) (fun x => RR S d 165 532 L (x :: st) h Q) := RR.lda_n rfl rfl rfl
set_option maxRecDepth 20000 in
theorem r165_532 : RR S d 165 532 L st h Q = kI (ai_look L 3) (fun x => RR S d 165 533 L (.int x :: st) h Q) := RR.ldi_n rfl rfl rfl
set_option maxRecDepth 20000 in
theorem r165_533 : RR S d 165 533 L st h Q = RR S d 165 534 L (.int 2 :: st) h Q := RR.icn (n := 2) rfl (by decide) rfl
set_option maxRecDepth 20000 in
theorem r165_534 {x y : Int32} : RR S d 165 534 L (.int y :: .int x :: st) h Q = RR S d 165 535 L (.int (x + y) :: st) h Q := RR.do1 (535, L, .int (x + y) :: st, h) rfl rfl rfl
set_option maxRecDepth 20000 in
theorem r165_535 {x : Int32} {a : Nat} : RR S d 165 535 L (.int x :: .ref a :: st) h Q = kO (ai_arr h a 0) (fun q => kB (ai_in x q.1) (RR S d 165 536 L (.int (q.2 x.toNatClampNeg) :: st) h Q)) := RR.ial rfl rfl
set_option maxRecDepth 20000 in
theorem r165_535x {x : Int32} {u : UInt32} : RR S d 165 535 L (.int x :: .float u :: st) h Q = kB (ai_in x (ai_ext S u).1) (RR S d 165 536 L (.int ((ai_ext S u).2 x.toNatClampNeg) :: st) h Q) := RR.iax rfl rfl
set_option maxRecDepth 20000 in
theorem r165_536 : RR S d 165 536 L st h Q = kA (ai_look L 0) (fun x => RR S d 165 537 L (x :: st) h Q) := RR.lda_n rfl rfl rfl
set_option maxRecDepth 20000 in
theorem r165_537 : RR S d 165 537 L st h Q = kI (ai_look L 3) (fun x => RR S d 165 538 L (.int x :: st) h Q) := RR.ldi_n rfl rfl rfl
set_option maxRecDepth 20000 in
theorem r165_538 : RR S d 165 538 L st h Q = RR S d 165 539 L (.int 3 :: st) h Q := RR.icn (n := 3) rfl (by decide) rfl
set_option maxRecDepth 20000 in
theorem r165_539 {x y : Int32} : RR S d 165 539 L (.int y :: .int x :: st) h Q = RR S d 165 540 L (.int (x + y) :: st) h Q := RR.do1 (540, L, .int (x + y) :: st, h) rfl rfl rfl
set_option maxRecDepth 20000 in
theorem r165_540 {x : Int32} {a : Nat} : RR S d 165 540 L (.int x :: .ref a :: st) h Q = kO (ai_arr h a 0) (fun q => kB (ai_in x q.1) (RR S d 165 541 L (.int (q.2 x.toNatClampNeg) :: st) h Q)) := RR.ial rfl rfl
set_option maxRecDepth 20000 in
theorem r165_540x {x : Int32} {u : UInt32} : RR S d 165 540 L (.int x :: .float u :: st) h Q = kB (ai_in x (ai_ext S u).1) (RR S d 165 541 L (.int ((ai_ext S u).2 x.toNatClampNeg) :: st) h Q) := RR.iax rfl rfl
set_option maxRecDepth 20000 in
theorem r165_541 {p0 : Int32} {p1 : Int32} {p2 : Int32} {a : Nat} : RR S (d + 1) 165 541 L (.int p2 :: .int p1 :: .int p0 :: .ref a :: st) h Q = kB (decide (ai_sum st ≤ 8)) (kB ((ai_obj h a 9).isSome) (RR S d 96 0 [(0, .ref a), (1, .int p0), (2, .int p1), (3, .int p2)] [] h (fun r h1 => RR S (d + 1) 165 544 L (r.toList ++ st) h1 Q))) := RR.cv (j := 71) (mn' := 96) (n := 3) rfl rfl rfl rfl rfl rfl
set_option maxRecDepth 20000 in
theorem r165_544 {x : Int32} : RR S d 165 544 L (.int x :: st) h Q = RR S d 165 545 L st h Q := RR.pop rfl rfl rfl
set_option maxRecDepth 20000 in
theorem r165_545 : RR S d 165 545 L st h Q = kA (ai_look L 2) (fun x => RR S d 165 546 L (x :: st) h Q) := RR.lda_n rfl rfl rfl
set_option maxRecDepth 20000 in
theorem r165_546 : RR S d 165 546 L st h Q = kA (ai_look L 0) (fun x => RR S d 165 547 L (x :: st) h Q) := RR.lda_n rfl rfl rfl
set_option maxRecDepth 20000 in
theorem r165_547 : RR S d 165 547 L st h Q = kI (ai_look L 3) (fun x => RR S d 165 548 L (.int x :: st) h Q) := RR.ldi_n rfl rfl rfl
set_option maxRecDepth 20000 in
theorem r165_548 : RR S d 165 548 L st h Q = RR S d 165 549 L (.int 1 :: st) h Q := RR.icn (n := 1) rfl (by decide) rfl
set_option maxRecDepth 20000 in
theorem r165_549 {x y : Int32} : RR S d 165 549 L (.int y :: .int x :: st) h Q = RR S d 165 550 L (.int (x + y) :: st) h Q := RR.do1 (550, L, .int (x + y) :: st, h) rfl rfl rfl
set_option maxRecDepth 20000 in
theorem r165_550 {x : Int32} {a : Nat} : RR S d 165 550 L (.int x :: .ref a :: st) h Q = kO (ai_arr h a 0) (fun q => kB (ai_in x q.1) (RR S d 165 551 L (.int (q.2 x.toNatClampNeg) :: st) h Q)) := RR.ial rfl rfl
set_option maxRecDepth 20000 in
theorem r165_550x {x : Int32} {u : UInt32} : RR S d 165 550 L (.int x :: .float u :: st) h Q = kB (ai_in x (ai_ext S u).1) (RR S d 165 551 L (.int ((ai_ext S u).2 x.toNatClampNeg) :: st) h Q) := RR.iax rfl rfl
set_option maxRecDepth 20000 in
theorem r165_551 : RR S d 165 551 L st h Q = kA (ai_look L 0) (fun x => RR S d 165 552 L (x :: st) h Q) := RR.lda_n rfl rfl rfl
set_option maxRecDepth 20000 in
theorem r165_552 : RR S d 165 552 L st h Q = kI (ai_look L 3) (fun x => RR S d 165 553 L (.int x :: st) h Q) := RR.ldi_n rfl rfl rfl
set_option maxRecDepth 20000 in
theorem r165_553 : RR S d 165 553 L st h Q = RR S d 165 554 L (.int 2 :: st) h Q := RR.icn (n := 2) rfl (by decide) rfl
set_option maxRecDepth 20000 in
theorem r165_554 {x y : Int32} : RR S d 165 554 L (.int y :: .int x :: st) h Q = RR S d 165 555 L (.int (x + y) :: st) h Q := RR.do1 (555, L, .int (x + y) :: st, h) rfl rfl rfl
set_option maxRecDepth 20000 in
theorem r165_555 {x : Int32} {a : Nat} : RR S d 165 555 L (.int x :: .ref a :: st) h Q = kO (ai_arr h a 0) (fun q => kB (ai_in x q.1) (RR S d 165 556 L (.int (q.2 x.toNatClampNeg) :: st) h Q)) := RR.ial rfl rfl
set_option maxRecDepth 20000 in
theorem r165_555x {x : Int32} {u : UInt32} : RR S d 165 555 L (.int x :: .float u :: st) h Q = kB (ai_in x (ai_ext S u).1) (RR S d 165 556 L (.int ((ai_ext S u).2 x.toNatClampNeg) :: st) h Q) := RR.iax rfl rfl
set_option maxRecDepth 20000 in
theorem r165_556 : RR S d 165 556 L st h Q = kA (ai_look L 0) (fun x => RR S d 165 557 L (x :: st) h Q) := RR.lda_n rfl rfl rfl
set_option maxRecDepth 20000 in
theorem r165_557 : RR S d 165 557 L st h Q = kI (ai_look L 3) (fun x => RR S d 165 558 L (.int x :: st) h Q) := RR.ldi_n rfl rfl rfl
set_option maxRecDepth 20000 in
theorem r165_558 : RR S d 165 558 L st h Q = RR S d 165 559 L (.int 3 :: st) h Q := RR.icn (n := 3) rfl (by decide) rfl
set_option maxRecDepth 20000 in
theorem r165_559 {x y : Int32} : RR S d 165 559 L (.int y :: .int x :: st) h Q = RR S d 165 560 L (.int (x + y) :: st) h Q := RR.do1 (560, L, .int (x + y) :: st, h) rfl rfl rfl
set_option maxRecDepth 20000 in
theorem r165_560 {x : Int32} {a : Nat} : RR S d 165 560 L (.int x :: .ref a :: st) h Q = kO (ai_arr h a 0) (fun q => kB (ai_in x q.1) (RR S d 165 561 L (.int (q.2 x.toNatClampNeg) :: st) h Q)) := RR.ial rfl rfl
set_option maxRecDepth 20000 in
theorem r165_560x {x : Int32} {u : UInt32} : RR S d 165 560 L (.int x :: .float u :: st) h Q = kB (ai_in x (ai_ext S u).1) (RR S d 165 561 L (.int ((ai_ext S u).2 x.toNatClampNeg) :: st) h Q) := RR.iax rfl rfl
set_option maxRecDepth 20000 in
theorem r165_561 {p0 : Int32} {p1 : Int32} {p2 : Int32} {a : Nat} : RR S (d + 1) 165 561 L (.int p2 :: .int p1 :: .int p0 :: .ref a :: st) h Q = kB (decide (ai_sum st ≤ 8)) (kB ((ai_obj h a 10).isSome) (RR S d 147 0 [(0, .ref a), (1, .int p0), (2, .int p1), (3, .int p2)] [] h (fun r h1 => RR S (d + 1) 165 564 L (r.toList ++ st) h1 Q))) := RR.cv (j := 75) (mn' := 147) (n := 3) rfl rfl rfl rfl rfl rfl
set_option maxRecDepth 20000 in
theorem r165_564 {x : Int32} : RR S d 165 564 L (.int x :: st) h Q = RR S d 165 565 L st h Q := RR.pop rfl rfl rfl
set_option maxRecDepth 20000 in
theorem r165_565 : RR S d 165 565 L st h Q = RR S d 165 852 L st h Q := RR.jmp (off := 287) rfl (by decide)
set_option maxRecDepth 20000 in
theorem r165_568 : RR S d 165 568 L st h Q = kA (ai_look L 1) (fun x => RR S d 165 569 L (x :: st) h Q) := RR.lda_n rfl rfl rfl
set_option maxRecDepth 20000 in
theorem r165_569 : RR S d 165 569 L st h Q = kA (ai_look L 0) (fun x => RR S d 165 570 L (x :: st) h Q) := RR.lda_n rfl rfl rfl
set_option maxRecDepth 20000 in
theorem r165_570 : RR S d 165 570 L st h Q = kI (ai_look L 3) (fun x => RR S d 165 571 L (.int x :: st) h Q) := RR.ldi_n rfl rfl rfl
set_option maxRecDepth 20000 in
theorem r165_571 : RR S d 165 571 L st h Q = RR S d 165 572 L (.int 1 :: st) h Q := RR.icn (n := 1) rfl (by decide) rfl
set_option maxRecDepth 20000 in
theorem r165_572 {x y : Int32} : RR S d 165 572 L (.int y :: .int x :: st) h Q = RR S d 165 573 L (.int (x + y) :: st) h Q := RR.do1 (573, L, .int (x + y) :: st, h) rfl rfl rfl
set_option maxRecDepth 20000 in
theorem r165_573 {x : Int32} {a : Nat} : RR S d 165 573 L (.int x :: .ref a :: st) h Q = kO (ai_arr h a 0) (fun q => kB (ai_in x q.1) (RR S d 165 574 L (.int (q.2 x.toNatClampNeg) :: st) h Q)) := RR.ial rfl rfl
set_option maxRecDepth 20000 in
theorem r165_573x {x : Int32} {u : UInt32} : RR S d 165 573 L (.int x :: .float u :: st) h Q = kB (ai_in x (ai_ext S u).1) (RR S d 165 574 L (.int ((ai_ext S u).2 x.toNatClampNeg) :: st) h Q) := RR.iax rfl rfl
set_option maxRecDepth 20000 in
theorem r165_574 : RR S d 165 574 L st h Q = kA (ai_look L 0) (fun x => RR S d 165 575 L (x :: st) h Q) := RR.lda_n rfl rfl rfl
set_option maxRecDepth 20000 in
theorem r165_575 : RR S d 165 575 L st h Q = kI (ai_look L 3) (fun x => RR S d 165 576 L (.int x :: st) h Q) := RR.ldi_n rfl rfl rfl
set_option maxRecDepth 20000 in
theorem r165_576 : RR S d 165 576 L st h Q = RR S d 165 577 L (.int 2 :: st) h Q := RR.icn (n := 2) rfl (by decide) rfl
set_option maxRecDepth 20000 in
theorem r165_577 {x y : Int32} : RR S d 165 577 L (.int y :: .int x :: st) h Q = RR S d 165 578 L (.int (x + y) :: st) h Q := RR.do1 (578, L, .int (x + y) :: st, h) rfl rfl rfl
set_option maxRecDepth 20000 in
theorem r165_578 {x : Int32} {a : Nat} : RR S d 165 578 L (.int x :: .ref a :: st) h Q = kO (ai_arr h a 0) (fun q => kB (ai_in x q.1) (RR S d 165 579 L (.int (q.2 x.toNatClampNeg) :: st) h Q)) := RR.ial rfl rfl
set_option maxRecDepth 20000 in
theorem r165_578x {x : Int32} {u : UInt32} : RR S d 165 578 L (.int x :: .float u :: st) h Q = kB (ai_in x (ai_ext S u).1) (RR S d 165 579 L (.int ((ai_ext S u).2 x.toNatClampNeg) :: st) h Q) := RR.iax rfl rfl
set_option maxRecDepth 20000 in
theorem r165_579 {p0 : Int32} {p1 : Int32} {a : Nat} : RR S (d + 1) 165 579 L (.int p1 :: .int p0 :: .ref a :: st) h Q = kB (decide (ai_sum st ≤ 8)) (kB ((ai_obj h a 9).isSome) (RR S d 97 0 [(0, .ref a), (1, .int p0), (2, .int p1)] [] h (fun r h1 => RR S (d + 1) 165 582 L (r.toList ++ st) h1 Q))) := RR.cv (j := 76) (mn' := 97) (n := 2) rfl rfl rfl rfl rfl rfl
set_option maxRecDepth 20000 in
theorem r165_582 {x : Int32} : RR S d 165 582 L (.int x :: st) h Q = RR S d 165 583 L st h Q := RR.pop rfl rfl rfl
set_option maxRecDepth 20000 in
theorem r165_583 : RR S d 165 583 L st h Q = kA (ai_look L 2) (fun x => RR S d 165 584 L (x :: st) h Q) := RR.lda_n rfl rfl rfl
set_option maxRecDepth 20000 in
theorem r165_584 : RR S d 165 584 L st h Q = kA (ai_look L 0) (fun x => RR S d 165 585 L (x :: st) h Q) := RR.lda_n rfl rfl rfl
set_option maxRecDepth 20000 in
theorem r165_585 : RR S d 165 585 L st h Q = kI (ai_look L 3) (fun x => RR S d 165 586 L (.int x :: st) h Q) := RR.ldi_n rfl rfl rfl
set_option maxRecDepth 20000 in
theorem r165_586 : RR S d 165 586 L st h Q = RR S d 165 587 L (.int 1 :: st) h Q := RR.icn (n := 1) rfl (by decide) rfl
set_option maxRecDepth 20000 in
theorem r165_587 {x y : Int32} : RR S d 165 587 L (.int y :: .int x :: st) h Q = RR S d 165 588 L (.int (x + y) :: st) h Q := RR.do1 (588, L, .int (x + y) :: st, h) rfl rfl rfl
set_option maxRecDepth 20000 in
theorem r165_588 {x : Int32} {a : Nat} : RR S d 165 588 L (.int x :: .ref a :: st) h Q = kO (ai_arr h a 0) (fun q => kB (ai_in x q.1) (RR S d 165 589 L (.int (q.2 x.toNatClampNeg) :: st) h Q)) := RR.ial rfl rfl
set_option maxRecDepth 20000 in
theorem r165_588x {x : Int32} {u : UInt32} : RR S d 165 588 L (.int x :: .float u :: st) h Q = kB (ai_in x (ai_ext S u).1) (RR S d 165 589 L (.int ((ai_ext S u).2 x.toNatClampNeg) :: st) h Q) := RR.iax rfl rfl
set_option maxRecDepth 20000 in
theorem r165_589 : RR S d 165 589 L st h Q = kA (ai_look L 0) (fun x => RR S d 165 590 L (x :: st) h Q) := RR.lda_n rfl rfl rfl
set_option maxRecDepth 20000 in
theorem r165_590 : RR S d 165 590 L st h Q = kI (ai_look L 3) (fun x => RR S d 165 591 L (.int x :: st) h Q) := RR.ldi_n rfl rfl rfl
set_option maxRecDepth 20000 in
theorem r165_591 : RR S d 165 591 L st h Q = RR S d 165 592 L (.int 2 :: st) h Q := RR.icn (n := 2) rfl (by decide) rfl
set_option maxRecDepth 20000 in
theorem r165_592 {x y : Int32} : RR S d 165 592 L (.int y :: .int x :: st) h Q = RR S d 165 593 L (.int (x + y) :: st) h Q := RR.do1 (593, L, .int (x + y) :: st, h) rfl rfl rfl
set_option maxRecDepth 20000 in
theorem r165_593 {x : Int32} {a : Nat} : RR S d 165 593 L (.int x :: .ref a :: st) h Q = kO (ai_arr h a 0) (fun q => kB (ai_in x q.1) (RR S d 165 594 L (.int (q.2 x.toNatClampNeg) :: st) h Q)) := RR.ial rfl rfl
set_option maxRecDepth 20000 in
theorem r165_593x {x : Int32} {u : UInt32} : RR S d 165 593 L (.int x :: .float u :: st) h Q = kB (ai_in x (ai_ext S u).1) (RR S d 165 594 L (.int ((ai_ext S u).2 x.toNatClampNeg) :: st) h Q) := RR.iax rfl rfl
set_option maxRecDepth 20000 in
theorem r165_594 {p0 : Int32} {p1 : Int32} {a : Nat} : RR S (d + 1) 165 594 L (.int p1 :: .int p0 :: .ref a :: st) h Q = kB (decide (ai_sum st ≤ 8)) (kB ((ai_obj h a 10).isSome) (RR S d 148 0 [(0, .ref a), (1, .int p0), (2, .int p1)] [] h (fun r h1 => RR S (d + 1) 165 597 L (r.toList ++ st) h1 Q))) := RR.cv (j := 79) (mn' := 148) (n := 2) rfl rfl rfl rfl rfl rfl
set_option maxRecDepth 20000 in
theorem r165_597 {x : Int32} : RR S d 165 597 L (.int x :: st) h Q = RR S d 165 598 L st h Q := RR.pop rfl rfl rfl
set_option maxRecDepth 20000 in
theorem r165_598 : RR S d 165 598 L st h Q = RR S d 165 852 L st h Q := RR.jmp (off := 254) rfl (by decide)
set_option maxRecDepth 20000 in
theorem r165_601 : RR S d 165 601 L st h Q = kA (ai_look L 1) (fun x => RR S d 165 602 L (x :: st) h Q) := RR.lda_n rfl rfl rfl
set_option maxRecDepth 20000 in
theorem r165_602 : RR S d 165 602 L st h Q = kA (ai_look L 0) (fun x => RR S d 165 603 L (x :: st) h Q) := RR.lda_n rfl rfl rfl
set_option maxRecDepth 20000 in
theorem r165_603 : RR S d 165 603 L st h Q = kI (ai_look L 3) (fun x => RR S d 165 604 L (.int x :: st) h Q) := RR.ldi_n rfl rfl rfl
set_option maxRecDepth 20000 in
theorem r165_604 : RR S d 165 604 L st h Q = RR S d 165 605 L (.int 1 :: st) h Q := RR.icn (n := 1) rfl (by decide) rfl
set_option maxRecDepth 20000 in
theorem r165_605 {x y : Int32} : RR S d 165 605 L (.int y :: .int x :: st) h Q = RR S d 165 606 L (.int (x + y) :: st) h Q := RR.do1 (606, L, .int (x + y) :: st, h) rfl rfl rfl
set_option maxRecDepth 20000 in
theorem r165_606 {x : Int32} {a : Nat} : RR S d 165 606 L (.int x :: .ref a :: st) h Q = kO (ai_arr h a 0) (fun q => kB (ai_in x q.1) (RR S d 165 607 L (.int (q.2 x.toNatClampNeg) :: st) h Q)) := RR.ial rfl rfl
set_option maxRecDepth 20000 in
theorem r165_606x {x : Int32} {u : UInt32} : RR S d 165 606 L (.int x :: .float u :: st) h Q = kB (ai_in x (ai_ext S u).1) (RR S d 165 607 L (.int ((ai_ext S u).2 x.toNatClampNeg) :: st) h Q) := RR.iax rfl rfl
set_option maxRecDepth 20000 in
theorem r165_607 : RR S d 165 607 L st h Q = kA (ai_look L 0) (fun x => RR S d 165 608 L (x :: st) h Q) := RR.lda_n rfl rfl rfl
set_option maxRecDepth 20000 in
theorem r165_608 : RR S d 165 608 L st h Q = kI (ai_look L 3) (fun x => RR S d 165 609 L (.int x :: st) h Q) := RR.ldi_n rfl rfl rfl
set_option maxRecDepth 20000 in
theorem r165_609 : RR S d 165 609 L st h Q = RR S d 165 610 L (.int 2 :: st) h Q := RR.icn (n := 2) rfl (by decide) rfl
set_option maxRecDepth 20000 in
theorem r165_610 {x y : Int32} : RR S d 165 610 L (.int y :: .int x :: st) h Q = RR S d 165 611 L (.int (x + y) :: st) h Q := RR.do1 (611, L, .int (x + y) :: st, h) rfl rfl rfl
set_option maxRecDepth 20000 in
theorem r165_611 {x : Int32} {a : Nat} : RR S d 165 611 L (.int x :: .ref a :: st) h Q = kO (ai_arr h a 0) (fun q => kB (ai_in x q.1) (RR S d 165 612 L (.int (q.2 x.toNatClampNeg) :: st) h Q)) := RR.ial rfl rfl
set_option maxRecDepth 20000 in
theorem r165_611x {x : Int32} {u : UInt32} : RR S d 165 611 L (.int x :: .float u :: st) h Q = kB (ai_in x (ai_ext S u).1) (RR S d 165 612 L (.int ((ai_ext S u).2 x.toNatClampNeg) :: st) h Q) := RR.iax rfl rfl
set_option maxRecDepth 20000 in
theorem r165_612 {p0 : Int32} {p1 : Int32} {a : Nat} : RR S (d + 1) 165 612 L (.int p1 :: .int p0 :: .ref a :: st) h Q = kB (decide (ai_sum st ≤ 8)) (kB ((ai_obj h a 9).isSome) (RR S d 98 0 [(0, .ref a), (1, .int p0), (2, .int p1)] [] h (fun r h1 => RR S (d + 1) 165 615 L (r.toList ++ st) h1 Q))) := RR.cv (j := 80) (mn' := 98) (n := 2) rfl rfl rfl rfl rfl rfl
set_option maxRecDepth 20000 in
theorem r165_615 {x : Int32} : RR S d 165 615 L (.int x :: st) h Q = RR S d 165 616 L st h Q := RR.pop rfl rfl rfl
set_option maxRecDepth 20000 in
theorem r165_616 : RR S d 165 616 L st h Q = kA (ai_look L 2) (fun x => RR S d 165 617 L (x :: st) h Q) := RR.lda_n rfl rfl rfl
set_option maxRecDepth 20000 in
theorem r165_617 : RR S d 165 617 L st h Q = kA (ai_look L 0) (fun x => RR S d 165 618 L (x :: st) h Q) := RR.lda_n rfl rfl rfl
set_option maxRecDepth 20000 in
theorem r165_618 : RR S d 165 618 L st h Q = kI (ai_look L 3) (fun x => RR S d 165 619 L (.int x :: st) h Q) := RR.ldi_n rfl rfl rfl
set_option maxRecDepth 20000 in
theorem r165_619 : RR S d 165 619 L st h Q = RR S d 165 620 L (.int 1 :: st) h Q := RR.icn (n := 1) rfl (by decide) rfl
set_option maxRecDepth 20000 in
theorem r165_620 {x y : Int32} : RR S d 165 620 L (.int y :: .int x :: st) h Q = RR S d 165 621 L (.int (x + y) :: st) h Q := RR.do1 (621, L, .int (x + y) :: st, h) rfl rfl rfl
set_option maxRecDepth 20000 in
theorem r165_621 {x : Int32} {a : Nat} : RR S d 165 621 L (.int x :: .ref a :: st) h Q = kO (ai_arr h a 0) (fun q => kB (ai_in x q.1) (RR S d 165 622 L (.int (q.2 x.toNatClampNeg) :: st) h Q)) := RR.ial rfl rfl
set_option maxRecDepth 20000 in
theorem r165_621x {x : Int32} {u : UInt32} : RR S d 165 621 L (.int x :: .float u :: st) h Q = kB (ai_in x (ai_ext S u).1) (RR S d 165 622 L (.int ((ai_ext S u).2 x.toNatClampNeg) :: st) h Q) := RR.iax rfl rfl
set_option maxRecDepth 20000 in
theorem r165_622 : RR S d 165 622 L st h Q = kA (ai_look L 0) (fun x => RR S d 165 623 L (x :: st) h Q) := RR.lda_n rfl rfl rfl
set_option maxRecDepth 20000 in
theorem r165_623 : RR S d 165 623 L st h Q = kI (ai_look L 3) (fun x => RR S d 165 624 L (.int x :: st) h Q) := RR.ldi_n rfl rfl rfl
set_option maxRecDepth 20000 in
theorem r165_624 : RR S d 165 624 L st h Q = RR S d 165 625 L (.int 2 :: st) h Q := RR.icn (n := 2) rfl (by decide) rfl
set_option maxRecDepth 20000 in
theorem r165_625 {x y : Int32} : RR S d 165 625 L (.int y :: .int x :: st) h Q = RR S d 165 626 L (.int (x + y) :: st) h Q := RR.do1 (626, L, .int (x + y) :: st, h) rfl rfl rfl
set_option maxRecDepth 20000 in
theorem r165_626 {x : Int32} {a : Nat} : RR S d 165 626 L (.int x :: .ref a :: st) h Q = kO (ai_arr h a 0) (fun q => kB (ai_in x q.1) (RR S d 165 627 L (.int (q.2 x.toNatClampNeg) :: st) h Q)) := RR.ial rfl rfl
set_option maxRecDepth 20000 in
theorem r165_626x {x : Int32} {u : UInt32} : RR S d 165 626 L (.int x :: .float u :: st) h Q = kB (ai_in x (ai_ext S u).1) (RR S d 165 627 L (.int ((ai_ext S u).2 x.toNatClampNeg) :: st) h Q) := RR.iax rfl rfl
set_option maxRecDepth 20000 in
theorem r165_627 {p0 : Int32} {p1 : Int32} {a : Nat} : RR S (d + 1) 165 627 L (.int p1 :: .int p0 :: .ref a :: st) h Q = kB (decide (ai_sum st ≤ 8)) (kB ((ai_obj h a 10).isSome) (RR S d 149 0 [(0, .ref a), (1, .int p0), (2, .int p1)] [] h (fun r h1 => RR S (d + 1) 165 630 L (r.toList ++ st) h1 Q))) := RR.cv (j := 84) (mn' := 149) (n := 2) rfl rfl rfl rfl rfl rfl
set_option maxRecDepth 20000 in
theorem r165_630 {x : Int32} : RR S d 165 630 L (.int x :: st) h Q = RR S d 165 631 L st h Q := RR.pop rfl rfl rfl
set_option maxRecDepth 20000 in
theorem r165_631 : RR S d 165 631 L st h Q = RR S d 165 852 L st h Q := RR.jmp (off := 221) rfl (by decide)
set_option maxRecDepth 20000 in
theorem r165_634 : RR S d 165 634 L st h Q = kA (ai_look L 1) (fun x => RR S d 165 635 L (x :: st) h Q) := RR.lda_n rfl rfl rfl
set_option maxRecDepth 20000 in
theorem r165_635 : RR S d 165 635 L st h Q = kA (ai_look L 0) (fun x => RR S d 165 636 L (x :: st) h Q) := RR.lda_n rfl rfl rfl
set_option maxRecDepth 20000 in
theorem r165_636 : RR S d 165 636 L st h Q = kI (ai_look L 3) (fun x => RR S d 165 637 L (.int x :: st) h Q) := RR.ldi_n rfl rfl rfl
set_option maxRecDepth 20000 in
theorem r165_637 : RR S d 165 637 L st h Q = RR S d 165 638 L (.int 1 :: st) h Q := RR.icn (n := 1) rfl (by decide) rfl
set_option maxRecDepth 20000 in
theorem r165_638 {x y : Int32} : RR S d 165 638 L (.int y :: .int x :: st) h Q = RR S d 165 639 L (.int (x + y) :: st) h Q := RR.do1 (639, L, .int (x + y) :: st, h) rfl rfl rfl
set_option maxRecDepth 20000 in
theorem r165_639 {x : Int32} {a : Nat} : RR S d 165 639 L (.int x :: .ref a :: st) h Q = kO (ai_arr h a 0) (fun q => kB (ai_in x q.1) (RR S d 165 640 L (.int (q.2 x.toNatClampNeg) :: st) h Q)) := RR.ial rfl rfl
set_option maxRecDepth 20000 in
theorem r165_639x {x : Int32} {u : UInt32} : RR S d 165 639 L (.int x :: .float u :: st) h Q = kB (ai_in x (ai_ext S u).1) (RR S d 165 640 L (.int ((ai_ext S u).2 x.toNatClampNeg) :: st) h Q) := RR.iax rfl rfl
set_option maxRecDepth 20000 in
theorem r165_640 : RR S d 165 640 L st h Q = kA (ai_look L 0) (fun x => RR S d 165 641 L (x :: st) h Q) := RR.lda_n rfl rfl rfl
set_option maxRecDepth 20000 in
theorem r165_641 : RR S d 165 641 L st h Q = kI (ai_look L 3) (fun x => RR S d 165 642 L (.int x :: st) h Q) := RR.ldi_n rfl rfl rfl
set_option maxRecDepth 20000 in
theorem r165_642 : RR S d 165 642 L st h Q = RR S d 165 643 L (.int 2 :: st) h Q := RR.icn (n := 2) rfl (by decide) rfl
set_option maxRecDepth 20000 in
theorem r165_643 {x y : Int32} : RR S d 165 643 L (.int y :: .int x :: st) h Q = RR S d 165 644 L (.int (x + y) :: st) h Q := RR.do1 (644, L, .int (x + y) :: st, h) rfl rfl rfl
set_option maxRecDepth 20000 in
theorem r165_644 {x : Int32} {a : Nat} : RR S d 165 644 L (.int x :: .ref a :: st) h Q = kO (ai_arr h a 0) (fun q => kB (ai_in x q.1) (RR S d 165 645 L (.int (q.2 x.toNatClampNeg) :: st) h Q)) := RR.ial rfl rfl
set_option maxRecDepth 20000 in
theorem r165_644x {x : Int32} {u : UInt32} : RR S d 165 644 L (.int x :: .float u :: st) h Q = kB (ai_in x (ai_ext S u).1) (RR S d 165 645 L (.int ((ai_ext S u).2 x.toNatClampNeg) :: st) h Q) := RR.iax rfl rfl
set_option maxRecDepth 20000 in
theorem r165_645 : RR S d 165 645 L st h Q = kA (ai_look L 0) (fun x => RR S d 165 646 L (x :: st) h Q) := RR.lda_n rfl rfl rfl
set_option maxRecDepth 20000 in
theorem r165_646 : RR S d 165 646 L st h Q = kI (ai_look L 3) (fun x => RR S d 165 647 L (.int x :: st) h Q) := RR.ldi_n rfl rfl rfl
set_option maxRecDepth 20000 in
theorem r165_647 : RR S d 165 647 L st h Q = RR S d 165 648 L (.int 3 :: st) h Q := RR.icn (n := 3) rfl (by decide) rfl
set_option maxRecDepth 20000 in
theorem r165_648 {x y : Int32} : RR S d 165 648 L (.int y :: .int x :: st) h Q = RR S d 165 649 L (.int (x + y) :: st) h Q := RR.do1 (649, L, .int (x + y) :: st, h) rfl rfl rfl
set_option maxRecDepth 20000 in
theorem r165_649 {x : Int32} {a : Nat} : RR S d 165 649 L (.int x :: .ref a :: st) h Q = kO (ai_arr h a 0) (fun q => kB (ai_in x q.1) (RR S d 165 650 L (.int (q.2 x.toNatClampNeg) :: st) h Q)) := RR.ial rfl rfl
set_option maxRecDepth 20000 in
theorem r165_649x {x : Int32} {u : UInt32} : RR S d 165 649 L (.int x :: .float u :: st) h Q = kB (ai_in x (ai_ext S u).1) (RR S d 165 650 L (.int ((ai_ext S u).2 x.toNatClampNeg) :: st) h Q) := RR.iax rfl rfl
set_option maxRecDepth 20000 in
theorem r165_650 : RR S d 165 650 L st h Q = kA (ai_look L 0) (fun x => RR S d 165 651 L (x :: st) h Q) := RR.lda_n rfl rfl rfl
set_option maxRecDepth 20000 in
theorem r165_651 : RR S d 165 651 L st h Q = kI (ai_look L 3) (fun x => RR S d 165 652 L (.int x :: st) h Q) := RR.ldi_n rfl rfl rfl
set_option maxRecDepth 20000 in
theorem r165_652 : RR S d 165 652 L st h Q = RR S d 165 653 L (.int 4 :: st) h Q := RR.icn (n := 4) rfl (by decide) rfl
set_option maxRecDepth 20000 in
theorem r165_653 {x y : Int32} : RR S d 165 653 L (.int y :: .int x :: st) h Q = RR S d 165 654 L (.int (x + y) :: st) h Q := RR.do1 (654, L, .int (x + y) :: st, h) rfl rfl rfl
set_option maxRecDepth 20000 in
theorem r165_654 {x : Int32} {a : Nat} : RR S d 165 654 L (.int x :: .ref a :: st) h Q = kO (ai_arr h a 0) (fun q => kB (ai_in x q.1) (RR S d 165 655 L (.int (q.2 x.toNatClampNeg) :: st) h Q)) := RR.ial rfl rfl
set_option maxRecDepth 20000 in
theorem r165_654x {x : Int32} {u : UInt32} : RR S d 165 654 L (.int x :: .float u :: st) h Q = kB (ai_in x (ai_ext S u).1) (RR S d 165 655 L (.int ((ai_ext S u).2 x.toNatClampNeg) :: st) h Q) := RR.iax rfl rfl
set_option maxRecDepth 20000 in
theorem r165_655 {p0 : Int32} {p1 : Int32} {p2 : Int32} {p3 : Int32} {a : Nat} : RR S (d + 1) 165 655 L (.int p3 :: .int p2 :: .int p1 :: .int p0 :: .ref a :: st) h Q = kB (decide (ai_sum st ≤ 8)) (kB ((ai_obj h a 9).isSome) (RR S d 99 0 [(0, .ref a), (1, .int p0), (2, .int p1), (3, .int p2), (4, .int p3)] [] h (fun r h1 => RR S (d + 1) 165 658 L (r.toList ++ st) h1 Q))) := RR.cv (j := 85) (mn' := 99) (n := 4) rfl rfl rfl rfl rfl rfl
set_option maxRecDepth 20000 in
theorem r165_658 {x : Int32} : RR S d 165 658 L (.int x :: st) h Q = RR S d 165 659 L st h Q := RR.pop rfl rfl rfl
set_option maxRecDepth 20000 in
theorem r165_659 : RR S d 165 659 L st h Q = kA (ai_look L 2) (fun x => RR S d 165 660 L (x :: st) h Q) := RR.lda_n rfl rfl rfl
set_option maxRecDepth 20000 in
theorem r165_660 : RR S d 165 660 L st h Q = kA (ai_look L 0) (fun x => RR S d 165 661 L (x :: st) h Q) := RR.lda_n rfl rfl rfl
set_option maxRecDepth 20000 in
theorem r165_661 : RR S d 165 661 L st h Q = kI (ai_look L 3) (fun x => RR S d 165 662 L (.int x :: st) h Q) := RR.ldi_n rfl rfl rfl
set_option maxRecDepth 20000 in
theorem r165_662 : RR S d 165 662 L st h Q = RR S d 165 663 L (.int 1 :: st) h Q := RR.icn (n := 1) rfl (by decide) rfl
set_option maxRecDepth 20000 in
theorem r165_663 {x y : Int32} : RR S d 165 663 L (.int y :: .int x :: st) h Q = RR S d 165 664 L (.int (x + y) :: st) h Q := RR.do1 (664, L, .int (x + y) :: st, h) rfl rfl rfl
set_option maxRecDepth 20000 in
theorem r165_664 {x : Int32} {a : Nat} : RR S d 165 664 L (.int x :: .ref a :: st) h Q = kO (ai_arr h a 0) (fun q => kB (ai_in x q.1) (RR S d 165 665 L (.int (q.2 x.toNatClampNeg) :: st) h Q)) := RR.ial rfl rfl
set_option maxRecDepth 20000 in
theorem r165_664x {x : Int32} {u : UInt32} : RR S d 165 664 L (.int x :: .float u :: st) h Q = kB (ai_in x (ai_ext S u).1) (RR S d 165 665 L (.int ((ai_ext S u).2 x.toNatClampNeg) :: st) h Q) := RR.iax rfl rfl
set_option maxRecDepth 20000 in
theorem r165_665 : RR S d 165 665 L st h Q = kA (ai_look L 0) (fun x => RR S d 165 666 L (x :: st) h Q) := RR.lda_n rfl rfl rfl
set_option maxRecDepth 20000 in
theorem r165_666 : RR S d 165 666 L st h Q = kI (ai_look L 3) (fun x => RR S d 165 667 L (.int x :: st) h Q) := RR.ldi_n rfl rfl rfl
set_option maxRecDepth 20000 in
theorem r165_667 : RR S d 165 667 L st h Q = RR S d 165 668 L (.int 2 :: st) h Q := RR.icn (n := 2) rfl (by decide) rfl
set_option maxRecDepth 20000 in
theorem r165_668 {x y : Int32} : RR S d 165 668 L (.int y :: .int x :: st) h Q = RR S d 165 669 L (.int (x + y) :: st) h Q := RR.do1 (669, L, .int (x + y) :: st, h) rfl rfl rfl
set_option maxRecDepth 20000 in
theorem r165_669 {x : Int32} {a : Nat} : RR S d 165 669 L (.int x :: .ref a :: st) h Q = kO (ai_arr h a 0) (fun q => kB (ai_in x q.1) (RR S d 165 670 L (.int (q.2 x.toNatClampNeg) :: st) h Q)) := RR.ial rfl rfl
set_option maxRecDepth 20000 in
theorem r165_669x {x : Int32} {u : UInt32} : RR S d 165 669 L (.int x :: .float u :: st) h Q = kB (ai_in x (ai_ext S u).1) (RR S d 165 670 L (.int ((ai_ext S u).2 x.toNatClampNeg) :: st) h Q) := RR.iax rfl rfl
set_option maxRecDepth 20000 in
theorem r165_670 : RR S d 165 670 L st h Q = kA (ai_look L 0) (fun x => RR S d 165 671 L (x :: st) h Q) := RR.lda_n rfl rfl rfl
set_option maxRecDepth 20000 in
theorem r165_671 : RR S d 165 671 L st h Q = kI (ai_look L 3) (fun x => RR S d 165 672 L (.int x :: st) h Q) := RR.ldi_n rfl rfl rfl
set_option maxRecDepth 20000 in
theorem r165_672 : RR S d 165 672 L st h Q = RR S d 165 673 L (.int 3 :: st) h Q := RR.icn (n := 3) rfl (by decide) rfl
set_option maxRecDepth 20000 in
theorem r165_673 {x y : Int32} : RR S d 165 673 L (.int y :: .int x :: st) h Q = RR S d 165 674 L (.int (x + y) :: st) h Q := RR.do1 (674, L, .int (x + y) :: st, h) rfl rfl rfl
set_option maxRecDepth 20000 in
theorem r165_674 {x : Int32} {a : Nat} : RR S d 165 674 L (.int x :: .ref a :: st) h Q = kO (ai_arr h a 0) (fun q => kB (ai_in x q.1) (RR S d 165 675 L (.int (q.2 x.toNatClampNeg) :: st) h Q)) := RR.ial rfl rfl
set_option maxRecDepth 20000 in
theorem r165_674x {x : Int32} {u : UInt32} : RR S d 165 674 L (.int x :: .float u :: st) h Q = kB (ai_in x (ai_ext S u).1) (RR S d 165 675 L (.int ((ai_ext S u).2 x.toNatClampNeg) :: st) h Q) := RR.iax rfl rfl
set_option maxRecDepth 20000 in
theorem r165_675 : RR S d 165 675 L st h Q = kA (ai_look L 0) (fun x => RR S d 165 676 L (x :: st) h Q) := RR.lda_n rfl rfl rfl
set_option maxRecDepth 20000 in
theorem r165_676 : RR S d 165 676 L st h Q = kI (ai_look L 3) (fun x => RR S d 165 677 L (.int x :: st) h Q) := RR.ldi_n rfl rfl rfl
set_option maxRecDepth 20000 in
theorem r165_677 : RR S d 165 677 L st h Q = RR S d 165 678 L (.int 4 :: st) h Q := RR.icn (n := 4) rfl (by decide) rfl
set_option maxRecDepth 20000 in
theorem r165_678 {x y : Int32} : RR S d 165 678 L (.int y :: .int x :: st) h Q = RR S d 165 679 L (.int (x + y) :: st) h Q := RR.do1 (679, L, .int (x + y) :: st, h) rfl rfl rfl
set_option maxRecDepth 20000 in
theorem r165_679 {x : Int32} {a : Nat} : RR S d 165 679 L (.int x :: .ref a :: st) h Q = kO (ai_arr h a 0) (fun q => kB (ai_in x q.1) (RR S d 165 680 L (.int (q.2 x.toNatClampNeg) :: st) h Q)) := RR.ial rfl rfl
set_option maxRecDepth 20000 in
theorem r165_679x {x : Int32} {u : UInt32} : RR S d 165 679 L (.int x :: .float u :: st) h Q = kB (ai_in x (ai_ext S u).1) (RR S d 165 680 L (.int ((ai_ext S u).2 x.toNatClampNeg) :: st) h Q) := RR.iax rfl rfl
set_option maxRecDepth 20000 in
theorem r165_680 {p0 : Int32} {p1 : Int32} {p2 : Int32} {p3 : Int32} {a : Nat} : RR S (d + 1) 165 680 L (.int p3 :: .int p2 :: .int p1 :: .int p0 :: .ref a :: st) h Q = kB (decide (ai_sum st ≤ 8)) (kB ((ai_obj h a 10).isSome) (RR S d 150 0 [(0, .ref a), (1, .int p0), (2, .int p1), (3, .int p2), (4, .int p3)] [] h (fun r h1 => RR S (d + 1) 165 683 L (r.toList ++ st) h1 Q))) := RR.cv (j := 88) (mn' := 150) (n := 4) rfl rfl rfl rfl rfl rfl
set_option maxRecDepth 20000 in
theorem r165_683 {x : Int32} : RR S d 165 683 L (.int x :: st) h Q = RR S d 165 684 L st h Q := RR.pop rfl rfl rfl
set_option maxRecDepth 20000 in
theorem r165_684 : RR S d 165 684 L st h Q = RR S d 165 852 L st h Q := RR.jmp (off := 168) rfl (by decide)
set_option maxRecDepth 20000 in
theorem r165_687 : RR S d 165 687 L st h Q = kA (ai_look L 1) (fun x => RR S d 165 688 L (x :: st) h Q) := RR.lda_n rfl rfl rfl
set_option maxRecDepth 20000 in
theorem r165_688 : RR S d 165 688 L st h Q = kA (ai_look L 0) (fun x => RR S d 165 689 L (x :: st) h Q) := RR.lda_n rfl rfl rfl
set_option maxRecDepth 20000 in
theorem r165_689 : RR S d 165 689 L st h Q = kI (ai_look L 3) (fun x => RR S d 165 690 L (.int x :: st) h Q) := RR.ldi_n rfl rfl rfl
set_option maxRecDepth 20000 in
theorem r165_690 : RR S d 165 690 L st h Q = RR S d 165 691 L (.int 1 :: st) h Q := RR.icn (n := 1) rfl (by decide) rfl
set_option maxRecDepth 20000 in
theorem r165_691 {x y : Int32} : RR S d 165 691 L (.int y :: .int x :: st) h Q = RR S d 165 692 L (.int (x + y) :: st) h Q := RR.do1 (692, L, .int (x + y) :: st, h) rfl rfl rfl
set_option maxRecDepth 20000 in
theorem r165_692 {x : Int32} {a : Nat} : RR S d 165 692 L (.int x :: .ref a :: st) h Q = kO (ai_arr h a 0) (fun q => kB (ai_in x q.1) (RR S d 165 693 L (.int (q.2 x.toNatClampNeg) :: st) h Q)) := RR.ial rfl rfl
set_option maxRecDepth 20000 in
theorem r165_692x {x : Int32} {u : UInt32} : RR S d 165 692 L (.int x :: .float u :: st) h Q = kB (ai_in x (ai_ext S u).1) (RR S d 165 693 L (.int ((ai_ext S u).2 x.toNatClampNeg) :: st) h Q) := RR.iax rfl rfl
set_option maxRecDepth 20000 in
theorem r165_693 : RR S d 165 693 L st h Q = kA (ai_look L 0) (fun x => RR S d 165 694 L (x :: st) h Q) := RR.lda_n rfl rfl rfl
set_option maxRecDepth 20000 in
theorem r165_694 : RR S d 165 694 L st h Q = kI (ai_look L 3) (fun x => RR S d 165 695 L (.int x :: st) h Q) := RR.ldi_n rfl rfl rfl
set_option maxRecDepth 20000 in
theorem r165_695 : RR S d 165 695 L st h Q = RR S d 165 696 L (.int 2 :: st) h Q := RR.icn (n := 2) rfl (by decide) rfl
set_option maxRecDepth 20000 in
theorem r165_696 {x y : Int32} : RR S d 165 696 L (.int y :: .int x :: st) h Q = RR S d 165 697 L (.int (x + y) :: st) h Q := RR.do1 (697, L, .int (x + y) :: st, h) rfl rfl rfl
set_option maxRecDepth 20000 in
theorem r165_697 {x : Int32} {a : Nat} : RR S d 165 697 L (.int x :: .ref a :: st) h Q = kO (ai_arr h a 0) (fun q => kB (ai_in x q.1) (RR S d 165 698 L (.int (q.2 x.toNatClampNeg) :: st) h Q)) := RR.ial rfl rfl
set_option maxRecDepth 20000 in
theorem r165_697x {x : Int32} {u : UInt32} : RR S d 165 697 L (.int x :: .float u :: st) h Q = kB (ai_in x (ai_ext S u).1) (RR S d 165 698 L (.int ((ai_ext S u).2 x.toNatClampNeg) :: st) h Q) := RR.iax rfl rfl
set_option maxRecDepth 20000 in
theorem r165_698 : RR S d 165 698 L st h Q = kA (ai_look L 0) (fun x => RR S d 165 699 L (x :: st) h Q) := RR.lda_n rfl rfl rfl
set_option maxRecDepth 20000 in
theorem r165_699 : RR S d 165 699 L st h Q = kI (ai_look L 3) (fun x => RR S d 165 700 L (.int x :: st) h Q) := RR.ldi_n rfl rfl rfl
set_option maxRecDepth 20000 in
theorem r165_700 : RR S d 165 700 L st h Q = RR S d 165 701 L (.int 3 :: st) h Q := RR.icn (n := 3) rfl (by decide) rfl
set_option maxRecDepth 20000 in
theorem r165_701 {x y : Int32} : RR S d 165 701 L (.int y :: .int x :: st) h Q = RR S d 165 702 L (.int (x + y) :: st) h Q := RR.do1 (702, L, .int (x + y) :: st, h) rfl rfl rfl
set_option maxRecDepth 20000 in
theorem r165_702 {x : Int32} {a : Nat} : RR S d 165 702 L (.int x :: .ref a :: st) h Q = kO (ai_arr h a 0) (fun q => kB (ai_in x q.1) (RR S d 165 703 L (.int (q.2 x.toNatClampNeg) :: st) h Q)) := RR.ial rfl rfl
set_option maxRecDepth 20000 in
theorem r165_702x {x : Int32} {u : UInt32} : RR S d 165 702 L (.int x :: .float u :: st) h Q = kB (ai_in x (ai_ext S u).1) (RR S d 165 703 L (.int ((ai_ext S u).2 x.toNatClampNeg) :: st) h Q) := RR.iax rfl rfl
set_option maxRecDepth 20000 in
theorem r165_703 {p0 : Int32} {p1 : Int32} {p2 : Int32} {a : Nat} : RR S (d + 1) 165 703 L (.int p2 :: .int p1 :: .int p0 :: .ref a :: st) h Q = kB (decide (ai_sum st ≤ 8)) (kB ((ai_obj h a 9).isSome) (RR S d 100 0 [(0, .ref a), (1, .int p0), (2, .int p1), (3, .int p2)] [] h (fun r h1 => RR S (d + 1) 165 706 L (r.toList ++ st) h1 Q))) := RR.cv (j := 89) (mn' := 100) (n := 3) rfl rfl rfl rfl rfl rfl
set_option maxRecDepth 20000 in
theorem r165_706 {x : Int32} : RR S d 165 706 L (.int x :: st) h Q = RR S d 165 707 L st h Q := RR.pop rfl rfl rfl
set_option maxRecDepth 20000 in
theorem r165_707 : RR S d 165 707 L st h Q = kA (ai_look L 2) (fun x => RR S d 165 708 L (x :: st) h Q) := RR.lda_n rfl rfl rfl
set_option maxRecDepth 20000 in
theorem r165_708 : RR S d 165 708 L st h Q = kA (ai_look L 0) (fun x => RR S d 165 709 L (x :: st) h Q) := RR.lda_n rfl rfl rfl
set_option maxRecDepth 20000 in
theorem r165_709 : RR S d 165 709 L st h Q = kI (ai_look L 3) (fun x => RR S d 165 710 L (.int x :: st) h Q) := RR.ldi_n rfl rfl rfl
set_option maxRecDepth 20000 in
theorem r165_710 : RR S d 165 710 L st h Q = RR S d 165 711 L (.int 1 :: st) h Q := RR.icn (n := 1) rfl (by decide) rfl
set_option maxRecDepth 20000 in
theorem r165_711 {x y : Int32} : RR S d 165 711 L (.int y :: .int x :: st) h Q = RR S d 165 712 L (.int (x + y) :: st) h Q := RR.do1 (712, L, .int (x + y) :: st, h) rfl rfl rfl
set_option maxRecDepth 20000 in
theorem r165_712 {x : Int32} {a : Nat} : RR S d 165 712 L (.int x :: .ref a :: st) h Q = kO (ai_arr h a 0) (fun q => kB (ai_in x q.1) (RR S d 165 713 L (.int (q.2 x.toNatClampNeg) :: st) h Q)) := RR.ial rfl rfl
set_option maxRecDepth 20000 in
theorem r165_712x {x : Int32} {u : UInt32} : RR S d 165 712 L (.int x :: .float u :: st) h Q = kB (ai_in x (ai_ext S u).1) (RR S d 165 713 L (.int ((ai_ext S u).2 x.toNatClampNeg) :: st) h Q) := RR.iax rfl rfl
set_option maxRecDepth 20000 in
theorem r165_713 : RR S d 165 713 L st h Q = kA (ai_look L 0) (fun x => RR S d 165 714 L (x :: st) h Q) := RR.lda_n rfl rfl rfl
set_option maxRecDepth 20000 in
theorem r165_714 : RR S d 165 714 L st h Q = kI (ai_look L 3) (fun x => RR S d 165 715 L (.int x :: st) h Q) := RR.ldi_n rfl rfl rfl
set_option maxRecDepth 20000 in
theorem r165_715 : RR S d 165 715 L st h Q = RR S d 165 716 L (.int 2 :: st) h Q := RR.icn (n := 2) rfl (by decide) rfl
set_option maxRecDepth 20000 in
theorem r165_716 {x y : Int32} : RR S d 165 716 L (.int y :: .int x :: st) h Q = RR S d 165 717 L (.int (x + y) :: st) h Q := RR.do1 (717, L, .int (x + y) :: st, h) rfl rfl rfl
set_option maxRecDepth 20000 in
theorem r165_717 {x : Int32} {a : Nat} : RR S d 165 717 L (.int x :: .ref a :: st) h Q = kO (ai_arr h a 0) (fun q => kB (ai_in x q.1) (RR S d 165 718 L (.int (q.2 x.toNatClampNeg) :: st) h Q)) := RR.ial rfl rfl
set_option maxRecDepth 20000 in
theorem r165_717x {x : Int32} {u : UInt32} : RR S d 165 717 L (.int x :: .float u :: st) h Q = kB (ai_in x (ai_ext S u).1) (RR S d 165 718 L (.int ((ai_ext S u).2 x.toNatClampNeg) :: st) h Q) := RR.iax rfl rfl
set_option maxRecDepth 20000 in
theorem r165_718 : RR S d 165 718 L st h Q = kA (ai_look L 0) (fun x => RR S d 165 719 L (x :: st) h Q) := RR.lda_n rfl rfl rfl
set_option maxRecDepth 20000 in
theorem r165_719 : RR S d 165 719 L st h Q = kI (ai_look L 3) (fun x => RR S d 165 720 L (.int x :: st) h Q) := RR.ldi_n rfl rfl rfl
set_option maxRecDepth 20000 in
theorem r165_720 : RR S d 165 720 L st h Q = RR S d 165 721 L (.int 3 :: st) h Q := RR.icn (n := 3) rfl (by decide) rfl
set_option maxRecDepth 20000 in
theorem r165_721 {x y : Int32} : RR S d 165 721 L (.int y :: .int x :: st) h Q = RR S d 165 722 L (.int (x + y) :: st) h Q := RR.do1 (722, L, .int (x + y) :: st, h) rfl rfl rfl
set_option maxRecDepth 20000 in
theorem r165_722 {x : Int32} {a : Nat} : RR S d 165 722 L (.int x :: .ref a :: st) h Q = kO (ai_arr h a 0) (fun q => kB (ai_in x q.1) (RR S d 165 723 L (.int (q.2 x.toNatClampNeg) :: st) h Q)) := RR.ial rfl rfl
set_option maxRecDepth 20000 in
theorem r165_722x {x : Int32} {u : UInt32} : RR S d 165 722 L (.int x :: .float u :: st) h Q = kB (ai_in x (ai_ext S u).1) (RR S d 165 723 L (.int ((ai_ext S u).2 x.toNatClampNeg) :: st) h Q) := RR.iax rfl rfl
set_option maxRecDepth 20000 in
theorem r165_723 {p0 : Int32} {p1 : Int32} {p2 : Int32} {a : Nat} : RR S (d + 1) 165 723 L (.int p2 :: .int p1 :: .int p0 :: .ref a :: st) h Q = kB (decide (ai_sum st ≤ 8)) (kB ((ai_obj h a 10).isSome) (RR S d 152 0 [(0, .ref a), (1, .int p0), (2, .int p1), (3, .int p2)] [] h (fun r h1 => RR S (d + 1) 165 726 L (r.toList ++ st) h1 Q))) := RR.cv (j := 92) (mn' := 152) (n := 3) rfl rfl rfl rfl rfl rfl
set_option maxRecDepth 20000 in
theorem r165_726 {x : Int32} : RR S d 165 726 L (.int x :: st) h Q = RR S d 165 727 L st h Q := RR.pop rfl rfl rfl
set_option maxRecDepth 20000 in
theorem r165_727 : RR S d 165 727 L st h Q = RR S d 165 852 L st h Q := RR.jmp (off := 125) rfl (by decide)
set_option maxRecDepth 20000 in
theorem r165_730 : RR S d 165 730 L st h Q = kA (ai_look L 1) (fun x => RR S d 165 731 L (x :: st) h Q) := RR.lda_n rfl rfl rfl
set_option maxRecDepth 20000 in
theorem r165_731 : RR S d 165 731 L st h Q = kA (ai_look L 0) (fun x => RR S d 165 732 L (x :: st) h Q) := RR.lda_n rfl rfl rfl
set_option maxRecDepth 20000 in
theorem r165_732 : RR S d 165 732 L st h Q = kI (ai_look L 3) (fun x => RR S d 165 733 L (.int x :: st) h Q) := RR.ldi_n rfl rfl rfl
set_option maxRecDepth 20000 in
theorem r165_733 : RR S d 165 733 L st h Q = RR S d 165 734 L (.int 1 :: st) h Q := RR.icn (n := 1) rfl (by decide) rfl
set_option maxRecDepth 20000 in
theorem r165_734 {x y : Int32} : RR S d 165 734 L (.int y :: .int x :: st) h Q = RR S d 165 735 L (.int (x + y) :: st) h Q := RR.do1 (735, L, .int (x + y) :: st, h) rfl rfl rfl
set_option maxRecDepth 20000 in
theorem r165_735 {x : Int32} {a : Nat} : RR S d 165 735 L (.int x :: .ref a :: st) h Q = kO (ai_arr h a 0) (fun q => kB (ai_in x q.1) (RR S d 165 736 L (.int (q.2 x.toNatClampNeg) :: st) h Q)) := RR.ial rfl rfl
set_option maxRecDepth 20000 in
theorem r165_735x {x : Int32} {u : UInt32} : RR S d 165 735 L (.int x :: .float u :: st) h Q = kB (ai_in x (ai_ext S u).1) (RR S d 165 736 L (.int ((ai_ext S u).2 x.toNatClampNeg) :: st) h Q) := RR.iax rfl rfl
set_option maxRecDepth 20000 in
theorem r165_736 : RR S d 165 736 L st h Q = kA (ai_look L 0) (fun x => RR S d 165 737 L (x :: st) h Q) := RR.lda_n rfl rfl rfl
set_option maxRecDepth 20000 in
theorem r165_737 : RR S d 165 737 L st h Q = kI (ai_look L 3) (fun x => RR S d 165 738 L (.int x :: st) h Q) := RR.ldi_n rfl rfl rfl
set_option maxRecDepth 20000 in
theorem r165_738 : RR S d 165 738 L st h Q = RR S d 165 739 L (.int 2 :: st) h Q := RR.icn (n := 2) rfl (by decide) rfl
set_option maxRecDepth 20000 in
theorem r165_739 {x y : Int32} : RR S d 165 739 L (.int y :: .int x :: st) h Q = RR S d 165 740 L (.int (x + y) :: st) h Q := RR.do1 (740, L, .int (x + y) :: st, h) rfl rfl rfl
set_option maxRecDepth 20000 in
theorem r165_740 {x : Int32} {a : Nat} : RR S d 165 740 L (.int x :: .ref a :: st) h Q = kO (ai_arr h a 0) (fun q => kB (ai_in x q.1) (RR S d 165 741 L (.int (q.2 x.toNatClampNeg) :: st) h Q)) := RR.ial rfl rfl
set_option maxRecDepth 20000 in
theorem r165_740x {x : Int32} {u : UInt32} : RR S d 165 740 L (.int x :: .float u :: st) h Q = kB (ai_in x (ai_ext S u).1) (RR S d 165 741 L (.int ((ai_ext S u).2 x.toNatClampNeg) :: st) h Q) := RR.iax rfl rfl
set_option maxRecDepth 20000 in
theorem r165_741 : RR S d 165 741 L st h Q = kA (ai_look L 0) (fun x => RR S d 165 742 L (x :: st) h Q) := RR.lda_n rfl rfl rfl
set_option maxRecDepth 20000 in
theorem r165_742 : RR S d 165 742 L st h Q = kI (ai_look L 3) (fun x => RR S d 165 743 L (.int x :: st) h Q) := RR.ldi_n rfl rfl rfl
set_option maxRecDepth 20000 in
theorem r165_743 : RR S d 165 743 L st h Q = RR S d 165 744 L (.int 3 :: st) h Q := RR.icn (n := 3) rfl (by decide) rfl
set_option maxRecDepth 20000 in
theorem r165_744 {x y : Int32} : RR S d 165 744 L (.int y :: .int x :: st) h Q = RR S d 165 745 L (.int (x + y) :: st) h Q := RR.do1 (745, L, .int (x + y) :: st, h) rfl rfl rfl
set_option maxRecDepth 20000 in
theorem r165_745 {x : Int32} {a : Nat} : RR S d 165 745 L (.int x :: .ref a :: st) h Q = kO (ai_arr h a 0) (fun q => kB (ai_in x q.1) (RR S d 165 746 L (.int (q.2 x.toNatClampNeg) :: st) h Q)) := RR.ial rfl rfl
set_option maxRecDepth 20000 in
theorem r165_745x {x : Int32} {u : UInt32} : RR S d 165 745 L (.int x :: .float u :: st) h Q = kB (ai_in x (ai_ext S u).1) (RR S d 165 746 L (.int ((ai_ext S u).2 x.toNatClampNeg) :: st) h Q) := RR.iax rfl rfl
set_option maxRecDepth 20000 in
theorem r165_746 {p0 : Int32} {p1 : Int32} {p2 : Int32} {a : Nat} : RR S (d + 1) 165 746 L (.int p2 :: .int p1 :: .int p0 :: .ref a :: st) h Q = kB (decide (ai_sum st ≤ 8)) (kB ((ai_obj h a 9).isSome) (RR S d 101 0 [(0, .ref a), (1, .int p0), (2, .int p1), (3, .int p2)] [] h (fun r h1 => RR S (d + 1) 165 749 L (r.toList ++ st) h1 Q))) := RR.cv (j := 93) (mn' := 101) (n := 3) rfl rfl rfl rfl rfl rfl
set_option maxRecDepth 20000 in
theorem r165_749 : RR S d 165 749 L st h Q = kA (ai_look L 2) (fun x => RR S d 165 750 L (x :: st) h Q) := RR.lda_n rfl rfl rfl
set_option maxRecDepth 20000 in
theorem r165_750 : RR S d 165 750 L st h Q = kA (ai_look L 0) (fun x => RR S d 165 751 L (x :: st) h Q) := RR.lda_n rfl rfl rfl
set_option maxRecDepth 20000 in
theorem r165_751 : RR S d 165 751 L st h Q = kI (ai_look L 3) (fun x => RR S d 165 752 L (.int x :: st) h Q) := RR.ldi_n rfl rfl rfl
set_option maxRecDepth 20000 in
theorem r165_752 : RR S d 165 752 L st h Q = RR S d 165 753 L (.int 1 :: st) h Q := RR.icn (n := 1) rfl (by decide) rfl
set_option maxRecDepth 20000 in
theorem r165_753 {x y : Int32} : RR S d 165 753 L (.int y :: .int x :: st) h Q = RR S d 165 754 L (.int (x + y) :: st) h Q := RR.do1 (754, L, .int (x + y) :: st, h) rfl rfl rfl
set_option maxRecDepth 20000 in
theorem r165_754 {x : Int32} {a : Nat} : RR S d 165 754 L (.int x :: .ref a :: st) h Q = kO (ai_arr h a 0) (fun q => kB (ai_in x q.1) (RR S d 165 755 L (.int (q.2 x.toNatClampNeg) :: st) h Q)) := RR.ial rfl rfl
set_option maxRecDepth 20000 in
theorem r165_754x {x : Int32} {u : UInt32} : RR S d 165 754 L (.int x :: .float u :: st) h Q = kB (ai_in x (ai_ext S u).1) (RR S d 165 755 L (.int ((ai_ext S u).2 x.toNatClampNeg) :: st) h Q) := RR.iax rfl rfl
set_option maxRecDepth 20000 in
theorem r165_755 : RR S d 165 755 L st h Q = kA (ai_look L 0) (fun x => RR S d 165 756 L (x :: st) h Q) := RR.lda_n rfl rfl rfl
set_option maxRecDepth 20000 in
theorem r165_756 : RR S d 165 756 L st h Q = kI (ai_look L 3) (fun x => RR S d 165 757 L (.int x :: st) h Q) := RR.ldi_n rfl rfl rfl
set_option maxRecDepth 20000 in
theorem r165_757 : RR S d 165 757 L st h Q = RR S d 165 758 L (.int 2 :: st) h Q := RR.icn (n := 2) rfl (by decide) rfl
set_option maxRecDepth 20000 in
theorem r165_758 {x y : Int32} : RR S d 165 758 L (.int y :: .int x :: st) h Q = RR S d 165 759 L (.int (x + y) :: st) h Q := RR.do1 (759, L, .int (x + y) :: st, h) rfl rfl rfl
set_option maxRecDepth 20000 in
theorem r165_759 {x : Int32} {a : Nat} : RR S d 165 759 L (.int x :: .ref a :: st) h Q = kO (ai_arr h a 0) (fun q => kB (ai_in x q.1) (RR S d 165 760 L (.int (q.2 x.toNatClampNeg) :: st) h Q)) := RR.ial rfl rfl
set_option maxRecDepth 20000 in
theorem r165_759x {x : Int32} {u : UInt32} : RR S d 165 759 L (.int x :: .float u :: st) h Q = kB (ai_in x (ai_ext S u).1) (RR S d 165 760 L (.int ((ai_ext S u).2 x.toNatClampNeg) :: st) h Q) := RR.iax rfl rfl
set_option maxRecDepth 20000 in
theorem r165_760 : RR S d 165 760 L st h Q = kA (ai_look L 0) (fun x => RR S d 165 761 L (x :: st) h Q) := RR.lda_n rfl rfl rfl
set_option maxRecDepth 20000 in
theorem r165_761 : RR S d 165 761 L st h Q = kI (ai_look L 3) (fun x => RR S d 165 762 L (.int x :: st) h Q) := RR.ldi_n rfl rfl rfl
set_option maxRecDepth 20000 in
theorem r165_762 : RR S d 165 762 L st h Q = RR S d 165 763 L (.int 3 :: st) h Q := RR.icn (n := 3) rfl (by decide) rfl
set_option maxRecDepth 20000 in
theorem r165_763 {x y : Int32} : RR S d 165 763 L (.int y :: .int x :: st) h Q = RR S d 165 764 L (.int (x + y) :: st) h Q := RR.do1 (764, L, .int (x + y) :: st, h) rfl rfl rfl
set_option maxRecDepth 20000 in
theorem r165_764 {x : Int32} {a : Nat} : RR S d 165 764 L (.int x :: .ref a :: st) h Q = kO (ai_arr h a 0) (fun q => kB (ai_in x q.1) (RR S d 165 765 L (.int (q.2 x.toNatClampNeg) :: st) h Q)) := RR.ial rfl rfl
set_option maxRecDepth 20000 in
theorem r165_764x {x : Int32} {u : UInt32} : RR S d 165 764 L (.int x :: .float u :: st) h Q = kB (ai_in x (ai_ext S u).1) (RR S d 165 765 L (.int ((ai_ext S u).2 x.toNatClampNeg) :: st) h Q) := RR.iax rfl rfl
set_option maxRecDepth 20000 in
theorem r165_765 {p0 : Int32} {p1 : Int32} {p2 : Int32} {a : Nat} : RR S (d + 1) 165 765 L (.int p2 :: .int p1 :: .int p0 :: .ref a :: st) h Q = kB (decide (ai_sum st ≤ 8)) (kB ((ai_obj h a 10).isSome) (RR S d 153 0 [(0, .ref a), (1, .int p0), (2, .int p1), (3, .int p2)] [] h (fun r h1 => RR S (d + 1) 165 768 L (r.toList ++ st) h1 Q))) := RR.cv (j := 96) (mn' := 153) (n := 3) rfl rfl rfl rfl rfl rfl
set_option maxRecDepth 20000 in
theorem r165_768 {x y : Int32} : RR S d 165 768 L (.int y :: .int x :: st) h Q = if x = y then RR S d 165 852 L st h Q else RR S d 165 771 L st h Q := RR.b2 (c := .eq) (off := 84) rfl rfl (by decide) rfl
set_option maxRecDepth 20000 in
theorem r165_771 : RR S d 165 771 L st h Q = RR S d 165 772 L (.int 0 :: st) h Q := RR.icn (n := 0) rfl (by decide) rfl
set_option maxRecDepth 20000 in
theorem r165_772f : RR S d 165 772 L [.int 0] h Q = Q (some (.int 0)) h := RR.zrt rfl rfl (by decide)
set_option maxRecDepth 20000 in
theorem r165_772t : RR S d 165 772 L [.int 1] h Q = Q (some (.int 1)) h := RR.zrt rfl rfl (by decide)
set_option maxRecDepth 20000 in
theorem r165_773 : RR S d 165 773 L st h Q = kA (ai_look L 1) (fun x => RR S d 165 774 L (x :: st) h Q) := RR.lda_n rfl rfl rfl
set_option maxRecDepth 20000 in
theorem r165_774 : RR S d 165 774 L st h Q = kA (ai_look L 0) (fun x => RR S d 165 775 L (x :: st) h Q) := RR.lda_n rfl rfl rfl
set_option maxRecDepth 20000 in
theorem r165_775 : RR S d 165 775 L st h Q = kI (ai_look L 3) (fun x => RR S d 165 776 L (.int x :: st) h Q) := RR.ldi_n rfl rfl rfl
set_option maxRecDepth 20000 in
theorem r165_776 : RR S d 165 776 L st h Q = RR S d 165 777 L (.int 1 :: st) h Q := RR.icn (n := 1) rfl (by decide) rfl
set_option maxRecDepth 20000 in
theorem r165_777 {x y : Int32} : RR S d 165 777 L (.int y :: .int x :: st) h Q = RR S d 165 778 L (.int (x + y) :: st) h Q := RR.do1 (778, L, .int (x + y) :: st, h) rfl rfl rfl
set_option maxRecDepth 20000 in
theorem r165_778 {x : Int32} {a : Nat} : RR S d 165 778 L (.int x :: .ref a :: st) h Q = kO (ai_arr h a 0) (fun q => kB (ai_in x q.1) (RR S d 165 779 L (.int (q.2 x.toNatClampNeg) :: st) h Q)) := RR.ial rfl rfl
set_option maxRecDepth 20000 in
theorem r165_778x {x : Int32} {u : UInt32} : RR S d 165 778 L (.int x :: .float u :: st) h Q = kB (ai_in x (ai_ext S u).1) (RR S d 165 779 L (.int ((ai_ext S u).2 x.toNatClampNeg) :: st) h Q) := RR.iax rfl rfl
set_option maxRecDepth 20000 in
theorem r165_779 : RR S d 165 779 L st h Q = kA (ai_look L 0) (fun x => RR S d 165 780 L (x :: st) h Q) := RR.lda_n rfl rfl rfl
set_option maxRecDepth 20000 in
theorem r165_780 : RR S d 165 780 L st h Q = kI (ai_look L 3) (fun x => RR S d 165 781 L (.int x :: st) h Q) := RR.ldi_n rfl rfl rfl
set_option maxRecDepth 20000 in
theorem r165_781 : RR S d 165 781 L st h Q = RR S d 165 782 L (.int 2 :: st) h Q := RR.icn (n := 2) rfl (by decide) rfl
set_option maxRecDepth 20000 in
theorem r165_782 {x y : Int32} : RR S d 165 782 L (.int y :: .int x :: st) h Q = RR S d 165 783 L (.int (x + y) :: st) h Q := RR.do1 (783, L, .int (x + y) :: st, h) rfl rfl rfl
set_option maxRecDepth 20000 in
theorem r165_783 {x : Int32} {a : Nat} : RR S d 165 783 L (.int x :: .ref a :: st) h Q = kO (ai_arr h a 0) (fun q => kB (ai_in x q.1) (RR S d 165 784 L (.int (q.2 x.toNatClampNeg) :: st) h Q)) := RR.ial rfl rfl
set_option maxRecDepth 20000 in
theorem r165_783x {x : Int32} {u : UInt32} : RR S d 165 783 L (.int x :: .float u :: st) h Q = kB (ai_in x (ai_ext S u).1) (RR S d 165 784 L (.int ((ai_ext S u).2 x.toNatClampNeg) :: st) h Q) := RR.iax rfl rfl
set_option maxRecDepth 20000 in
theorem r165_784 {p0 : Int32} {p1 : Int32} {a : Nat} : RR S (d + 1) 165 784 L (.int p1 :: .int p0 :: .ref a :: st) h Q = kB (decide (ai_sum st ≤ 8)) (kB ((ai_obj h a 9).isSome) (RR S d 102 0 [(0, .ref a), (1, .int p0), (2, .int p1)] [] h (fun r h1 => RR S (d + 1) 165 787 L (r.toList ++ st) h1 Q))) := RR.cv (j := 97) (mn' := 102) (n := 2) rfl rfl rfl rfl rfl rfl
set_option maxRecDepth 20000 in
theorem r165_787 {x : Int32} : RR S d 165 787 L (.int x :: st) h Q = RR S d 165 788 L st h Q := RR.pop rfl rfl rfl
set_option maxRecDepth 20000 in
theorem r165_788 : RR S d 165 788 L st h Q = kA (ai_look L 2) (fun x => RR S d 165 789 L (x :: st) h Q) := RR.lda_n rfl rfl rfl
set_option maxRecDepth 20000 in
theorem r165_789 : RR S d 165 789 L st h Q = kA (ai_look L 0) (fun x => RR S d 165 790 L (x :: st) h Q) := RR.lda_n rfl rfl rfl
set_option maxRecDepth 20000 in
theorem r165_790 : RR S d 165 790 L st h Q = kI (ai_look L 3) (fun x => RR S d 165 791 L (.int x :: st) h Q) := RR.ldi_n rfl rfl rfl
set_option maxRecDepth 20000 in
theorem r165_791 : RR S d 165 791 L st h Q = RR S d 165 792 L (.int 1 :: st) h Q := RR.icn (n := 1) rfl (by decide) rfl
set_option maxRecDepth 20000 in
theorem r165_792 {x y : Int32} : RR S d 165 792 L (.int y :: .int x :: st) h Q = RR S d 165 793 L (.int (x + y) :: st) h Q := RR.do1 (793, L, .int (x + y) :: st, h) rfl rfl rfl
set_option maxRecDepth 20000 in
theorem r165_793 {x : Int32} {a : Nat} : RR S d 165 793 L (.int x :: .ref a :: st) h Q = kO (ai_arr h a 0) (fun q => kB (ai_in x q.1) (RR S d 165 794 L (.int (q.2 x.toNatClampNeg) :: st) h Q)) := RR.ial rfl rfl
set_option maxRecDepth 20000 in
theorem r165_793x {x : Int32} {u : UInt32} : RR S d 165 793 L (.int x :: .float u :: st) h Q = kB (ai_in x (ai_ext S u).1) (RR S d 165 794 L (.int ((ai_ext S u).2 x.toNatClampNeg) :: st) h Q) := RR.iax rfl rfl
set_option maxRecDepth 20000 in
theorem r165_794 : RR S d 165 794 L st h Q = kA (ai_look L 0) (fun x => RR S d 165 795 L (x :: st) h Q) := RR.lda_n rfl rfl rfl
set_option maxRecDepth 20000 in
theorem r165_795 : RR S d 165 795 L st h Q = kI (ai_look L 3) (fun x => RR S d 165 796 L (.int x :: st) h Q) := RR.ldi_n rfl rfl rfl
set_option maxRecDepth 20000 in
theorem r165_796 : RR S d 165 796 L st h Q = RR S d 165 797 L (.int 2 :: st) h Q := RR.icn (n := 2) rfl (by decide) rfl
set_option maxRecDepth 20000 in
theorem r165_797 {x y : Int32} : RR S d 165 797 L (.int y :: .int x :: st) h Q = RR S d 165 798 L (.int (x + y) :: st) h Q := RR.do1 (798, L, .int (x + y) :: st, h) rfl rfl rfl
set_option maxRecDepth 20000 in
theorem r165_798 {x : Int32} {a : Nat} : RR S d 165 798 L (.int x :: .ref a :: st) h Q = kO (ai_arr h a 0) (fun q => kB (ai_in x q.1) (RR S d 165 799 L (.int (q.2 x.toNatClampNeg) :: st) h Q)) := RR.ial rfl rfl
set_option maxRecDepth 20000 in
theorem r165_798x {x : Int32} {u : UInt32} : RR S d 165 798 L (.int x :: .float u :: st) h Q = kB (ai_in x (ai_ext S u).1) (RR S d 165 799 L (.int ((ai_ext S u).2 x.toNatClampNeg) :: st) h Q) := RR.iax rfl rfl
set_option maxRecDepth 20000 in
theorem r165_799 {p0 : Int32} {p1 : Int32} {a : Nat} : RR S (d + 1) 165 799 L (.int p1 :: .int p0 :: .ref a :: st) h Q = kB (decide (ai_sum st ≤ 8)) (kB ((ai_obj h a 10).isSome) (RR S d 158 0 [(0, .ref a), (1, .int p0), (2, .int p1)] [] h (fun r h1 => RR S (d + 1) 165 802 L (r.toList ++ st) h1 Q))) := RR.cv (j := 100) (mn' := 158) (n := 2) rfl rfl rfl rfl rfl rfl
set_option maxRecDepth 20000 in
theorem r165_802 {x : Int32} : RR S d 165 802 L (.int x :: st) h Q = RR S d 165 803 L st h Q := RR.pop rfl rfl rfl
set_option maxRecDepth 20000 in
theorem r165_803 : RR S d 165 803 L st h Q = RR S d 165 852 L st h Q := RR.jmp (off := 49) rfl (by decide)
set_option maxRecDepth 20000 in
theorem r165_806 : RR S d 165 806 L st h Q = kA (ai_look L 1) (fun x => RR S d 165 807 L (x :: st) h Q) := RR.lda_n rfl rfl rfl
set_option maxRecDepth 20000 in
theorem r165_807 : RR S d 165 807 L st h Q = kA (ai_look L 0) (fun x => RR S d 165 808 L (x :: st) h Q) := RR.lda_n rfl rfl rfl
set_option maxRecDepth 20000 in
theorem r165_808 : RR S d 165 808 L st h Q = kI (ai_look L 3) (fun x => RR S d 165 809 L (.int x :: st) h Q) := RR.ldi_n rfl rfl rfl
set_option maxRecDepth 20000 in
theorem r165_809 : RR S d 165 809 L st h Q = RR S d 165 810 L (.int 1 :: st) h Q := RR.icn (n := 1) rfl (by decide) rfl
set_option maxRecDepth 20000 in
theorem r165_810 {x y : Int32} : RR S d 165 810 L (.int y :: .int x :: st) h Q = RR S d 165 811 L (.int (x + y) :: st) h Q := RR.do1 (811, L, .int (x + y) :: st, h) rfl rfl rfl
set_option maxRecDepth 20000 in
theorem r165_811 {x : Int32} {a : Nat} : RR S d 165 811 L (.int x :: .ref a :: st) h Q = kO (ai_arr h a 0) (fun q => kB (ai_in x q.1) (RR S d 165 812 L (.int (q.2 x.toNatClampNeg) :: st) h Q)) := RR.ial rfl rfl
set_option maxRecDepth 20000 in
theorem r165_811x {x : Int32} {u : UInt32} : RR S d 165 811 L (.int x :: .float u :: st) h Q = kB (ai_in x (ai_ext S u).1) (RR S d 165 812 L (.int ((ai_ext S u).2 x.toNatClampNeg) :: st) h Q) := RR.iax rfl rfl
set_option maxRecDepth 20000 in
theorem r165_812 {p0 : Int32} {a : Nat} : RR S (d + 1) 165 812 L (.int p0 :: .ref a :: st) h Q = kB (decide (ai_sum st ≤ 8)) (kB ((ai_obj h a 9).isSome) (RR S d 103 0 [(0, .ref a), (1, .int p0)] [] h (fun r h1 => RR S (d + 1) 165 815 L (r.toList ++ st) h1 Q))) := RR.cv (j := 101) (mn' := 103) (n := 1) rfl rfl rfl rfl rfl rfl
set_option maxRecDepth 20000 in
theorem r165_815 {x : Int32} : RR S d 165 815 L (.int x :: st) h Q = RR S d 165 816 L st h Q := RR.pop rfl rfl rfl
set_option maxRecDepth 20000 in
theorem r165_816 : RR S d 165 816 L st h Q = kA (ai_look L 2) (fun x => RR S d 165 817 L (x :: st) h Q) := RR.lda_n rfl rfl rfl
set_option maxRecDepth 20000 in
theorem r165_817 : RR S d 165 817 L st h Q = kA (ai_look L 0) (fun x => RR S d 165 818 L (x :: st) h Q) := RR.lda_n rfl rfl rfl
set_option maxRecDepth 20000 in
theorem r165_818 : RR S d 165 818 L st h Q = kI (ai_look L 3) (fun x => RR S d 165 819 L (.int x :: st) h Q) := RR.ldi_n rfl rfl rfl
set_option maxRecDepth 20000 in
theorem r165_819 : RR S d 165 819 L st h Q = RR S d 165 820 L (.int 1 :: st) h Q := RR.icn (n := 1) rfl (by decide) rfl
set_option maxRecDepth 20000 in
theorem r165_820 {x y : Int32} : RR S d 165 820 L (.int y :: .int x :: st) h Q = RR S d 165 821 L (.int (x + y) :: st) h Q := RR.do1 (821, L, .int (x + y) :: st, h) rfl rfl rfl
set_option maxRecDepth 20000 in
theorem r165_821 {x : Int32} {a : Nat} : RR S d 165 821 L (.int x :: .ref a :: st) h Q = kO (ai_arr h a 0) (fun q => kB (ai_in x q.1) (RR S d 165 822 L (.int (q.2 x.toNatClampNeg) :: st) h Q)) := RR.ial rfl rfl
set_option maxRecDepth 20000 in
theorem r165_821x {x : Int32} {u : UInt32} : RR S d 165 821 L (.int x :: .float u :: st) h Q = kB (ai_in x (ai_ext S u).1) (RR S d 165 822 L (.int ((ai_ext S u).2 x.toNatClampNeg) :: st) h Q) := RR.iax rfl rfl
set_option maxRecDepth 20000 in
theorem r165_822 {p0 : Int32} {a : Nat} : RR S (d + 1) 165 822 L (.int p0 :: .ref a :: st) h Q = kB (decide (ai_sum st ≤ 8)) (kB ((ai_obj h a 10).isSome) (RR S d 159 0 [(0, .ref a), (1, .int p0)] [] h (fun r h1 => RR S (d + 1) 165 825 L (r.toList ++ st) h1 Q))) := RR.cv (j := 104) (mn' := 159) (n := 1) rfl rfl rfl rfl rfl rfl
set_option maxRecDepth 20000 in
theorem r165_825 {x : Int32} : RR S d 165 825 L (.int x :: st) h Q = RR S d 165 826 L st h Q := RR.pop rfl rfl rfl
set_option maxRecDepth 20000 in
theorem r165_826 : RR S d 165 826 L st h Q = RR S d 165 852 L st h Q := RR.jmp (off := 26) rfl (by decide)
set_option maxRecDepth 20000 in
theorem r165_829 : RR S d 165 829 L st h Q = kA (ai_look L 1) (fun x => RR S d 165 830 L (x :: st) h Q) := RR.lda_n rfl rfl rfl
set_option maxRecDepth 20000 in
theorem r165_830 : RR S d 165 830 L st h Q = kA (ai_look L 0) (fun x => RR S d 165 831 L (x :: st) h Q) := RR.lda_n rfl rfl rfl
set_option maxRecDepth 20000 in
theorem r165_831 : RR S d 165 831 L st h Q = kI (ai_look L 3) (fun x => RR S d 165 832 L (.int x :: st) h Q) := RR.ldi_n rfl rfl rfl
set_option maxRecDepth 20000 in
theorem r165_832 : RR S d 165 832 L st h Q = RR S d 165 833 L (.int 1 :: st) h Q := RR.icn (n := 1) rfl (by decide) rfl
set_option maxRecDepth 20000 in
theorem r165_833 {x y : Int32} : RR S d 165 833 L (.int y :: .int x :: st) h Q = RR S d 165 834 L (.int (x + y) :: st) h Q := RR.do1 (834, L, .int (x + y) :: st, h) rfl rfl rfl
set_option maxRecDepth 20000 in
theorem r165_834 {x : Int32} {a : Nat} : RR S d 165 834 L (.int x :: .ref a :: st) h Q = kO (ai_arr h a 0) (fun q => kB (ai_in x q.1) (RR S d 165 835 L (.int (q.2 x.toNatClampNeg) :: st) h Q)) := RR.ial rfl rfl
set_option maxRecDepth 20000 in
theorem r165_834x {x : Int32} {u : UInt32} : RR S d 165 834 L (.int x :: .float u :: st) h Q = kB (ai_in x (ai_ext S u).1) (RR S d 165 835 L (.int ((ai_ext S u).2 x.toNatClampNeg) :: st) h Q) := RR.iax rfl rfl
set_option maxRecDepth 20000 in
theorem r165_835 {p0 : Int32} {a : Nat} : RR S (d + 1) 165 835 L (.int p0 :: .ref a :: st) h Q = kB (decide (ai_sum st ≤ 8)) (kB ((ai_obj h a 9).isSome) (RR S d 104 0 [(0, .ref a), (1, .int p0)] [] h (fun r h1 => RR S (d + 1) 165 838 L (r.toList ++ st) h1 Q))) := RR.cv (j := 105) (mn' := 104) (n := 1) rfl rfl rfl rfl rfl rfl
set_option maxRecDepth 20000 in
theorem r165_838 {x : Int32} : RR S d 165 838 L (.int x :: st) h Q = RR S d 165 839 L st h Q := RR.pop rfl rfl rfl
set_option maxRecDepth 20000 in
theorem r165_839 : RR S d 165 839 L st h Q = kA (ai_look L 2) (fun x => RR S d 165 840 L (x :: st) h Q) := RR.lda_n rfl rfl rfl
set_option maxRecDepth 20000 in
theorem r165_840 : RR S d 165 840 L st h Q = kA (ai_look L 0) (fun x => RR S d 165 841 L (x :: st) h Q) := RR.lda_n rfl rfl rfl
set_option maxRecDepth 20000 in
theorem r165_841 : RR S d 165 841 L st h Q = kI (ai_look L 3) (fun x => RR S d 165 842 L (.int x :: st) h Q) := RR.ldi_n rfl rfl rfl
set_option maxRecDepth 20000 in
theorem r165_842 : RR S d 165 842 L st h Q = RR S d 165 843 L (.int 1 :: st) h Q := RR.icn (n := 1) rfl (by decide) rfl
set_option maxRecDepth 20000 in
theorem r165_843 {x y : Int32} : RR S d 165 843 L (.int y :: .int x :: st) h Q = RR S d 165 844 L (.int (x + y) :: st) h Q := RR.do1 (844, L, .int (x + y) :: st, h) rfl rfl rfl
set_option maxRecDepth 20000 in
theorem r165_844 {x : Int32} {a : Nat} : RR S d 165 844 L (.int x :: .ref a :: st) h Q = kO (ai_arr h a 0) (fun q => kB (ai_in x q.1) (RR S d 165 845 L (.int (q.2 x.toNatClampNeg) :: st) h Q)) := RR.ial rfl rfl
set_option maxRecDepth 20000 in
theorem r165_844x {x : Int32} {u : UInt32} : RR S d 165 844 L (.int x :: .float u :: st) h Q = kB (ai_in x (ai_ext S u).1) (RR S d 165 845 L (.int ((ai_ext S u).2 x.toNatClampNeg) :: st) h Q) := RR.iax rfl rfl
set_option maxRecDepth 20000 in
theorem r165_845 {p0 : Int32} {a : Nat} : RR S (d + 1) 165 845 L (.int p0 :: .ref a :: st) h Q = kB (decide (ai_sum st ≤ 8)) (kB ((ai_obj h a 10).isSome) (RR S d 160 0 [(0, .ref a), (1, .int p0)] [] h (fun r h1 => RR S (d + 1) 165 848 L (r.toList ++ st) h1 Q))) := RR.cv (j := 108) (mn' := 160) (n := 1) rfl rfl rfl rfl rfl rfl
set_option maxRecDepth 20000 in
theorem r165_848 {x : Int32} : RR S d 165 848 L (.int x :: st) h Q = RR S d 165 849 L st h Q := RR.pop rfl rfl rfl
set_option maxRecDepth 20000 in
theorem r165_849 : RR S d 165 849 L st h Q = RR S d 165 852 L st h Q := RR.jmp (off := 3) rfl (by decide)
set_option maxRecDepth 20000 in
theorem r165_852 : RR S d 165 852 L st h Q = kI (ai_look L 3) (fun x => RR S d 165 855 (ai_put 3 (.int (x + 6)) L) st h Q) := RR.iinc (k := 3) (n := 6) rfl (by decide) (by decide) rfl
set_option maxRecDepth 20000 in
theorem r165_855 : RR S d 165 855 L st h Q = RR S d 165 18 L st h Q := RR.jmp (off := (-837)) rfl (by decide)
set_option maxRecDepth 20000 in
theorem r165_858 : RR S d 165 858 L st h Q = RR S d 165 859 L (.int 1 :: st) h Q := RR.icn (n := 1) rfl (by decide) rfl
set_option maxRecDepth 20000 in
theorem r165_859f : RR S d 165 859 L [.int 0] h Q = Q (some (.int 0)) h := RR.zrt rfl rfl (by decide)
set_option maxRecDepth 20000 in
theorem r165_859t : RR S d 165 859 L [.int 1] h Q = Q (some (.int 1)) h := RR.zrt rfl rfl (by decide)
end Ru
