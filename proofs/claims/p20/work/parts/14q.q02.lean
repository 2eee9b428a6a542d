section Ru
variable {S : ai_S} {d : Nat} {L : ai_L} {st : List Value} {h : ai_H} {Q : Option Value → ai_H → Prop}
theorem q144_0 : RR S d 144 0 L st h Q = (iA (ai_look L 0) ∧ RR S d 144 1 L ((gA (ai_look L 0)) :: st) h Q) := r144_0.trans (kA_eq _ _)
theorem q144_1 : RR S d 144 1 L st h Q = (iI (ai_look L 1) ∧ RR S d 144 2 L (.int (gI (ai_look L 1)) :: st) h Q) := r144_1.trans (kI_eq _ _)
theorem q144_2 {p0 : Int32} {a : Nat} : RR S (d + 1) 144 2 L (.int p0 :: .ref a :: st) h Q = (ai_sum st ≤ 8 ∧ (ai_obj h a 10).isSome = true ∧ RR S d 114 0 [(0, .ref a), (1, .int p0)] [] h (kc S d 144 5 L st Q)) := r144_2.trans (kB_cv _ _ _)
theorem q144_8 : RR S d 144 8 L st h Q = (iI (ai_look L 2) ∧ RR S d 144 9 L (.int (gI (ai_look L 2)) :: st) h Q) := r144_8.trans (kI_eq _ _)
theorem q144_12 : RR S d 144 12 L st h Q = (iI (ai_look L 2) ∧ RR S d 144 13 L (.int (gI (ai_look L 2)) :: st) h Q) := r144_12.trans (kI_eq _ _)
theorem q144_13 : RR S d 144 13 L st h Q = (iA (ai_look L 0) ∧ RR S d 144 14 L ((gA (ai_look L 0)) :: st) h Q) := r144_13.trans (kA_eq _ _)
theorem q144_14 {a : Nat} : RR S d 144 14 L (.ref a :: st) h Q = ((ai_fld h a 10 8).isSome = true ∧ RR S d 144 17 L ((ai_fld h a 10 8).getD .null :: st) h Q) := r144_14.trans (kO_eq Value.null _ _)
theorem q144_23 : RR S d 144 23 L st h Q = (iA (ai_look L 0) ∧ RR S d 144 24 L ((gA (ai_look L 0)) :: st) h Q) := r144_23.trans (kA_eq _ _)
theorem q144_24 {a : Nat} : RR S d 144 24 L (.ref a :: st) h Q = ((ai_fld h a 10 21).isSome = true ∧ RR S d 144 27 L ((ai_fld h a 10 21).getD .null :: st) h Q) := r144_24.trans (kO_eq Value.null _ _)
theorem q144_29 : RR S d 144 29 L st h Q = (iI (ai_look L 1) ∧ RR S d 144 30 L (.int (gI (ai_look L 1)) :: st) h Q) := r144_29.trans (kI_eq _ _)
theorem q144_31 : RR S d 144 31 L st h Q = (iI (ai_look L 2) ∧ RR S d 144 32 L (.int (gI (ai_look L 2)) :: st) h Q) := r144_31.trans (kI_eq _ _)
theorem q144_33 {x : Int32} {a : Nat} : RR S d 144 33 L (.int x :: .ref a :: st) h Q = ((ai_arr h a 0).isSome = true ∧ ¬ (x < 0 ∨ ((ai_arr h a 0).getD (0, fun _ => 0)).1 ≤ x.toNatClampNeg) ∧ RR S d 144 34 L (.int (((ai_arr h a 0).getD (0, fun _ => 0)).2 x.toNatClampNeg) :: st) h Q) := r144_33.trans (kO_in (0, fun _ => 0) _ (fun q => q.1) _ _)
theorem q145_0 : RR S d 145 0 L st h Q = (iI (ai_look L 1) ∧ RR S d 145 1 L (.int (gI (ai_look L 1)) :: st) h Q) := r145_0.trans (kI_eq _ _)
theorem q145_1 : RR S d 145 1 L st h Q = (iA (ai_look L 0) ∧ RR S d 145 2 L ((gA (ai_look L 0)) :: st) h Q) := r145_1.trans (kA_eq _ _)
theorem q145_2 {a : Nat} : RR S d 145 2 L (.ref a :: st) h Q = ((ai_fld h a 10 8).isSome = true ∧ RR S d 145 5 L ((ai_fld h a 10 8).getD .null :: st) h Q) := r145_2.trans (kO_eq Value.null _ _)
theorem q145_5 {x y : Int32} : RR S d 145 5 L (.int y :: .int x :: st) h Q = (¬ y = 0 ∧ RR S d 145 6 L (.int (x - x / y * y) :: st) h Q) := r145_5.trans (kB_dec _ _)
theorem q145_7 : RR S d 145 7 L st h Q = (iI (ai_look L 2) ∧ RR S d 145 8 L (.int (gI (ai_look L 2)) :: st) h Q) := r145_7.trans (kI_eq _ _)
theorem q145_11 : RR S d 145 11 L st h Q = (iI (ai_look L 2) ∧ RR S d 145 12 L (.int (gI (ai_look L 2)) :: st) h Q) := r145_11.trans (kI_eq _ _)
theorem q145_12 : RR S d 145 12 L st h Q = (iA (ai_look L 0) ∧ RR S d 145 13 L ((gA (ai_look L 0)) :: st) h Q) := r145_12.trans (kA_eq _ _)
theorem q145_13 {a : Nat} : RR S d 145 13 L (.ref a :: st) h Q = ((ai_fld h a 10 8).isSome = true ∧ RR S d 145 16 L ((ai_fld h a 10 8).getD .null :: st) h Q) := r145_13.trans (kO_eq Value.null _ _)
theorem q145_20 : RR S d 145 20 L st h Q = (iI (ai_look L 2) ∧ RR S d 145 21 L (.int (gI (ai_look L 2)) :: st) h Q) := r145_20.trans (kI_eq _ _)
theorem q146_3 : RR S d 146 3 L st h Q = (iI (ai_look L 4) ∧ RR S d 146 5 L (.int (gI (ai_look L 4)) :: st) h Q) := r146_3.trans (kI_eq _ _)
theorem q146_5 : RR S d 146 5 L st h Q = (iI (ai_look L 3) ∧ RR S d 146 6 L (.int (gI (ai_look L 3)) :: st) h Q) := r146_5.trans (kI_eq _ _)
theorem q146_9 : RR S d 146 9 L st h Q = (iI (ai_look L 4) ∧ RR S d 146 11 L (.int (gI (ai_look L 4)) :: st) h Q) := r146_9.trans (kI_eq _ _)
theorem q146_11 : RR S d 146 11 L st h Q = (iA (ai_look L 0) ∧ RR S d 146 12 L ((gA (ai_look L 0)) :: st) h Q) := r146_11.trans (kA_eq _ _)
theorem q146_12 {a : Nat} : RR S d 146 12 L (.ref a :: st) h Q = ((ai_fld h a 10 8).isSome = true ∧ RR S d 146 15 L ((ai_fld h a 10 8).getD .null :: st) h Q) := r146_12.trans (kO_eq Value.null _ _)
theorem q146_18 : RR S d 146 18 L st h Q = (iA (ai_look L 0) ∧ RR S d 146 19 L ((gA (ai_look L 0)) :: st) h Q) := r146_18.trans (kA_eq _ _)
theorem q146_19 {a : Nat} : RR S d 146 19 L (.ref a :: st) h Q = ((ai_fld h a 10 21).isSome = true ∧ RR S d 146 22 L ((ai_fld h a 10 21).getD .null :: st) h Q) := r146_19.trans (kO_eq Value.null _ _)
theorem q146_24 : RR S d 146 24 L st h Q = (iI (ai_look L 1) ∧ RR S d 146 25 L (.int (gI (ai_look L 1)) :: st) h Q) := r146_24.trans (kI_eq _ _)
theorem q146_26 : RR S d 146 26 L st h Q = (iA (ai_look L 0) ∧ RR S d 146 27 L ((gA (ai_look L 0)) :: st) h Q) := r146_26.trans (kA_eq _ _)
theorem q146_27 : RR S d 146 27 L st h Q = (iI (ai_look L 2) ∧ RR S d 146 28 L (.int (gI (ai_look L 2)) :: st) h Q) := r146_27.trans (kI_eq _ _)
theorem q146_28 : RR S d 146 28 L st h Q = (iI (ai_look L 4) ∧ RR S d 146 30 L (.int (gI (ai_look L 4)) :: st) h Q) := r146_28.trans (kI_eq _ _)
theorem q146_31 {p0 : Int32} {a : Nat} : RR S (d + 1) 146 31 L (.int p0 :: .ref a :: st) h Q = (ai_sum st ≤ 8 ∧ (ai_obj h a 10).isSome = true ∧ RR S d 145 0 [(0, .ref a), (1, .int p0)] [] h (kc S d 146 34 L st Q)) := r146_31.trans (kB_cv _ _ _)
theorem q146_35 {x : Int32} {a : Nat} : RR S d 146 35 L (.int x :: .ref a :: st) h Q = ((ai_arr h a 0).isSome = true ∧ ¬ (x < 0 ∨ ((ai_arr h a 0).getD (0, fun _ => 0)).1 ≤ x.toNatClampNeg) ∧ RR S d 146 36 L (.int (((ai_arr h a 0).getD (0, fun _ => 0)).2 x.toNatClampNeg) :: st) h Q) := r146_35.trans (kO_in (0, fun _ => 0) _ (fun q => q.1) _ _)
theorem q146_41 : RR S d 146 41 L st h Q = (iI (ai_look L 4) ∧ RR S d 146 44 (ai_put 4 (.int ((gI (ai_look L 4)) + 1)) L) st h Q) := r146_41.trans (kI_eq _ _)
theorem q147_0 : RR S d 147 0 L st h Q = (iA (ai_look L 0) ∧ RR S d 147 1 L ((gA (ai_look L 0)) :: st) h Q) := r147_0.trans (kA_eq _ _)
theorem q147_1 : RR S d 147 1 L st h Q = (iI (ai_look L 1) ∧ RR S d 147 2 L (.int (gI (ai_look L 1)) :: st) h Q) := r147_1.trans (kI_eq _ _)
theorem q147_2 {p0 : Int32} {a : Nat} : RR S (d + 1) 147 2 L (.int p0 :: .ref a :: st) h Q = (ai_sum st ≤ 8 ∧ (ai_obj h a 10).isSome = true ∧ RR S d 114 0 [(0, .ref a), (1, .int p0)] [] h (kc S d 147 5 L st Q)) := r147_2.trans (kB_cv _ _ _)
theorem q147_8 : RR S d 147 8 L st h Q = (iI (ai_look L 2) ∧ RR S d 147 9 L (.int (gI (ai_look L 2)) :: st) h Q) := r147_8.trans (kI_eq _ _)
theorem q147_12 : RR S d 147 12 L st h Q = (iI (ai_look L 2) ∧ RR S d 147 13 L (.int (gI (ai_look L 2)) :: st) h Q) := r147_12.trans (kI_eq _ _)
theorem q147_13 : RR S d 147 13 L st h Q = (iA (ai_look L 0) ∧ RR S d 147 14 L ((gA (ai_look L 0)) :: st) h Q) := r147_13.trans (kA_eq _ _)
theorem q147_14 {a : Nat} : RR S d 147 14 L (.ref a :: st) h Q = ((ai_fld h a 10 8).isSome = true ∧ RR S d 147 17 L ((ai_fld h a 10 8).getD .null :: st) h Q) := r147_14.trans (kO_eq Value.null _ _)
theorem q147_20 : RR S d 147 20 L st h Q = (iI (ai_look L 3) ∧ RR S d 147 21 L (.int (gI (ai_look L 3)) :: st) h Q) := r147_20.trans (kI_eq _ _)
theorem q147_21 {p0 : Int32} : RR S (d + 1) 147 21 L (.int p0 :: st) h Q = (ai_sum st ≤ 8 ∧ RR S d 124 0 [(0, .int p0)] [] h (kc S d 147 24 L st Q)) := r147_21.trans (kB_dec _ _)
theorem q147_33 : RR S d 147 33 L st h Q = (iI (ai_look L 4) ∧ RR S d 147 35 L (.int (gI (ai_look L 4)) :: st) h Q) := r147_33.trans (kI_eq _ _)
theorem q147_35 : RR S d 147 35 L st h Q = (iA (ai_look L 0) ∧ RR S d 147 36 L ((gA (ai_look L 0)) :: st) h Q) := r147_35.trans (kA_eq _ _)
theorem q147_36 {a : Nat} : RR S d 147 36 L (.ref a :: st) h Q = ((ai_fld h a 10 8).isSome = true ∧ RR S d 147 39 L ((ai_fld h a 10 8).getD .null :: st) h Q) := r147_36.trans (kO_eq Value.null _ _)
theorem q147_42 : RR S d 147 42 L st h Q = (iA (ai_look L 0) ∧ RR S d 147 43 L ((gA (ai_look L 0)) :: st) h Q) := r147_42.trans (kA_eq _ _)
theorem q147_43 : RR S d 147 43 L st h Q = (iI (ai_look L 1) ∧ RR S d 147 44 L (.int (gI (ai_look L 1)) :: st) h Q) := r147_43.trans (kI_eq _ _)
theorem q147_44 : RR S d 147 44 L st h Q = (iI (ai_look L 2) ∧ RR S d 147 45 L (.int (gI (ai_look L 2)) :: st) h Q) := r147_44.trans (kI_eq _ _)
theorem q147_45 : RR S d 147 45 L st h Q = (iI (ai_look L 4) ∧ RR S d 147 47 L (.int (gI (ai_look L 4)) :: st) h Q) := r147_45.trans (kI_eq _ _)
theorem q147_48 : RR S d 147 48 L st h Q = (iI (ai_look L 3) ∧ RR S d 147 49 L (.int (gI (ai_look L 3)) :: st) h Q) := r147_48.trans (kI_eq _ _)
theorem q147_49 : RR S d 147 49 L st h Q = (iA (ai_look L 0) ∧ RR S d 147 50 L ((gA (ai_look L 0)) :: st) h Q) := r147_49.trans (kA_eq _ _)
theorem q147_50 {a : Nat} : RR S d 147 50 L (.ref a :: st) h Q = ((ai_fld h a 10 7).isSome = true ∧ RR S d 147 53 L ((ai_fld h a 10 7).getD .null :: st) h Q) := r147_50.trans (kO_eq Value.null _ _)
theorem q147_53 : RR S d 147 53 L st h Q = (iI (ai_look L 1) ∧ RR S d 147 54 L (.int (gI (ai_look L 1)) :: st) h Q) := r147_53.trans (kI_eq _ _)
theorem q147_54 {x : Int32} {a : Nat} : RR S d 147 54 L (.int x :: .ref a :: st) h Q = ((ai_arr h a 0).isSome = true ∧ ¬ (x < 0 ∨ ((ai_arr h a 0).getD (0, fun _ => 0)).1 ≤ x.toNatClampNeg) ∧ RR S d 147 55 L (.int (((ai_arr h a 0).getD (0, fun _ => 0)).2 x.toNatClampNeg) :: st) h Q) := r147_54.trans (kO_in (0, fun _ => 0) _ (fun q => q.1) _ _)
theorem q147_56 {p0 : Int32} {p1 : Int32} {p2 : Int32} {a : Nat} : RR S (d + 1) 147 56 L (.int p2 :: .int p1 :: .int p0 :: .ref a :: st) h Q = (ai_sum st ≤ 8 ∧ (ai_obj h a 10).isSome = true ∧ RR S d 146 0 [(0, .ref a), (1, .int p0), (2, .int p1), (3, .int p2)] [] h (kc S d 147 59 L st Q)) := r147_56.trans (kB_cv _ _ _)
theorem q147_62 : RR S d 147 62 L st h Q = (iI (ai_look L 4) ∧ RR S d 147 64 L (.int (gI (ai_look L 4)) :: st) h Q) := r147_62.trans (kI_eq _ _)
theorem q147_65 : RR S d 147 65 L st h Q = (iI (ai_look L 4) ∧ RR S d 147 68 (ai_put 4 (.int ((gI (ai_look L 4)) + 1)) L) st h Q) := r147_65.trans (kI_eq _ _)
theorem q148_0 : RR S d 148 0 L st h Q = (iA (ai_look L 0) ∧ RR S d 148 1 L ((gA (ai_look L 0)) :: st) h Q) := r148_0.trans (kA_eq _ _)
theorem q148_1 : RR S d 148 1 L st h Q = (iI (ai_look L 1) ∧ RR S d 148 2 L (.int (gI (ai_look L 1)) :: st) h Q) := r148_1.trans (kI_eq _ _)
theorem q148_2 {p0 : Int32} {a : Nat} : RR S (d + 1) 148 2 L (.int p0 :: .ref a :: st) h Q = (ai_sum st ≤ 8 ∧ (ai_obj h a 10).isSome = true ∧ RR S d 114 0 [(0, .ref a), (1, .int p0)] [] h (kc S d 148 5 L st Q)) := r148_2.trans (kB_cv _ _ _)
theorem q148_8 : RR S d 148 8 L st h Q = (iI (ai_look L 2) ∧ RR S d 148 9 L (.int (gI (ai_look L 2)) :: st) h Q) := r148_8.trans (kI_eq _ _)
theorem q148_9 {p0 : Int32} : RR S (d + 1) 148 9 L (.int p0 :: st) h Q = (ai_sum st ≤ 8 ∧ RR S d 124 0 [(0, .int p0)] [] h (kc S d 148 12 L st Q)) := r148_9.trans (kB_dec _ _)
theorem q148_23 : RR S d 148 23 L st h Q = (iI (ai_look L 4) ∧ RR S d 148 25 L (.int (gI (ai_look L 4)) :: st) h Q) := r148_23.trans (kI_eq _ _)
theorem q148_25 : RR S d 148 25 L st h Q = (iA (ai_look L 0) ∧ RR S d 148 26 L ((gA (ai_look L 0)) :: st) h Q) := r148_25.trans (kA_eq _ _)
theorem q148_26 {a : Nat} : RR S d 148 26 L (.ref a :: st) h Q = ((ai_fld h a 10 8).isSome = true ∧ RR S d 148 29 L ((ai_fld h a 10 8).getD .null :: st) h Q) := r148_26.trans (kO_eq Value.null _ _)
theorem q148_32 : RR S d 148 32 L st h Q = (iI (ai_look L 3) ∧ RR S d 148 33 L (.int (gI (ai_look L 3)) :: st) h Q) := r148_32.trans (kI_eq _ _)
theorem q148_36 : RR S d 148 36 L st h Q = (iA (ai_look L 0) ∧ RR S d 148 37 L ((gA (ai_look L 0)) :: st) h Q) := r148_36.trans (kA_eq _ _)
theorem q148_37 : RR S d 148 37 L st h Q = (iI (ai_look L 1) ∧ RR S d 148 38 L (.int (gI (ai_look L 1)) :: st) h Q) := r148_37.trans (kI_eq _ _)
theorem q148_38 : RR S d 148 38 L st h Q = (iI (ai_look L 4) ∧ RR S d 148 40 L (.int (gI (ai_look L 4)) :: st) h Q) := r148_38.trans (kI_eq _ _)
theorem q148_40 : RR S d 148 40 L st h Q = (iI (ai_look L 2) ∧ RR S d 148 41 L (.int (gI (ai_look L 2)) :: st) h Q) := r148_40.trans (kI_eq _ _)
theorem q148_41 {p0 : Int32} {p1 : Int32} {p2 : Int32} {a : Nat} : RR S (d + 1) 148 41 L (.int p2 :: .int p1 :: .int p0 :: .ref a :: st) h Q = (ai_sum st ≤ 8 ∧ (ai_obj h a 10).isSome = true ∧ RR S d 147 0 [(0, .ref a), (1, .int p0), (2, .int p1), (3, .int p2)] [] h (kc S d 148 44 L st Q)) := r148_41.trans (kB_cv _ _ _)
theorem q148_46 : RR S d 148 46 L st h Q = (iI (ai_look L 5) ∧ RR S d 148 48 L (.int (gI (ai_look L 5)) :: st) h Q) := r148_46.trans (kI_eq _ _)
theorem q148_55 : RR S d 148 55 L st h Q = (iI (ai_look L 5) ∧ RR S d 148 57 L (.int (gI (ai_look L 5)) :: st) h Q) := r148_55.trans (kI_eq _ _)
theorem q148_57 : RR S d 148 57 L st h Q = (iI (ai_look L 3) ∧ RR S d 148 58 L (.int (gI (ai_look L 3)) :: st) h Q) := r148_57.trans (kI_eq _ _)
theorem q148_61 : RR S d 148 61 L st h Q = (iI (ai_look L 5) ∧ RR S d 148 63 L (.int (gI (ai_look L 5)) :: st) h Q) := r148_61.trans (kI_eq _ _)
theorem q148_66 : RR S d 148 66 L st h Q = (iI (ai_look L 3) ∧ RR S d 148 67 L (.int (gI (ai_look L 3)) :: st) h Q) := r148_66.trans (kI_eq _ _)
theorem q148_68 : RR S d 148 68 L st h Q = (iI (ai_look L 4) ∧ RR S d 148 71 (ai_put 4 (.int ((gI (ai_look L 4)) + 1)) L) st h Q) := r148_68.trans (kI_eq _ _)
theorem q148_74 : RR S d 148 74 L st h Q = (iI (ai_look L 3) ∧ RR S d 148 75 L (.int (gI (ai_look L 3)) :: st) h Q) := r148_74.trans (kI_eq _ _)
theorem q149_0 : RR S d 149 0 L st h Q = (iA (ai_look L 0) ∧ RR S d 149 1 L ((gA (ai_look L 0)) :: st) h Q) := r149_0.trans (kA_eq _ _)
theorem q149_1 : RR S d 149 1 L st h Q = (iI (ai_look L 1) ∧ RR S d 149 2 L (.int (gI (ai_look L 1)) :: st) h Q) := r149_1.trans (kI_eq _ _)
theorem q149_2 {p0 : Int32} {a : Nat} : RR S (d + 1) 149 2 L (.int p0 :: .ref a :: st) h Q = (ai_sum st ≤ 8 ∧ (ai_obj h a 10).isSome = true ∧ RR S d 113 0 [(0, .ref a), (1, .int p0)] [] h (kc S d 149 5 L st Q)) := r149_2.trans (kB_cv _ _ _)
theorem q149_8 : RR S d 149 8 L st h Q = (iI (ai_look L 2) ∧ RR S d 149 9 L (.int (gI (ai_look L 2)) :: st) h Q) := r149_8.trans (kI_eq _ _)
theorem q149_9 : RR S d 149 9 L st h Q = (iA (ai_look L 0) ∧ RR S d 149 10 L ((gA (ai_look L 0)) :: st) h Q) := r149_9.trans (kA_eq _ _)
theorem q149_10 {a : Nat} : RR S d 149 10 L (.ref a :: st) h Q = ((ai_fld h a 10 9).isSome = true ∧ RR S d 149 13 L ((ai_fld h a 10 9).getD .null :: st) h Q) := r149_10.trans (kO_eq Value.null _ _)
theorem q149_17 : RR S d 149 17 L st h Q = (iI (ai_look L 2) ∧ RR S d 149 18 L (.int (gI (ai_look L 2)) :: st) h Q) := r149_17.trans (kI_eq _ _)
theorem q149_18 : RR S d 149 18 L st h Q = (iA (ai_look L 0) ∧ RR S d 149 19 L ((gA (ai_look L 0)) :: st) h Q) := r149_18.trans (kA_eq _ _)
theorem q149_19 {a : Nat} : RR S d 149 19 L (.ref a :: st) h Q = ((ai_fld h a 10 9).isSome = true ∧ RR S d 149 22 L ((ai_fld h a 10 9).getD .null :: st) h Q) := r149_19.trans (kO_eq Value.null _ _)
theorem q149_27 : RR S d 149 27 L st h Q = (iA (ai_look L 0) ∧ RR S d 149 28 L ((gA (ai_look L 0)) :: st) h Q) := r149_27.trans (kA_eq _ _)
theorem q149_28 {a : Nat} : RR S d 149 28 L (.ref a :: st) h Q = ((ai_fld h a 10 2).isSome = true ∧ RR S d 149 31 L ((ai_fld h a 10 2).getD .null :: st) h Q) := r149_28.trans (kO_eq Value.null _ _)
theorem q149_31 : RR S d 149 31 L st h Q = (iI (ai_look L 1) ∧ RR S d 149 32 L (.int (gI (ai_look L 1)) :: st) h Q) := r149_31.trans (kI_eq _ _)
theorem q149_32 : RR S d 149 32 L st h Q = (iI (ai_look L 2) ∧ RR S d 149 33 L (.int (gI (ai_look L 2)) :: st) h Q) := r149_32.trans (kI_eq _ _)
theorem q149_33 {x y : Int32} {a : Nat} : RR S d 149 33 L (.int y :: .int x :: .ref a :: st) h Q = ((ai_arr h a 0).isSome = true ∧ ¬ (x < 0 ∨ ((ai_arr h a 0).getD (0, fun _ => 0)).1 ≤ x.toNatClampNeg) ∧ RR S d 149 34 L st (h.1.set a (.inl (0, ((ai_arr h a 0).getD (0, fun _ => 0)).1, .inl (upd ((ai_arr h a 0).getD (0, fun _ => 0)).2 x.toNatClampNeg y))), h.2) Q) := r149_33.trans (kO_in (0, fun _ => 0) _ (fun q => q.1) _ _)
theorem q149_34 : RR S d 149 34 L st h Q = (iA (ai_look L 0) ∧ RR S d 149 35 L ((gA (ai_look L 0)) :: st) h Q) := r149_34.trans (kA_eq _ _)
theorem q149_36t {a : Nat} : RR S d 149 36 L (.int 1 :: .ref a :: st) h Q = ((ai_obj h a 10).isSome = true ∧ 35 < ((ai_obj h a 10).getD []).length ∧ RR S d 149 39 L st (h.1.set a (.inr (10, ((ai_obj h a 10).getD []).set 35 (.int 1))), h.2) Q) := r149_36t.trans (kO_dec [] _ (fun fs => 35 < fs.length) _)
theorem q149_36f {a : Nat} : RR S d 149 36 L (.int 0 :: .ref a :: st) h Q = ((ai_obj h a 10).isSome = true ∧ 35 < ((ai_obj h a 10).getD []).length ∧ RR S d 149 39 L st (h.1.set a (.inr (10, ((ai_obj h a 10).getD []).set 35 (.int 0))), h.2) Q) := r149_36f.trans (kO_dec [] _ (fun fs => 35 < fs.length) _)
theorem q150_0 : RR S d 150 0 L st h Q = (iA (ai_look L 0) ∧ RR S d 150 1 L ((gA (ai_look L 0)) :: st) h Q) := r150_0.trans (kA_eq _ _)
theorem q150_1 {a : Nat} : RR S d 150 1 L (.ref a :: st) h Q = ((ai_fld h a 10 22).isSome = true ∧ RR S d 150 4 L ((ai_fld h a 10 22).getD .null :: st) h Q) := r150_1.trans (kO_eq Value.null _ _)
theorem q150_9 : RR S d 150 9 L st h Q = (iI (ai_look L 1) ∧ RR S d 150 10 L (.int (gI (ai_look L 1)) :: st) h Q) := r150_9.trans (kI_eq _ _)
theorem q150_13 : RR S d 150 13 L st h Q = (iI (ai_look L 1) ∧ RR S d 150 14 L (.int (gI (ai_look L 1)) :: st) h Q) := r150_13.trans (kI_eq _ _)
theorem q150_20 : RR S d 150 20 L st h Q = (iA (ai_look L 0) ∧ RR S d 150 21 L ((gA (ai_look L 0)) :: st) h Q) := r150_20.trans (kA_eq _ _)
theorem q150_21 : RR S d 150 21 L st h Q = (iI (ai_look L 2) ∧ RR S d 150 22 L (.int (gI (ai_look L 2)) :: st) h Q) := r150_21.trans (kI_eq _ _)
theorem q150_22 {p0 : Int32} {a : Nat} : RR S (d + 1) 150 22 L (.int p0 :: .ref a :: st) h Q = (ai_sum st ≤ 8 ∧ (ai_obj h a 10).isSome = true ∧ RR S d 113 0 [(0, .ref a), (1, .int p0)] [] h (kc S d 150 25 L st Q)) := r150_22.trans (kB_cv _ _ _)
theorem q150_28 : RR S d 150 28 L st h Q = (iA (ai_look L 0) ∧ RR S d 150 29 L ((gA (ai_look L 0)) :: st) h Q) := r150_28.trans (kA_eq _ _)
theorem q150_29 : RR S d 150 29 L st h Q = (iI (ai_look L 3) ∧ RR S d 150 30 L (.int (gI (ai_look L 3)) :: st) h Q) := r150_29.trans (kI_eq _ _)
theorem q150_30 {p0 : Int32} {a : Nat} : RR S (d + 1) 150 30 L (.int p0 :: .ref a :: st) h Q = (ai_sum st ≤ 8 ∧ (ai_obj h a 10).isSome = true ∧ RR S d 113 0 [(0, .ref a), (1, .int p0)] [] h (kc S d 150 33 L st Q)) := r150_30.trans (kB_cv _ _ _)
theorem q150_36 : RR S d 150 36 L st h Q = (iI (ai_look L 2) ∧ RR S d 150 37 L (.int (gI (ai_look L 2)) :: st) h Q) := r150_36.trans (kI_eq _ _)
theorem q150_37 : RR S d 150 37 L st h Q = (iI (ai_look L 3) ∧ RR S d 150 38 L (.int (gI (ai_look L 3)) :: st) h Q) := r150_37.trans (kI_eq _ _)
theorem q150_41 : RR S d 150 41 L st h Q = (iI (ai_look L 4) ∧ RR S d 150 43 L (.int (gI (ai_look L 4)) :: st) h Q) := r150_41.trans (kI_eq _ _)
theorem q150_43 {p0 : Int32} : RR S (d + 1) 150 43 L (.int p0 :: st) h Q = (ai_sum st ≤ 8 ∧ RR S d 124 0 [(0, .int p0)] [] h (kc S d 150 46 L st Q)) := r150_43.trans (kB_dec _ _)
theorem q150_51 : RR S d 150 51 L st h Q = (iA (ai_look L 0) ∧ RR S d 150 52 L ((gA (ai_look L 0)) :: st) h Q) := r150_51.trans (kA_eq _ _)
theorem q150_52 : RR S d 150 52 L st h Q = (iI (ai_look L 2) ∧ RR S d 150 53 L (.int (gI (ai_look L 2)) :: st) h Q) := r150_52.trans (kI_eq _ _)
theorem q150_53 : RR S d 150 53 L st h Q = (iI (ai_look L 3) ∧ RR S d 150 54 L (.int (gI (ai_look L 3)) :: st) h Q) := r150_53.trans (kI_eq _ _)
theorem q150_54 : RR S d 150 54 L st h Q = (iI (ai_look L 4) ∧ RR S d 150 56 L (.int (gI (ai_look L 4)) :: st) h Q) := r150_54.trans (kI_eq _ _)
theorem q150_56 {p0 : Int32} {p1 : Int32} {p2 : Int32} {a : Nat} : RR S (d + 1) 150 56 L (.int p2 :: .int p1 :: .int p0 :: .ref a :: st) h Q = (ai_sum st ≤ 8 ∧ (ai_obj h a 10).isSome = true ∧ RR S d 121 0 [(0, .ref a), (1, .int p0), (2, .int p1), (3, .int p2)] [] h (kc S d 150 59 L st Q)) := r150_56.trans (kB_cv _ _ _)
theorem q150_59 : RR S d 150 59 L st h Q = (iA (ai_look L 0) ∧ RR S d 150 60 L ((gA (ai_look L 0)) :: st) h Q) := r150_59.trans (kA_eq _ _)
theorem q150_60 {a : Nat} : RR S d 150 60 L (.ref a :: st) h Q = ((ai_fld h a 10 27).isSome = true ∧ RR S d 150 63 L ((ai_fld h a 10 27).getD .null :: st) h Q) := r150_60.trans (kO_eq Value.null _ _)
theorem q150_69 : RR S d 150 69 L st h Q = (iA (ai_look L 0) ∧ RR S d 150 70 L ((gA (ai_look L 0)) :: st) h Q) := r150_69.trans (kA_eq _ _)
theorem q150_70 {a : Nat} : RR S d 150 70 L (.ref a :: st) h Q = ((ai_fld h a 10 23).isSome = true ∧ RR S d 150 73 L ((ai_fld h a 10 23).getD .null :: st) h Q) := r150_70.trans (kO_eq Value.null _ _)
theorem q150_73 : RR S d 150 73 L st h Q = (iA (ai_look L 0) ∧ RR S d 150 74 L ((gA (ai_look L 0)) :: st) h Q) := r150_73.trans (kA_eq _ _)
theorem q150_74 {a : Nat} : RR S d 150 74 L (.ref a :: st) h Q = ((ai_fld h a 10 22).isSome = true ∧ RR S d 150 77 L ((ai_fld h a 10 22).getD .null :: st) h Q) := r150_74.trans (kO_eq Value.null _ _)
theorem q150_77 : RR S d 150 77 L st h Q = (iI (ai_look L 1) ∧ RR S d 150 78 L (.int (gI (ai_look L 1)) :: st) h Q) := r150_77.trans (kI_eq _ _)
theorem q150_78 {x y : Int32} {a : Nat} : RR S d 150 78 L (.int y :: .int x :: .ref a :: st) h Q = ((ai_arr h a 0).isSome = true ∧ ¬ (x < 0 ∨ ((ai_arr h a 0).getD (0, fun _ => 0)).1 ≤ x.toNatClampNeg) ∧ RR S d 150 79 L st (h.1.set a (.inl (0, ((ai_arr h a 0).getD (0, fun _ => 0)).1, .inl (upd ((ai_arr h a 0).getD (0, fun _ => 0)).2 x.toNatClampNeg y))), h.2) Q) := r150_78.trans (kO_in (0, fun _ => 0) _ (fun q => q.1) _ _)
theorem q150_79 : RR S d 150 79 L st h Q = (iA (ai_look L 0) ∧ RR S d 150 80 L ((gA (ai_look L 0)) :: st) h Q) := r150_79.trans (kA_eq _ _)
theorem q150_80 {a : Nat} : RR S d 150 80 L (.ref a :: st) h Q = ((ai_fld h a 10 24).isSome = true ∧ RR S d 150 83 L ((ai_fld h a 10 24).getD .null :: st) h Q) := r150_80.trans (kO_eq Value.null _ _)
theorem q150_83 : RR S d 150 83 L st h Q = (iA (ai_look L 0) ∧ RR S d 150 84 L ((gA (ai_look L 0)) :: st) h Q) := r150_83.trans (kA_eq _ _)
theorem q150_84 {a : Nat} : RR S d 150 84 L (.ref a :: st) h Q = ((ai_fld h a 10 22).isSome = true ∧ RR S d 150 87 L ((ai_fld h a 10 22).getD .null :: st) h Q) := r150_84.trans (kO_eq Value.null _ _)
theorem q150_87 : RR S d 150 87 L st h Q = (iI (ai_look L 4) ∧ RR S d 150 89 L (.int (gI (ai_look L 4)) :: st) h Q) := r150_87.trans (kI_eq _ _)
theorem q150_89 {x y : Int32} {a : Nat} : RR S d 150 89 L (.int y :: .int x :: .ref a :: st) h Q = ((ai_arr h a 0).isSome = true ∧ ¬ (x < 0 ∨ ((ai_arr h a 0).getD (0, fun _ => 0)).1 ≤ x.toNatClampNeg) ∧ RR S d 150 90 L st (h.1.set a (.inl (0, ((ai_arr h a 0).getD (0, fun _ => 0)).1, .inl (upd ((ai_arr h a 0).getD (0, fun _ => 0)).2 x.toNatClampNeg y))), h.2) Q) := r150_89.trans (kO_in (0, fun _ => 0) _ (fun q => q.1) _ _)
theorem q150_90 : RR S d 150 90 L st h Q = (iA (ai_look L 0) ∧ RR S d 150 91 L ((gA (ai_look L 0)) :: st) h Q) := r150_90.trans (kA_eq _ _)
theorem q150_91 {a : Nat} : RR S d 150 91 L (.ref a :: st) h Q = ((ai_fld h a 10 25).isSome = true ∧ RR S d 150 94 L ((ai_fld h a 10 25).getD .null :: st) h Q) := r150_91.trans (kO_eq Value.null _ _)
theorem q150_94 : RR S d 150 94 L st h Q = (iA (ai_look L 0) ∧ RR S d 150 95 L ((gA (ai_look L 0)) :: st) h Q) := r150_94.trans (kA_eq _ _)
theorem q150_95 {a : Nat} : RR S d 150 95 L (.ref a :: st) h Q = ((ai_fld h a 10 22).isSome = true ∧ RR S d 150 98 L ((ai_fld h a 10 22).getD .null :: st) h Q) := r150_95.trans (kO_eq Value.null _ _)
theorem q150_98 : RR S d 150 98 L st h Q = (iA (ai_look L 0) ∧ RR S d 150 99 L ((gA (ai_look L 0)) :: st) h Q) := r150_98.trans (kA_eq _ _)
theorem q150_99 {a : Nat} : RR S d 150 99 L (.ref a :: st) h Q = ((ai_fld h a 10 28).isSome = true ∧ RR S d 150 102 L ((ai_fld h a 10 28).getD .null :: st) h Q) := r150_99.trans (kO_eq Value.null _ _)
theorem q150_103 {x : Int32} {a : Nat} : RR S d 150 103 L (.int x :: .ref a :: st) h Q = ((ai_arr h a 0).isSome = true ∧ ¬ (x < 0 ∨ ((ai_arr h a 0).getD (0, fun _ => 0)).1 ≤ x.toNatClampNeg) ∧ RR S d 150 104 L (.int (((ai_arr h a 0).getD (0, fun _ => 0)).2 x.toNatClampNeg) :: st) h Q) := r150_103.trans (kO_in (0, fun _ => 0) _ (fun q => q.1) _ _)
theorem q150_104 {x y : Int32} {a : Nat} : RR S d 150 104 L (.int y :: .int x :: .ref a :: st) h Q = ((ai_arr h a 0).isSome = true ∧ ¬ (x < 0 ∨ ((ai_arr h a 0).getD (0, fun _ => 0)).1 ≤ x.toNatClampNeg) ∧ RR S d 150 105 L st (h.1.set a (.inl (0, ((ai_arr h a 0).getD (0, fun _ => 0)).1, .inl (upd ((ai_arr h a 0).getD (0, fun _ => 0)).2 x.toNatClampNeg y))), h.2) Q) := r150_104.trans (kO_in (0, fun _ => 0) _ (fun q => q.1) _ _)
theorem q150_108 : RR S d 150 108 L st h Q = (iI (ai_look L 5) ∧ RR S d 150 110 L (.int (gI (ai_look L 5)) :: st) h Q) := r150_108.trans (kI_eq _ _)
theorem q150_110 : RR S d 150 110 L st h Q = (iA (ai_look L 0) ∧ RR S d 150 111 L ((gA (ai_look L 0)) :: st) h Q) := r150_110.trans (kA_eq _ _)
theorem q150_111 {a : Nat} : RR S d 150 111 L (.ref a :: st) h Q = ((ai_fld h a 10 28).isSome = true ∧ RR S d 150 114 L ((ai_fld h a 10 28).getD .null :: st) h Q) := r150_111.trans (kO_eq Value.null _ _)
theorem q150_115 {x : Int32} {a : Nat} : RR S d 150 115 L (.int x :: .ref a :: st) h Q = ((ai_arr h a 0).isSome = true ∧ ¬ (x < 0 ∨ ((ai_arr h a 0).getD (0, fun _ => 0)).1 ≤ x.toNatClampNeg) ∧ RR S d 150 116 L (.int (((ai_arr h a 0).getD (0, fun _ => 0)).2 x.toNatClampNeg) :: st) h Q) := r150_115.trans (kO_in (0, fun _ => 0) _ (fun q => q.1) _ _)
theorem q150_119 : RR S d 150 119 L st h Q = (iA (ai_look L 0) ∧ RR S d 150 120 L ((gA (ai_look L 0)) :: st) h Q) := r150_119.trans (kA_eq _ _)
theorem q150_120 {a : Nat} : RR S d 150 120 L (.ref a :: st) h Q = ((ai_fld h a 10 26).isSome = true ∧ RR S d 150 123 L ((ai_fld h a 10 26).getD .null :: st) h Q) := r150_120.trans (kO_eq Value.null _ _)
theorem q150_124 : RR S d 150 124 L st h Q = (iA (ai_look L 0) ∧ RR S d 150 125 L ((gA (ai_look L 0)) :: st) h Q) := r150_124.trans (kA_eq _ _)
theorem q150_125 {a : Nat} : RR S d 150 125 L (.ref a :: st) h Q = ((ai_fld h a 10 22).isSome = true ∧ RR S d 150 128 L ((ai_fld h a 10 22).getD .null :: st) h Q) := r150_125.trans (kO_eq Value.null _ _)
theorem q150_129 : RR S d 150 129 L st h Q = (iI (ai_look L 5) ∧ RR S d 150 131 L (.int (gI (ai_look L 5)) :: st) h Q) := r150_129.trans (kI_eq _ _)
theorem q150_132 : RR S d 150 132 L st h Q = (iA (ai_look L 0) ∧ RR S d 150 133 L ((gA (ai_look L 0)) :: st) h Q) := r150_132.trans (kA_eq _ _)
theorem q150_133 {a : Nat} : RR S d 150 133 L (.ref a :: st) h Q = ((ai_fld h a 10 29).isSome = true ∧ RR S d 150 136 L ((ai_fld h a 10 29).getD .null :: st) h Q) := r150_133.trans (kO_eq Value.null _ _)
theorem q150_136 : RR S d 150 136 L st h Q = (iI (ai_look L 5) ∧ RR S d 150 138 L (.int (gI (ai_look L 5)) :: st) h Q) := r150_136.trans (kI_eq _ _)
theorem q150_138 {x : Int32} {a : Nat} : RR S d 150 138 L (.int x :: .ref a :: st) h Q = ((ai_arr h a 0).isSome = true ∧ ¬ (x < 0 ∨ ((ai_arr h a 0).getD (0, fun _ => 0)).1 ≤ x.toNatClampNeg) ∧ RR S d 150 139 L (.int (((ai_arr h a 0).getD (0, fun _ => 0)).2 x.toNatClampNeg) :: st) h Q) := r150_138.trans (kO_in (0, fun _ => 0) _ (fun q => q.1) _ _)
theorem q150_139 {x y : Int32} {a : Nat} : RR S d 150 139 L (.int y :: .int x :: .ref a :: st) h Q = ((ai_arr h a 0).isSome = true ∧ ¬ (x < 0 ∨ ((ai_arr h a 0).getD (0, fun _ => 0)).1 ≤ x.toNatClampNeg) ∧ RR S d 150 140 L st (h.1.set a (.inl (0, ((ai_arr h a 0).getD (0, fun _ => 0)).1, .inl (upd ((ai_arr h a 0).getD (0, fun _ => 0)).2 x.toNatClampNeg y))), h.2) Q) := r150_139.trans (kO_in (0, fun _ => 0) _ (fun q => q.1) _ _)
theorem q150_140 : RR S d 150 140 L st h Q = (iI (ai_look L 5) ∧ RR S d 150 143 (ai_put 5 (.int ((gI (ai_look L 5)) + 1)) L) st h Q) := r150_140.trans (kI_eq _ _)
theorem q150_146 : RR S d 150 146 L st h Q = (iA (ai_look L 0) ∧ RR S d 150 147 L ((gA (ai_look L 0)) :: st) h Q) := r150_146.trans (kA_eq _ _)
theorem q150_147 {a : Nat} : RR S d 150 147 L (.ref a :: st) h Q = RR S d 150 148 L (.ref a :: .ref a :: st) h Q := r150_147 rfl
theorem q150_147i {x : Int32} : RR S d 150 147 L (.int x :: st) h Q = RR S d 150 148 L (.int x :: .int x :: st) h Q := r150_147 rfl
theorem q150_148 {a : Nat} : RR S d 150 148 L (.ref a :: st) h Q = ((ai_fld h a 10 22).isSome = true ∧ RR S d 150 151 L ((ai_fld h a 10 22).getD .null :: st) h Q) := r150_148.trans (kO_eq Value.null _ _)
theorem q150_153 {x : Int32} {a : Nat} : RR S d 150 153 L (.int x :: .ref a :: st) h Q = ((ai_obj h a 10).isSome = true ∧ 22 < ((ai_obj h a 10).getD []).length ∧ RR S d 150 156 L st (h.1.set a (.inr (10, ((ai_obj h a 10).getD []).set 22 (.int x))), h.2) Q) := r150_153.trans (kO_dec [] _ (fun fs => 22 < fs.length) _)
theorem q150_156 : RR S d 150 156 L st h Q = (iA (ai_look L 0) ∧ RR S d 150 157 L ((gA (ai_look L 0)) :: st) h Q) := r150_156.trans (kA_eq _ _)
theorem q150_158t {a : Nat} : RR S d 150 158 L (.int 1 :: .ref a :: st) h Q = ((ai_obj h a 10).isSome = true ∧ 35 < ((ai_obj h a 10).getD []).length ∧ RR S d 150 161 L st (h.1.set a (.inr (10, ((ai_obj h a 10).getD []).set 35 (.int 1))), h.2) Q) := r150_158t.trans (kO_dec [] _ (fun fs => 35 < fs.length) _)
theorem q150_158f {a : Nat} : RR S d 150 158 L (.int 0 :: .ref a :: st) h Q = ((ai_obj h a 10).isSome = true ∧ 35 < ((ai_obj h a 10).getD []).length ∧ RR S d 150 161 L st (h.1.set a (.inr (10, ((ai_obj h a 10).getD []).set 35 (.int 0))), h.2) Q) := r150_158f.trans (kO_dec [] _ (fun fs => 35 < fs.length) _)
theorem q150_161 : RR S d 150 161 L st h Q = (iA (ai_look L 0) ∧ RR S d 150 162 L ((gA (ai_look L 0)) :: st) h Q) := r150_161.trans (kA_eq _ _)
theorem q150_162 {a : Nat} : RR S d 150 162 L (.ref a :: st) h Q = ((ai_fld h a 10 22).isSome = true ∧ RR S d 150 165 L ((ai_fld h a 10 22).getD .null :: st) h Q) := r150_162.trans (kO_eq Value.null _ _)
theorem q151_0 : RR S d 151 0 L st h Q = (iA (ai_look L 0) ∧ RR S d 151 1 L ((gA (ai_look L 0)) :: st) h Q) := r151_0.trans (kA_eq _ _)
theorem q151_1 {a : Nat} : RR S d 151 1 L (.ref a :: st) h Q = ((ai_fld h a 10 15).isSome = true ∧ RR S d 151 4 L ((ai_fld h a 10 15).getD .null :: st) h Q) := r151_1.trans (kO_eq Value.null _ _)
theorem q151_6 : RR S d 151 6 L st h Q = (iI (ai_look L 1) ∧ RR S d 151 7 L (.int (gI (ai_look L 1)) :: st) h Q) := r151_6.trans (kI_eq _ _)
theorem q151_8 : RR S d 151 8 L st h Q = (iA (ai_look L 0) ∧ RR S d 151 9 L ((gA (ai_look L 0)) :: st) h Q) := r151_8.trans (kA_eq _ _)
theorem q151_9 {a : Nat} : RR S d 151 9 L (.ref a :: st) h Q = ((ai_fld h a 10 18).isSome = true ∧ RR S d 151 12 L ((ai_fld h a 10 18).getD .null :: st) h Q) := r151_9.trans (kO_eq Value.null _ _)
theorem q151_12 : RR S d 151 12 L st h Q = (iI (ai_look L 1) ∧ RR S d 151 13 L (.int (gI (ai_look L 1)) :: st) h Q) := r151_12.trans (kI_eq _ _)
theorem q151_13 {x : Int32} {a : Nat} : RR S d 151 13 L (.int x :: .ref a :: st) h Q = ((ai_arr h a 0).isSome = true ∧ ¬ (x < 0 ∨ ((ai_arr h a 0).getD (0, fun _ => 0)).1 ≤ x.toNatClampNeg) ∧ RR S d 151 14 L (.int (((ai_arr h a 0).getD (0, fun _ => 0)).2 x.toNatClampNeg) :: st) h Q) := r151_13.trans (kO_in (0, fun _ => 0) _ (fun q => q.1) _ _)
theorem q151_16 : RR S d 151 16 L st h Q = (iI (ai_look L 3) ∧ RR S d 151 17 L (.int (gI (ai_look L 3)) :: st) h Q) := r151_16.trans (kI_eq _ _)
theorem q151_18 {x : Int32} {a : Nat} : RR S d 151 18 L (.int x :: .ref a :: st) h Q = ((ai_arr h a 0).isSome = true ∧ ¬ (x < 0 ∨ ((ai_arr h a 0).getD (0, fun _ => 0)).1 ≤ x.toNatClampNeg) ∧ RR S d 151 19 L (.int (((ai_arr h a 0).getD (0, fun _ => 0)).2 x.toNatClampNeg) :: st) h Q) := r151_18.trans (kO_in (0, fun _ => 0) _ (fun q => q.1) _ _)
theorem q151_21 : RR S d 151 21 L st h Q = (iA (ai_look L 0) ∧ RR S d 151 22 L ((gA (ai_look L 0)) :: st) h Q) := r151_21.trans (kA_eq _ _)
theorem q151_22 : RR S d 151 22 L st h Q = (iI (ai_look L 1) ∧ RR S d 151 23 L (.int (gI (ai_look L 1)) :: st) h Q) := r151_22.trans (kI_eq _ _)
theorem q151_23 : RR S d 151 23 L st h Q = (iA (ai_look L 0) ∧ RR S d 151 24 L ((gA (ai_look L 0)) :: st) h Q) := r151_23.trans (kA_eq _ _)
theorem q151_24 {a : Nat} : RR S d 151 24 L (.ref a :: st) h Q = ((ai_fld h a 10 18).isSome = true ∧ RR S d 151 27 L ((ai_fld h a 10 18).getD .null :: st) h Q) := r151_24.trans (kO_eq Value.null _ _)
theorem q151_27 : RR S d 151 27 L st h Q = (iI (ai_look L 1) ∧ RR S d 151 28 L (.int (gI (ai_look L 1)) :: st) h Q) := r151_27.trans (kI_eq _ _)
theorem q151_28 {x : Int32} {a : Nat} : RR S d 151 28 L (.int x :: .ref a :: st) h Q = ((ai_arr h a 0).isSome = true ∧ ¬ (x < 0 ∨ ((ai_arr h a 0).getD (0, fun _ => 0)).1 ≤ x.toNatClampNeg) ∧ RR S d 151 29 L (.int (((ai_arr h a 0).getD (0, fun _ => 0)).2 x.toNatClampNeg) :: st) h Q) := r151_28.trans (kO_in (0, fun _ => 0) _ (fun q => q.1) _ _)
theorem q151_29 : RR S d 151 29 L st h Q = (iA (ai_look L 0) ∧ RR S d 151 30 L ((gA (ai_look L 0)) :: st) h Q) := r151_29.trans (kA_eq _ _)
theorem q151_30 {a : Nat} : RR S d 151 30 L (.ref a :: st) h Q = ((ai_fld h a 10 19).isSome = true ∧ RR S d 151 33 L ((ai_fld h a 10 19).getD .null :: st) h Q) := r151_30.trans (kO_eq Value.null _ _)
theorem q151_33 : RR S d 151 33 L st h Q = (iI (ai_look L 1) ∧ RR S d 151 34 L (.int (gI (ai_look L 1)) :: st) h Q) := r151_33.trans (kI_eq _ _)
theorem q151_34 {x : Int32} {a : Nat} : RR S d 151 34 L (.int x :: .ref a :: st) h Q = ((ai_arr h a 0).isSome = true ∧ ¬ (x < 0 ∨ ((ai_arr h a 0).getD (0, fun _ => 0)).1 ≤ x.toNatClampNeg) ∧ RR S d 151 35 L (.int (((ai_arr h a 0).getD (0, fun _ => 0)).2 x.toNatClampNeg) :: st) h Q) := r151_34.trans (kO_in (0, fun _ => 0) _ (fun q => q.1) _ _)
theorem q151_35 : RR S d 151 35 L st h Q = (iI (ai_look L 3) ∧ RR S d 151 36 L (.int (gI (ai_look L 3)) :: st) h Q) := r151_35.trans (kI_eq _ _)
theorem q151_36 {p0 : Int32} {p1 : Int32} {p2 : Int32} {p3 : Int32} {a : Nat} : RR S (d + 1) 151 36 L (.int p3 :: .int p2 :: .int p1 :: .int p0 :: .ref a :: st) h Q = (ai_sum st ≤ 8 ∧ (ai_obj h a 10).isSome = true ∧ RR S d 128 0 [(0, .ref a), (1, .int p0), (2, .int p1), (3, .int p2), (4, .int p3)] [] h (kc S d 151 39 L st Q)) := r151_36.trans (kB_cv _ _ _)
theorem q151_39 : RR S d 151 39 L st h Q = (iI (ai_look L 2) ∧ RR S d 151 40 L (.int (gI (ai_look L 2)) :: st) h Q) := r151_39.trans (kI_eq _ _)
theorem q151_40 : RR S d 151 40 L st h Q = (iA (ai_look L 0) ∧ RR S d 151 41 L ((gA (ai_look L 0)) :: st) h Q) := r151_40.trans (kA_eq _ _)
theorem q151_41 {a : Nat} : RR S d 151 41 L (.ref a :: st) h Q = ((ai_fld h a 10 12).isSome = true ∧ RR S d 151 44 L ((ai_fld h a 10 12).getD .null :: st) h Q) := r151_41.trans (kO_eq Value.null _ _)
theorem q151_44 : RR S d 151 44 L st h Q = (iI (ai_look L 1) ∧ RR S d 151 45 L (.int (gI (ai_look L 1)) :: st) h Q) := r151_44.trans (kI_eq _ _)
theorem q151_45 {x : Int32} {a : Nat} : RR S d 151 45 L (.int x :: .ref a :: st) h Q = ((ai_arr h a 0).isSome = true ∧ ¬ (x < 0 ∨ ((ai_arr h a 0).getD (0, fun _ => 0)).1 ≤ x.toNatClampNeg) ∧ RR S d 151 46 L (.int (((ai_arr h a 0).getD (0, fun _ => 0)).2 x.toNatClampNeg) :: st) h Q) := r151_45.trans (kO_in (0, fun _ => 0) _ (fun q => q.1) _ _)
theorem q151_48 : RR S d 151 48 L st h Q = (iA (ai_look L 0) ∧ RR S d 151 49 L ((gA (ai_look L 0)) :: st) h Q) := r151_48.trans (kA_eq _ _)
theorem q151_49 {a : Nat} : RR S d 151 49 L (.ref a :: st) h Q = ((ai_fld h a 10 2).isSome = true ∧ RR S d 151 52 L ((ai_fld h a 10 2).getD .null :: st) h Q) := r151_49.trans (kO_eq Value.null _ _)
theorem q151_52 : RR S d 151 52 L st h Q = (iA (ai_look L 0) ∧ RR S d 151 53 L ((gA (ai_look L 0)) :: st) h Q) := r151_52.trans (kA_eq _ _)
theorem q151_53 {a : Nat} : RR S d 151 53 L (.ref a :: st) h Q = ((ai_fld h a 10 4).isSome = true ∧ RR S d 151 56 L ((ai_fld h a 10 4).getD .null :: st) h Q) := r151_53.trans (kO_eq Value.null _ _)
theorem q151_56 : RR S d 151 56 L st h Q = (iI (ai_look L 4) ∧ RR S d 151 58 L (.int (gI (ai_look L 4)) :: st) h Q) := r151_56.trans (kI_eq _ _)
theorem q151_58 {x : Int32} {a : Nat} : RR S d 151 58 L (.int x :: .ref a :: st) h Q = ((ai_arr h a 0).isSome = true ∧ ¬ (x < 0 ∨ ((ai_arr h a 0).getD (0, fun _ => 0)).1 ≤ x.toNatClampNeg) ∧ RR S d 151 59 L (.int (((ai_arr h a 0).getD (0, fun _ => 0)).2 x.toNatClampNeg) :: st) h Q) := r151_58.trans (kO_in (0, fun _ => 0) _ (fun q => q.1) _ _)
theorem q151_59 {x : Int32} {a : Nat} : RR S d 151 59 L (.int x :: .ref a :: st) h Q = ((ai_arr h a 0).isSome = true ∧ ¬ (x < 0 ∨ ((ai_arr h a 0).getD (0, fun _ => 0)).1 ≤ x.toNatClampNeg) ∧ RR S d 151 60 L (.int (((ai_arr h a 0).getD (0, fun _ => 0)).2 x.toNatClampNeg) :: st) h Q) := r151_59.trans (kO_in (0, fun _ => 0) _ (fun q => q.1) _ _)
theorem q152_0 : RR S d 152 0 L st h Q = (iA (ai_look L 0) ∧ RR S d 152 1 L ((gA (ai_look L 0)) :: st) h Q) := r152_0.trans (kA_eq _ _)
theorem q152_1 : RR S d 152 1 L st h Q = (iI (ai_look L 1) ∧ RR S d 152 2 L (.int (gI (ai_look L 1)) :: st) h Q) := r152_1.trans (kI_eq _ _)
theorem q152_2 {p0 : Int32} {a : Nat} : RR S (d + 1) 152 2 L (.int p0 :: .ref a :: st) h Q = (ai_sum st ≤ 8 ∧ (ai_obj h a 10).isSome = true ∧ RR S d 141 0 [(0, .ref a), (1, .int p0)] [] h (kc S d 152 5 L st Q)) := r152_2.trans (kB_cv _ _ _)
theorem q152_8 : RR S d 152 8 L st h Q = (iI (ai_look L 2) ∧ RR S d 152 9 L (.int (gI (ai_look L 2)) :: st) h Q) := r152_8.trans (kI_eq _ _)
theorem q152_12 : RR S d 152 12 L st h Q = (iI (ai_look L 2) ∧ RR S d 152 13 L (.int (gI (ai_look L 2)) :: st) h Q) := r152_12.trans (kI_eq _ _)
theorem q152_22 : RR S d 152 22 L st h Q = (iA (ai_look L 0) ∧ RR S d 152 23 L ((gA (ai_look L 0)) :: st) h Q) := r152_22.trans (kA_eq _ _)
theorem q152_23 {a : Nat} : RR S d 152 23 L (.ref a :: st) h Q = ((ai_fld h a 10 14).isSome = true ∧ RR S d 152 26 L ((ai_fld h a 10 14).getD .null :: st) h Q) := r152_23.trans (kO_eq Value.null _ _)
theorem q152_27 : RR S d 152 27 L st h Q = (iI (ai_look L 1) ∧ RR S d 152 28 L (.int (gI (ai_look L 1)) :: st) h Q) := r152_27.trans (kI_eq _ _)
theorem q152_29 : RR S d 152 29 L st h Q = (iA (ai_look L 0) ∧ RR S d 152 30 L ((gA (ai_look L 0)) :: st) h Q) := r152_29.trans (kA_eq _ _)
theorem q152_30 {a : Nat} : RR S d 152 30 L (.ref a :: st) h Q = ((ai_fld h a 10 18).isSome = true ∧ RR S d 152 33 L ((ai_fld h a 10 18).getD .null :: st) h Q) := r152_30.trans (kO_eq Value.null _ _)
theorem q152_33 : RR S d 152 33 L st h Q = (iI (ai_look L 1) ∧ RR S d 152 34 L (.int (gI (ai_look L 1)) :: st) h Q) := r152_33.trans (kI_eq _ _)
theorem q152_34 {x : Int32} {a : Nat} : RR S d 152 34 L (.int x :: .ref a :: st) h Q = ((ai_arr h a 0).isSome = true ∧ ¬ (x < 0 ∨ ((ai_arr h a 0).getD (0, fun _ => 0)).1 ≤ x.toNatClampNeg) ∧ RR S d 152 35 L (.int (((ai_arr h a 0).getD (0, fun _ => 0)).2 x.toNatClampNeg) :: st) h Q) := r152_34.trans (kO_in (0, fun _ => 0) _ (fun q => q.1) _ _)
theorem q152_36 {x : Int32} {a : Nat} : RR S d 152 36 L (.int x :: .ref a :: st) h Q = ((ai_arr h a 0).isSome = true ∧ ¬ (x < 0 ∨ ((ai_arr h a 0).getD (0, fun _ => 0)).1 ≤ x.toNatClampNeg) ∧ RR S d 152 37 L (.int (((ai_arr h a 0).getD (0, fun _ => 0)).2 x.toNatClampNeg) :: st) h Q) := r152_36.trans (kO_in (0, fun _ => 0) _ (fun q => q.1) _ _)
theorem q152_39 : RR S d 152 39 L st h Q = (iI (ai_look L 3) ∧ RR S d 152 40 L (.int (gI (ai_look L 3)) :: st) h Q) := r152_39.trans (kI_eq _ _)
theorem q152_45 : RR S d 152 45 L st h Q = (iA (ai_look L 0) ∧ RR S d 152 46 L ((gA (ai_look L 0)) :: st) h Q) := r152_45.trans (kA_eq _ _)
theorem q152_46 {a : Nat} : RR S d 152 46 L (.ref a :: st) h Q = ((ai_fld h a 10 15).isSome = true ∧ RR S d 152 49 L ((ai_fld h a 10 15).getD .null :: st) h Q) := r152_46.trans (kO_eq Value.null _ _)
theorem q152_51 : RR S d 152 51 L st h Q = (iI (ai_look L 1) ∧ RR S d 152 52 L (.int (gI (ai_look L 1)) :: st) h Q) := r152_51.trans (kI_eq _ _)
theorem q152_53 : RR S d 152 53 L st h Q = (iA (ai_look L 0) ∧ RR S d 152 54 L ((gA (ai_look L 0)) :: st) h Q) := r152_53.trans (kA_eq _ _)
theorem q152_54 {a : Nat} : RR S d 152 54 L (.ref a :: st) h Q = ((ai_fld h a 10 18).isSome = true ∧ RR S d 152 57 L ((ai_fld h a 10 18).getD .null :: st) h Q) := r152_54.trans (kO_eq Value.null _ _)
theorem q152_57 : RR S d 152 57 L st h Q = (iI (ai_look L 1) ∧ RR S d 152 58 L (.int (gI (ai_look L 1)) :: st) h Q) := r152_57.trans (kI_eq _ _)
theorem q152_58 {x : Int32} {a : Nat} : RR S d 152 58 L (.int x :: .ref a :: st) h Q = ((ai_arr h a 0).isSome = true ∧ ¬ (x < 0 ∨ ((ai_arr h a 0).getD (0, fun _ => 0)).1 ≤ x.toNatClampNeg) ∧ RR S d 152 59 L (.int (((ai_arr h a 0).getD (0, fun _ => 0)).2 x.toNatClampNeg) :: st) h Q) := r152_58.trans (kO_in (0, fun _ => 0) _ (fun q => q.1) _ _)
theorem q152_61 : RR S d 152 61 L st h Q = (iI (ai_look L 4) ∧ RR S d 152 63 L (.int (gI (ai_look L 4)) :: st) h Q) := r152_61.trans (kI_eq _ _)
theorem q152_66 {x : Int32} {a : Nat} : RR S d 152 66 L (.int x :: .ref a :: st) h Q = ((ai_arr h a 0).isSome = true ∧ ¬ (x < 0 ∨ ((ai_arr h a 0).getD (0, fun _ => 0)).1 ≤ x.toNatClampNeg) ∧ RR S d 152 67 L (.int (((ai_arr h a 0).getD (0, fun _ => 0)).2 x.toNatClampNeg) :: st) h Q) := r152_66.trans (kO_in (0, fun _ => 0) _ (fun q => q.1) _ _)
theorem q152_69 : RR S d 152 69 L st h Q = (iA (ai_look L 0) ∧ RR S d 152 70 L ((gA (ai_look L 0)) :: st) h Q) := r152_69.trans (kA_eq _ _)
theorem q152_70 : RR S d 152 70 L st h Q = (iI (ai_look L 1) ∧ RR S d 152 71 L (.int (gI (ai_look L 1)) :: st) h Q) := r152_70.trans (kI_eq _ _)
theorem q152_71 : RR S d 152 71 L st h Q = (iI (ai_look L 2) ∧ RR S d 152 72 L (.int (gI (ai_look L 2)) :: st) h Q) := r152_71.trans (kI_eq _ _)
theorem q152_72 : RR S d 152 72 L st h Q = (iI (ai_look L 4) ∧ RR S d 152 74 L (.int (gI (ai_look L 4)) :: st) h Q) := r152_72.trans (kI_eq _ _)
theorem q152_76 {p0 : Int32} {p1 : Int32} {p2 : Int32} {a : Nat} : RR S (d + 1) 152 76 L (.int p2 :: .int p1 :: .int p0 :: .ref a :: st) h Q = (ai_sum st ≤ 8 ∧ (ai_obj h a 10).isSome = true ∧ RR S d 151 0 [(0, .ref a), (1, .int p0), (2, .int p1), (3, .int p2)] [] h (kc S d 152 79 L st Q)) := r152_76.trans (kB_cv _ _ _)
theorem q152_79 : RR S d 152 79 L st h Q = (iA (ai_look L 0) ∧ RR S d 152 80 L ((gA (ai_look L 0)) :: st) h Q) := r152_79.trans (kA_eq _ _)
theorem q152_80 {a : Nat} : RR S d 152 80 L (.ref a :: st) h Q = ((ai_fld h a 10 11).isSome = true ∧ RR S d 152 83 L ((ai_fld h a 10 11).getD .null :: st) h Q) := r152_80.trans (kO_eq Value.null _ _)
theorem q152_83 : RR S d 152 83 L st h Q = (iI (ai_look L 1) ∧ RR S d 152 84 L (.int (gI (ai_look L 1)) :: st) h Q) := r152_83.trans (kI_eq _ _)
theorem q152_84 {x : Int32} {a : Nat} : RR S d 152 84 L (.int x :: .ref a :: st) h Q = ((ai_arr h a 0).isSome = true ∧ ¬ (x < 0 ∨ ((ai_arr h a 0).getD (0, fun _ => 0)).1 ≤ x.toNatClampNeg) ∧ RR S d 152 85 L (.int (((ai_arr h a 0).getD (0, fun _ => 0)).2 x.toNatClampNeg) :: st) h Q) := r152_84.trans (kO_in (0, fun _ => 0) _ (fun q => q.1) _ _)
theorem q152_85 : RR S d 152 85 L st h Q = (iA (ai_look L 0) ∧ RR S d 152 86 L ((gA (ai_look L 0)) :: st) h Q) := r152_85.trans (kA_eq _ _)
theorem q152_86 {a : Nat} : RR S d 152 86 L (.ref a :: st) h Q = ((ai_fld h a 10 7).isSome = true ∧ RR S d 152 89 L ((ai_fld h a 10 7).getD .null :: st) h Q) := r152_86.trans (kO_eq Value.null _ _)
theorem q152_89 : RR S d 152 89 L st h Q = (iI (ai_look L 5) ∧ RR S d 152 91 L (.int (gI (ai_look L 5)) :: st) h Q) := r152_89.trans (kI_eq _ _)
theorem q152_91 {x : Int32} {a : Nat} : RR S d 152 91 L (.int x :: .ref a :: st) h Q = ((ai_arr h a 0).isSome = true ∧ ¬ (x < 0 ∨ ((ai_arr h a 0).getD (0, fun _ => 0)).1 ≤ x.toNatClampNeg) ∧ RR S d 152 92 L (.int (((ai_arr h a 0).getD (0, fun _ => 0)).2 x.toNatClampNeg) :: st) h Q) := r152_91.trans (kO_in (0, fun _ => 0) _ (fun q => q.1) _ _)
theorem q152_94 : RR S d 152 94 L st h Q = (iA (ai_look L 0) ∧ RR S d 152 95 L ((gA (ai_look L 0)) :: st) h Q) := r152_94.trans (kA_eq _ _)
theorem q152_95 {a : Nat} : RR S d 152 95 L (.ref a :: st) h Q = ((ai_fld h a 10 6).isSome = true ∧ RR S d 152 98 L ((ai_fld h a 10 6).getD .null :: st) h Q) := r152_95.trans (kO_eq Value.null _ _)
theorem q152_98 : RR S d 152 98 L st h Q = (iI (ai_look L 5) ∧ RR S d 152 100 L (.int (gI (ai_look L 5)) :: st) h Q) := r152_98.trans (kI_eq _ _)
theorem q152_100 {x : Int32} {a : Nat} : RR S d 152 100 L (.int x :: .ref a :: st) h Q = ((ai_arr h a 0).isSome = true ∧ ¬ (x < 0 ∨ ((ai_arr h a 0).getD (0, fun _ => 0)).1 ≤ x.toNatClampNeg) ∧ RR S d 152 101 L (.int (((ai_arr h a 0).getD (0, fun _ => 0)).2 x.toNatClampNeg) :: st) h Q) := r152_100.trans (kO_in (0, fun _ => 0) _ (fun q => q.1) _ _)
theorem q152_103 : RR S d 152 103 L st h Q = (iI (ai_look L 3) ∧ RR S d 152 104 L (.int (gI (ai_look L 3)) :: st) h Q) := r152_103.trans (kI_eq _ _)
theorem q152_107 : RR S d 152 107 L st h Q = (iI (ai_look L 3) ∧ RR S d 152 108 L (.int (gI (ai_look L 3)) :: st) h Q) := r152_107.trans (kI_eq _ _)
theorem q152_108 : RR S d 152 108 L st h Q = (iI (ai_look L 4) ∧ RR S d 152 110 L (.int (gI (ai_look L 4)) :: st) h Q) := r152_108.trans (kI_eq _ _)
theorem q152_119 : RR S d 152 119 L st h Q = (iA (ai_look L 0) ∧ RR S d 152 120 L ((gA (ai_look L 0)) :: st) h Q) := r152_119.trans (kA_eq _ _)
theorem q152_120 : RR S d 152 120 L st h Q = (iI (ai_look L 1) ∧ RR S d 152 121 L (.int (gI (ai_look L 1)) :: st) h Q) := r152_120.trans (kI_eq _ _)
theorem q152_121 : RR S d 152 121 L st h Q = (iI (ai_look L 2) ∧ RR S d 152 122 L (.int (gI (ai_look L 2)) :: st) h Q) := r152_121.trans (kI_eq _ _)
theorem q152_122 : RR S d 152 122 L st h Q = (iI (ai_look L 3) ∧ RR S d 152 123 L (.int (gI (ai_look L 3)) :: st) h Q) := r152_122.trans (kI_eq _ _)
theorem q152_123 {p0 : Int32} {p1 : Int32} {p2 : Int32} {a : Nat} : RR S (d + 1) 152 123 L (.int p2 :: .int p1 :: .int p0 :: .ref a :: st) h Q = (ai_sum st ≤ 8 ∧ (ai_obj h a 10).isSome = true ∧ RR S d 151 0 [(0, .ref a), (1, .int p0), (2, .int p1), (3, .int p2)] [] h (kc S d 152 126 L st Q)) := r152_123.trans (kB_cv _ _ _)
theorem q153_0 : RR S d 153 0 L st h Q = (iA (ai_look L 0) ∧ RR S d 153 1 L ((gA (ai_look L 0)) :: st) h Q) := r153_0.trans (kA_eq _ _)
theorem q153_1 : RR S d 153 1 L st h Q = (iI (ai_look L 1) ∧ RR S d 153 2 L (.int (gI (ai_look L 1)) :: st) h Q) := r153_1.trans (kI_eq _ _)
theorem q153_2 {p0 : Int32} {a : Nat} : RR S (d + 1) 153 2 L (.int p0 :: .ref a :: st) h Q = (ai_sum st ≤ 8 ∧ (ai_obj h a 10).isSome = true ∧ RR S d 141 0 [(0, .ref a), (1, .int p0)] [] h (kc S d 153 5 L st Q)) := r153_2.trans (kB_cv _ _ _)
theorem q153_8 : RR S d 153 8 L st h Q = (iI (ai_look L 2) ∧ RR S d 153 9 L (.int (gI (ai_look L 2)) :: st) h Q) := r153_8.trans (kI_eq _ _)
theorem q153_12 : RR S d 153 12 L st h Q = (iI (ai_look L 2) ∧ RR S d 153 13 L (.int (gI (ai_look L 2)) :: st) h Q) := r153_12.trans (kI_eq _ _)
theorem q153_18 : RR S d 153 18 L st h Q = (iI (ai_look L 3) ∧ RR S d 153 19 L (.int (gI (ai_look L 3)) :: st) h Q) := r153_18.trans (kI_eq _ _)
theorem q153_23 : RR S d 153 23 L st h Q = (iI (ai_look L 3) ∧ RR S d 153 24 L (.int (gI (ai_look L 3)) :: st) h Q) := r153_23.trans (kI_eq _ _)
theorem q153_24 : RR S d 153 24 L st h Q = (iA (ai_look L 0) ∧ RR S d 153 25 L ((gA (ai_look L 0)) :: st) h Q) := r153_24.trans (kA_eq _ _)
theorem q153_25 {a : Nat} : RR S d 153 25 L (.ref a :: st) h Q = ((ai_fld h a 10 14).isSome = true ∧ RR S d 153 28 L ((ai_fld h a 10 14).getD .null :: st) h Q) := r153_25.trans (kO_eq Value.null _ _)
theorem q153_29 : RR S d 153 29 L st h Q = (iI (ai_look L 1) ∧ RR S d 153 30 L (.int (gI (ai_look L 1)) :: st) h Q) := r153_29.trans (kI_eq _ _)
theorem q153_31 : RR S d 153 31 L st h Q = (iA (ai_look L 0) ∧ RR S d 153 32 L ((gA (ai_look L 0)) :: st) h Q) := r153_31.trans (kA_eq _ _)
theorem q153_32 {a : Nat} : RR S d 153 32 L (.ref a :: st) h Q = ((ai_fld h a 10 18).isSome = true ∧ RR S d 153 35 L ((ai_fld h a 10 18).getD .null :: st) h Q) := r153_32.trans (kO_eq Value.null _ _)
theorem q153_35 : RR S d 153 35 L st h Q = (iI (ai_look L 1) ∧ RR S d 153 36 L (.int (gI (ai_look L 1)) :: st) h Q) := r153_35.trans (kI_eq _ _)
theorem q153_36 {x : Int32} {a : Nat} : RR S d 153 36 L (.int x :: .ref a :: st) h Q = ((ai_arr h a 0).isSome = true ∧ ¬ (x < 0 ∨ ((ai_arr h a 0).getD (0, fun _ => 0)).1 ≤ x.toNatClampNeg) ∧ RR S d 153 37 L (.int (((ai_arr h a 0).getD (0, fun _ => 0)).2 x.toNatClampNeg) :: st) h Q) := r153_36.trans (kO_in (0, fun _ => 0) _ (fun q => q.1) _ _)
theorem q153_38 {x : Int32} {a : Nat} : RR S d 153 38 L (.int x :: .ref a :: st) h Q = ((ai_arr h a 0).isSome = true ∧ ¬ (x < 0 ∨ ((ai_arr h a 0).getD (0, fun _ => 0)).1 ≤ x.toNatClampNeg) ∧ RR S d 153 39 L (.int (((ai_arr h a 0).getD (0, fun _ => 0)).2 x.toNatClampNeg) :: st) h Q) := r153_38.trans (kO_in (0, fun _ => 0) _ (fun q => q.1) _ _)
theorem q153_46 : RR S d 153 46 L st h Q = (iA (ai_look L 0) ∧ RR S d 153 47 L ((gA (ai_look L 0)) :: st) h Q) := r153_46.trans (kA_eq _ _)
theorem q153_47 {a : Nat} : RR S d 153 47 L (.ref a :: st) h Q = ((ai_fld h a 10 15).isSome = true ∧ RR S d 153 50 L ((ai_fld h a 10 15).getD .null :: st) h Q) := r153_47.trans (kO_eq Value.null _ _)
theorem q153_52 : RR S d 153 52 L st h Q = (iI (ai_look L 1) ∧ RR S d 153 53 L (.int (gI (ai_look L 1)) :: st) h Q) := r153_52.trans (kI_eq _ _)
theorem q153_54 : RR S d 153 54 L st h Q = (iA (ai_look L 0) ∧ RR S d 153 55 L ((gA (ai_look L 0)) :: st) h Q) := r153_54.trans (kA_eq _ _)
theorem q153_55 {a : Nat} : RR S d 153 55 L (.ref a :: st) h Q = ((ai_fld h a 10 18).isSome = true ∧ RR S d 153 58 L ((ai_fld h a 10 18).getD .null :: st) h Q) := r153_55.trans (kO_eq Value.null _ _)
theorem q153_58 : RR S d 153 58 L st h Q = (iI (ai_look L 1) ∧ RR S d 153 59 L (.int (gI (ai_look L 1)) :: st) h Q) := r153_58.trans (kI_eq _ _)
theorem q153_59 {x : Int32} {a : Nat} : RR S d 153 59 L (.int x :: .ref a :: st) h Q = ((ai_arr h a 0).isSome = true ∧ ¬ (x < 0 ∨ ((ai_arr h a 0).getD (0, fun _ => 0)).1 ≤ x.toNatClampNeg) ∧ RR S d 153 60 L (.int (((ai_arr h a 0).getD (0, fun _ => 0)).2 x.toNatClampNeg) :: st) h Q) := r153_59.trans (kO_in (0, fun _ => 0) _ (fun q => q.1) _ _)
theorem q153_62 : RR S d 153 62 L st h Q = (iI (ai_look L 3) ∧ RR S d 153 63 L (.int (gI (ai_look L 3)) :: st) h Q) := r153_62.trans (kI_eq _ _)
theorem q153_66 {x : Int32} {a : Nat} : RR S d 153 66 L (.int x :: .ref a :: st) h Q = ((ai_arr h a 0).isSome = true ∧ ¬ (x < 0 ∨ ((ai_arr h a 0).getD (0, fun _ => 0)).1 ≤ x.toNatClampNeg) ∧ RR S d 153 67 L (.int (((ai_arr h a 0).getD (0, fun _ => 0)).2 x.toNatClampNeg) :: st) h Q) := r153_66.trans (kO_in (0, fun _ => 0) _ (fun q => q.1) _ _)
theorem q153_69 : RR S d 153 69 L st h Q = (iA (ai_look L 0) ∧ RR S d 153 70 L ((gA (ai_look L 0)) :: st) h Q) := r153_69.trans (kA_eq _ _)
theorem q153_70 : RR S d 153 70 L st h Q = (iI (ai_look L 1) ∧ RR S d 153 71 L (.int (gI (ai_look L 1)) :: st) h Q) := r153_70.trans (kI_eq _ _)
theorem q153_71 : RR S d 153 71 L st h Q = (iI (ai_look L 2) ∧ RR S d 153 72 L (.int (gI (ai_look L 2)) :: st) h Q) := r153_71.trans (kI_eq _ _)
theorem q153_72 : RR S d 153 72 L st h Q = (iI (ai_look L 3) ∧ RR S d 153 73 L (.int (gI (ai_look L 3)) :: st) h Q) := r153_72.trans (kI_eq _ _)
theorem q153_73 {p0 : Int32} {p1 : Int32} {p2 : Int32} {a : Nat} : RR S (d + 1) 153 73 L (.int p2 :: .int p1 :: .int p0 :: .ref a :: st) h Q = (ai_sum st ≤ 8 ∧ (ai_obj h a 10).isSome = true ∧ RR S d 151 0 [(0, .ref a), (1, .int p0), (2, .int p1), (3, .int p2)] [] h (kc S d 153 76 L st Q)) := r153_73.trans (kB_cv _ _ _)
theorem q153_76 : RR S d 153 76 L st h Q = (iA (ai_look L 0) ∧ RR S d 153 77 L ((gA (ai_look L 0)) :: st) h Q) := r153_76.trans (kA_eq _ _)
theorem q153_77 : RR S d 153 77 L st h Q = (iI (ai_look L 1) ∧ RR S d 153 78 L (.int (gI (ai_look L 1)) :: st) h Q) := r153_77.trans (kI_eq _ _)
theorem q153_78 : RR S d 153 78 L st h Q = (iI (ai_look L 2) ∧ RR S d 153 79 L (.int (gI (ai_look L 2)) :: st) h Q) := r153_78.trans (kI_eq _ _)
theorem q153_79 : RR S d 153 79 L st h Q = (iI (ai_look L 3) ∧ RR S d 153 80 L (.int (gI (ai_look L 3)) :: st) h Q) := r153_79.trans (kI_eq _ _)
theorem q153_82 {p0 : Int32} {p1 : Int32} {p2 : Int32} {a : Nat} : RR S (d + 1) 153 82 L (.int p2 :: .int p1 :: .int p0 :: .ref a :: st) h Q = (ai_sum st ≤ 8 ∧ (ai_obj h a 10).isSome = true ∧ RR S d 151 0 [(0, .ref a), (1, .int p0), (2, .int p1), (3, .int p2)] [] h (kc S d 153 85 L st Q)) := r153_82.trans (kB_cv _ _ _)
theorem q153_86 : RR S d 153 86 L st h Q = (iA (ai_look L 0) ∧ RR S d 153 87 L ((gA (ai_look L 0)) :: st) h Q) := r153_86.trans (kA_eq _ _)
theorem q153_87 {a : Nat} : RR S d 153 87 L (.ref a :: st) h Q = ((ai_fld h a 10 11).isSome = true ∧ RR S d 153 90 L ((ai_fld h a 10 11).getD .null :: st) h Q) := r153_87.trans (kO_eq Value.null _ _)
theorem q153_90 : RR S d 153 90 L st h Q = (iI (ai_look L 1) ∧ RR S d 153 91 L (.int (gI (ai_look L 1)) :: st) h Q) := r153_90.trans (kI_eq _ _)
theorem q153_91 {x : Int32} {a : Nat} : RR S d 153 91 L (.int x :: .ref a :: st) h Q = ((ai_arr h a 0).isSome = true ∧ ¬ (x < 0 ∨ ((ai_arr h a 0).getD (0, fun _ => 0)).1 ≤ x.toNatClampNeg) ∧ RR S d 153 92 L (.int (((ai_arr h a 0).getD (0, fun _ => 0)).2 x.toNatClampNeg) :: st) h Q) := r153_91.trans (kO_in (0, fun _ => 0) _ (fun q => q.1) _ _)
theorem q153_92 : RR S d 153 92 L st h Q = (iA (ai_look L 0) ∧ RR S d 153 93 L ((gA (ai_look L 0)) :: st) h Q) := r153_92.trans (kA_eq _ _)
theorem q153_93 {a : Nat} : RR S d 153 93 L (.ref a :: st) h Q = ((ai_fld h a 10 7).isSome = true ∧ RR S d 153 96 L ((ai_fld h a 10 7).getD .null :: st) h Q) := r153_93.trans (kO_eq Value.null _ _)
theorem q153_96 : RR S d 153 96 L st h Q = (iI (ai_look L 4) ∧ RR S d 153 98 L (.int (gI (ai_look L 4)) :: st) h Q) := r153_96.trans (kI_eq _ _)
theorem q153_98 {x : Int32} {a : Nat} : RR S d 153 98 L (.int x :: .ref a :: st) h Q = ((ai_arr h a 0).isSome = true ∧ ¬ (x < 0 ∨ ((ai_arr h a 0).getD (0, fun _ => 0)).1 ≤ x.toNatClampNeg) ∧ RR S d 153 99 L (.int (((ai_arr h a 0).getD (0, fun _ => 0)).2 x.toNatClampNeg) :: st) h Q) := r153_98.trans (kO_in (0, fun _ => 0) _ (fun q => q.1) _ _)
theorem q153_101 : RR S d 153 101 L st h Q = (iA (ai_look L 0) ∧ RR S d 153 102 L ((gA (ai_look L 0)) :: st) h Q) := r153_101.trans (kA_eq _ _)
theorem q153_102 {a : Nat} : RR S d 153 102 L (.ref a :: st) h Q = ((ai_fld h a 10 6).isSome = true ∧ RR S d 153 105 L ((ai_fld h a 10 6).getD .null :: st) h Q) := r153_102.trans (kO_eq Value.null _ _)
theorem q153_105 : RR S d 153 105 L st h Q = (iI (ai_look L 4) ∧ RR S d 153 107 L (.int (gI (ai_look L 4)) :: st) h Q) := r153_105.trans (kI_eq _ _)
theorem q153_107 {x : Int32} {a : Nat} : RR S d 153 107 L (.int x :: .ref a :: st) h Q = ((ai_arr h a 0).isSome = true ∧ ¬ (x < 0 ∨ ((ai_arr h a 0).getD (0, fun _ => 0)).1 ≤ x.toNatClampNeg) ∧ RR S d 153 108 L (.int (((ai_arr h a 0).getD (0, fun _ => 0)).2 x.toNatClampNeg) :: st) h Q) := r153_107.trans (kO_in (0, fun _ => 0) _ (fun q => q.1) _ _)
theorem q153_109 : RR S d 153 109 L st h Q = (iA (ai_look L 0) ∧ RR S d 153 110 L ((gA (ai_look L 0)) :: st) h Q) := r153_109.trans (kA_eq _ _)
theorem q153_110 {a : Nat} : RR S d 153 110 L (.ref a :: st) h Q = ((ai_fld h a 10 1).isSome = true ∧ RR S d 153 113 L ((ai_fld h a 10 1).getD .null :: st) h Q) := r153_110.trans (kO_eq Value.null _ _)
theorem q153_113 : RR S d 153 113 L st h Q = (iA (ai_look L 0) ∧ RR S d 153 114 L ((gA (ai_look L 0)) :: st) h Q) := r153_113.trans (kA_eq _ _)
theorem q153_114 {a : Nat} : RR S d 153 114 L (.ref a :: st) h Q = ((ai_fld h a 10 5).isSome = true ∧ RR S d 153 117 L ((ai_fld h a 10 5).getD .null :: st) h Q) := r153_114.trans (kO_eq Value.null _ _)
theorem q153_117 : RR S d 153 117 L st h Q = (iI (ai_look L 4) ∧ RR S d 153 119 L (.int (gI (ai_look L 4)) :: st) h Q) := r153_117.trans (kI_eq _ _)
theorem q153_119 {x : Int32} {a : Nat} : RR S d 153 119 L (.int x :: .ref a :: st) h Q = ((ai_arr h a 0).isSome = true ∧ ¬ (x < 0 ∨ ((ai_arr h a 0).getD (0, fun _ => 0)).1 ≤ x.toNatClampNeg) ∧ RR S d 153 120 L (.int (((ai_arr h a 0).getD (0, fun _ => 0)).2 x.toNatClampNeg) :: st) h Q) := r153_119.trans (kO_in (0, fun _ => 0) _ (fun q => q.1) _ _)
theorem q153_120 {x : Int32} {a : Nat} : RR S d 153 120 L (.int x :: .ref a :: st) h Q = ((ai_arr h a 0).isSome = true ∧ ¬ (x < 0 ∨ ((ai_arr h a 0).getD (0, fun _ => 0)).1 ≤ x.toNatClampNeg) ∧ RR S d 153 121 L (.int (((ai_arr h a 0).getD (0, fun _ => 0)).2 x.toNatClampNeg) :: st) h Q) := r153_120.trans (kO_in (0, fun _ => 0) _ (fun q => q.1) _ _)
theorem q154_0 : RR S d 154 0 L st h Q = (iA (ai_look L 0) ∧ RR S d 154 1 L ((gA (ai_look L 0)) :: st) h Q) := r154_0.trans (kA_eq _ _)
theorem q154_1 {a : Nat} : RR S d 154 1 L (.ref a :: st) h Q = ((ai_fld h a 10 35).isSome = true ∧ RR S d 154 4 L ((ai_fld h a 10 35).getD .null :: st) h Q) := r154_1.trans (kO_eq Value.null _ _)
theorem q154_8 : RR S d 154 8 L st h Q = (iA (ai_look L 0) ∧ RR S d 154 9 L ((gA (ai_look L 0)) :: st) h Q) := r154_8.trans (kA_eq _ _)
theorem q154_10t {a : Nat} : RR S d 154 10 L (.int 1 :: .ref a :: st) h Q = ((ai_obj h a 10).isSome = true ∧ 35 < ((ai_obj h a 10).getD []).length ∧ RR S d 154 13 L st (h.1.set a (.inr (10, ((ai_obj h a 10).getD []).set 35 (.int 1))), h.2) Q) := r154_10t.trans (kO_dec [] _ (fun fs => 35 < fs.length) _)
theorem q154_10f {a : Nat} : RR S d 154 10 L (.int 0 :: .ref a :: st) h Q = ((ai_obj h a 10).isSome = true ∧ 35 < ((ai_obj h a 10).getD []).length ∧ RR S d 154 13 L st (h.1.set a (.inr (10, ((ai_obj h a 10).getD []).set 35 (.int 0))), h.2) Q) := r154_10f.trans (kO_dec [] _ (fun fs => 35 < fs.length) _)
theorem q154_15 : RR S d 154 15 L st h Q = (iI (ai_look L 1) ∧ RR S d 154 16 L (.int (gI (ai_look L 1)) :: st) h Q) := r154_15.trans (kI_eq _ _)
theorem q154_22 : RR S d 154 22 L st h Q = (iA (ai_look L 0) ∧ RR S d 154 23 L ((gA (ai_look L 0)) :: st) h Q) := r154_22.trans (kA_eq _ _)
theorem q154_23 {a : Nat} : RR S d 154 23 L (.ref a :: st) h Q = ((ai_fld h a 10 36).isSome = true ∧ RR S d 154 26 L ((ai_fld h a 10 36).getD .null :: st) h Q) := r154_23.trans (kO_eq Value.null _ _)
theorem q154_26 : RR S d 154 26 L st h Q = (iI (ai_look L 1) ∧ RR S d 154 27 L (.int (gI (ai_look L 1)) :: st) h Q) := r154_26.trans (kI_eq _ _)
theorem q154_29 {x y : Int32} {a : Nat} : RR S d 154 29 L (.int y :: .int x :: .ref a :: st) h Q = ((ai_arr h a 0).isSome = true ∧ ¬ (x < 0 ∨ ((ai_arr h a 0).getD (0, fun _ => 0)).1 ≤ x.toNatClampNeg) ∧ RR S d 154 30 L st (h.1.set a (.inl (0, ((ai_arr h a 0).getD (0, fun _ => 0)).1, .inl (upd ((ai_arr h a 0).getD (0, fun _ => 0)).2 x.toNatClampNeg y))), h.2) Q) := r154_29.trans (kO_in (0, fun _ => 0) _ (fun q => q.1) _ _)
theorem q154_30 : RR S d 154 30 L st h Q = (iA (ai_look L 0) ∧ RR S d 154 31 L ((gA (ai_look L 0)) :: st) h Q) := r154_30.trans (kA_eq _ _)
theorem q154_31 {a : Nat} : RR S d 154 31 L (.ref a :: st) h Q = ((ai_fld h a 10 37).isSome = true ∧ RR S d 154 34 L ((ai_fld h a 10 37).getD .null :: st) h Q) := r154_31.trans (kO_eq Value.null _ _)
theorem q154_34 : RR S d 154 34 L st h Q = (iI (ai_look L 1) ∧ RR S d 154 35 L (.int (gI (ai_look L 1)) :: st) h Q) := r154_34.trans (kI_eq _ _)
theorem q154_37 {x y : Int32} {a : Nat} : RR S d 154 37 L (.int y :: .int x :: .ref a :: st) h Q = ((ai_arr h a 0).isSome = true ∧ ¬ (x < 0 ∨ ((ai_arr h a 0).getD (0, fun _ => 0)).1 ≤ x.toNatClampNeg) ∧ RR S d 154 38 L st (h.1.set a (.inl (0, ((ai_arr h a 0).getD (0, fun _ => 0)).1, .inl (upd ((ai_arr h a 0).getD (0, fun _ => 0)).2 x.toNatClampNeg y))), h.2) Q) := r154_37.trans (kO_in (0, fun _ => 0) _ (fun q => q.1) _ _)
theorem q154_38 : RR S d 154 38 L st h Q = (iI (ai_look L 1) ∧ RR S d 154 41 (ai_put 1 (.int ((gI (ai_look L 1)) + 1)) L) st h Q) := r154_38.trans (kI_eq _ _)
theorem q154_46 : RR S d 154 46 L st h Q = (iI (ai_look L 1) ∧ RR S d 154 47 L (.int (gI (ai_look L 1)) :: st) h Q) := r154_46.trans (kI_eq _ _)
theorem q154_47 : RR S d 154 47 L st h Q = (iA (ai_look L 0) ∧ RR S d 154 48 L ((gA (ai_look L 0)) :: st) h Q) := r154_47.trans (kA_eq _ _)
theorem q154_48 {a : Nat} : RR S d 154 48 L (.ref a :: st) h Q = ((ai_fld h a 10 22).isSome = true ∧ RR S d 154 51 L ((ai_fld h a 10 22).getD .null :: st) h Q) := r154_48.trans (kO_eq Value.null _ _)
theorem q154_54 : RR S d 154 54 L st h Q = (iA (ai_look L 0) ∧ RR S d 154 55 L ((gA (ai_look L 0)) :: st) h Q) := r154_54.trans (kA_eq _ _)
theorem q154_55 {a : Nat} : RR S d 154 55 L (.ref a :: st) h Q = ((ai_fld h a 10 36).isSome = true ∧ RR S d 154 58 L ((ai_fld h a 10 36).getD .null :: st) h Q) := r154_55.trans (kO_eq Value.null _ _)
theorem q154_59 : RR S d 154 59 L st h Q = (iI (ai_look L 1) ∧ RR S d 154 60 L (.int (gI (ai_look L 1)) :: st) h Q) := r154_59.trans (kI_eq _ _)
theorem q154_61 : RR S d 154 61 L st h Q = (iA (ai_look L 0) ∧ RR S d 154 62 L ((gA (ai_look L 0)) :: st) h Q) := r154_61.trans (kA_eq _ _)
theorem q154_62 {a : Nat} : RR S d 154 62 L (.ref a :: st) h Q = ((ai_fld h a 10 23).isSome = true ∧ RR S d 154 65 L ((ai_fld h a 10 23).getD .null :: st) h Q) := r154_62.trans (kO_eq Value.null _ _)
theorem q154_65 : RR S d 154 65 L st h Q = (iI (ai_look L 1) ∧ RR S d 154 66 L (.int (gI (ai_look L 1)) :: st) h Q) := r154_65.trans (kI_eq _ _)
theorem q154_66 {x : Int32} {a : Nat} : RR S d 154 66 L (.int x :: .ref a :: st) h Q = ((ai_arr h a 0).isSome = true ∧ ¬ (x < 0 ∨ ((ai_arr h a 0).getD (0, fun _ => 0)).1 ≤ x.toNatClampNeg) ∧ RR S d 154 67 L (.int (((ai_arr h a 0).getD (0, fun _ => 0)).2 x.toNatClampNeg) :: st) h Q) := r154_66.trans (kO_in (0, fun _ => 0) _ (fun q => q.1) _ _)
theorem q154_67 {x y : Int32} {a : Nat} : RR S d 154 67 L (.int y :: .int x :: .ref a :: st) h Q = ((ai_arr h a 0).isSome = true ∧ ¬ (x < 0 ∨ ((ai_arr h a 0).getD (0, fun _ => 0)).1 ≤ x.toNatClampNeg) ∧ RR S d 154 68 L st (h.1.set a (.inl (0, ((ai_arr h a 0).getD (0, fun _ => 0)).1, .inl (upd ((ai_arr h a 0).getD (0, fun _ => 0)).2 x.toNatClampNeg y))), h.2) Q) := r154_67.trans (kO_in (0, fun _ => 0) _ (fun q => q.1) _ _)
theorem q154_68 : RR S d 154 68 L st h Q = (iA (ai_look L 0) ∧ RR S d 154 69 L ((gA (ai_look L 0)) :: st) h Q) := r154_68.trans (kA_eq _ _)
theorem q154_69 {a : Nat} : RR S d 154 69 L (.ref a :: st) h Q = ((ai_fld h a 10 38).isSome = true ∧ RR S d 154 72 L ((ai_fld h a 10 38).getD .null :: st) h Q) := r154_69.trans (kO_eq Value.null _ _)
theorem q154_72 : RR S d 154 72 L st h Q = (iI (ai_look L 1) ∧ RR S d 154 73 L (.int (gI (ai_look L 1)) :: st) h Q) := r154_72.trans (kI_eq _ _)
theorem q154_75 {x y : Int32} {a : Nat} : RR S d 154 75 L (.int y :: .int x :: .ref a :: st) h Q = ((ai_arr h a 0).isSome = true ∧ ¬ (x < 0 ∨ ((ai_arr h a 0).getD (0, fun _ => 0)).1 ≤ x.toNatClampNeg) ∧ RR S d 154 76 L st (h.1.set a (.inl (0, ((ai_arr h a 0).getD (0, fun _ => 0)).1, .inl (upd ((ai_arr h a 0).getD (0, fun _ => 0)).2 x.toNatClampNeg y))), h.2) Q) := r154_75.trans (kO_in (0, fun _ => 0) _ (fun q => q.1) _ _)
theorem q154_76 : RR S d 154 76 L st h Q = (iA (ai_look L 0) ∧ RR S d 154 77 L ((gA (ai_look L 0)) :: st) h Q) := r154_76.trans (kA_eq _ _)
theorem q154_77 {a : Nat} : RR S d 154 77 L (.ref a :: st) h Q = ((ai_fld h a 10 39).isSome = true ∧ RR S d 154 80 L ((ai_fld h a 10 39).getD .null :: st) h Q) := r154_77.trans (kO_eq Value.null _ _)
theorem q154_80 : RR S d 154 80 L st h Q = (iI (ai_look L 1) ∧ RR S d 154 81 L (.int (gI (ai_look L 1)) :: st) h Q) := r154_80.trans (kI_eq _ _)
theorem q154_82 {x y : Int32} {a : Nat} : RR S d 154 82 L (.int y :: .int x :: .ref a :: st) h Q = ((ai_arr h a 0).isSome = true ∧ ¬ (x < 0 ∨ ((ai_arr h a 0).getD (0, fun _ => 0)).1 ≤ x.toNatClampNeg) ∧ RR S d 154 83 L st (h.1.set a (.inl (0, ((ai_arr h a 0).getD (0, fun _ => 0)).1, .inl (upd ((ai_arr h a 0).getD (0, fun _ => 0)).2 x.toNatClampNeg y))), h.2) Q) := r154_82.trans (kO_in (0, fun _ => 0) _ (fun q => q.1) _ _)
theorem q154_83 : RR S d 154 83 L st h Q = (iI (ai_look L 1) ∧ RR S d 154 86 (ai_put 1 (.int ((gI (ai_look L 1)) + 1)) L) st h Q) := r154_83.trans (kI_eq _ _)
theorem q154_91 : RR S d 154 91 L st h Q = (iI (ai_look L 1) ∧ RR S d 154 92 L (.int (gI (ai_look L 1)) :: st) h Q) := r154_91.trans (kI_eq _ _)
theorem q154_97 : RR S d 154 97 L st h Q = (iA (ai_look L 0) ∧ RR S d 154 98 L ((gA (ai_look L 0)) :: st) h Q) := r154_97.trans (kA_eq _ _)
theorem q154_98 {a : Nat} : RR S d 154 98 L (.ref a :: st) h Q = ((ai_fld h a 10 40).isSome = true ∧ RR S d 154 101 L ((ai_fld h a 10 40).getD .null :: st) h Q) := r154_98.trans (kO_eq Value.null _ _)
theorem q154_101 : RR S d 154 101 L st h Q = (iI (ai_look L 1) ∧ RR S d 154 102 L (.int (gI (ai_look L 1)) :: st) h Q) := r154_101.trans (kI_eq _ _)
theorem q154_103 {x y : Int32} {a : Nat} : RR S d 154 103 L (.int y :: .int x :: .ref a :: st) h Q = ((ai_arr h a 0).isSome = true ∧ ¬ (x < 0 ∨ ((ai_arr h a 0).getD (0, fun _ => 0)).1 ≤ x.toNatClampNeg) ∧ RR S d 154 104 L st (h.1.set a (.inl (0, ((ai_arr h a 0).getD (0, fun _ => 0)).1, .inl (upd ((ai_arr h a 0).getD (0, fun _ => 0)).2 x.toNatClampNeg y))), h.2) Q) := r154_103.trans (kO_in (0, fun _ => 0) _ (fun q => q.1) _ _)
theorem q154_104 : RR S d 154 104 L st h Q = (iA (ai_look L 0) ∧ RR S d 154 105 L ((gA (ai_look L 0)) :: st) h Q) := r154_104.trans (kA_eq _ _)
theorem q154_105 {a : Nat} : RR S d 154 105 L (.ref a :: st) h Q = ((ai_fld h a 10 41).isSome = true ∧ RR S d 154 108 L ((ai_fld h a 10 41).getD .null :: st) h Q) := r154_105.trans (kO_eq Value.null _ _)
theorem q154_108 : RR S d 154 108 L st h Q = (iI (ai_look L 1) ∧ RR S d 154 109 L (.int (gI (ai_look L 1)) :: st) h Q) := r154_108.trans (kI_eq _ _)
theorem q154_110 {x y : Int32} {a : Nat} : RR S d 154 110 L (.int y :: .int x :: .ref a :: st) h Q = ((ai_arr h a 0).isSome = true ∧ ¬ (x < 0 ∨ ((ai_arr h a 0).getD (0, fun _ => 0)).1 ≤ x.toNatClampNeg) ∧ RR S d 154 111 L st (h.1.set a (.inl (0, ((ai_arr h a 0).getD (0, fun _ => 0)).1, .inl (upd ((ai_arr h a 0).getD (0, fun _ => 0)).2 x.toNatClampNeg y))), h.2) Q) := r154_110.trans (kO_in (0, fun _ => 0) _ (fun q => q.1) _ _)
theorem q154_111 : RR S d 154 111 L st h Q = (iI (ai_look L 1) ∧ RR S d 154 114 (ai_put 1 (.int ((gI (ai_look L 1)) + 1)) L) st h Q) := r154_111.trans (kI_eq _ _)
theorem q154_119 : RR S d 154 119 L st h Q = (iI (ai_look L 1) ∧ RR S d 154 120 L (.int (gI (ai_look L 1)) :: st) h Q) := r154_119.trans (kI_eq _ _)
theorem q154_128 : RR S d 154 128 L st h Q = (iI (ai_look L 2) ∧ RR S d 154 129 L (.int (gI (ai_look L 2)) :: st) h Q) := r154_128.trans (kI_eq _ _)
theorem q154_129 : RR S d 154 129 L st h Q = (iA (ai_look L 0) ∧ RR S d 154 130 L ((gA (ai_look L 0)) :: st) h Q) := r154_129.trans (kA_eq _ _)
theorem q154_130 {a : Nat} : RR S d 154 130 L (.ref a :: st) h Q = ((ai_fld h a 10 3).isSome = true ∧ RR S d 154 133 L ((ai_fld h a 10 3).getD .null :: st) h Q) := r154_130.trans (kO_eq Value.null _ _)
theorem q154_136 : RR S d 154 136 L st h Q = (iA (ai_look L 0) ∧ RR S d 154 137 L ((gA (ai_look L 0)) :: st) h Q) := r154_136.trans (kA_eq _ _)
theorem q154_137 : RR S d 154 137 L st h Q = (iI (ai_look L 2) ∧ RR S d 154 138 L (.int (gI (ai_look L 2)) :: st) h Q) := r154_137.trans (kI_eq _ _)
theorem q154_138 : RR S d 154 138 L st h Q = (iI (ai_look L 1) ∧ RR S d 154 139 L (.int (gI (ai_look L 1)) :: st) h Q) := r154_138.trans (kI_eq _ _)
theorem q154_139 {p0 : Int32} {p1 : Int32} {a : Nat} : RR S (d + 1) 154 139 L (.int p1 :: .int p0 :: .ref a :: st) h Q = (ai_sum st ≤ 8 ∧ (ai_obj h a 10).isSome = true ∧ RR S d 155 0 [(0, .ref a), (1, .int p0), (2, .int p1)] [] h (kc S d 154 142 L st Q)) := r154_139.trans (kB_cv _ _ _)
theorem q154_142 : RR S d 154 142 L st h Q = (iI (ai_look L 2) ∧ RR S d 154 145 (ai_put 2 (.int ((gI (ai_look L 2)) + 1)) L) st h Q) := r154_142.trans (kI_eq _ _)
theorem q154_148 : RR S d 154 148 L st h Q = (iI (ai_look L 1) ∧ RR S d 154 151 (ai_put 1 (.int ((gI (ai_look L 1)) + 1)) L) st h Q) := r154_148.trans (kI_eq _ _)
theorem q155_8 : RR S d 155 8 L st h Q = (iI (ai_look L 5) ∧ RR S d 155 10 L (.int (gI (ai_look L 5)) :: st) h Q) := r155_8.trans (kI_eq _ _)
theorem q155_10 : RR S d 155 10 L st h Q = (iA (ai_look L 0) ∧ RR S d 155 11 L ((gA (ai_look L 0)) :: st) h Q) := r155_10.trans (kA_eq _ _)
theorem q155_11 {a : Nat} : RR S d 155 11 L (.ref a :: st) h Q = ((ai_fld h a 10 22).isSome = true ∧ RR S d 155 14 L ((ai_fld h a 10 22).getD .null :: st) h Q) := r155_11.trans (kO_eq Value.null _ _)
theorem q155_17 : RR S d 155 17 L st h Q = (iA (ai_look L 0) ∧ RR S d 155 18 L ((gA (ai_look L 0)) :: st) h Q) := r155_17.trans (kA_eq _ _)
theorem q155_18 {a : Nat} : RR S d 155 18 L (.ref a :: st) h Q = ((ai_fld h a 10 39).isSome = true ∧ RR S d 155 21 L ((ai_fld h a 10 39).getD .null :: st) h Q) := r155_18.trans (kO_eq Value.null _ _)
theorem q155_21 : RR S d 155 21 L st h Q = (iI (ai_look L 5) ∧ RR S d 155 23 L (.int (gI (ai_look L 5)) :: st) h Q) := r155_21.trans (kI_eq _ _)
theorem q155_23 {x : Int32} {a : Nat} : RR S d 155 23 L (.int x :: .ref a :: st) h Q = ((ai_arr h a 0).isSome = true ∧ ¬ (x < 0 ∨ ((ai_arr h a 0).getD (0, fun _ => 0)).1 ≤ x.toNatClampNeg) ∧ RR S d 155 24 L (.int (((ai_arr h a 0).getD (0, fun _ => 0)).2 x.toNatClampNeg) :: st) h Q) := r155_23.trans (kO_in (0, fun _ => 0) _ (fun q => q.1) _ _)
theorem q155_24 : RR S d 155 24 L st h Q = (iA (ai_look L 0) ∧ RR S d 155 25 L ((gA (ai_look L 0)) :: st) h Q) := r155_24.trans (kA_eq _ _)
theorem q155_25 {a : Nat} : RR S d 155 25 L (.ref a :: st) h Q = ((ai_fld h a 10 25).isSome = true ∧ RR S d 155 28 L ((ai_fld h a 10 25).getD .null :: st) h Q) := r155_25.trans (kO_eq Value.null _ _)
theorem q155_28 : RR S d 155 28 L st h Q = (iI (ai_look L 5) ∧ RR S d 155 30 L (.int (gI (ai_look L 5)) :: st) h Q) := r155_28.trans (kI_eq _ _)
theorem q155_30 {x : Int32} {a : Nat} : RR S d 155 30 L (.int x :: .ref a :: st) h Q = ((ai_arr h a 0).isSome = true ∧ ¬ (x < 0 ∨ ((ai_arr h a 0).getD (0, fun _ => 0)).1 ≤ x.toNatClampNeg) ∧ RR S d 155 31 L (.int (((ai_arr h a 0).getD (0, fun _ => 0)).2 x.toNatClampNeg) :: st) h Q) := r155_30.trans (kO_in (0, fun _ => 0) _ (fun q => q.1) _ _)
theorem q155_34 : RR S d 155 34 L st h Q = (iA (ai_look L 0) ∧ RR S d 155 35 L ((gA (ai_look L 0)) :: st) h Q) := r155_34.trans (kA_eq _ _)
theorem q155_35 {a : Nat} : RR S d 155 35 L (.ref a :: st) h Q = ((ai_fld h a 10 26).isSome = true ∧ RR S d 155 38 L ((ai_fld h a 10 26).getD .null :: st) h Q) := r155_35.trans (kO_eq Value.null _ _)
theorem q155_39 : RR S d 155 39 L st h Q = (iI (ai_look L 5) ∧ RR S d 155 41 L (.int (gI (ai_look L 5)) :: st) h Q) := r155_39.trans (kI_eq _ _)
theorem q155_42 : RR S d 155 42 L st h Q = (iA (ai_look L 0) ∧ RR S d 155 43 L ((gA (ai_look L 0)) :: st) h Q) := r155_42.trans (kA_eq _ _)
theorem q155_43 {a : Nat} : RR S d 155 43 L (.ref a :: st) h Q = ((ai_fld h a 10 39).isSome = true ∧ RR S d 155 46 L ((ai_fld h a 10 39).getD .null :: st) h Q) := r155_43.trans (kO_eq Value.null _ _)
theorem q155_46 : RR S d 155 46 L st h Q = (iI (ai_look L 5) ∧ RR S d 155 48 L (.int (gI (ai_look L 5)) :: st) h Q) := r155_46.trans (kI_eq _ _)
theorem q155_48 {x : Int32} {a : Nat} : RR S d 155 48 L (.int x :: .ref a :: st) h Q = ((ai_arr h a 0).isSome = true ∧ ¬ (x < 0 ∨ ((ai_arr h a 0).getD (0, fun _ => 0)).1 ≤ x.toNatClampNeg) ∧ RR S d 155 49 L (.int (((ai_arr h a 0).getD (0, fun _ => 0)).2 x.toNatClampNeg) :: st) h Q) := r155_48.trans (kO_in (0, fun _ => 0) _ (fun q => q.1) _ _)
theorem q155_50 {x : Int32} {a : Nat} : RR S d 155 50 L (.int x :: .ref a :: st) h Q = ((ai_arr h a 0).isSome = true ∧ ¬ (x < 0 ∨ ((ai_arr h a 0).getD (0, fun _ => 0)).1 ≤ x.toNatClampNeg) ∧ RR S d 155 51 L (.int (((ai_arr h a 0).getD (0, fun _ => 0)).2 x.toNatClampNeg) :: st) h Q) := r155_50.trans (kO_in (0, fun _ => 0) _ (fun q => q.1) _ _)
theorem q155_51 : RR S d 155 51 L st h Q = (iI (ai_look L 1) ∧ RR S d 155 52 L (.int (gI (ai_look L 1)) :: st) h Q) := r155_51.trans (kI_eq _ _)
theorem q155_55 : RR S d 155 55 L st h Q = (iA (ai_look L 0) ∧ RR S d 155 56 L ((gA (ai_look L 0)) :: st) h Q) := r155_55.trans (kA_eq _ _)
theorem q155_56 {a : Nat} : RR S d 155 56 L (.ref a :: st) h Q = ((ai_fld h a 10 36).isSome = true ∧ RR S d 155 59 L ((ai_fld h a 10 36).getD .null :: st) h Q) := r155_56.trans (kO_eq Value.null _ _)
theorem q155_60 : RR S d 155 60 L st h Q = (iI (ai_look L 5) ∧ RR S d 155 62 L (.int (gI (ai_look L 5)) :: st) h Q) := r155_60.trans (kI_eq _ _)
theorem q155_63 : RR S d 155 63 L st h Q = (iA (ai_look L 0) ∧ RR S d 155 64 L ((gA (ai_look L 0)) :: st) h Q) := r155_63.trans (kA_eq _ _)
theorem q155_64 {a : Nat} : RR S d 155 64 L (.ref a :: st) h Q = ((ai_fld h a 10 39).isSome = true ∧ RR S d 155 67 L ((ai_fld h a 10 39).getD .null :: st) h Q) := r155_64.trans (kO_eq Value.null _ _)
theorem q155_67 : RR S d 155 67 L st h Q = (iI (ai_look L 5) ∧ RR S d 155 69 L (.int (gI (ai_look L 5)) :: st) h Q) := r155_67.trans (kI_eq _ _)
theorem q155_69 {x : Int32} {a : Nat} : RR S d 155 69 L (.int x :: .ref a :: st) h Q = ((ai_arr h a 0).isSome = true ∧ ¬ (x < 0 ∨ ((ai_arr h a 0).getD (0, fun _ => 0)).1 ≤ x.toNatClampNeg) ∧ RR S d 155 70 L (.int (((ai_arr h a 0).getD (0, fun _ => 0)).2 x.toNatClampNeg) :: st) h Q) := r155_69.trans (kO_in (0, fun _ => 0) _ (fun q => q.1) _ _)
theorem q155_71 {x : Int32} {a : Nat} : RR S d 155 71 L (.int x :: .ref a :: st) h Q = ((ai_arr h a 0).isSome = true ∧ ¬ (x < 0 ∨ ((ai_arr h a 0).getD (0, fun _ => 0)).1 ≤ x.toNatClampNeg) ∧ RR S d 155 72 L (.int (((ai_arr h a 0).getD (0, fun _ => 0)).2 x.toNatClampNeg) :: st) h Q) := r155_71.trans (kO_in (0, fun _ => 0) _ (fun q => q.1) _ _)
theorem q155_72 : RR S d 155 72 L st h Q = (iI (ai_look L 2) ∧ RR S d 155 73 L (.int (gI (ai_look L 2)) :: st) h Q) := r155_72.trans (kI_eq _ _)
theorem q155_83 : RR S d 155 83 L st h Q = (iI (ai_look L 6) ∧ RR S d 155 85 L (.int (gI (ai_look L 6)) :: st) h Q) := r155_83.trans (kI_eq _ _)
theorem q155_88 : RR S d 155 88 L st h Q = (iI (ai_look L 4) ∧ RR S d 155 91 (ai_put 4 (.int ((gI (ai_look L 4)) + 1)) L) st h Q) := r155_88.trans (kI_eq _ _)
theorem q155_91 : RR S d 155 91 L st h Q = (iI (ai_look L 3) ∧ RR S d 155 92 L (.int (gI (ai_look L 3)) :: st) h Q) := r155_91.trans (kI_eq _ _)
theorem q155_95 : RR S d 155 95 L st h Q = (iA (ai_look L 0) ∧ RR S d 155 96 L ((gA (ai_look L 0)) :: st) h Q) := r155_95.trans (kA_eq _ _)
theorem q155_96 {a : Nat} : RR S d 155 96 L (.ref a :: st) h Q = ((ai_fld h a 10 36).isSome = true ∧ RR S d 155 99 L ((ai_fld h a 10 36).getD .null :: st) h Q) := r155_96.trans (kO_eq Value.null _ _)
theorem q155_100 : RR S d 155 100 L st h Q = (iI (ai_look L 5) ∧ RR S d 155 102 L (.int (gI (ai_look L 5)) :: st) h Q) := r155_100.trans (kI_eq _ _)
theorem q155_103 : RR S d 155 103 L st h Q = (iA (ai_look L 0) ∧ RR S d 155 104 L ((gA (ai_look L 0)) :: st) h Q) := r155_103.trans (kA_eq _ _)
theorem q155_104 {a : Nat} : RR S d 155 104 L (.ref a :: st) h Q = ((ai_fld h a 10 39).isSome = true ∧ RR S d 155 107 L ((ai_fld h a 10 39).getD .null :: st) h Q) := r155_104.trans (kO_eq Value.null _ _)
theorem q155_107 : RR S d 155 107 L st h Q = (iI (ai_look L 5) ∧ RR S d 155 109 L (.int (gI (ai_look L 5)) :: st) h Q) := r155_107.trans (kI_eq _ _)
theorem q155_109 {x : Int32} {a : Nat} : RR S d 155 109 L (.int x :: .ref a :: st) h Q = ((ai_arr h a 0).isSome = true ∧ ¬ (x < 0 ∨ ((ai_arr h a 0).getD (0, fun _ => 0)).1 ≤ x.toNatClampNeg) ∧ RR S d 155 110 L (.int (((ai_arr h a 0).getD (0, fun _ => 0)).2 x.toNatClampNeg) :: st) h Q) := r155_109.trans (kO_in (0, fun _ => 0) _ (fun q => q.1) _ _)
theorem q155_111 {x : Int32} {a : Nat} : RR S d 155 111 L (.int x :: .ref a :: st) h Q = ((ai_arr h a 0).isSome = true ∧ ¬ (x < 0 ∨ ((ai_arr h a 0).getD (0, fun _ => 0)).1 ≤ x.toNatClampNeg) ∧ RR S d 155 112 L (.int (((ai_arr h a 0).getD (0, fun _ => 0)).2 x.toNatClampNeg) :: st) h Q) := r155_111.trans (kO_in (0, fun _ => 0) _ (fun q => q.1) _ _)
theorem q155_112 : RR S d 155 112 L st h Q = (iA (ai_look L 0) ∧ RR S d 155 113 L ((gA (ai_look L 0)) :: st) h Q) := r155_112.trans (kA_eq _ _)
theorem q155_113 {a : Nat} : RR S d 155 113 L (.ref a :: st) h Q = ((ai_fld h a 10 36).isSome = true ∧ RR S d 155 116 L ((ai_fld h a 10 36).getD .null :: st) h Q) := r155_113.trans (kO_eq Value.null _ _)
theorem q155_117 : RR S d 155 117 L st h Q = (iI (ai_look L 3) ∧ RR S d 155 118 L (.int (gI (ai_look L 3)) :: st) h Q) := r155_117.trans (kI_eq _ _)
theorem q155_119 : RR S d 155 119 L st h Q = (iA (ai_look L 0) ∧ RR S d 155 120 L ((gA (ai_look L 0)) :: st) h Q) := r155_119.trans (kA_eq _ _)
theorem q155_120 {a : Nat} : RR S d 155 120 L (.ref a :: st) h Q = ((ai_fld h a 10 39).isSome = true ∧ RR S d 155 123 L ((ai_fld h a 10 39).getD .null :: st) h Q) := r155_120.trans (kO_eq Value.null _ _)
theorem q155_123 : RR S d 155 123 L st h Q = (iI (ai_look L 3) ∧ RR S d 155 124 L (.int (gI (ai_look L 3)) :: st) h Q) := r155_123.trans (kI_eq _ _)
theorem q155_124 {x : Int32} {a : Nat} : RR S d 155 124 L (.int x :: .ref a :: st) h Q = ((ai_arr h a 0).isSome = true ∧ ¬ (x < 0 ∨ ((ai_arr h a 0).getD (0, fun _ => 0)).1 ≤ x.toNatClampNeg) ∧ RR S d 155 125 L (.int (((ai_arr h a 0).getD (0, fun _ => 0)).2 x.toNatClampNeg) :: st) h Q) := r155_124.trans (kO_in (0, fun _ => 0) _ (fun q => q.1) _ _)
theorem q155_126 {x : Int32} {a : Nat} : RR S d 155 126 L (.int x :: .ref a :: st) h Q = ((ai_arr h a 0).isSome = true ∧ ¬ (x < 0 ∨ ((ai_arr h a 0).getD (0, fun _ => 0)).1 ≤ x.toNatClampNeg) ∧ RR S d 155 127 L (.int (((ai_arr h a 0).getD (0, fun _ => 0)).2 x.toNatClampNeg) :: st) h Q) := r155_126.trans (kO_in (0, fun _ => 0) _ (fun q => q.1) _ _)
theorem q155_130 : RR S d 155 130 L st h Q = (iI (ai_look L 5) ∧ RR S d 155 132 L (.int (gI (ai_look L 5)) :: st) h Q) := r155_130.trans (kI_eq _ _)
theorem q155_135 : RR S d 155 135 L st h Q = (iI (ai_look L 3) ∧ RR S d 155 136 L (.int (gI (ai_look L 3)) :: st) h Q) := r155_135.trans (kI_eq _ _)
theorem q155_137 : RR S d 155 137 L st h Q = (iI (ai_look L 5) ∧ RR S d 155 140 (ai_put 5 (.int ((gI (ai_look L 5)) + 1)) L) st h Q) := r155_137.trans (kI_eq _ _)
theorem q155_143 : RR S d 155 143 L st h Q = (iI (ai_look L 3) ∧ RR S d 155 144 L (.int (gI (ai_look L 3)) :: st) h Q) := r155_143.trans (kI_eq _ _)
theorem q155_147 : RR S d 155 147 L st h Q = (iA (ai_look L 0) ∧ RR S d 155 148 L ((gA (ai_look L 0)) :: st) h Q) := r155_147.trans (kA_eq _ _)
theorem q155_148 {a : Nat} : RR S d 155 148 L (.ref a :: st) h Q = ((ai_fld h a 10 40).isSome = true ∧ RR S d 155 151 L ((ai_fld h a 10 40).getD .null :: st) h Q) := r155_148.trans (kO_eq Value.null _ _)
theorem q155_151 : RR S d 155 151 L st h Q = (iI (ai_look L 1) ∧ RR S d 155 152 L (.int (gI (ai_look L 1)) :: st) h Q) := r155_151.trans (kI_eq _ _)
theorem q155_152 {x : Int32} {a : Nat} : RR S d 155 152 L (.int x :: .ref a :: st) h Q = ((ai_arr h a 0).isSome = true ∧ ¬ (x < 0 ∨ ((ai_arr h a 0).getD (0, fun _ => 0)).1 ≤ x.toNatClampNeg) ∧ RR S d 155 153 L (.int (((ai_arr h a 0).getD (0, fun _ => 0)).2 x.toNatClampNeg) :: st) h Q) := r155_152.trans (kO_in (0, fun _ => 0) _ (fun q => q.1) _ _)
theorem q155_153 : RR S d 155 153 L st h Q = (iI (ai_look L 2) ∧ RR S d 155 154 L (.int (gI (ai_look L 2)) :: st) h Q) := r155_153.trans (kI_eq _ _)
theorem q155_157 : RR S d 155 157 L st h Q = (iA (ai_look L 0) ∧ RR S d 155 158 L ((gA (ai_look L 0)) :: st) h Q) := r155_157.trans (kA_eq _ _)
theorem q155_158 : RR S d 155 158 L st h Q = (iI (ai_look L 1) ∧ RR S d 155 159 L (.int (gI (ai_look L 1)) :: st) h Q) := r155_158.trans (kI_eq _ _)
theorem q155_159 : RR S d 155 159 L st h Q = (iI (ai_look L 2) ∧ RR S d 155 160 L (.int (gI (ai_look L 2)) :: st) h Q) := r155_159.trans (kI_eq _ _)
theorem q155_160 : RR S d 155 160 L st h Q = (iA (ai_look L 0) ∧ RR S d 155 161 L ((gA (ai_look L 0)) :: st) h Q) := r155_160.trans (kA_eq _ _)
theorem q155_161 {a : Nat} : RR S d 155 161 L (.ref a :: st) h Q = ((ai_fld h a 10 2).isSome = true ∧ RR S d 155 164 L ((ai_fld h a 10 2).getD .null :: st) h Q) := r155_161.trans (kO_eq Value.null _ _)
theorem q155_164 : RR S d 155 164 L st h Q = (iA (ai_look L 0) ∧ RR S d 155 165 L ((gA (ai_look L 0)) :: st) h Q) := r155_164.trans (kA_eq _ _)
theorem q155_165 {a : Nat} : RR S d 155 165 L (.ref a :: st) h Q = ((ai_fld h a 10 4).isSome = true ∧ RR S d 155 168 L ((ai_fld h a 10 4).getD .null :: st) h Q) := r155_165.trans (kO_eq Value.null _ _)
theorem q155_168 : RR S d 155 168 L st h Q = (iI (ai_look L 1) ∧ RR S d 155 169 L (.int (gI (ai_look L 1)) :: st) h Q) := r155_168.trans (kI_eq _ _)
theorem q155_169 {x : Int32} {a : Nat} : RR S d 155 169 L (.int x :: .ref a :: st) h Q = ((ai_arr h a 0).isSome = true ∧ ¬ (x < 0 ∨ ((ai_arr h a 0).getD (0, fun _ => 0)).1 ≤ x.toNatClampNeg) ∧ RR S d 155 170 L (.int (((ai_arr h a 0).getD (0, fun _ => 0)).2 x.toNatClampNeg) :: st) h Q) := r155_169.trans (kO_in (0, fun _ => 0) _ (fun q => q.1) _ _)
theorem q155_170 {x : Int32} {a : Nat} : RR S d 155 170 L (.int x :: .ref a :: st) h Q = ((ai_arr h a 0).isSome = true ∧ ¬ (x < 0 ∨ ((ai_arr h a 0).getD (0, fun _ => 0)).1 ≤ x.toNatClampNeg) ∧ RR S d 155 171 L (.int (((ai_arr h a 0).getD (0, fun _ => 0)).2 x.toNatClampNeg) :: st) h Q) := r155_170.trans (kO_in (0, fun _ => 0) _ (fun q => q.1) _ _)
theorem q155_172 : RR S d 155 172 L st h Q = (iA (ai_look L 0) ∧ RR S d 155 173 L ((gA (ai_look L 0)) :: st) h Q) := r155_172.trans (kA_eq _ _)
theorem q155_173 {a : Nat} : RR S d 155 173 L (.ref a :: st) h Q = ((ai_fld h a 10 24).isSome = true ∧ RR S d 155 176 L ((ai_fld h a 10 24).getD .null :: st) h Q) := r155_173.trans (kO_eq Value.null _ _)
theorem q155_176 : RR S d 155 176 L st h Q = (iI (ai_look L 3) ∧ RR S d 155 177 L (.int (gI (ai_look L 3)) :: st) h Q) := r155_176.trans (kI_eq _ _)
theorem q155_177 {x : Int32} {a : Nat} : RR S d 155 177 L (.int x :: .ref a :: st) h Q = ((ai_arr h a 0).isSome = true ∧ ¬ (x < 0 ∨ ((ai_arr h a 0).getD (0, fun _ => 0)).1 ≤ x.toNatClampNeg) ∧ RR S d 155 178 L (.int (((ai_arr h a 0).getD (0, fun _ => 0)).2 x.toNatClampNeg) :: st) h Q) := r155_177.trans (kO_in (0, fun _ => 0) _ (fun q => q.1) _ _)
theorem q155_178 : RR S d 155 178 L st h Q = (iA (ai_look L 0) ∧ RR S d 155 179 L ((gA (ai_look L 0)) :: st) h Q) := r155_178.trans (kA_eq _ _)
theorem q155_179 {a : Nat} : RR S d 155 179 L (.ref a :: st) h Q = ((ai_fld h a 10 7).isSome = true ∧ RR S d 155 182 L ((ai_fld h a 10 7).getD .null :: st) h Q) := r155_179.trans (kO_eq Value.null _ _)
theorem q155_182 : RR S d 155 182 L st h Q = (iI (ai_look L 1) ∧ RR S d 155 183 L (.int (gI (ai_look L 1)) :: st) h Q) := r155_182.trans (kI_eq _ _)
theorem q155_183 {x : Int32} {a : Nat} : RR S d 155 183 L (.int x :: .ref a :: st) h Q = ((ai_arr h a 0).isSome = true ∧ ¬ (x < 0 ∨ ((ai_arr h a 0).getD (0, fun _ => 0)).1 ≤ x.toNatClampNeg) ∧ RR S d 155 184 L (.int (((ai_arr h a 0).getD (0, fun _ => 0)).2 x.toNatClampNeg) :: st) h Q) := r155_183.trans (kO_in (0, fun _ => 0) _ (fun q => q.1) _ _)
theorem q155_185 {p0 : Int32} {p1 : Int32} {p2 : Int32} {a : Nat} : RR S (d + 1) 155 185 L (.int p2 :: .int p1 :: .int p0 :: .ref a :: st) h Q = (ai_sum st ≤ 8 ∧ (ai_obj h a 10).isSome = true ∧ RR S d 146 0 [(0, .ref a), (1, .int p0), (2, .int p1), (3, .int p2)] [] h (kc S d 155 188 L st Q)) := r155_185.trans (kB_cv _ _ _)
theorem q155_191 : RR S d 155 191 L st h Q = (iA (ai_look L 0) ∧ RR S d 155 192 L ((gA (ai_look L 0)) :: st) h Q) := r155_191.trans (kA_eq _ _)
theorem q155_192 : RR S d 155 192 L st h Q = (iI (ai_look L 3) ∧ RR S d 155 193 L (.int (gI (ai_look L 3)) :: st) h Q) := r155_192.trans (kI_eq _ _)
theorem q155_193 : RR S d 155 193 L st h Q = (iI (ai_look L 1) ∧ RR S d 155 194 L (.int (gI (ai_look L 1)) :: st) h Q) := r155_193.trans (kI_eq _ _)
theorem q155_194 : RR S d 155 194 L st h Q = (iI (ai_look L 2) ∧ RR S d 155 195 L (.int (gI (ai_look L 2)) :: st) h Q) := r155_194.trans (kI_eq _ _)
theorem q155_195 {p0 : Int32} {p1 : Int32} {p2 : Int32} {a : Nat} : RR S (d + 1) 155 195 L (.int p2 :: .int p1 :: .int p0 :: .ref a :: st) h Q = (ai_sum st ≤ 8 ∧ (ai_obj h a 10).isSome = true ∧ RR S d 156 0 [(0, .ref a), (1, .int p0), (2, .int p1), (3, .int p2)] [] h (kc S d 155 198 L st Q)) := r155_195.trans (kB_cv _ _ _)
theorem q155_198 : RR S d 155 198 L st h Q = (iI (ai_look L 4) ∧ RR S d 155 201 (ai_put 4 (.int ((gI (ai_look L 4)) + (-1))) L) st h Q) := r155_198.trans (kI_eq _ _)
theorem q155_201 : RR S d 155 201 L st h Q = (iA (ai_look L 0) ∧ RR S d 155 202 L ((gA (ai_look L 0)) :: st) h Q) := r155_201.trans (kA_eq _ _)
theorem q155_202 {a : Nat} : RR S d 155 202 L (.ref a :: st) h Q = ((ai_fld h a 10 41).isSome = true ∧ RR S d 155 205 L ((ai_fld h a 10 41).getD .null :: st) h Q) := r155_202.trans (kO_eq Value.null _ _)
theorem q155_205 : RR S d 155 205 L st h Q = (iI (ai_look L 1) ∧ RR S d 155 206 L (.int (gI (ai_look L 1)) :: st) h Q) := r155_205.trans (kI_eq _ _)
theorem q155_206 : RR S d 155 206 L st h Q = (iI (ai_look L 4) ∧ RR S d 155 208 L (.int (gI (ai_look L 4)) :: st) h Q) := r155_206.trans (kI_eq _ _)
theorem q155_208 : RR S d 155 208 L st h Q = (iA (ai_look L 0) ∧ RR S d 155 209 L ((gA (ai_look L 0)) :: st) h Q) := r155_208.trans (kA_eq _ _)
theorem q155_209 {a : Nat} : RR S d 155 209 L (.ref a :: st) h Q = ((ai_fld h a 10 41).isSome = true ∧ RR S d 155 212 L ((ai_fld h a 10 41).getD .null :: st) h Q) := r155_209.trans (kO_eq Value.null _ _)
theorem q155_212 : RR S d 155 212 L st h Q = (iI (ai_look L 1) ∧ RR S d 155 213 L (.int (gI (ai_look L 1)) :: st) h Q) := r155_212.trans (kI_eq _ _)
theorem q155_213 {x : Int32} {a : Nat} : RR S d 155 213 L (.int x :: .ref a :: st) h Q = ((ai_arr h a 0).isSome = true ∧ ¬ (x < 0 ∨ ((ai_arr h a 0).getD (0, fun _ => 0)).1 ≤ x.toNatClampNeg) ∧ RR S d 155 214 L (.int (((ai_arr h a 0).getD (0, fun _ => 0)).2 x.toNatClampNeg) :: st) h Q) := r155_213.trans (kO_in (0, fun _ => 0) _ (fun q => q.1) _ _)
theorem q155_217 : RR S d 155 217 L st h Q = (iI (ai_look L 4) ∧ RR S d 155 219 L (.int (gI (ai_look L 4)) :: st) h Q) := r155_217.trans (kI_eq _ _)
theorem q155_222 : RR S d 155 222 L st h Q = (iA (ai_look L 0) ∧ RR S d 155 223 L ((gA (ai_look L 0)) :: st) h Q) := r155_222.trans (kA_eq _ _)
theorem q155_223 {a : Nat} : RR S d 155 223 L (.ref a :: st) h Q = ((ai_fld h a 10 41).isSome = true ∧ RR S d 155 226 L ((ai_fld h a 10 41).getD .null :: st) h Q) := r155_223.trans (kO_eq Value.null _ _)
theorem q155_226 : RR S d 155 226 L st h Q = (iI (ai_look L 1) ∧ RR S d 155 227 L (.int (gI (ai_look L 1)) :: st) h Q) := r155_226.trans (kI_eq _ _)
theorem q155_227 {x : Int32} {a : Nat} : RR S d 155 227 L (.int x :: .ref a :: st) h Q = ((ai_arr h a 0).isSome = true ∧ ¬ (x < 0 ∨ ((ai_arr h a 0).getD (0, fun _ => 0)).1 ≤ x.toNatClampNeg) ∧ RR S d 155 228 L (.int (((ai_arr h a 0).getD (0, fun _ => 0)).2 x.toNatClampNeg) :: st) h Q) := r155_227.trans (kO_in (0, fun _ => 0) _ (fun q => q.1) _ _)
theorem q155_228 {x y : Int32} {a : Nat} : RR S d 155 228 L (.int y :: .int x :: .ref a :: st) h Q = ((ai_arr h a 0).isSome = true ∧ ¬ (x < 0 ∨ ((ai_arr h a 0).getD (0, fun _ => 0)).1 ≤ x.toNatClampNeg) ∧ RR S d 155 229 L st (h.1.set a (.inl (0, ((ai_arr h a 0).getD (0, fun _ => 0)).1, .inl (upd ((ai_arr h a 0).getD (0, fun _ => 0)).2 x.toNatClampNeg y))), h.2) Q) := r155_228.trans (kO_in (0, fun _ => 0) _ (fun q => q.1) _ _)
theorem q156_0 : RR S d 156 0 L st h Q = (iA (ai_look L 0) ∧ RR S d 156 1 L ((gA (ai_look L 0)) :: st) h Q) := r156_0.trans (kA_eq _ _)
theorem q156_1 {a : Nat} : RR S d 156 1 L (.ref a :: st) h Q = ((ai_fld h a 10 24).isSome = true ∧ RR S d 156 4 L ((ai_fld h a 10 24).getD .null :: st) h Q) := r156_1.trans (kO_eq Value.null _ _)
theorem q156_4 : RR S d 156 4 L st h Q = (iI (ai_look L 1) ∧ RR S d 156 5 L (.int (gI (ai_look L 1)) :: st) h Q) := r156_4.trans (kI_eq _ _)
theorem q156_5 {x : Int32} {a : Nat} : RR S d 156 5 L (.int x :: .ref a :: st) h Q = ((ai_arr h a 0).isSome = true ∧ ¬ (x < 0 ∨ ((ai_arr h a 0).getD (0, fun _ => 0)).1 ≤ x.toNatClampNeg) ∧ RR S d 156 6 L (.int (((ai_arr h a 0).getD (0, fun _ => 0)).2 x.toNatClampNeg) :: st) h Q) := r156_5.trans (kO_in (0, fun _ => 0) _ (fun q => q.1) _ _)
theorem q156_6 : RR S d 156 6 L st h Q = (iA (ai_look L 0) ∧ RR S d 156 7 L ((gA (ai_look L 0)) :: st) h Q) := r156_6.trans (kA_eq _ _)
theorem q156_7 {a : Nat} : RR S d 156 7 L (.ref a :: st) h Q = ((ai_fld h a 10 7).isSome = true ∧ RR S d 156 10 L ((ai_fld h a 10 7).getD .null :: st) h Q) := r156_7.trans (kO_eq Value.null _ _)
theorem q156_10 : RR S d 156 10 L st h Q = (iI (ai_look L 2) ∧ RR S d 156 11 L (.int (gI (ai_look L 2)) :: st) h Q) := r156_10.trans (kI_eq _ _)
theorem q156_11 {x : Int32} {a : Nat} : RR S d 156 11 L (.int x :: .ref a :: st) h Q = ((ai_arr h a 0).isSome = true ∧ ¬ (x < 0 ∨ ((ai_arr h a 0).getD (0, fun _ => 0)).1 ≤ x.toNatClampNeg) ∧ RR S d 156 12 L (.int (((ai_arr h a 0).getD (0, fun _ => 0)).2 x.toNatClampNeg) :: st) h Q) := r156_11.trans (kO_in (0, fun _ => 0) _ (fun q => q.1) _ _)
theorem q156_15 : RR S d 156 15 L st h Q = (iA (ai_look L 0) ∧ RR S d 156 16 L ((gA (ai_look L 0)) :: st) h Q) := r156_15.trans (kA_eq _ _)
theorem q156_16 {a : Nat} : RR S d 156 16 L (.ref a :: st) h Q = ((ai_fld h a 10 37).isSome = true ∧ RR S d 156 19 L ((ai_fld h a 10 37).getD .null :: st) h Q) := r156_16.trans (kO_eq Value.null _ _)
theorem q156_20 : RR S d 156 20 L st h Q = (iI (ai_look L 1) ∧ RR S d 156 21 L (.int (gI (ai_look L 1)) :: st) h Q) := r156_20.trans (kI_eq _ _)
theorem q156_22 : RR S d 156 22 L st h Q = (iA (ai_look L 0) ∧ RR S d 156 23 L ((gA (ai_look L 0)) :: st) h Q) := r156_22.trans (kA_eq _ _)
theorem q156_23 {a : Nat} : RR S d 156 23 L (.ref a :: st) h Q = ((ai_fld h a 10 39).isSome = true ∧ RR S d 156 26 L ((ai_fld h a 10 39).getD .null :: st) h Q) := r156_23.trans (kO_eq Value.null _ _)
theorem q156_26 : RR S d 156 26 L st h Q = (iI (ai_look L 1) ∧ RR S d 156 27 L (.int (gI (ai_look L 1)) :: st) h Q) := r156_26.trans (kI_eq _ _)
theorem q156_27 {x : Int32} {a : Nat} : RR S d 156 27 L (.int x :: .ref a :: st) h Q = ((ai_arr h a 0).isSome = true ∧ ¬ (x < 0 ∨ ((ai_arr h a 0).getD (0, fun _ => 0)).1 ≤ x.toNatClampNeg) ∧ RR S d 156 28 L (.int (((ai_arr h a 0).getD (0, fun _ => 0)).2 x.toNatClampNeg) :: st) h Q) := r156_27.trans (kO_in (0, fun _ => 0) _ (fun q => q.1) _ _)
theorem q156_29 : RR S d 156 29 L st h Q = (iI (ai_look L 3) ∧ RR S d 156 30 L (.int (gI (ai_look L 3)) :: st) h Q) := r156_29.trans (kI_eq _ _)
theorem q156_30 {x y : Int32} {a : Nat} : RR S d 156 30 L (.int y :: .int x :: .ref a :: st) h Q = ((ai_arr h a 0).isSome = true ∧ ¬ (x < 0 ∨ ((ai_arr h a 0).getD (0, fun _ => 0)).1 ≤ x.toNatClampNeg) ∧ RR S d 156 31 L st (h.1.set a (.inl (0, ((ai_arr h a 0).getD (0, fun _ => 0)).1, .inl (upd ((ai_arr h a 0).getD (0, fun _ => 0)).2 x.toNatClampNeg y))), h.2) Q) := r156_30.trans (kO_in (0, fun _ => 0) _ (fun q => q.1) _ _)
theorem q156_31 : RR S d 156 31 L st h Q = (iA (ai_look L 0) ∧ RR S d 156 32 L ((gA (ai_look L 0)) :: st) h Q) := r156_31.trans (kA_eq _ _)
theorem q156_32 {a : Nat} : RR S d 156 32 L (.ref a :: st) h Q = ((ai_fld h a 10 40).isSome = true ∧ RR S d 156 35 L ((ai_fld h a 10 40).getD .null :: st) h Q) := r156_32.trans (kO_eq Value.null _ _)
theorem q156_35 : RR S d 156 35 L st h Q = (iI (ai_look L 2) ∧ RR S d 156 36 L (.int (gI (ai_look L 2)) :: st) h Q) := r156_35.trans (kI_eq _ _)
theorem q156_36 : RR S d 156 36 L st h Q = (iI (ai_look L 3) ∧ RR S d 156 37 L (.int (gI (ai_look L 3)) :: st) h Q) := r156_36.trans (kI_eq _ _)
theorem q156_37 : RR S d 156 37 L st h Q = (iI (ai_look L 4) ∧ RR S d 156 39 L (.int (gI (ai_look L 4)) :: st) h Q) := r156_37.trans (kI_eq _ _)
theorem q156_40 {x y : Int32} {a : Nat} : RR S d 156 40 L (.int y :: .int x :: .ref a :: st) h Q = ((ai_arr h a 0).isSome = true ∧ ¬ (x < 0 ∨ ((ai_arr h a 0).getD (0, fun _ => 0)).1 ≤ x.toNatClampNeg) ∧ RR S d 156 41 L st (h.1.set a (.inl (0, ((ai_arr h a 0).getD (0, fun _ => 0)).1, .inl (upd ((ai_arr h a 0).getD (0, fun _ => 0)).2 x.toNatClampNeg y))), h.2) Q) := r156_40.trans (kO_in (0, fun _ => 0) _ (fun q => q.1) _ _)
theorem q156_41 : RR S d 156 41 L st h Q = (iA (ai_look L 0) ∧ RR S d 156 42 L ((gA (ai_look L 0)) :: st) h Q) := r156_41.trans (kA_eq _ _)
theorem q156_42 {a : Nat} : RR S d 156 42 L (.ref a :: st) h Q = ((ai_fld h a 10 39).isSome = true ∧ RR S d 156 45 L ((ai_fld h a 10 39).getD .null :: st) h Q) := r156_42.trans (kO_eq Value.null _ _)
theorem q156_45 : RR S d 156 45 L st h Q = (iI (ai_look L 1) ∧ RR S d 156 46 L (.int (gI (ai_look L 1)) :: st) h Q) := r156_45.trans (kI_eq _ _)
theorem q156_46 {x : Int32} {a : Nat} : RR S d 156 46 L (.int x :: .ref a :: st) h Q = RR S d 156 47 L (.int x :: .ref a :: .int x :: .ref a :: st) h Q := r156_46 rfl rfl
theorem q156_47 {x : Int32} {a : Nat} : RR S d 156 47 L (.int x :: .ref a :: st) h Q = ((ai_arr h a 0).isSome = true ∧ ¬ (x < 0 ∨ ((ai_arr h a 0).getD (0, fun _ => 0)).1 ≤ x.toNatClampNeg) ∧ RR S d 156 48 L (.int (((ai_arr h a 0).getD (0, fun _ => 0)).2 x.toNatClampNeg) :: st) h Q) := r156_47.trans (kO_in (0, fun _ => 0) _ (fun q => q.1) _ _)
theorem q156_50 {x y : Int32} {a : Nat} : RR S d 156 50 L (.int y :: .int x :: .ref a :: st) h Q = ((ai_arr h a 0).isSome = true ∧ ¬ (x < 0 ∨ ((ai_arr h a 0).getD (0, fun _ => 0)).1 ≤ x.toNatClampNeg) ∧ RR S d 156 51 L st (h.1.set a (.inl (0, ((ai_arr h a 0).getD (0, fun _ => 0)).1, .inl (upd ((ai_arr h a 0).getD (0, fun _ => 0)).2 x.toNatClampNeg y))), h.2) Q) := r156_50.trans (kO_in (0, fun _ => 0) _ (fun q => q.1) _ _)
theorem q156_51 : RR S d 156 51 L st h Q = (iA (ai_look L 0) ∧ RR S d 156 52 L ((gA (ai_look L 0)) :: st) h Q) := r156_51.trans (kA_eq _ _)
theorem q156_52 {a : Nat} : RR S d 156 52 L (.ref a :: st) h Q = ((ai_fld h a 10 39).isSome = true ∧ RR S d 156 55 L ((ai_fld h a 10 39).getD .null :: st) h Q) := r156_52.trans (kO_eq Value.null _ _)
theorem q156_55 : RR S d 156 55 L st h Q = (iI (ai_look L 1) ∧ RR S d 156 56 L (.int (gI (ai_look L 1)) :: st) h Q) := r156_55.trans (kI_eq _ _)
theorem q156_56 {x : Int32} {a : Nat} : RR S d 156 56 L (.int x :: .ref a :: st) h Q = ((ai_arr h a 0).isSome = true ∧ ¬ (x < 0 ∨ ((ai_arr h a 0).getD (0, fun _ => 0)).1 ≤ x.toNatClampNeg) ∧ RR S d 156 57 L (.int (((ai_arr h a 0).getD (0, fun _ => 0)).2 x.toNatClampNeg) :: st) h Q) := r156_56.trans (kO_in (0, fun _ => 0) _ (fun q => q.1) _ _)
theorem q156_57 : RR S d 156 57 L st h Q = (iA (ai_look L 0) ∧ RR S d 156 58 L ((gA (ai_look L 0)) :: st) h Q) := r156_57.trans (kA_eq _ _)
theorem q156_58 {a : Nat} : RR S d 156 58 L (.ref a :: st) h Q = ((ai_fld h a 10 25).isSome = true ∧ RR S d 156 61 L ((ai_fld h a 10 25).getD .null :: st) h Q) := r156_58.trans (kO_eq Value.null _ _)
theorem q156_61 : RR S d 156 61 L st h Q = (iI (ai_look L 1) ∧ RR S d 156 62 L (.int (gI (ai_look L 1)) :: st) h Q) := r156_61.trans (kI_eq _ _)
theorem q156_62 {x : Int32} {a : Nat} : RR S d 156 62 L (.int x :: .ref a :: st) h Q = ((ai_arr h a 0).isSome = true ∧ ¬ (x < 0 ∨ ((ai_arr h a 0).getD (0, fun _ => 0)).1 ≤ x.toNatClampNeg) ∧ RR S d 156 63 L (.int (((ai_arr h a 0).getD (0, fun _ => 0)).2 x.toNatClampNeg) :: st) h Q) := r156_62.trans (kO_in (0, fun _ => 0) _ (fun q => q.1) _ _)
theorem q156_66 : RR S d 156 66 L st h Q = (iA (ai_look L 0) ∧ RR S d 156 67 L ((gA (ai_look L 0)) :: st) h Q) := r156_66.trans (kA_eq _ _)
theorem q156_67 {a : Nat} : RR S d 156 67 L (.ref a :: st) h Q = ((ai_fld h a 10 36).isSome = true ∧ RR S d 156 70 L ((ai_fld h a 10 36).getD .null :: st) h Q) := r156_67.trans (kO_eq Value.null _ _)
theorem q156_71 : RR S d 156 71 L st h Q = (iI (ai_look L 1) ∧ RR S d 156 72 L (.int (gI (ai_look L 1)) :: st) h Q) := r156_71.trans (kI_eq _ _)
theorem q156_73 : RR S d 156 73 L st h Q = (iA (ai_look L 0) ∧ RR S d 156 74 L ((gA (ai_look L 0)) :: st) h Q) := r156_73.trans (kA_eq _ _)
theorem q156_74 {a : Nat} : RR S d 156 74 L (.ref a :: st) h Q = ((ai_fld h a 10 39).isSome = true ∧ RR S d 156 77 L ((ai_fld h a 10 39).getD .null :: st) h Q) := r156_74.trans (kO_eq Value.null _ _)
theorem q156_77 : RR S d 156 77 L st h Q = (iI (ai_look L 1) ∧ RR S d 156 78 L (.int (gI (ai_look L 1)) :: st) h Q) := r156_77.trans (kI_eq _ _)
theorem q156_78 {x : Int32} {a : Nat} : RR S d 156 78 L (.int x :: .ref a :: st) h Q = ((ai_arr h a 0).isSome = true ∧ ¬ (x < 0 ∨ ((ai_arr h a 0).getD (0, fun _ => 0)).1 ≤ x.toNatClampNeg) ∧ RR S d 156 79 L (.int (((ai_arr h a 0).getD (0, fun _ => 0)).2 x.toNatClampNeg) :: st) h Q) := r156_78.trans (kO_in (0, fun _ => 0) _ (fun q => q.1) _ _)
theorem q156_80 : RR S d 156 80 L st h Q = (iI (ai_look L 3) ∧ RR S d 156 81 L (.int (gI (ai_look L 3)) :: st) h Q) := r156_80.trans (kI_eq _ _)
theorem q156_81 : RR S d 156 81 L st h Q = (iI (ai_look L 4) ∧ RR S d 156 83 L (.int (gI (ai_look L 4)) :: st) h Q) := r156_81.trans (kI_eq _ _)
theorem q156_84 : RR S d 156 84 L st h Q = (iA (ai_look L 0) ∧ RR S d 156 85 L ((gA (ai_look L 0)) :: st) h Q) := r156_84.trans (kA_eq _ _)
theorem q156_85 {a : Nat} : RR S d 156 85 L (.ref a :: st) h Q = ((ai_fld h a 10 6).isSome = true ∧ RR S d 156 88 L ((ai_fld h a 10 6).getD .null :: st) h Q) := r156_85.trans (kO_eq Value.null _ _)
theorem q156_88 : RR S d 156 88 L st h Q = (iI (ai_look L 2) ∧ RR S d 156 89 L (.int (gI (ai_look L 2)) :: st) h Q) := r156_88.trans (kI_eq _ _)
theorem q156_89 {x : Int32} {a : Nat} : RR S d 156 89 L (.int x :: .ref a :: st) h Q = ((ai_arr h a 0).isSome = true ∧ ¬ (x < 0 ∨ ((ai_arr h a 0).getD (0, fun _ => 0)).1 ≤ x.toNatClampNeg) ∧ RR S d 156 90 L (.int (((ai_arr h a 0).getD (0, fun _ => 0)).2 x.toNatClampNeg) :: st) h Q) := r156_89.trans (kO_in (0, fun _ => 0) _ (fun q => q.1) _ _)
theorem q156_91 : RR S d 156 91 L st h Q = (iA (ai_look L 0) ∧ RR S d 156 92 L ((gA (ai_look L 0)) :: st) h Q) := r156_91.trans (kA_eq _ _)
theorem q156_92 {a : Nat} : RR S d 156 92 L (.ref a :: st) h Q = ((ai_fld h a 10 1).isSome = true ∧ RR S d 156 95 L ((ai_fld h a 10 1).getD .null :: st) h Q) := r156_92.trans (kO_eq Value.null _ _)
theorem q156_95 : RR S d 156 95 L st h Q = (iA (ai_look L 0) ∧ RR S d 156 96 L ((gA (ai_look L 0)) :: st) h Q) := r156_95.trans (kA_eq _ _)
theorem q156_96 {a : Nat} : RR S d 156 96 L (.ref a :: st) h Q = ((ai_fld h a 10 5).isSome = true ∧ RR S d 156 99 L ((ai_fld h a 10 5).getD .null :: st) h Q) := r156_96.trans (kO_eq Value.null _ _)
theorem q156_99 : RR S d 156 99 L st h Q = (iI (ai_look L 2) ∧ RR S d 156 100 L (.int (gI (ai_look L 2)) :: st) h Q) := r156_99.trans (kI_eq _ _)
theorem q156_100 {x : Int32} {a : Nat} : RR S d 156 100 L (.int x :: .ref a :: st) h Q = ((ai_arr h a 0).isSome = true ∧ ¬ (x < 0 ∨ ((ai_arr h a 0).getD (0, fun _ => 0)).1 ≤ x.toNatClampNeg) ∧ RR S d 156 101 L (.int (((ai_arr h a 0).getD (0, fun _ => 0)).2 x.toNatClampNeg) :: st) h Q) := r156_100.trans (kO_in (0, fun _ => 0) _ (fun q => q.1) _ _)
theorem q156_101 {x : Int32} {a : Nat} : RR S d 156 101 L (.int x :: .ref a :: st) h Q = ((ai_arr h a 0).isSome = true ∧ ¬ (x < 0 ∨ ((ai_arr h a 0).getD (0, fun _ => 0)).1 ≤ x.toNatClampNeg) ∧ RR S d 156 102 L (.int (((ai_arr h a 0).getD (0, fun _ => 0)).2 x.toNatClampNeg) :: st) h Q) := r156_101.trans (kO_in (0, fun _ => 0) _ (fun q => q.1) _ _)
theorem q156_103 {x y : Int32} {a : Nat} : RR S d 156 103 L (.int y :: .int x :: .ref a :: st) h Q = ((ai_arr h a 0).isSome = true ∧ ¬ (x < 0 ∨ ((ai_arr h a 0).getD (0, fun _ => 0)).1 ≤ x.toNatClampNeg) ∧ RR S d 156 104 L st (h.1.set a (.inl (0, ((ai_arr h a 0).getD (0, fun _ => 0)).1, .inl (upd ((ai_arr h a 0).getD (0, fun _ => 0)).2 x.toNatClampNeg y))), h.2) Q) := r156_103.trans (kO_in (0, fun _ => 0) _ (fun q => q.1) _ _)
theorem q156_107 : RR S d 156 107 L st h Q = (iA (ai_look L 0) ∧ RR S d 156 108 L ((gA (ai_look L 0)) :: st) h Q) := r156_107.trans (kA_eq _ _)
theorem q156_108 {a : Nat} : RR S d 156 108 L (.ref a :: st) h Q = ((ai_fld h a 10 38).isSome = true ∧ RR S d 156 111 L ((ai_fld h a 10 38).getD .null :: st) h Q) := r156_108.trans (kO_eq Value.null _ _)
theorem q156_111 : RR S d 156 111 L st h Q = (iI (ai_look L 1) ∧ RR S d 156 112 L (.int (gI (ai_look L 1)) :: st) h Q) := r156_111.trans (kI_eq _ _)
theorem q156_112 : RR S d 156 112 L st h Q = (iI (ai_look L 3) ∧ RR S d 156 113 L (.int (gI (ai_look L 3)) :: st) h Q) := r156_112.trans (kI_eq _ _)
theorem q156_113 : RR S d 156 113 L st h Q = (iI (ai_look L 4) ∧ RR S d 156 115 L (.int (gI (ai_look L 4)) :: st) h Q) := r156_113.trans (kI_eq _ _)
theorem q156_116 : RR S d 156 116 L st h Q = (iA (ai_look L 0) ∧ RR S d 156 117 L ((gA (ai_look L 0)) :: st) h Q) := r156_116.trans (kA_eq _ _)
theorem q156_117 {a : Nat} : RR S d 156 117 L (.ref a :: st) h Q = ((ai_fld h a 10 6).isSome = true ∧ RR S d 156 120 L ((ai_fld h a 10 6).getD .null :: st) h Q) := r156_117.trans (kO_eq Value.null _ _)
theorem q156_120 : RR S d 156 120 L st h Q = (iI (ai_look L 2) ∧ RR S d 156 121 L (.int (gI (ai_look L 2)) :: st) h Q) := r156_120.trans (kI_eq _ _)
theorem q156_121 {x : Int32} {a : Nat} : RR S d 156 121 L (.int x :: .ref a :: st) h Q = ((ai_arr h a 0).isSome = true ∧ ¬ (x < 0 ∨ ((ai_arr h a 0).getD (0, fun _ => 0)).1 ≤ x.toNatClampNeg) ∧ RR S d 156 122 L (.int (((ai_arr h a 0).getD (0, fun _ => 0)).2 x.toNatClampNeg) :: st) h Q) := r156_121.trans (kO_in (0, fun _ => 0) _ (fun q => q.1) _ _)
theorem q156_123 {x y : Int32} {a : Nat} : RR S d 156 123 L (.int y :: .int x :: .ref a :: st) h Q = ((ai_arr h a 0).isSome = true ∧ ¬ (x < 0 ∨ ((ai_arr h a 0).getD (0, fun _ => 0)).1 ≤ x.toNatClampNeg) ∧ RR S d 156 124 L st (h.1.set a (.inl (0, ((ai_arr h a 0).getD (0, fun _ => 0)).1, .inl (upd ((ai_arr h a 0).getD (0, fun _ => 0)).2 x.toNatClampNeg y))), h.2) Q) := r156_123.trans (kO_in (0, fun _ => 0) _ (fun q => q.1) _ _)
theorem q157_0 : RR S d 157 0 L st h Q = (iI (ai_look L 0) ∧ RR S d 157 1 L (.int (gI (ai_look L 0)) :: st) h Q) := r157_0.trans (kI_eq _ _)
theorem q157_7 : RR S d 157 7 L st h Q = (iI (ai_look L 0) ∧ RR S d 157 8 L (.int (gI (ai_look L 0)) :: st) h Q) := r157_7.trans (kI_eq _ _)
theorem q158_0 : RR S d 158 0 L st h Q = (iI (ai_look L 1) ∧ RR S d 158 1 L (.int (gI (ai_look L 1)) :: st) h Q) := r158_0.trans (kI_eq _ _)
theorem q158_4 : RR S d 158 4 L st h Q = (iI (ai_look L 1) ∧ RR S d 158 5 L (.int (gI (ai_look L 1)) :: st) h Q) := r158_4.trans (kI_eq _ _)
theorem q158_5 : RR S d 158 5 L st h Q = (iA (ai_look L 0) ∧ RR S d 158 6 L ((gA (ai_look L 0)) :: st) h Q) := r158_5.trans (kA_eq _ _)
theorem q158_6 {a : Nat} : RR S d 158 6 L (.ref a :: st) h Q = ((ai_fld h a 10 22).isSome = true ∧ RR S d 158 9 L ((ai_fld h a 10 22).getD .null :: st) h Q) := r158_6.trans (kO_eq Value.null _ _)
theorem q158_14 : RR S d 158 14 L st h Q = (iA (ai_look L 0) ∧ RR S d 158 15 L ((gA (ai_look L 0)) :: st) h Q) := r158_14.trans (kA_eq _ _)
theorem q158_15 {a : Nat} : RR S d 158 15 L (.ref a :: st) h Q = ((ai_fld h a 10 25).isSome = true ∧ RR S d 158 18 L ((ai_fld h a 10 25).getD .null :: st) h Q) := r158_15.trans (kO_eq Value.null _ _)
theorem q158_18 : RR S d 158 18 L st h Q = (iI (ai_look L 1) ∧ RR S d 158 19 L (.int (gI (ai_look L 1)) :: st) h Q) := r158_18.trans (kI_eq _ _)
theorem q158_19 {x : Int32} {a : Nat} : RR S d 158 19 L (.int x :: .ref a :: st) h Q = ((ai_arr h a 0).isSome = true ∧ ¬ (x < 0 ∨ ((ai_arr h a 0).getD (0, fun _ => 0)).1 ≤ x.toNatClampNeg) ∧ RR S d 158 20 L (.int (((ai_arr h a 0).getD (0, fun _ => 0)).2 x.toNatClampNeg) :: st) h Q) := r158_19.trans (kO_in (0, fun _ => 0) _ (fun q => q.1) _ _)
theorem q158_21 : RR S d 158 21 L st h Q = (iI (ai_look L 2) ∧ RR S d 158 22 L (.int (gI (ai_look L 2)) :: st) h Q) := r158_21.trans (kI_eq _ _)
theorem q158_25 : RR S d 158 25 L st h Q = (iI (ai_look L 3) ∧ RR S d 158 26 L (.int (gI (ai_look L 3)) :: st) h Q) := r158_25.trans (kI_eq _ _)
theorem q158_27 : RR S d 158 27 L st h Q = (iI (ai_look L 2) ∧ RR S d 158 28 L (.int (gI (ai_look L 2)) :: st) h Q) := r158_27.trans (kI_eq _ _)
theorem q158_33 : RR S d 158 33 L st h Q = (iI (ai_look L 2) ∧ RR S d 158 34 L (.int (gI (ai_look L 2)) :: st) h Q) := r158_33.trans (kI_eq _ _)
theorem q158_36 : RR S d 158 36 L st h Q = (iI (ai_look L 3) ∧ RR S d 158 37 L (.int (gI (ai_look L 3)) :: st) h Q) := r158_36.trans (kI_eq _ _)
theorem q158_41 : RR S d 158 41 L st h Q = (iA (ai_look L 0) ∧ RR S d 158 42 L ((gA (ai_look L 0)) :: st) h Q) := r158_41.trans (kA_eq _ _)
theorem q158_42 {a : Nat} : RR S d 158 42 L (.ref a :: st) h Q = ((ai_fld h a 10 26).isSome = true ∧ RR S d 158 45 L ((ai_fld h a 10 26).getD .null :: st) h Q) := r158_42.trans (kO_eq Value.null _ _)
theorem q158_46 : RR S d 158 46 L st h Q = (iI (ai_look L 1) ∧ RR S d 158 47 L (.int (gI (ai_look L 1)) :: st) h Q) := r158_46.trans (kI_eq _ _)
theorem q158_48 : RR S d 158 48 L st h Q = (iI (ai_look L 2) ∧ RR S d 158 49 L (.int (gI (ai_look L 2)) :: st) h Q) := r158_48.trans (kI_eq _ _)
theorem q158_53 {x : Int32} {a : Nat} : RR S d 158 53 L (.int x :: .ref a :: st) h Q = ((ai_arr h a 0).isSome = true ∧ ¬ (x < 0 ∨ ((ai_arr h a 0).getD (0, fun _ => 0)).1 ≤ x.toNatClampNeg) ∧ RR S d 158 54 L (.int (((ai_arr h a 0).getD (0, fun _ => 0)).2 x.toNatClampNeg) :: st) h Q) := r158_53.trans (kO_in (0, fun _ => 0) _ (fun q => q.1) _ _)
theorem q158_55 : RR S d 158 55 L st h Q = (iA (ai_look L 0) ∧ RR S d 158 56 L ((gA (ai_look L 0)) :: st) h Q) := r158_55.trans (kA_eq _ _)
theorem q158_56 {a : Nat} : RR S (d + 1) 158 56 L (.ref a :: st) h Q = (ai_sum st ≤ 8 ∧ (ai_obj h a 10).isSome = true ∧ RR S d 154 0 [(0, .ref a)] [] h (kc S d 158 59 L st Q)) := r158_56.trans (kB_cv _ _ _)
theorem q158_59 : RR S d 158 59 L st h Q = (iI (ai_look L 2) ∧ RR S d 158 60 L (.int (gI (ai_look L 2)) :: st) h Q) := r158_59.trans (kI_eq _ _)
theorem q158_64 : RR S d 158 64 L st h Q = (iA (ai_look L 0) ∧ RR S d 158 65 L ((gA (ai_look L 0)) :: st) h Q) := r158_64.trans (kA_eq _ _)
theorem q158_65 {a : Nat} : RR S d 158 65 L (.ref a :: st) h Q = ((ai_fld h a 10 38).isSome = true ∧ RR S d 158 68 L ((ai_fld h a 10 38).getD .null :: st) h Q) := r158_65.trans (kO_eq Value.null _ _)
theorem q158_68 : RR S d 158 68 L st h Q = (iI (ai_look L 1) ∧ RR S d 158 69 L (.int (gI (ai_look L 1)) :: st) h Q) := r158_68.trans (kI_eq _ _)
theorem q158_69 {x : Int32} {a : Nat} : RR S d 158 69 L (.int x :: .ref a :: st) h Q = ((ai_arr h a 0).isSome = true ∧ ¬ (x < 0 ∨ ((ai_arr h a 0).getD (0, fun _ => 0)).1 ≤ x.toNatClampNeg) ∧ RR S d 158 70 L (.int (((ai_arr h a 0).getD (0, fun _ => 0)).2 x.toNatClampNeg) :: st) h Q) := r158_69.trans (kO_in (0, fun _ => 0) _ (fun q => q.1) _ _)
theorem q158_70 {p0 : Int32} : RR S (d + 1) 158 70 L (.int p0 :: st) h Q = (ai_sum st ≤ 8 ∧ RR S d 157 0 [(0, .int p0)] [] h (kc S d 158 73 L st Q)) := r158_70.trans (kB_dec _ _)
theorem q158_74 : RR S d 158 74 L st h Q = (iI (ai_look L 2) ∧ RR S d 158 75 L (.int (gI (ai_look L 2)) :: st) h Q) := r158_74.trans (kI_eq _ _)
theorem q158_80 : RR S d 158 80 L st h Q = (iI (ai_look L 2) ∧ RR S d 158 81 L (.int (gI (ai_look L 2)) :: st) h Q) := r158_80.trans (kI_eq _ _)
theorem q158_83 : RR S d 158 83 L st h Q = (iI (ai_look L 3) ∧ RR S d 158 84 L (.int (gI (ai_look L 3)) :: st) h Q) := r158_83.trans (kI_eq _ _)
theorem q158_88 : RR S d 158 88 L st h Q = (iA (ai_look L 0) ∧ RR S d 158 89 L ((gA (ai_look L 0)) :: st) h Q) := r158_88.trans (kA_eq _ _)
theorem q158_89 {a : Nat} : RR S d 158 89 L (.ref a :: st) h Q = ((ai_fld h a 10 37).isSome = true ∧ RR S d 158 92 L ((ai_fld h a 10 37).getD .null :: st) h Q) := r158_89.trans (kO_eq Value.null _ _)
theorem q158_93 : RR S d 158 93 L st h Q = (iI (ai_look L 1) ∧ RR S d 158 94 L (.int (gI (ai_look L 1)) :: st) h Q) := r158_93.trans (kI_eq _ _)
theorem q158_95 : RR S d 158 95 L st h Q = (iI (ai_look L 2) ∧ RR S d 158 96 L (.int (gI (ai_look L 2)) :: st) h Q) := r158_95.trans (kI_eq _ _)
theorem q158_100 {x : Int32} {a : Nat} : RR S d 158 100 L (.int x :: .ref a :: st) h Q = ((ai_arr h a 0).isSome = true ∧ ¬ (x < 0 ∨ ((ai_arr h a 0).getD (0, fun _ => 0)).1 ≤ x.toNatClampNeg) ∧ RR S d 158 101 L (.int (((ai_arr h a 0).getD (0, fun _ => 0)).2 x.toNatClampNeg) :: st) h Q) := r158_100.trans (kO_in (0, fun _ => 0) _ (fun q => q.1) _ _)
theorem q158_101 {p0 : Int32} : RR S (d + 1) 158 101 L (.int p0 :: st) h Q = (ai_sum st ≤ 8 ∧ RR S d 157 0 [(0, .int p0)] [] h (kc S d 158 104 L st Q)) := r158_101.trans (kB_dec _ _)
theorem q158_105 : RR S d 158 105 L st h Q = (iI (ai_look L 2) ∧ RR S d 158 106 L (.int (gI (ai_look L 2)) :: st) h Q) := r158_105.trans (kI_eq _ _)
theorem q158_111 : RR S d 158 111 L st h Q = (iI (ai_look L 2) ∧ RR S d 158 112 L (.int (gI (ai_look L 2)) :: st) h Q) := r158_111.trans (kI_eq _ _)
theorem q158_114 : RR S d 158 114 L st h Q = (iI (ai_look L 3) ∧ RR S d 158 115 L (.int (gI (ai_look L 3)) :: st) h Q) := r158_114.trans (kI_eq _ _)
theorem q158_119 : RR S d 158 119 L st h Q = (iA (ai_look L 0) ∧ RR S d 158 120 L ((gA (ai_look L 0)) :: st) h Q) := r158_119.trans (kA_eq _ _)
theorem q158_120 {a : Nat} : RR S d 158 120 L (.ref a :: st) h Q = ((ai_fld h a 10 36).isSome = true ∧ RR S d 158 123 L ((ai_fld h a 10 36).getD .null :: st) h Q) := r158_120.trans (kO_eq Value.null _ _)
theorem q158_124 : RR S d 158 124 L st h Q = (iI (ai_look L 1) ∧ RR S d 158 125 L (.int (gI (ai_look L 1)) :: st) h Q) := r158_124.trans (kI_eq _ _)
theorem q158_126 : RR S d 158 126 L st h Q = (iI (ai_look L 2) ∧ RR S d 158 127 L (.int (gI (ai_look L 2)) :: st) h Q) := r158_126.trans (kI_eq _ _)
theorem q158_131 {x : Int32} {a : Nat} : RR S d 158 131 L (.int x :: .ref a :: st) h Q = ((ai_arr h a 0).isSome = true ∧ ¬ (x < 0 ∨ ((ai_arr h a 0).getD (0, fun _ => 0)).1 ≤ x.toNatClampNeg) ∧ RR S d 158 132 L (.int (((ai_arr h a 0).getD (0, fun _ => 0)).2 x.toNatClampNeg) :: st) h Q) := r158_131.trans (kO_in (0, fun _ => 0) _ (fun q => q.1) _ _)
theorem q158_132 {p0 : Int32} : RR S (d + 1) 158 132 L (.int p0 :: st) h Q = (ai_sum st ≤ 8 ∧ RR S d 157 0 [(0, .int p0)] [] h (kc S d 158 135 L st Q)) := r158_132.trans (kB_dec _ _)
theorem q159_0 : RR S d 159 0 L st h Q = (iA (ai_look L 0) ∧ RR S d 159 1 L ((gA (ai_look L 0)) :: st) h Q) := r159_0.trans (kA_eq _ _)
theorem q159_1 : RR S d 159 1 L st h Q = (iI (ai_look L 1) ∧ RR S d 159 2 L (.int (gI (ai_look L 1)) :: st) h Q) := r159_1.trans (kI_eq _ _)
theorem q159_2 {p0 : Int32} {a : Nat} : RR S (d + 1) 159 2 L (.int p0 :: .ref a :: st) h Q = (ai_sum st ≤ 8 ∧ (ai_obj h a 10).isSome = true ∧ RR S d 114 0 [(0, .ref a), (1, .int p0)] [] h (kc S d 159 5 L st Q)) := r159_2.trans (kB_cv _ _ _)
theorem q159_10 : RR S d 159 10 L st h Q = (iA (ai_look L 0) ∧ RR S d 159 11 L ((gA (ai_look L 0)) :: st) h Q) := r159_10.trans (kA_eq _ _)
theorem q159_11 {a : Nat} : RR S (d + 1) 159 11 L (.ref a :: st) h Q = (ai_sum st ≤ 8 ∧ (ai_obj h a 10).isSome = true ∧ RR S d 154 0 [(0, .ref a)] [] h (kc S d 159 14 L st Q)) := r159_11.trans (kB_cv _ _ _)
theorem q159_14 : RR S d 159 14 L st h Q = (iA (ai_look L 0) ∧ RR S d 159 15 L ((gA (ai_look L 0)) :: st) h Q) := r159_14.trans (kA_eq _ _)
theorem q159_15 {a : Nat} : RR S d 159 15 L (.ref a :: st) h Q = ((ai_fld h a 10 41).isSome = true ∧ RR S d 159 18 L ((ai_fld h a 10 41).getD .null :: st) h Q) := r159_15.trans (kO_eq Value.null _ _)
theorem q159_18 : RR S d 159 18 L st h Q = (iI (ai_look L 1) ∧ RR S d 159 19 L (.int (gI (ai_look L 1)) :: st) h Q) := r159_18.trans (kI_eq _ _)
theorem q159_19 {x : Int32} {a : Nat} : RR S d 159 19 L (.int x :: .ref a :: st) h Q = ((ai_arr h a 0).isSome = true ∧ ¬ (x < 0 ∨ ((ai_arr h a 0).getD (0, fun _ => 0)).1 ≤ x.toNatClampNeg) ∧ RR S d 159 20 L (.int (((ai_arr h a 0).getD (0, fun _ => 0)).2 x.toNatClampNeg) :: st) h Q) := r159_19.trans (kO_in (0, fun _ => 0) _ (fun q => q.1) _ _)
theorem q160_2 : RR S d 160 2 L st h Q = (iI (ai_look L 1) ∧ RR S d 160 3 L (.int (gI (ai_look L 1)) :: st) h Q) := r160_2.trans (kI_eq _ _)
theorem q160_48 : RR S d 160 48 L st h Q = (iA (ai_look L 0) ∧ RR S d 160 49 L ((gA (ai_look L 0)) :: st) h Q) := r160_48.trans (kA_eq _ _)
theorem q160_49 {a : Nat} : RR S d 160 49 L (.ref a :: st) h Q = ((ai_fld h a 10 0).isSome = true ∧ RR S d 160 52 L ((ai_fld h a 10 0).getD .null :: st) h Q) := r160_49.trans (kO_eq Value.null _ _)
theorem q160_53 : RR S d 160 53 L st h Q = (iA (ai_look L 0) ∧ RR S d 160 54 L ((gA (ai_look L 0)) :: st) h Q) := r160_53.trans (kA_eq _ _)
theorem q160_54 {a : Nat} : RR S d 160 54 L (.ref a :: st) h Q = ((ai_fld h a 10 3).isSome = true ∧ RR S d 160 57 L ((ai_fld h a 10 3).getD .null :: st) h Q) := r160_54.trans (kO_eq Value.null _ _)
theorem q160_58 : RR S d 160 58 L st h Q = (iA (ai_look L 0) ∧ RR S d 160 59 L ((gA (ai_look L 0)) :: st) h Q) := r160_58.trans (kA_eq _ _)
theorem q160_59 {a : Nat} : RR S d 160 59 L (.ref a :: st) h Q = ((ai_fld h a 10 8).isSome = true ∧ RR S d 160 62 L ((ai_fld h a 10 8).getD .null :: st) h Q) := r160_59.trans (kO_eq Value.null _ _)
theorem q160_63 : RR S d 160 63 L st h Q = (iA (ai_look L 0) ∧ RR S d 160 64 L ((gA (ai_look L 0)) :: st) h Q) := r160_63.trans (kA_eq _ _)
theorem q160_64 {a : Nat} : RR S d 160 64 L (.ref a :: st) h Q = ((ai_fld h a 10 9).isSome = true ∧ RR S d 160 67 L ((ai_fld h a 10 9).getD .null :: st) h Q) := r160_64.trans (kO_eq Value.null _ _)
theorem q160_68 : RR S d 160 68 L st h Q = (iA (ai_look L 0) ∧ RR S d 160 69 L ((gA (ai_look L 0)) :: st) h Q) := r160_68.trans (kA_eq _ _)
theorem q160_69 {a : Nat} : RR S d 160 69 L (.ref a :: st) h Q = ((ai_fld h a 10 10).isSome = true ∧ RR S d 160 72 L ((ai_fld h a 10 10).getD .null :: st) h Q) := r160_69.trans (kO_eq Value.null _ _)
theorem q160_75 : RR S d 160 75 L st h Q = (iI (ai_look L 3) ∧ RR S d 160 76 L (.int (gI (ai_look L 3)) :: st) h Q) := r160_75.trans (kI_eq _ _)
theorem q160_76 : RR S d 160 76 L st h Q = (iA (ai_look L 0) ∧ RR S d 160 77 L ((gA (ai_look L 0)) :: st) h Q) := r160_76.trans (kA_eq _ _)
theorem q160_77 {a : Nat} : RR S d 160 77 L (.ref a :: st) h Q = ((ai_fld h a 10 10).isSome = true ∧ RR S d 160 80 L ((ai_fld h a 10 10).getD .null :: st) h Q) := r160_77.trans (kO_eq Value.null _ _)
theorem q160_83 : RR S d 160 83 L st h Q = (iA (ai_look L 0) ∧ RR S d 160 84 L ((gA (ai_look L 0)) :: st) h Q) := r160_83.trans (kA_eq _ _)
theorem q160_84 {a : Nat} : RR S d 160 84 L (.ref a :: st) h Q = ((ai_fld h a 10 17).isSome = true ∧ RR S d 160 87 L ((ai_fld h a 10 17).getD .null :: st) h Q) := r160_84.trans (kO_eq Value.null _ _)
theorem q160_87 : RR S d 160 87 L st h Q = (iI (ai_look L 3) ∧ RR S d 160 88 L (.int (gI (ai_look L 3)) :: st) h Q) := r160_87.trans (kI_eq _ _)
theorem q160_88 {x : Int32} {a : Nat} : RR S d 160 88 L (.int x :: .ref a :: st) h Q = ((ai_arr h a 1).isSome = true ∧ ¬ (x < 0 ∨ ((ai_arr h a 1).getD (0, fun _ => 0)).1 ≤ x.toNatClampNeg) ∧ RR S d 160 89 L (.int (((ai_arr h a 1).getD (0, fun _ => 0)).2 x.toNatClampNeg) :: st) h Q) := r160_88.trans (kO_in (0, fun _ => 0) _ (fun q => q.1) _ _)
theorem q160_92 : RR S d 160 92 L st h Q = (iI (ai_look L 2) ∧ RR S d 160 93 L (.int (gI (ai_look L 2)) :: st) h Q) := r160_92.trans (kI_eq _ _)
theorem q160_98 : RR S d 160 98 L st h Q = (iI (ai_look L 2) ∧ RR S d 160 99 L (.int (gI (ai_look L 2)) :: st) h Q) := r160_98.trans (kI_eq _ _)
theorem q160_100 : RR S d 160 100 L st h Q = (iI (ai_look L 3) ∧ RR S d 160 103 (ai_put 3 (.int ((gI (ai_look L 3)) + 1)) L) st h Q) := r160_100.trans (kI_eq _ _)
theorem q160_106 : RR S d 160 106 L st h Q = (iI (ai_look L 2) ∧ RR S d 160 107 L (.int (gI (ai_look L 2)) :: st) h Q) := r160_106.trans (kI_eq _ _)
theorem q160_108 : RR S d 160 108 L st h Q = (iA (ai_look L 0) ∧ RR S d 160 109 L ((gA (ai_look L 0)) :: st) h Q) := r160_108.trans (kA_eq _ _)
theorem q160_109 {a : Nat} : RR S d 160 109 L (.ref a :: st) h Q = ((ai_fld h a 10 22).isSome = true ∧ RR S d 160 112 L ((ai_fld h a 10 22).getD .null :: st) h Q) := r160_109.trans (kO_eq Value.null _ _)
theorem q160_113 : RR S d 160 113 L st h Q = (iA (ai_look L 0) ∧ RR S d 160 114 L ((gA (ai_look L 0)) :: st) h Q) := r160_113.trans (kA_eq _ _)
theorem q160_114 {a : Nat} : RR S (d + 1) 160 114 L (.ref a :: st) h Q = (ai_sum st ≤ 8 ∧ (ai_obj h a 10).isSome = true ∧ RR S d 154 0 [(0, .ref a)] [] h (kc S d 160 117 L st Q)) := r160_114.trans (kB_cv _ _ _)
theorem q160_119 : RR S d 160 119 L st h Q = (iI (ai_look L 3) ∧ RR S d 160 120 L (.int (gI (ai_look L 3)) :: st) h Q) := r160_119.trans (kI_eq _ _)
theorem q160_120 : RR S d 160 120 L st h Q = (iA (ai_look L 0) ∧ RR S d 160 121 L ((gA (ai_look L 0)) :: st) h Q) := r160_120.trans (kA_eq _ _)
theorem q160_121 {a : Nat} : RR S d 160 121 L (.ref a :: st) h Q = ((ai_fld h a 10 22).isSome = true ∧ RR S d 160 124 L ((ai_fld h a 10 22).getD .null :: st) h Q) := r160_121.trans (kO_eq Value.null _ _)
theorem q160_127 : RR S d 160 127 L st h Q = (iA (ai_look L 0) ∧ RR S d 160 128 L ((gA (ai_look L 0)) :: st) h Q) := r160_127.trans (kA_eq _ _)
theorem q160_128 {a : Nat} : RR S d 160 128 L (.ref a :: st) h Q = ((ai_fld h a 10 38).isSome = true ∧ RR S d 160 131 L ((ai_fld h a 10 38).getD .null :: st) h Q) := r160_128.trans (kO_eq Value.null _ _)
theorem q160_131 : RR S d 160 131 L st h Q = (iI (ai_look L 3) ∧ RR S d 160 132 L (.int (gI (ai_look L 3)) :: st) h Q) := r160_131.trans (kI_eq _ _)
theorem q160_132 {x : Int32} {a : Nat} : RR S d 160 132 L (.int x :: .ref a :: st) h Q = ((ai_arr h a 0).isSome = true ∧ ¬ (x < 0 ∨ ((ai_arr h a 0).getD (0, fun _ => 0)).1 ≤ x.toNatClampNeg) ∧ RR S d 160 133 L (.int (((ai_arr h a 0).getD (0, fun _ => 0)).2 x.toNatClampNeg) :: st) h Q) := r160_132.trans (kO_in (0, fun _ => 0) _ (fun q => q.1) _ _)
theorem q160_139 : RR S d 160 139 L st h Q = (iI (ai_look L 2) ∧ RR S d 160 140 L (.int (gI (ai_look L 2)) :: st) h Q) := r160_139.trans (kI_eq _ _)
theorem q160_145 : RR S d 160 145 L st h Q = (iI (ai_look L 2) ∧ RR S d 160 146 L (.int (gI (ai_look L 2)) :: st) h Q) := r160_145.trans (kI_eq _ _)
theorem q160_147 : RR S d 160 147 L st h Q = (iI (ai_look L 3) ∧ RR S d 160 150 (ai_put 3 (.int ((gI (ai_look L 3)) + 1)) L) st h Q) := r160_147.trans (kI_eq _ _)
theorem q160_153 : RR S d 160 153 L st h Q = (iI (ai_look L 2) ∧ RR S d 160 154 L (.int (gI (ai_look L 2)) :: st) h Q) := r160_153.trans (kI_eq _ _)
theorem q161_0 : RR S d 161 0 L st h Q = (iI (ai_look L 0) ∧ RR S d 161 1 L (.int (gI (ai_look L 0)) :: st) h Q) := r161_0.trans (kI_eq _ _)
theorem q161_1 : RR S d 161 1 L st h Q = (iI (ai_look L 0) ∧ RR S d 161 2 L (.int (gI (ai_look L 0)) :: st) h Q) := r161_1.trans (kI_eq _ _)
theorem q161_10 : RR S d 161 10 L st h Q = (iI (ai_look L 0) ∧ RR S d 161 11 L (.int (gI (ai_look L 0)) :: st) h Q) := r161_10.trans (kI_eq _ _)
theorem q161_15 : RR S d 161 15 L st h Q = (iI (ai_look L 0) ∧ RR S d 161 16 L (.int (gI (ai_look L 0)) :: st) h Q) := r161_15.trans (kI_eq _ _)
theorem q161_24 : RR S d 161 24 L st h Q = (iI (ai_look L 0) ∧ RR S d 161 25 L (.int (gI (ai_look L 0)) :: st) h Q) := r161_24.trans (kI_eq _ _)
theorem q161_25 : RR S d 161 25 L st h Q = (iI (ai_look L 0) ∧ RR S d 161 26 L (.int (gI (ai_look L 0)) :: st) h Q) := r161_25.trans (kI_eq _ _)
theorem q161_34 : RR S d 161 34 L st h Q = (iI (ai_look L 0) ∧ RR S d 161 35 L (.int (gI (ai_look L 0)) :: st) h Q) := r161_34.trans (kI_eq _ _)
theorem q161_35 : RR S d 161 35 L st h Q = (iI (ai_look L 0) ∧ RR S d 161 36 L (.int (gI (ai_look L 0)) :: st) h Q) := r161_35.trans (kI_eq _ _)
theorem q161_41 : RR S d 161 41 L st h Q = (iI (ai_look L 0) ∧ RR S d 161 42 L (.int (gI (ai_look L 0)) :: st) h Q) := r161_41.trans (kI_eq _ _)
theorem q161_42 : RR S d 161 42 L st h Q = (iI (ai_look L 0) ∧ RR S d 161 43 L (.int (gI (ai_look L 0)) :: st) h Q) := r161_42.trans (kI_eq _ _)
theorem q161_48 : RR S d 161 48 L st h Q = (iI (ai_look L 0) ∧ RR S d 161 49 L (.int (gI (ai_look L 0)) :: st) h Q) := r161_48.trans (kI_eq _ _)
theorem q162_0 : RR S d 162 0 L st h Q = (iI (ai_look L 0) ∧ RR S d 162 1 L (.int (gI (ai_look L 0)) :: st) h Q) := r162_0.trans (kI_eq _ _)
theorem q162_1 : RR S d 162 1 L st h Q = (iI (ai_look L 1) ∧ RR S d 162 2 L (.int (gI (ai_look L 1)) :: st) h Q) := r162_1.trans (kI_eq _ _)
theorem q162_2 {x y : Int32} : RR S d 162 2 L (.int y :: .int x :: st) h Q = (¬ y = 0 ∧ RR S d 162 3 L (.int (x - x / y * y) :: st) h Q) := r162_2.trans (kB_dec _ _)
theorem q162_4 : RR S d 162 4 L st h Q = (iI (ai_look L 0) ∧ RR S d 162 5 L (.int (gI (ai_look L 0)) :: st) h Q) := r162_4.trans (kI_eq _ _)
theorem q162_5 : RR S d 162 5 L st h Q = (iI (ai_look L 1) ∧ RR S d 162 6 L (.int (gI (ai_look L 1)) :: st) h Q) := r162_5.trans (kI_eq _ _)
theorem q162_10 : RR S d 162 10 L st h Q = (iI (ai_look L 2) ∧ RR S d 162 11 L (.int (gI (ai_look L 2)) :: st) h Q) := r162_10.trans (kI_eq _ _)
theorem q162_14 : RR S d 162 14 L st h Q = (iI (ai_look L 2) ∧ RR S d 162 15 L (.int (gI (ai_look L 2)) :: st) h Q) := r162_14.trans (kI_eq _ _)
theorem q162_15 : RR S d 162 15 L st h Q = (iI (ai_look L 1) ∧ RR S d 162 16 L (.int (gI (ai_look L 1)) :: st) h Q) := r162_15.trans (kI_eq _ _)
theorem q162_18 : RR S d 162 18 L st h Q = (iI (ai_look L 2) ∧ RR S d 162 19 L (.int (gI (ai_look L 2)) :: st) h Q) := r162_18.trans (kI_eq _ _)
theorem q163_0 : RR S d 163 0 L st h Q = (iI (ai_look L 0) ∧ RR S d 163 1 L (.int (gI (ai_look L 0)) :: st) h Q) := r163_0.trans (kI_eq _ _)
theorem q163_1 : RR S d 163 1 L st h Q = (iI (ai_look L 1) ∧ RR S d 163 2 L (.int (gI (ai_look L 1)) :: st) h Q) := r163_1.trans (kI_eq _ _)
theorem q163_5 : RR S d 163 5 L st h Q = (iI (ai_look L 0) ∧ RR S d 163 6 L (.int (gI (ai_look L 0)) :: st) h Q) := r163_5.trans (kI_eq _ _)
theorem q163_9 : RR S d 163 9 L st h Q = (iI (ai_look L 1) ∧ RR S d 163 10 L (.int (gI (ai_look L 1)) :: st) h Q) := r163_9.trans (kI_eq _ _)
theorem q164_0 : RR S d 164 0 L st h Q = (iI (ai_look L 0) ∧ RR S d 164 1 L (.int (gI (ai_look L 0)) :: st) h Q) := r164_0.trans (kI_eq _ _)
theorem q164_1 : RR S d 164 1 L st h Q = (iI (ai_look L 1) ∧ RR S d 164 2 L (.int (gI (ai_look L 1)) :: st) h Q) := r164_1.trans (kI_eq _ _)
theorem q164_5 : RR S d 164 5 L st h Q = (iI (ai_look L 0) ∧ RR S d 164 6 L (.int (gI (ai_look L 0)) :: st) h Q) := r164_5.trans (kI_eq _ _)
theorem q164_9 : RR S d 164 9 L st h Q = (iI (ai_look L 1) ∧ RR S d 164 10 L (.int (gI (ai_look L 1)) :: st) h Q) := r164_9.trans (kI_eq _ _)
theorem q165_3 {a : Nat} : RR S d 165 3 L (.ref a :: st) h Q = RR S d 165 4 L (.ref a :: .ref a :: st) h Q := r165_3 rfl
theorem q165_3i {x : Int32} : RR S d 165 3 L (.int x :: st) h Q = RR S d 165 4 L (.int x :: .int x :: st) h Q := r165_3 rfl
theorem q165_4 {a : Nat} : RR S (d + 1) 165 4 L (.ref a :: st) h Q = (ai_sum st ≤ 8 ∧ RR S d 82 0 [(0, .ref a)] [] h (kc S d 165 7 L st Q)) := r165_4.trans (kB_dec _ _)
theorem q165_11 {a : Nat} : RR S d 165 11 L (.ref a :: st) h Q = RR S d 165 12 L (.ref a :: .ref a :: st) h Q := r165_11 rfl
theorem q165_11i {x : Int32} : RR S d 165 11 L (.int x :: st) h Q = RR S d 165 12 L (.int x :: .int x :: st) h Q := r165_11 rfl
theorem q165_12 {a : Nat} : RR S (d + 1) 165 12 L (.ref a :: st) h Q = (ai_sum st ≤ 8 ∧ RR S d 112 0 [(0, .ref a)] [] h (kc S d 165 15 L st Q)) := r165_12.trans (kB_dec _ _)
theorem q165_18 : RR S d 165 18 L st h Q = (iI (ai_look L 3) ∧ RR S d 165 19 L (.int (gI (ai_look L 3)) :: st) h Q) := r165_18.trans (kI_eq _ _)
theorem q165_19 : RR S d 165 19 L st h Q = (iA (ai_look L 0) ∧ RR S d 165 20 L ((gA (ai_look L 0)) :: st) h Q) := r165_19.trans (kA_eq _ _)
theorem q165_20 {a : Nat} : RR S d 165 20 L (.ref a :: st) h Q = ((ai_alen h a).isSome = true ∧ RR S d 165 21 L (.int (Int32.ofNat ((ai_alen h a).getD 0)) :: st) h Q) := r165_20.trans (kO_eq 0 _ _)
theorem q165_27 : RR S d 165 27 L st h Q = (iA (ai_look L 0) ∧ RR S d 165 28 L ((gA (ai_look L 0)) :: st) h Q) := r165_27.trans (kA_eq _ _)
theorem q165_28 : RR S d 165 28 L st h Q = (iI (ai_look L 3) ∧ RR S d 165 29 L (.int (gI (ai_look L 3)) :: st) h Q) := r165_28.trans (kI_eq _ _)
theorem q165_29 {x : Int32} {a : Nat} : RR S d 165 29 L (.int x :: .ref a :: st) h Q = ((ai_arr h a 0).isSome = true ∧ ¬ (x < 0 ∨ ((ai_arr h a 0).getD (0, fun _ => 0)).1 ≤ x.toNatClampNeg) ∧ RR S d 165 30 L (.int (((ai_arr h a 0).getD (0, fun _ => 0)).2 x.toNatClampNeg) :: st) h Q) := r165_29.trans (kO_in (0, fun _ => 0) _ (fun q => q.1) _ _)
theorem q165_29x {x : Int32} {u : UInt32} : RR S d 165 29 L (.int x :: .float u :: st) h Q = (¬ (x < 0 ∨ (ai_ext S u).1 ≤ x.toNatClampNeg) ∧ RR S d 165 30 L (.int ((ai_ext S u).2 x.toNatClampNeg) :: st) h Q) := r165_29x.trans (kB_in _ _ _)
theorem q165_136 : RR S d 165 136 L st h Q = (iA (ai_look L 1) ∧ RR S d 165 137 L ((gA (ai_look L 1)) :: st) h Q) := r165_136.trans (kA_eq _ _)
theorem q165_137 : RR S d 165 137 L st h Q = (iA (ai_look L 0) ∧ RR S d 165 138 L ((gA (ai_look L 0)) :: st) h Q) := r165_137.trans (kA_eq _ _)
theorem q165_138 : RR S d 165 138 L st h Q = (iI (ai_look L 3) ∧ RR S d 165 139 L (.int (gI (ai_look L 3)) :: st) h Q) := r165_138.trans (kI_eq _ _)
theorem q165_141 {x : Int32} {a : Nat} : RR S d 165 141 L (.int x :: .ref a :: st) h Q = ((ai_arr h a 0).isSome = true ∧ ¬ (x < 0 ∨ ((ai_arr h a 0).getD (0, fun _ => 0)).1 ≤ x.toNatClampNeg) ∧ RR S d 165 142 L (.int (((ai_arr h a 0).getD (0, fun _ => 0)).2 x.toNatClampNeg) :: st) h Q) := r165_141.trans (kO_in (0, fun _ => 0) _ (fun q => q.1) _ _)
theorem q165_141x {x : Int32} {u : UInt32} : RR S d 165 141 L (.int x :: .float u :: st) h Q = (¬ (x < 0 ∨ (ai_ext S u).1 ≤ x.toNatClampNeg) ∧ RR S d 165 142 L (.int ((ai_ext S u).2 x.toNatClampNeg) :: st) h Q) := r165_141x.trans (kB_in _ _ _)
theorem q165_142 {p0 : Int32} {a : Nat} : RR S (d + 1) 165 142 L (.int p0 :: .ref a :: st) h Q = (ai_sum st ≤ 8 ∧ (ai_obj h a 9).isSome = true ∧ RR S d 83 0 [(0, .ref a), (1, .int p0)] [] h (kc S d 165 145 L st Q)) := r165_142.trans (kB_cv _ _ _)
theorem q165_146 : RR S d 165 146 L st h Q = (iA (ai_look L 2) ∧ RR S d 165 147 L ((gA (ai_look L 2)) :: st) h Q) := r165_146.trans (kA_eq _ _)
theorem q165_147 : RR S d 165 147 L st h Q = (iA (ai_look L 0) ∧ RR S d 165 148 L ((gA (ai_look L 0)) :: st) h Q) := r165_147.trans (kA_eq _ _)
theorem q165_148 : RR S d 165 148 L st h Q = (iI (ai_look L 3) ∧ RR S d 165 149 L (.int (gI (ai_look L 3)) :: st) h Q) := r165_148.trans (kI_eq _ _)
theorem q165_151 {x : Int32} {a : Nat} : RR S d 165 151 L (.int x :: .ref a :: st) h Q = ((ai_arr h a 0).isSome = true ∧ ¬ (x < 0 ∨ ((ai_arr h a 0).getD (0, fun _ => 0)).1 ≤ x.toNatClampNeg) ∧ RR S d 165 152 L (.int (((ai_arr h a 0).getD (0, fun _ => 0)).2 x.toNatClampNeg) :: st) h Q) := r165_151.trans (kO_in (0, fun _ => 0) _ (fun q => q.1) _ _)
theorem q165_151x {x : Int32} {u : UInt32} : RR S d 165 151 L (.int x :: .float u :: st) h Q = (¬ (x < 0 ∨ (ai_ext S u).1 ≤ x.toNatClampNeg) ∧ RR S d 165 152 L (.int ((ai_ext S u).2 x.toNatClampNeg) :: st) h Q) := r165_151x.trans (kB_in _ _ _)
theorem q165_152 {p0 : Int32} {a : Nat} : RR S (d + 1) 165 152 L (.int p0 :: .ref a :: st) h Q = (ai_sum st ≤ 8 ∧ (ai_obj h a 10).isSome = true ∧ RR S d 115 0 [(0, .ref a), (1, .int p0)] [] h (kc S d 165 155 L st Q)) := r165_152.trans (kB_cv _ _ _)
theorem q165_159 : RR S d 165 159 L st h Q = (iA (ai_look L 1) ∧ RR S d 165 160 L ((gA (ai_look L 1)) :: st) h Q) := r165_159.trans (kA_eq _ _)
theorem q165_160 : RR S d 165 160 L st h Q = (iA (ai_look L 0) ∧ RR S d 165 161 L ((gA (ai_look L 0)) :: st) h Q) := r165_160.trans (kA_eq _ _)
theorem q165_161 : RR S d 165 161 L st h Q = (iI (ai_look L 3) ∧ RR S d 165 162 L (.int (gI (ai_look L 3)) :: st) h Q) := r165_161.trans (kI_eq _ _)
theorem q165_164 {x : Int32} {a : Nat} : RR S d 165 164 L (.int x :: .ref a :: st) h Q = ((ai_arr h a 0).isSome = true ∧ ¬ (x < 0 ∨ ((ai_arr h a 0).getD (0, fun _ => 0)).1 ≤ x.toNatClampNeg) ∧ RR S d 165 165 L (.int (((ai_arr h a 0).getD (0, fun _ => 0)).2 x.toNatClampNeg) :: st) h Q) := r165_164.trans (kO_in (0, fun _ => 0) _ (fun q => q.1) _ _)
theorem q165_164x {x : Int32} {u : UInt32} : RR S d 165 164 L (.int x :: .float u :: st) h Q = (¬ (x < 0 ∨ (ai_ext S u).1 ≤ x.toNatClampNeg) ∧ RR S d 165 165 L (.int ((ai_ext S u).2 x.toNatClampNeg) :: st) h Q) := r165_164x.trans (kB_in _ _ _)
theorem q165_165 : RR S d 165 165 L st h Q = (iA (ai_look L 0) ∧ RR S d 165 166 L ((gA (ai_look L 0)) :: st) h Q) := r165_165.trans (kA_eq _ _)
theorem q165_166 : RR S d 165 166 L st h Q = (iI (ai_look L 3) ∧ RR S d 165 167 L (.int (gI (ai_look L 3)) :: st) h Q) := r165_166.trans (kI_eq _ _)
theorem q165_169 {x : Int32} {a : Nat} : RR S d 165 169 L (.int x :: .ref a :: st) h Q = ((ai_arr h a 0).isSome = true ∧ ¬ (x < 0 ∨ ((ai_arr h a 0).getD (0, fun _ => 0)).1 ≤ x.toNatClampNeg) ∧ RR S d 165 170 L (.int (((ai_arr h a 0).getD (0, fun _ => 0)).2 x.toNatClampNeg) :: st) h Q) := r165_169.trans (kO_in (0, fun _ => 0) _ (fun q => q.1) _ _)
theorem q165_169x {x : Int32} {u : UInt32} : RR S d 165 169 L (.int x :: .float u :: st) h Q = (¬ (x < 0 ∨ (ai_ext S u).1 ≤ x.toNatClampNeg) ∧ RR S d 165 170 L (.int ((ai_ext S u).2 x.toNatClampNeg) :: st) h Q) := r165_169x.trans (kB_in _ _ _)
theorem q165_170 : RR S d 165 170 L st h Q = (iA (ai_look L 0) ∧ RR S d 165 171 L ((gA (ai_look L 0)) :: st) h Q) := r165_170.trans (kA_eq _ _)
theorem q165_171 : RR S d 165 171 L st h Q = (iI (ai_look L 3) ∧ RR S d 165 172 L (.int (gI (ai_look L 3)) :: st) h Q) := r165_171.trans (kI_eq _ _)
theorem q165_174 {x : Int32} {a : Nat} : RR S d 165 174 L (.int x :: .ref a :: st) h Q = ((ai_arr h a 0).isSome = true ∧ ¬ (x < 0 ∨ ((ai_arr h a 0).getD (0, fun _ => 0)).1 ≤ x.toNatClampNeg) ∧ RR S d 165 175 L (.int (((ai_arr h a 0).getD (0, fun _ => 0)).2 x.toNatClampNeg) :: st) h Q) := r165_174.trans (kO_in (0, fun _ => 0) _ (fun q => q.1) _ _)
theorem q165_174x {x : Int32} {u : UInt32} : RR S d 165 174 L (.int x :: .float u :: st) h Q = (¬ (x < 0 ∨ (ai_ext S u).1 ≤ x.toNatClampNeg) ∧ RR S d 165 175 L (.int ((ai_ext S u).2 x.toNatClampNeg) :: st) h Q) := r165_174x.trans (kB_in _ _ _)
theorem q165_175 : RR S d 165 175 L st h Q = (iA (ai_look L 0) ∧ RR S d 165 176 L ((gA (ai_look L 0)) :: st) h Q) := r165_175.trans (kA_eq _ _)
theorem q165_176 : RR S d 165 176 L st h Q = (iI (ai_look L 3) ∧ RR S d 165 177 L (.int (gI (ai_look L 3)) :: st) h Q) := r165_176.trans (kI_eq _ _)
theorem q165_179 {x : Int32} {a : Nat} : RR S d 165 179 L (.int x :: .ref a :: st) h Q = ((ai_arr h a 0).isSome = true ∧ ¬ (x < 0 ∨ ((ai_arr h a 0).getD (0, fun _ => 0)).1 ≤ x.toNatClampNeg) ∧ RR S d 165 180 L (.int (((ai_arr h a 0).getD (0, fun _ => 0)).2 x.toNatClampNeg) :: st) h Q) := r165_179.trans (kO_in (0, fun _ => 0) _ (fun q => q.1) _ _)
theorem q165_179x {x : Int32} {u : UInt32} : RR S d 165 179 L (.int x :: .float u :: st) h Q = (¬ (x < 0 ∨ (ai_ext S u).1 ≤ x.toNatClampNeg) ∧ RR S d 165 180 L (.int ((ai_ext S u).2 x.toNatClampNeg) :: st) h Q) := r165_179x.trans (kB_in _ _ _)
theorem q165_180 {p0 : Int32} {p1 : Int32} {p2 : Int32} {p3 : Int32} {a : Nat} : RR S (d + 1) 165 180 L (.int p3 :: .int p2 :: .int p1 :: .int p0 :: .ref a :: st) h Q = (ai_sum st ≤ 8 ∧ (ai_obj h a 9).isSome = true ∧ RR S d 84 0 [(0, .ref a), (1, .int p0), (2, .int p1), (3, .int p2), (4, .int p3)] [] h (kc S d 165 183 L st Q)) := r165_180.trans (kB_cv _ _ _)
theorem q165_184 : RR S d 165 184 L st h Q = (iA (ai_look L 2) ∧ RR S d 165 185 L ((gA (ai_look L 2)) :: st) h Q) := r165_184.trans (kA_eq _ _)
theorem q165_185 : RR S d 165 185 L st h Q = (iA (ai_look L 0) ∧ RR S d 165 186 L ((gA (ai_look L 0)) :: st) h Q) := r165_185.trans (kA_eq _ _)
theorem q165_186 : RR S d 165 186 L st h Q = (iI (ai_look L 3) ∧ RR S d 165 187 L (.int (gI (ai_look L 3)) :: st) h Q) := r165_186.trans (kI_eq _ _)
theorem q165_189 {x : Int32} {a : Nat} : RR S d 165 189 L (.int x :: .ref a :: st) h Q = ((ai_arr h a 0).isSome = true ∧ ¬ (x < 0 ∨ ((ai_arr h a 0).getD (0, fun _ => 0)).1 ≤ x.toNatClampNeg) ∧ RR S d 165 190 L (.int (((ai_arr h a 0).getD (0, fun _ => 0)).2 x.toNatClampNeg) :: st) h Q) := r165_189.trans (kO_in (0, fun _ => 0) _ (fun q => q.1) _ _)
theorem q165_189x {x : Int32} {u : UInt32} : RR S d 165 189 L (.int x :: .float u :: st) h Q = (¬ (x < 0 ∨ (ai_ext S u).1 ≤ x.toNatClampNeg) ∧ RR S d 165 190 L (.int ((ai_ext S u).2 x.toNatClampNeg) :: st) h Q) := r165_189x.trans (kB_in _ _ _)
theorem q165_190 : RR S d 165 190 L st h Q = (iA (ai_look L 0) ∧ RR S d 165 191 L ((gA (ai_look L 0)) :: st) h Q) := r165_190.trans (kA_eq _ _)
theorem q165_191 : RR S d 165 191 L st h Q = (iI (ai_look L 3) ∧ RR S d 165 192 L (.int (gI (ai_look L 3)) :: st) h Q) := r165_191.trans (kI_eq _ _)
theorem q165_194 {x : Int32} {a : Nat} : RR S d 165 194 L (.int x :: .ref a :: st) h Q = ((ai_arr h a 0).isSome = true ∧ ¬ (x < 0 ∨ ((ai_arr h a 0).getD (0, fun _ => 0)).1 ≤ x.toNatClampNeg) ∧ RR S d 165 195 L (.int (((ai_arr h a 0).getD (0, fun _ => 0)).2 x.toNatClampNeg) :: st) h Q) := r165_194.trans (kO_in (0, fun _ => 0) _ (fun q => q.1) _ _)
theorem q165_194x {x : Int32} {u : UInt32} : RR S d 165 194 L (.int x :: .float u :: st) h Q = (¬ (x < 0 ∨ (ai_ext S u).1 ≤ x.toNatClampNeg) ∧ RR S d 165 195 L (.int ((ai_ext S u).2 x.toNatClampNeg) :: st) h Q) := r165_194x.trans (kB_in _ _ _)
theorem q165_195 : RR S d 165 195 L st h Q = (iA (ai_look L 0) ∧ RR S d 165 196 L ((gA (ai_look L 0)) :: st) h Q) := r165_195.trans (kA_eq _ _)
theorem q165_196 : RR S d 165 196 L st h Q = (iI (ai_look L 3) ∧ RR S d 165 197 L (.int (gI (ai_look L 3)) :: st) h Q) := r165_196.trans (kI_eq _ _)
theorem q165_199 {x : Int32} {a : Nat} : RR S d 165 199 L (.int x :: .ref a :: st) h Q = ((ai_arr h a 0).isSome = true ∧ ¬ (x < 0 ∨ ((ai_arr h a 0).getD (0, fun _ => 0)).1 ≤ x.toNatClampNeg) ∧ RR S d 165 200 L (.int (((ai_arr h a 0).getD (0, fun _ => 0)).2 x.toNatClampNeg) :: st) h Q) := r165_199.trans (kO_in (0, fun _ => 0) _ (fun q => q.1) _ _)
theorem q165_199x {x : Int32} {u : UInt32} : RR S d 165 199 L (.int x :: .float u :: st) h Q = (¬ (x < 0 ∨ (ai_ext S u).1 ≤ x.toNatClampNeg) ∧ RR S d 165 200 L (.int ((ai_ext S u).2 x.toNatClampNeg) :: st) h Q) := r165_199x.trans (kB_in _ _ _)
theorem q165_200 : RR S d 165 200 L st h Q = (iA (ai_look L 0) ∧ RR S d 165 201 L ((gA (ai_look L 0)) :: st) h Q) := r165_200.trans (kA_eq _ _)
theorem q165_201 : RR S d 165 201 L st h Q = (iI (ai_look L 3) ∧ RR S d 165 202 L (.int (gI (ai_look L 3)) :: st) h Q) := r165_201.trans (kI_eq _ _)
theorem q165_204 {x : Int32} {a : Nat} : RR S d 165 204 L (.int x :: .ref a :: st) h Q = ((ai_arr h a 0).isSome = true ∧ ¬ (x < 0 ∨ ((ai_arr h a 0).getD (0, fun _ => 0)).1 ≤ x.toNatClampNeg) ∧ RR S d 165 205 L (.int (((ai_arr h a 0).getD (0, fun _ => 0)).2 x.toNatClampNeg) :: st) h Q) := r165_204.trans (kO_in (0, fun _ => 0) _ (fun q => q.1) _ _)
theorem q165_204x {x : Int32} {u : UInt32} : RR S d 165 204 L (.int x :: .float u :: st) h Q = (¬ (x < 0 ∨ (ai_ext S u).1 ≤ x.toNatClampNeg) ∧ RR S d 165 205 L (.int ((ai_ext S u).2 x.toNatClampNeg) :: st) h Q) := r165_204x.trans (kB_in _ _ _)
theorem q165_205 {p0 : Int32} {p1 : Int32} {p2 : Int32} {p3 : Int32} {a : Nat} : RR S (d + 1) 165 205 L (.int p3 :: .int p2 :: .int p1 :: .int p0 :: .ref a :: st) h Q = (ai_sum st ≤ 8 ∧ (ai_obj h a 10).isSome = true ∧ RR S d 116 0 [(0, .ref a), (1, .int p0), (2, .int p1), (3, .int p2), (4, .int p3)] [] h (kc S d 165 208 L st Q)) := r165_205.trans (kB_cv _ _ _)
theorem q165_212 : RR S d 165 212 L st h Q = (iA (ai_look L 1) ∧ RR S d 165 213 L ((gA (ai_look L 1)) :: st) h Q) := r165_212.trans (kA_eq _ _)
theorem q165_213 : RR S d 165 213 L st h Q = (iA (ai_look L 0) ∧ RR S d 165 214 L ((gA (ai_look L 0)) :: st) h Q) := r165_213.trans (kA_eq _ _)
theorem q165_214 : RR S d 165 214 L st h Q = (iI (ai_look L 3) ∧ RR S d 165 215 L (.int (gI (ai_look L 3)) :: st) h Q) := r165_214.trans (kI_eq _ _)
theorem q165_217 {x : Int32} {a : Nat} : RR S d 165 217 L (.int x :: .ref a :: st) h Q = ((ai_arr h a 0).isSome = true ∧ ¬ (x < 0 ∨ ((ai_arr h a 0).getD (0, fun _ => 0)).1 ≤ x.toNatClampNeg) ∧ RR S d 165 218 L (.int (((ai_arr h a 0).getD (0, fun _ => 0)).2 x.toNatClampNeg) :: st) h Q) := r165_217.trans (kO_in (0, fun _ => 0) _ (fun q => q.1) _ _)
theorem q165_217x {x : Int32} {u : UInt32} : RR S d 165 217 L (.int x :: .float u :: st) h Q = (¬ (x < 0 ∨ (ai_ext S u).1 ≤ x.toNatClampNeg) ∧ RR S d 165 218 L (.int ((ai_ext S u).2 x.toNatClampNeg) :: st) h Q) := r165_217x.trans (kB_in _ _ _)
theorem q165_218 {p0 : Int32} {a : Nat} : RR S (d + 1) 165 218 L (.int p0 :: .ref a :: st) h Q = (ai_sum st ≤ 8 ∧ (ai_obj h a 9).isSome = true ∧ RR S d 85 0 [(0, .ref a), (1, .int p0)] [] h (kc S d 165 221 L st Q)) := r165_218.trans (kB_cv _ _ _)
theorem q165_222 : RR S d 165 222 L st h Q = (iA (ai_look L 2) ∧ RR S d 165 223 L ((gA (ai_look L 2)) :: st) h Q) := r165_222.trans (kA_eq _ _)
theorem q165_223 : RR S d 165 223 L st h Q = (iA (ai_look L 0) ∧ RR S d 165 224 L ((gA (ai_look L 0)) :: st) h Q) := r165_223.trans (kA_eq _ _)
theorem q165_224 : RR S d 165 224 L st h Q = (iI (ai_look L 3) ∧ RR S d 165 225 L (.int (gI (ai_look L 3)) :: st) h Q) := r165_224.trans (kI_eq _ _)
theorem q165_227 {x : Int32} {a : Nat} : RR S d 165 227 L (.int x :: .ref a :: st) h Q = ((ai_arr h a 0).isSome = true ∧ ¬ (x < 0 ∨ ((ai_arr h a 0).getD (0, fun _ => 0)).1 ≤ x.toNatClampNeg) ∧ RR S d 165 228 L (.int (((ai_arr h a 0).getD (0, fun _ => 0)).2 x.toNatClampNeg) :: st) h Q) := r165_227.trans (kO_in (0, fun _ => 0) _ (fun q => q.1) _ _)
theorem q165_227x {x : Int32} {u : UInt32} : RR S d 165 227 L (.int x :: .float u :: st) h Q = (¬ (x < 0 ∨ (ai_ext S u).1 ≤ x.toNatClampNeg) ∧ RR S d 165 228 L (.int ((ai_ext S u).2 x.toNatClampNeg) :: st) h Q) := r165_227x.trans (kB_in _ _ _)
theorem q165_228 {p0 : Int32} {a : Nat} : RR S (d + 1) 165 228 L (.int p0 :: .ref a :: st) h Q = (ai_sum st ≤ 8 ∧ (ai_obj h a 10).isSome = true ∧ RR S d 117 0 [(0, .ref a), (1, .int p0)] [] h (kc S d 165 231 L st Q)) := r165_228.trans (kB_cv _ _ _)
theorem q165_235 : RR S d 165 235 L st h Q = (iA (ai_look L 1) ∧ RR S d 165 236 L ((gA (ai_look L 1)) :: st) h Q) := r165_235.trans (kA_eq _ _)
theorem q165_236 : RR S d 165 236 L st h Q = (iA (ai_look L 0) ∧ RR S d 165 237 L ((gA (ai_look L 0)) :: st) h Q) := r165_236.trans (kA_eq _ _)
theorem q165_237 : RR S d 165 237 L st h Q = (iI (ai_look L 3) ∧ RR S d 165 238 L (.int (gI (ai_look L 3)) :: st) h Q) := r165_237.trans (kI_eq _ _)
theorem q165_240 {x : Int32} {a : Nat} : RR S d 165 240 L (.int x :: .ref a :: st) h Q = ((ai_arr h a 0).isSome = true ∧ ¬ (x < 0 ∨ ((ai_arr h a 0).getD (0, fun _ => 0)).1 ≤ x.toNatClampNeg) ∧ RR S d 165 241 L (.int (((ai_arr h a 0).getD (0, fun _ => 0)).2 x.toNatClampNeg) :: st) h Q) := r165_240.trans (kO_in (0, fun _ => 0) _ (fun q => q.1) _ _)
theorem q165_240x {x : Int32} {u : UInt32} : RR S d 165 240 L (.int x :: .float u :: st) h Q = (¬ (x < 0 ∨ (ai_ext S u).1 ≤ x.toNatClampNeg) ∧ RR S d 165 241 L (.int ((ai_ext S u).2 x.toNatClampNeg) :: st) h Q) := r165_240x.trans (kB_in _ _ _)
theorem q165_241 {p0 : Int32} {a : Nat} : RR S (d + 1) 165 241 L (.int p0 :: .ref a :: st) h Q = (ai_sum st ≤ 8 ∧ (ai_obj h a 9).isSome = true ∧ RR S d 86 0 [(0, .ref a), (1, .int p0)] [] h (kc S d 165 244 L st Q)) := r165_241.trans (kB_cv _ _ _)
theorem q165_245 : RR S d 165 245 L st h Q = (iA (ai_look L 2) ∧ RR S d 165 246 L ((gA (ai_look L 2)) :: st) h Q) := r165_245.trans (kA_eq _ _)
theorem q165_246 : RR S d 165 246 L st h Q = (iA (ai_look L 0) ∧ RR S d 165 247 L ((gA (ai_look L 0)) :: st) h Q) := r165_246.trans (kA_eq _ _)
theorem q165_247 : RR S d 165 247 L st h Q = (iI (ai_look L 3) ∧ RR S d 165 248 L (.int (gI (ai_look L 3)) :: st) h Q) := r165_247.trans (kI_eq _ _)
theorem q165_250 {x : Int32} {a : Nat} : RR S d 165 250 L (.int x :: .ref a :: st) h Q = ((ai_arr h a 0).isSome = true ∧ ¬ (x < 0 ∨ ((ai_arr h a 0).getD (0, fun _ => 0)).1 ≤ x.toNatClampNeg) ∧ RR S d 165 251 L (.int (((ai_arr h a 0).getD (0, fun _ => 0)).2 x.toNatClampNeg) :: st) h Q) := r165_250.trans (kO_in (0, fun _ => 0) _ (fun q => q.1) _ _)
theorem q165_250x {x : Int32} {u : UInt32} : RR S d 165 250 L (.int x :: .float u :: st) h Q = (¬ (x < 0 ∨ (ai_ext S u).1 ≤ x.toNatClampNeg) ∧ RR S d 165 251 L (.int ((ai_ext S u).2 x.toNatClampNeg) :: st) h Q) := r165_250x.trans (kB_in _ _ _)
theorem q165_251 {p0 : Int32} {a : Nat} : RR S (d + 1) 165 251 L (.int p0 :: .ref a :: st) h Q = (ai_sum st ≤ 8 ∧ (ai_obj h a 10).isSome = true ∧ RR S d 118 0 [(0, .ref a), (1, .int p0)] [] h (kc S d 165 254 L st Q)) := r165_251.trans (kB_cv _ _ _)
theorem q165_258 : RR S d 165 258 L st h Q = (iA (ai_look L 1) ∧ RR S d 165 259 L ((gA (ai_look L 1)) :: st) h Q) := r165_258.trans (kA_eq _ _)
theorem q165_259 : RR S d 165 259 L st h Q = (iA (ai_look L 0) ∧ RR S d 165 260 L ((gA (ai_look L 0)) :: st) h Q) := r165_259.trans (kA_eq _ _)
theorem q165_260 : RR S d 165 260 L st h Q = (iI (ai_look L 3) ∧ RR S d 165 261 L (.int (gI (ai_look L 3)) :: st) h Q) := r165_260.trans (kI_eq _ _)
theorem q165_263 {x : Int32} {a : Nat} : RR S d 165 263 L (.int x :: .ref a :: st) h Q = ((ai_arr h a 0).isSome = true ∧ ¬ (x < 0 ∨ ((ai_arr h a 0).getD (0, fun _ => 0)).1 ≤ x.toNatClampNeg) ∧ RR S d 165 264 L (.int (((ai_arr h a 0).getD (0, fun _ => 0)).2 x.toNatClampNeg) :: st) h Q) := r165_263.trans (kO_in (0, fun _ => 0) _ (fun q => q.1) _ _)
theorem q165_263x {x : Int32} {u : UInt32} : RR S d 165 263 L (.int x :: .float u :: st) h Q = (¬ (x < 0 ∨ (ai_ext S u).1 ≤ x.toNatClampNeg) ∧ RR S d 165 264 L (.int ((ai_ext S u).2 x.toNatClampNeg) :: st) h Q) := r165_263x.trans (kB_in _ _ _)
theorem q165_264 : RR S d 165 264 L st h Q = (iA (ai_look L 0) ∧ RR S d 165 265 L ((gA (ai_look L 0)) :: st) h Q) := r165_264.trans (kA_eq _ _)
theorem q165_265 : RR S d 165 265 L st h Q = (iI (ai_look L 3) ∧ RR S d 165 266 L (.int (gI (ai_look L 3)) :: st) h Q) := r165_265.trans (kI_eq _ _)
theorem q165_268 {x : Int32} {a : Nat} : RR S d 165 268 L (.int x :: .ref a :: st) h Q = ((ai_arr h a 0).isSome = true ∧ ¬ (x < 0 ∨ ((ai_arr h a 0).getD (0, fun _ => 0)).1 ≤ x.toNatClampNeg) ∧ RR S d 165 269 L (.int (((ai_arr h a 0).getD (0, fun _ => 0)).2 x.toNatClampNeg) :: st) h Q) := r165_268.trans (kO_in (0, fun _ => 0) _ (fun q => q.1) _ _)
theorem q165_268x {x : Int32} {u : UInt32} : RR S d 165 268 L (.int x :: .float u :: st) h Q = (¬ (x < 0 ∨ (ai_ext S u).1 ≤ x.toNatClampNeg) ∧ RR S d 165 269 L (.int ((ai_ext S u).2 x.toNatClampNeg) :: st) h Q) := r165_268x.trans (kB_in _ _ _)
theorem q165_269 : RR S d 165 269 L st h Q = (iA (ai_look L 0) ∧ RR S d 165 270 L ((gA (ai_look L 0)) :: st) h Q) := r165_269.trans (kA_eq _ _)
theorem q165_270 : RR S d 165 270 L st h Q = (iI (ai_look L 3) ∧ RR S d 165 271 L (.int (gI (ai_look L 3)) :: st) h Q) := r165_270.trans (kI_eq _ _)
theorem q165_273 {x : Int32} {a : Nat} : RR S d 165 273 L (.int x :: .ref a :: st) h Q = ((ai_arr h a 0).isSome = true ∧ ¬ (x < 0 ∨ ((ai_arr h a 0).getD (0, fun _ => 0)).1 ≤ x.toNatClampNeg) ∧ RR S d 165 274 L (.int (((ai_arr h a 0).getD (0, fun _ => 0)).2 x.toNatClampNeg) :: st) h Q) := r165_273.trans (kO_in (0, fun _ => 0) _ (fun q => q.1) _ _)
theorem q165_273x {x : Int32} {u : UInt32} : RR S d 165 273 L (.int x :: .float u :: st) h Q = (¬ (x < 0 ∨ (ai_ext S u).1 ≤ x.toNatClampNeg) ∧ RR S d 165 274 L (.int ((ai_ext S u).2 x.toNatClampNeg) :: st) h Q) := r165_273x.trans (kB_in _ _ _)
theorem q165_274 : RR S d 165 274 L st h Q = (iA (ai_look L 0) ∧ RR S d 165 275 L ((gA (ai_look L 0)) :: st) h Q) := r165_274.trans (kA_eq _ _)
theorem q165_275 : RR S d 165 275 L st h Q = (iI (ai_look L 3) ∧ RR S d 165 276 L (.int (gI (ai_look L 3)) :: st) h Q) := r165_275.trans (kI_eq _ _)
theorem q165_278 {x : Int32} {a : Nat} : RR S d 165 278 L (.int x :: .ref a :: st) h Q = ((ai_arr h a 0).isSome = true ∧ ¬ (x < 0 ∨ ((ai_arr h a 0).getD (0, fun _ => 0)).1 ≤ x.toNatClampNeg) ∧ RR S d 165 279 L (.int (((ai_arr h a 0).getD (0, fun _ => 0)).2 x.toNatClampNeg) :: st) h Q) := r165_278.trans (kO_in (0, fun _ => 0) _ (fun q => q.1) _ _)
theorem q165_278x {x : Int32} {u : UInt32} : RR S d 165 278 L (.int x :: .float u :: st) h Q = (¬ (x < 0 ∨ (ai_ext S u).1 ≤ x.toNatClampNeg) ∧ RR S d 165 279 L (.int ((ai_ext S u).2 x.toNatClampNeg) :: st) h Q) := r165_278x.trans (kB_in _ _ _)
theorem q165_279 : RR S d 165 279 L st h Q = (iA (ai_look L 0) ∧ RR S d 165 280 L ((gA (ai_look L 0)) :: st) h Q) := r165_279.trans (kA_eq _ _)
theorem q165_280 : RR S d 165 280 L st h Q = (iI (ai_look L 3) ∧ RR S d 165 281 L (.int (gI (ai_look L 3)) :: st) h Q) := r165_280.trans (kI_eq _ _)
theorem q165_283 {x : Int32} {a : Nat} : RR S d 165 283 L (.int x :: .ref a :: st) h Q = ((ai_arr h a 0).isSome = true ∧ ¬ (x < 0 ∨ ((ai_arr h a 0).getD (0, fun _ => 0)).1 ≤ x.toNatClampNeg) ∧ RR S d 165 284 L (.int (((ai_arr h a 0).getD (0, fun _ => 0)).2 x.toNatClampNeg) :: st) h Q) := r165_283.trans (kO_in (0, fun _ => 0) _ (fun q => q.1) _ _)
theorem q165_283x {x : Int32} {u : UInt32} : RR S d 165 283 L (.int x :: .float u :: st) h Q = (¬ (x < 0 ∨ (ai_ext S u).1 ≤ x.toNatClampNeg) ∧ RR S d 165 284 L (.int ((ai_ext S u).2 x.toNatClampNeg) :: st) h Q) := r165_283x.trans (kB_in _ _ _)
theorem q165_284 {p0 : Int32} {p1 : Int32} {p2 : Int32} {p3 : Int32} {p4 : Int32} {a : Nat} : RR S (d + 1) 165 284 L (.int p4 :: .int p3 :: .int p2 :: .int p1 :: .int p0 :: .ref a :: st) h Q = (ai_sum st ≤ 8 ∧ (ai_obj h a 9).isSome = true ∧ RR S d 87 0 [(0, .ref a), (1, .int p0), (2, .int p1), (3, .int p2), (4, .int p3), (5, .int p4)] [] h (kc S d 165 287 L st Q)) := r165_284.trans (kB_cv _ _ _)
theorem q165_288 : RR S d 165 288 L st h Q = (iA (ai_look L 2) ∧ RR S d 165 289 L ((gA (ai_look L 2)) :: st) h Q) := r165_288.trans (kA_eq _ _)
theorem q165_289 : RR S d 165 289 L st h Q = (iA (ai_look L 0) ∧ RR S d 165 290 L ((gA (ai_look L 0)) :: st) h Q) := r165_289.trans (kA_eq _ _)
theorem q165_290 : RR S d 165 290 L st h Q = (iI (ai_look L 3) ∧ RR S d 165 291 L (.int (gI (ai_look L 3)) :: st) h Q) := r165_290.trans (kI_eq _ _)
theorem q165_293 {x : Int32} {a : Nat} : RR S d 165 293 L (.int x :: .ref a :: st) h Q = ((ai_arr h a 0).isSome = true ∧ ¬ (x < 0 ∨ ((ai_arr h a 0).getD (0, fun _ => 0)).1 ≤ x.toNatClampNeg) ∧ RR S d 165 294 L (.int (((ai_arr h a 0).getD (0, fun _ => 0)).2 x.toNatClampNeg) :: st) h Q) := r165_293.trans (kO_in (0, fun _ => 0) _ (fun q => q.1) _ _)
theorem q165_293x {x : Int32} {u : UInt32} : RR S d 165 293 L (.int x :: .float u :: st) h Q = (¬ (x < 0 ∨ (ai_ext S u).1 ≤ x.toNatClampNeg) ∧ RR S d 165 294 L (.int ((ai_ext S u).2 x.toNatClampNeg) :: st) h Q) := r165_293x.trans (kB_in _ _ _)
theorem q165_294 : RR S d 165 294 L st h Q = (iA (ai_look L 0) ∧ RR S d 165 295 L ((gA (ai_look L 0)) :: st) h Q) := r165_294.trans (kA_eq _ _)
theorem q165_295 : RR S d 165 295 L st h Q = (iI (ai_look L 3) ∧ RR S d 165 296 L (.int (gI (ai_look L 3)) :: st) h Q) := r165_295.trans (kI_eq _ _)
theorem q165_298 {x : Int32} {a : Nat} : RR S d 165 298 L (.int x :: .ref a :: st) h Q = ((ai_arr h a 0).isSome = true ∧ ¬ (x < 0 ∨ ((ai_arr h a 0).getD (0, fun _ => 0)).1 ≤ x.toNatClampNeg) ∧ RR S d 165 299 L (.int (((ai_arr h a 0).getD (0, fun _ => 0)).2 x.toNatClampNeg) :: st) h Q) := r165_298.trans (kO_in (0, fun _ => 0) _ (fun q => q.1) _ _)
theorem q165_298x {x : Int32} {u : UInt32} : RR S d 165 298 L (.int x :: .float u :: st) h Q = (¬ (x < 0 ∨ (ai_ext S u).1 ≤ x.toNatClampNeg) ∧ RR S d 165 299 L (.int ((ai_ext S u).2 x.toNatClampNeg) :: st) h Q) := r165_298x.trans (kB_in _ _ _)
theorem q165_299 : RR S d 165 299 L st h Q = (iA (ai_look L 0) ∧ RR S d 165 300 L ((gA (ai_look L 0)) :: st) h Q) := r165_299.trans (kA_eq _ _)
set_option maxRecDepth 20000 in
theorem q165_300 : RR S d 165 300 L st h Q = (iI (ai_look L 3) ∧ RR S d 165 301 L (.int (gI (ai_look L 3)) :: st) h Q) := r165_300.trans (kI_eq _ _)
set_option maxRecDepth 20000 in
theorem q165_303 {x : Int32} {a : Nat} : RR S d 165 303 L (.int x :: .ref a :: st) h Q = ((ai_arr h a 0).isSome = true ∧ ¬ (x < 0 ∨ ((ai_arr h a 0).getD (0, fun _ => 0)).1 ≤ x.toNatClampNeg) ∧ RR S d 165 304 L (.int (((ai_arr h a 0).getD (0, fun _ => 0)).2 x.toNatClampNeg) :: st) h Q) := r165_303.trans (kO_in (0, fun _ => 0) _ (fun q => q.1) _ _)
set_option maxRecDepth 20000 in
theorem q165_303x {x : Int32} {u : UInt32} : RR S d 165 303 L (.int x :: .float u :: st) h Q = (¬ (x < 0 ∨ (ai_ext S u).1 ≤ x.toNatClampNeg) ∧ RR S d 165 304 L (.int ((ai_ext S u).2 x.toNatClampNeg) :: st) h Q) := r165_303x.trans (kB_in _ _ _)
set_option maxRecDepth 20000 in
theorem q165_304 : RR S d 165 304 L st h Q = (iA (ai_look L 0) ∧ RR S d 165 305 L ((gA (ai_look L 0)) :: st) h Q) := r165_304.trans (kA_eq _ _)
set_option maxRecDepth 20000 in
theorem q165_305 : RR S d 165 305 L st h Q = (iI (ai_look L 3) ∧ RR S d 165 306 L (.int (gI (ai_look L 3)) :: st) h Q) := r165_305.trans (kI_eq _ _)
set_option maxRecDepth 20000 in
theorem q165_308 {x : Int32} {a : Nat} : RR S d 165 308 L (.int x :: .ref a :: st) h Q = ((ai_arr h a 0).isSome = true ∧ ¬ (x < 0 ∨ ((ai_arr h a 0).getD (0, fun _ => 0)).1 ≤ x.toNatClampNeg) ∧ RR S d 165 309 L (.int (((ai_arr h a 0).getD (0, fun _ => 0)).2 x.toNatClampNeg) :: st) h Q) := r165_308.trans (kO_in (0, fun _ => 0) _ (fun q => q.1) _ _)
set_option maxRecDepth 20000 in
theorem q165_308x {x : Int32} {u : UInt32} : RR S d 165 308 L (.int x :: .float u :: st) h Q = (¬ (x < 0 ∨ (ai_ext S u).1 ≤ x.toNatClampNeg) ∧ RR S d 165 309 L (.int ((ai_ext S u).2 x.toNatClampNeg) :: st) h Q) := r165_308x.trans (kB_in _ _ _)
set_option maxRecDepth 20000 in
theorem q165_309 : RR S d 165 309 L st h Q = (iA (ai_look L 0) ∧ RR S d 165 310 L ((gA (ai_look L 0)) :: st) h Q) := r165_309.trans (kA_eq _ _)
set_option maxRecDepth 20000 in
theorem q165_310 : RR S d 165 310 L st h Q = (iI (ai_look L 3) ∧ RR S d 165 311 L (.int (gI (ai_look L 3)) :: st) h Q) := r165_310.trans (kI_eq _ _)
set_option maxRecDepth 20000 in
theorem q165_313 {x : Int32} {a : Nat} : RR S d 165 313 L (.int x :: .ref a :: st) h Q = ((ai_arr h a 0).isSome = true ∧ ¬ (x < 0 ∨ ((ai_arr h a 0).getD (0, fun _ => 0)).1 ≤ x.toNatClampNeg) ∧ RR S d 165 314 L (.int (((ai_arr h a 0).getD (0, fun _ => 0)).2 x.toNatClampNeg) :: st) h Q) := r165_313.trans (kO_in (0, fun _ => 0) _ (fun q => q.1) _ _)
set_option maxRecDepth 20000 in
theorem q165_313x {x : Int32} {u : UInt32} : RR S d 165 313 L (.int x :: .float u :: st) h Q = (¬ (x < 0 ∨ (ai_ext S u).1 ≤ x.toNatClampNeg) ∧ RR S d 165 314 L (.int ((ai_ext S u).2 x.toNatClampNeg) :: st) h Q) := r165_313x.trans (kB_in _ _ _)
set_option maxRecDepth 20000 in
theorem q165_314 {p0 : Int32} {p1 : Int32} {p2 : Int32} {p3 : Int32} {p4 : Int32} {a : Nat} : RR S (d + 1) 165 314 L (.int p4 :: .int p3 :: .int p2 :: .int p1 :: .int p0 :: .ref a :: st) h Q = (ai_sum st ≤ 8 ∧ (ai_obj h a 10).isSome = true ∧ RR S d 125 0 [(0, .ref a), (1, .int p0), (2, .int p1), (3, .int p2), (4, .int p3), (5, .int p4)] [] h (kc S d 165 317 L st Q)) := r165_314.trans (kB_cv _ _ _)
set_option maxRecDepth 20000 in
theorem q165_321 : RR S d 165 321 L st h Q = (iA (ai_look L 1) ∧ RR S d 165 322 L ((gA (ai_look L 1)) :: st) h Q) := r165_321.trans (kA_eq _ _)
set_option maxRecDepth 20000 in
theorem q165_322 : RR S d 165 322 L st h Q = (iA (ai_look L 0) ∧ RR S d 165 323 L ((gA (ai_look L 0)) :: st) h Q) := r165_322.trans (kA_eq _ _)
set_option maxRecDepth 20000 in
theorem q165_323 : RR S d 165 323 L st h Q = (iI (ai_look L 3) ∧ RR S d 165 324 L (.int (gI (ai_look L 3)) :: st) h Q) := r165_323.trans (kI_eq _ _)
set_option maxRecDepth 20000 in
theorem q165_326 {x : Int32} {a : Nat} : RR S d 165 326 L (.int x :: .ref a :: st) h Q = ((ai_arr h a 0).isSome = true ∧ ¬ (x < 0 ∨ ((ai_arr h a 0).getD (0, fun _ => 0)).1 ≤ x.toNatClampNeg) ∧ RR S d 165 327 L (.int (((ai_arr h a 0).getD (0, fun _ => 0)).2 x.toNatClampNeg) :: st) h Q) := r165_326.trans (kO_in (0, fun _ => 0) _ (fun q => q.1) _ _)
set_option maxRecDepth 20000 in
theorem q165_326x {x : Int32} {u : UInt32} : RR S d 165 326 L (.int x :: .float u :: st) h Q = (¬ (x < 0 ∨ (ai_ext S u).1 ≤ x.toNatClampNeg) ∧ RR S d 165 327 L (.int ((ai_ext S u).2 x.toNatClampNeg) :: st) h Q) := r165_326x.trans (kB_in _ _ _)
set_option maxRecDepth 20000 in
theorem q165_327 : RR S d 165 327 L st h Q = (iA (ai_look L 0) ∧ RR S d 165 328 L ((gA (ai_look L 0)) :: st) h Q) := r165_327.trans (kA_eq _ _)
set_option maxRecDepth 20000 in
theorem q165_328 : RR S d 165 328 L st h Q = (iI (ai_look L 3) ∧ RR S d 165 329 L (.int (gI (ai_look L 3)) :: st) h Q) := r165_328.trans (kI_eq _ _)
set_option maxRecDepth 20000 in
theorem q165_331 {x : Int32} {a : Nat} : RR S d 165 331 L (.int x :: .ref a :: st) h Q = ((ai_arr h a 0).isSome = true ∧ ¬ (x < 0 ∨ ((ai_arr h a 0).getD (0, fun _ => 0)).1 ≤ x.toNatClampNeg) ∧ RR S d 165 332 L (.int (((ai_arr h a 0).getD (0, fun _ => 0)).2 x.toNatClampNeg) :: st) h Q) := r165_331.trans (kO_in (0, fun _ => 0) _ (fun q => q.1) _ _)
set_option maxRecDepth 20000 in
theorem q165_331x {x : Int32} {u : UInt32} : RR S d 165 331 L (.int x :: .float u :: st) h Q = (¬ (x < 0 ∨ (ai_ext S u).1 ≤ x.toNatClampNeg) ∧ RR S d 165 332 L (.int ((ai_ext S u).2 x.toNatClampNeg) :: st) h Q) := r165_331x.trans (kB_in _ _ _)
set_option maxRecDepth 20000 in
theorem q165_332 : RR S d 165 332 L st h Q = (iA (ai_look L 0) ∧ RR S d 165 333 L ((gA (ai_look L 0)) :: st) h Q) := r165_332.trans (kA_eq _ _)
set_option maxRecDepth 20000 in
theorem q165_333 : RR S d 165 333 L st h Q = (iI (ai_look L 3) ∧ RR S d 165 334 L (.int (gI (ai_look L 3)) :: st) h Q) := r165_333.trans (kI_eq _ _)
set_option maxRecDepth 20000 in
theorem q165_336 {x : Int32} {a : Nat} : RR S d 165 336 L (.int x :: .ref a :: st) h Q = ((ai_arr h a 0).isSome = true ∧ ¬ (x < 0 ∨ ((ai_arr h a 0).getD (0, fun _ => 0)).1 ≤ x.toNatClampNeg) ∧ RR S d 165 337 L (.int (((ai_arr h a 0).getD (0, fun _ => 0)).2 x.toNatClampNeg) :: st) h Q) := r165_336.trans (kO_in (0, fun _ => 0) _ (fun q => q.1) _ _)
set_option maxRecDepth 20000 in
theorem q165_336x {x : Int32} {u : UInt32} : RR S d 165 336 L (.int x :: .float u :: st) h Q = (¬ (x < 0 ∨ (ai_ext S u).1 ≤ x.toNatClampNeg) ∧ RR S d 165 337 L (.int ((ai_ext S u).2 x.toNatClampNeg) :: st) h Q) := r165_336x.trans (kB_in _ _ _)
set_option maxRecDepth 20000 in
theorem q165_337 : RR S d 165 337 L st h Q = (iA (ai_look L 0) ∧ RR S d 165 338 L ((gA (ai_look L 0)) :: st) h Q) := r165_337.trans (kA_eq _ _)
set_option maxRecDepth 20000 in
theorem q165_338 : RR S d 165 338 L st h Q = (iI (ai_look L 3) ∧ RR S d 165 339 L (.int (gI (ai_look L 3)) :: st) h Q) := r165_338.trans (kI_eq _ _)
set_option maxRecDepth 20000 in
theorem q165_341 {x : Int32} {a : Nat} : RR S d 165 341 L (.int x :: .ref a :: st) h Q = ((ai_arr h a 0).isSome = true ∧ ¬ (x < 0 ∨ ((ai_arr h a 0).getD (0, fun _ => 0)).1 ≤ x.toNatClampNeg) ∧ RR S d 165 342 L (.int (((ai_arr h a 0).getD (0, fun _ => 0)).2 x.toNatClampNeg) :: st) h Q) := r165_341.trans (kO_in (0, fun _ => 0) _ (fun q => q.1) _ _)
set_option maxRecDepth 20000 in
theorem q165_341x {x : Int32} {u : UInt32} : RR S d 165 341 L (.int x :: .float u :: st) h Q = (¬ (x < 0 ∨ (ai_ext S u).1 ≤ x.toNatClampNeg) ∧ RR S d 165 342 L (.int ((ai_ext S u).2 x.toNatClampNeg) :: st) h Q) := r165_341x.trans (kB_in _ _ _)
set_option maxRecDepth 20000 in
theorem q165_342 : RR S d 165 342 L st h Q = (iA (ai_look L 0) ∧ RR S d 165 343 L ((gA (ai_look L 0)) :: st) h Q) := r165_342.trans (kA_eq _ _)
set_option maxRecDepth 20000 in
theorem q165_343 : RR S d 165 343 L st h Q = (iI (ai_look L 3) ∧ RR S d 165 344 L (.int (gI (ai_look L 3)) :: st) h Q) := r165_343.trans (kI_eq _ _)
set_option maxRecDepth 20000 in
theorem q165_346 {x : Int32} {a : Nat} : RR S d 165 346 L (.int x :: .ref a :: st) h Q = ((ai_arr h a 0).isSome = true ∧ ¬ (x < 0 ∨ ((ai_arr h a 0).getD (0, fun _ => 0)).1 ≤ x.toNatClampNeg) ∧ RR S d 165 347 L (.int (((ai_arr h a 0).getD (0, fun _ => 0)).2 x.toNatClampNeg) :: st) h Q) := r165_346.trans (kO_in (0, fun _ => 0) _ (fun q => q.1) _ _)
set_option maxRecDepth 20000 in
theorem q165_346x {x : Int32} {u : UInt32} : RR S d 165 346 L (.int x :: .float u :: st) h Q = (¬ (x < 0 ∨ (ai_ext S u).1 ≤ x.toNatClampNeg) ∧ RR S d 165 347 L (.int ((ai_ext S u).2 x.toNatClampNeg) :: st) h Q) := r165_346x.trans (kB_in _ _ _)
set_option maxRecDepth 20000 in
theorem q165_347 {p0 : Int32} {p1 : Int32} {p2 : Int32} {p3 : Int32} {p4 : Int32} {a : Nat} : RR S (d + 1) 165 347 L (.int p4 :: .int p3 :: .int p2 :: .int p1 :: .int p0 :: .ref a :: st) h Q = (ai_sum st ≤ 8 ∧ (ai_obj h a 9).isSome = true ∧ RR S d 88 0 [(0, .ref a), (1, .int p0), (2, .int p1), (3, .int p2), (4, .int p3), (5, .int p4)] [] h (kc S d 165 350 L st Q)) := r165_347.trans (kB_cv _ _ _)
set_option maxRecDepth 20000 in
theorem q165_351 : RR S d 165 351 L st h Q = (iA (ai_look L 2) ∧ RR S d 165 352 L ((gA (ai_look L 2)) :: st) h Q) := r165_351.trans (kA_eq _ _)
set_option maxRecDepth 20000 in
theorem q165_352 : RR S d 165 352 L st h Q = (iA (ai_look L 0) ∧ RR S d 165 353 L ((gA (ai_look L 0)) :: st) h Q) := r165_352.trans (kA_eq _ _)
set_option maxRecDepth 20000 in
theorem q165_353 : RR S d 165 353 L st h Q = (iI (ai_look L 3) ∧ RR S d 165 354 L (.int (gI (ai_look L 3)) :: st) h Q) := r165_353.trans (kI_eq _ _)
set_option maxRecDepth 20000 in
theorem q165_356 {x : Int32} {a : Nat} : RR S d 165 356 L (.int x :: .ref a :: st) h Q = ((ai_arr h a 0).isSome = true ∧ ¬ (x < 0 ∨ ((ai_arr h a 0).getD (0, fun _ => 0)).1 ≤ x.toNatClampNeg) ∧ RR S d 165 357 L (.int (((ai_arr h a 0).getD (0, fun _ => 0)).2 x.toNatClampNeg) :: st) h Q) := r165_356.trans (kO_in (0, fun _ => 0) _ (fun q => q.1) _ _)
set_option maxRecDepth 20000 in
theorem q165_356x {x : Int32} {u : UInt32} : RR S d 165 356 L (.int x :: .float u :: st) h Q = (¬ (x < 0 ∨ (ai_ext S u).1 ≤ x.toNatClampNeg) ∧ RR S d 165 357 L (.int ((ai_ext S u).2 x.toNatClampNeg) :: st) h Q) := r165_356x.trans (kB_in _ _ _)
set_option maxRecDepth 20000 in
theorem q165_357 : RR S d 165 357 L st h Q = (iA (ai_look L 0) ∧ RR S d 165 358 L ((gA (ai_look L 0)) :: st) h Q) := r165_357.trans (kA_eq _ _)
set_option maxRecDepth 20000 in
theorem q165_358 : RR S d 165 358 L st h Q = (iI (ai_look L 3) ∧ RR S d 165 359 L (.int (gI (ai_look L 3)) :: st) h Q) := r165_358.trans (kI_eq _ _)
set_option maxRecDepth 20000 in
theorem q165_361 {x : Int32} {a : Nat} : RR S d 165 361 L (.int x :: .ref a :: st) h Q = ((ai_arr h a 0).isSome = true ∧ ¬ (x < 0 ∨ ((ai_arr h a 0).getD (0, fun _ => 0)).1 ≤ x.toNatClampNeg) ∧ RR S d 165 362 L (.int (((ai_arr h a 0).getD (0, fun _ => 0)).2 x.toNatClampNeg) :: st) h Q) := r165_361.trans (kO_in (0, fun _ => 0) _ (fun q => q.1) _ _)
set_option maxRecDepth 20000 in
theorem q165_361x {x : Int32} {u : UInt32} : RR S d 165 361 L (.int x :: .float u :: st) h Q = (¬ (x < 0 ∨ (ai_ext S u).1 ≤ x.toNatClampNeg) ∧ RR S d 165 362 L (.int ((ai_ext S u).2 x.toNatClampNeg) :: st) h Q) := r165_361x.trans (kB_in _ _ _)
set_option maxRecDepth 20000 in
theorem q165_362 : RR S d 165 362 L st h Q = (iA (ai_look L 0) ∧ RR S d 165 363 L ((gA (ai_look L 0)) :: st) h Q) := r165_362.trans (kA_eq _ _)
set_option maxRecDepth 20000 in
theorem q165_363 : RR S d 165 363 L st h Q = (iI (ai_look L 3) ∧ RR S d 165 364 L (.int (gI (ai_look L 3)) :: st) h Q) := r165_363.trans (kI_eq _ _)
set_option maxRecDepth 20000 in
theorem q165_366 {x : Int32} {a : Nat} : RR S d 165 366 L (.int x :: .ref a :: st) h Q = ((ai_arr h a 0).isSome = true ∧ ¬ (x < 0 ∨ ((ai_arr h a 0).getD (0, fun _ => 0)).1 ≤ x.toNatClampNeg) ∧ RR S d 165 367 L (.int (((ai_arr h a 0).getD (0, fun _ => 0)).2 x.toNatClampNeg) :: st) h Q) := r165_366.trans (kO_in (0, fun _ => 0) _ (fun q => q.1) _ _)
set_option maxRecDepth 20000 in
theorem q165_366x {x : Int32} {u : UInt32} : RR S d 165 366 L (.int x :: .float u :: st) h Q = (¬ (x < 0 ∨ (ai_ext S u).1 ≤ x.toNatClampNeg) ∧ RR S d 165 367 L (.int ((ai_ext S u).2 x.toNatClampNeg) :: st) h Q) := r165_366x.trans (kB_in _ _ _)
set_option maxRecDepth 20000 in
theorem q165_367 : RR S d 165 367 L st h Q = (iA (ai_look L 0) ∧ RR S d 165 368 L ((gA (ai_look L 0)) :: st) h Q) := r165_367.trans (kA_eq _ _)
set_option maxRecDepth 20000 in
theorem q165_368 : RR S d 165 368 L st h Q = (iI (ai_look L 3) ∧ RR S d 165 369 L (.int (gI (ai_look L 3)) :: st) h Q) := r165_368.trans (kI_eq _ _)
set_option maxRecDepth 20000 in
theorem q165_371 {x : Int32} {a : Nat} : RR S d 165 371 L (.int x :: .ref a :: st) h Q = ((ai_arr h a 0).isSome = true ∧ ¬ (x < 0 ∨ ((ai_arr h a 0).getD (0, fun _ => 0)).1 ≤ x.toNatClampNeg) ∧ RR S d 165 372 L (.int (((ai_arr h a 0).getD (0, fun _ => 0)).2 x.toNatClampNeg) :: st) h Q) := r165_371.trans (kO_in (0, fun _ => 0) _ (fun q => q.1) _ _)
set_option maxRecDepth 20000 in
theorem q165_371x {x : Int32} {u : UInt32} : RR S d 165 371 L (.int x :: .float u :: st) h Q = (¬ (x < 0 ∨ (ai_ext S u).1 ≤ x.toNatClampNeg) ∧ RR S d 165 372 L (.int ((ai_ext S u).2 x.toNatClampNeg) :: st) h Q) := r165_371x.trans (kB_in _ _ _)
set_option maxRecDepth 20000 in
theorem q165_372 : RR S d 165 372 L st h Q = (iA (ai_look L 0) ∧ RR S d 165 373 L ((gA (ai_look L 0)) :: st) h Q) := r165_372.trans (kA_eq _ _)
set_option maxRecDepth 20000 in
theorem q165_373 : RR S d 165 373 L st h Q = (iI (ai_look L 3) ∧ RR S d 165 374 L (.int (gI (ai_look L 3)) :: st) h Q) := r165_373.trans (kI_eq _ _)
set_option maxRecDepth 20000 in
theorem q165_376 {x : Int32} {a : Nat} : RR S d 165 376 L (.int x :: .ref a :: st) h Q = ((ai_arr h a 0).isSome = true ∧ ¬ (x < 0 ∨ ((ai_arr h a 0).getD (0, fun _ => 0)).1 ≤ x.toNatClampNeg) ∧ RR S d 165 377 L (.int (((ai_arr h a 0).getD (0, fun _ => 0)).2 x.toNatClampNeg) :: st) h Q) := r165_376.trans (kO_in (0, fun _ => 0) _ (fun q => q.1) _ _)
set_option maxRecDepth 20000 in
theorem q165_376x {x : Int32} {u : UInt32} : RR S d 165 376 L (.int x :: .float u :: st) h Q = (¬ (x < 0 ∨ (ai_ext S u).1 ≤ x.toNatClampNeg) ∧ RR S d 165 377 L (.int ((ai_ext S u).2 x.toNatClampNeg) :: st) h Q) := r165_376x.trans (kB_in _ _ _)
set_option maxRecDepth 20000 in
theorem q165_377 {p0 : Int32} {p1 : Int32} {p2 : Int32} {p3 : Int32} {p4 : Int32} {a : Nat} : RR S (d + 1) 165 377 L (.int p4 :: .int p3 :: .int p2 :: .int p1 :: .int p0 :: .ref a :: st) h Q = (ai_sum st ≤ 8 ∧ (ai_obj h a 10).isSome = true ∧ RR S d 126 0 [(0, .ref a), (1, .int p0), (2, .int p1), (3, .int p2), (4, .int p3), (5, .int p4)] [] h (kc S d 165 380 L st Q)) := r165_377.trans (kB_cv _ _ _)
set_option maxRecDepth 20000 in
theorem q165_384 : RR S d 165 384 L st h Q = (iA (ai_look L 1) ∧ RR S d 165 385 L ((gA (ai_look L 1)) :: st) h Q) := r165_384.trans (kA_eq _ _)
set_option maxRecDepth 20000 in
theorem q165_385 : RR S d 165 385 L st h Q = (iA (ai_look L 0) ∧ RR S d 165 386 L ((gA (ai_look L 0)) :: st) h Q) := r165_385.trans (kA_eq _ _)
set_option maxRecDepth 20000 in
theorem q165_386 : RR S d 165 386 L st h Q = (iI (ai_look L 3) ∧ RR S d 165 387 L (.int (gI (ai_look L 3)) :: st) h Q) := r165_386.trans (kI_eq _ _)
set_option maxRecDepth 20000 in
theorem q165_389 {x : Int32} {a : Nat} : RR S d 165 389 L (.int x :: .ref a :: st) h Q = ((ai_arr h a 0).isSome = true ∧ ¬ (x < 0 ∨ ((ai_arr h a 0).getD (0, fun _ => 0)).1 ≤ x.toNatClampNeg) ∧ RR S d 165 390 L (.int (((ai_arr h a 0).getD (0, fun _ => 0)).2 x.toNatClampNeg) :: st) h Q) := r165_389.trans (kO_in (0, fun _ => 0) _ (fun q => q.1) _ _)
set_option maxRecDepth 20000 in
theorem q165_389x {x : Int32} {u : UInt32} : RR S d 165 389 L (.int x :: .float u :: st) h Q = (¬ (x < 0 ∨ (ai_ext S u).1 ≤ x.toNatClampNeg) ∧ RR S d 165 390 L (.int ((ai_ext S u).2 x.toNatClampNeg) :: st) h Q) := r165_389x.trans (kB_in _ _ _)
set_option maxRecDepth 20000 in
theorem q165_390 {p0 : Int32} {a : Nat} : RR S (d + 1) 165 390 L (.int p0 :: .ref a :: st) h Q = (ai_sum st ≤ 8 ∧ (ai_obj h a 9).isSome = true ∧ RR S d 89 0 [(0, .ref a), (1, .int p0)] [] h (kc S d 165 393 L st Q)) := r165_390.trans (kB_cv _ _ _)
set_option maxRecDepth 20000 in
theorem q165_394 : RR S d 165 394 L st h Q = (iA (ai_look L 2) ∧ RR S d 165 395 L ((gA (ai_look L 2)) :: st) h Q) := r165_394.trans (kA_eq _ _)
set_option maxRecDepth 20000 in
theorem q165_395 : RR S d 165 395 L st h Q = (iA (ai_look L 0) ∧ RR S d 165 396 L ((gA (ai_look L 0)) :: st) h Q) := r165_395.trans (kA_eq _ _)
set_option maxRecDepth 20000 in
theorem q165_396 : RR S d 165 396 L st h Q = (iI (ai_look L 3) ∧ RR S d 165 397 L (.int (gI (ai_look L 3)) :: st) h Q) := r165_396.trans (kI_eq _ _)
set_option maxRecDepth 20000 in
theorem q165_399 {x : Int32} {a : Nat} : RR S d 165 399 L (.int x :: .ref a :: st) h Q = ((ai_arr h a 0).isSome = true ∧ ¬ (x < 0 ∨ ((ai_arr h a 0).getD (0, fun _ => 0)).1 ≤ x.toNatClampNeg) ∧ RR S d 165 400 L (.int (((ai_arr h a 0).getD (0, fun _ => 0)).2 x.toNatClampNeg) :: st) h Q) := r165_399.trans (kO_in (0, fun _ => 0) _ (fun q => q.1) _ _)
set_option maxRecDepth 20000 in
theorem q165_399x {x : Int32} {u : UInt32} : RR S d 165 399 L (.int x :: .float u :: st) h Q = (¬ (x < 0 ∨ (ai_ext S u).1 ≤ x.toNatClampNeg) ∧ RR S d 165 400 L (.int ((ai_ext S u).2 x.toNatClampNeg) :: st) h Q) := r165_399x.trans (kB_in _ _ _)
set_option maxRecDepth 20000 in
theorem q165_400 {p0 : Int32} {a : Nat} : RR S (d + 1) 165 400 L (.int p0 :: .ref a :: st) h Q = (ai_sum st ≤ 8 ∧ (ai_obj h a 10).isSome = true ∧ RR S d 127 0 [(0, .ref a), (1, .int p0)] [] h (kc S d 165 403 L st Q)) := r165_400.trans (kB_cv _ _ _)
set_option maxRecDepth 20000 in
theorem q165_407 : RR S d 165 407 L st h Q = (iA (ai_look L 1) ∧ RR S d 165 408 L ((gA (ai_look L 1)) :: st) h Q) := r165_407.trans (kA_eq _ _)
set_option maxRecDepth 20000 in
theorem q165_408 {a : Nat} : RR S (d + 1) 165 408 L (.ref a :: st) h Q = (ai_sum st ≤ 8 ∧ (ai_obj h a 9).isSome = true ∧ RR S d 90 0 [(0, .ref a)] [] h (kc S d 165 411 L st Q)) := r165_408.trans (kB_cv _ _ _)
set_option maxRecDepth 20000 in
theorem q165_412 : RR S d 165 412 L st h Q = (iA (ai_look L 2) ∧ RR S d 165 413 L ((gA (ai_look L 2)) :: st) h Q) := r165_412.trans (kA_eq _ _)
set_option maxRecDepth 20000 in
theorem q165_413 {a : Nat} : RR S (d + 1) 165 413 L (.ref a :: st) h Q = (ai_sum st ≤ 8 ∧ (ai_obj h a 10).isSome = true ∧ RR S d 134 0 [(0, .ref a)] [] h (kc S d 165 416 L st Q)) := r165_413.trans (kB_cv _ _ _)
set_option maxRecDepth 20000 in
theorem q165_420 : RR S d 165 420 L st h Q = (iA (ai_look L 1) ∧ RR S d 165 421 L ((gA (ai_look L 1)) :: st) h Q) := r165_420.trans (kA_eq _ _)
set_option maxRecDepth 20000 in
theorem q165_421 {a : Nat} : RR S (d + 1) 165 421 L (.ref a :: st) h Q = (ai_sum st ≤ 8 ∧ (ai_obj h a 9).isSome = true ∧ RR S d 91 0 [(0, .ref a)] [] h (kc S d 165 424 L st Q)) := r165_421.trans (kB_cv _ _ _)
set_option maxRecDepth 20000 in
theorem q165_425 : RR S d 165 425 L st h Q = (iA (ai_look L 2) ∧ RR S d 165 426 L ((gA (ai_look L 2)) :: st) h Q) := r165_425.trans (kA_eq _ _)
set_option maxRecDepth 20000 in
theorem q165_426 {a : Nat} : RR S (d + 1) 165 426 L (.ref a :: st) h Q = (ai_sum st ≤ 8 ∧ (ai_obj h a 10).isSome = true ∧ RR S d 135 0 [(0, .ref a)] [] h (kc S d 165 429 L st Q)) := r165_426.trans (kB_cv _ _ _)
set_option maxRecDepth 20000 in
theorem q165_433 : RR S d 165 433 L st h Q = (iA (ai_look L 1) ∧ RR S d 165 434 L ((gA (ai_look L 1)) :: st) h Q) := r165_433.trans (kA_eq _ _)
set_option maxRecDepth 20000 in
theorem q165_434 {a : Nat} : RR S (d + 1) 165 434 L (.ref a :: st) h Q = (ai_sum st ≤ 8 ∧ (ai_obj h a 9).isSome = true ∧ RR S d 92 0 [(0, .ref a)] [] h (kc S d 165 437 L st Q)) := r165_434.trans (kB_cv _ _ _)
set_option maxRecDepth 20000 in
theorem q165_438 : RR S d 165 438 L st h Q = (iA (ai_look L 2) ∧ RR S d 165 439 L ((gA (ai_look L 2)) :: st) h Q) := r165_438.trans (kA_eq _ _)
set_option maxRecDepth 20000 in
theorem q165_439 {a : Nat} : RR S (d + 1) 165 439 L (.ref a :: st) h Q = (ai_sum st ≤ 8 ∧ (ai_obj h a 10).isSome = true ∧ RR S d 140 0 [(0, .ref a)] [] h (kc S d 165 442 L st Q)) := r165_439.trans (kB_cv _ _ _)
set_option maxRecDepth 20000 in
theorem q165_446 : RR S d 165 446 L st h Q = (iA (ai_look L 1) ∧ RR S d 165 447 L ((gA (ai_look L 1)) :: st) h Q) := r165_446.trans (kA_eq _ _)
set_option maxRecDepth 20000 in
theorem q165_447 : RR S d 165 447 L st h Q = (iA (ai_look L 0) ∧ RR S d 165 448 L ((gA (ai_look L 0)) :: st) h Q) := r165_447.trans (kA_eq _ _)
set_option maxRecDepth 20000 in
theorem q165_448 : RR S d 165 448 L st h Q = (iI (ai_look L 3) ∧ RR S d 165 449 L (.int (gI (ai_look L 3)) :: st) h Q) := r165_448.trans (kI_eq _ _)
set_option maxRecDepth 20000 in
theorem q165_451 {x : Int32} {a : Nat} : RR S d 165 451 L (.int x :: .ref a :: st) h Q = ((ai_arr h a 0).isSome = true ∧ ¬ (x < 0 ∨ ((ai_arr h a 0).getD (0, fun _ => 0)).1 ≤ x.toNatClampNeg) ∧ RR S d 165 452 L (.int (((ai_arr h a 0).getD (0, fun _ => 0)).2 x.toNatClampNeg) :: st) h Q) := r165_451.trans (kO_in (0, fun _ => 0) _ (fun q => q.1) _ _)
set_option maxRecDepth 20000 in
theorem q165_451x {x : Int32} {u : UInt32} : RR S d 165 451 L (.int x :: .float u :: st) h Q = (¬ (x < 0 ∨ (ai_ext S u).1 ≤ x.toNatClampNeg) ∧ RR S d 165 452 L (.int ((ai_ext S u).2 x.toNatClampNeg) :: st) h Q) := r165_451x.trans (kB_in _ _ _)
set_option maxRecDepth 20000 in
theorem q165_452 : RR S d 165 452 L st h Q = (iA (ai_look L 0) ∧ RR S d 165 453 L ((gA (ai_look L 0)) :: st) h Q) := r165_452.trans (kA_eq _ _)
set_option maxRecDepth 20000 in
theorem q165_453 : RR S d 165 453 L st h Q = (iI (ai_look L 3) ∧ RR S d 165 454 L (.int (gI (ai_look L 3)) :: st) h Q) := r165_453.trans (kI_eq _ _)
set_option maxRecDepth 20000 in
theorem q165_456 {x : Int32} {a : Nat} : RR S d 165 456 L (.int x :: .ref a :: st) h Q = ((ai_arr h a 0).isSome = true ∧ ¬ (x < 0 ∨ ((ai_arr h a 0).getD (0, fun _ => 0)).1 ≤ x.toNatClampNeg) ∧ RR S d 165 457 L (.int (((ai_arr h a 0).getD (0, fun _ => 0)).2 x.toNatClampNeg) :: st) h Q) := r165_456.trans (kO_in (0, fun _ => 0) _ (fun q => q.1) _ _)
set_option maxRecDepth 20000 in
theorem q165_456x {x : Int32} {u : UInt32} : RR S d 165 456 L (.int x :: .float u :: st) h Q = (¬ (x < 0 ∨ (ai_ext S u).1 ≤ x.toNatClampNeg) ∧ RR S d 165 457 L (.int ((ai_ext S u).2 x.toNatClampNeg) :: st) h Q) := r165_456x.trans (kB_in _ _ _)
set_option maxRecDepth 20000 in
theorem q165_457 {p0 : Int32} {p1 : Int32} {a : Nat} : RR S (d + 1) 165 457 L (.int p1 :: .int p0 :: .ref a :: st) h Q = (ai_sum st ≤ 8 ∧ (ai_obj h a 9).isSome = true ∧ RR S d 93 0 [(0, .ref a), (1, .int p0), (2, .int p1)] [] h (kc S d 165 460 L st Q)) := r165_457.trans (kB_cv _ _ _)
set_option maxRecDepth 20000 in
theorem q165_461 : RR S d 165 461 L st h Q = (iA (ai_look L 2) ∧ RR S d 165 462 L ((gA (ai_look L 2)) :: st) h Q) := r165_461.trans (kA_eq _ _)
set_option maxRecDepth 20000 in
theorem q165_462 : RR S d 165 462 L st h Q = (iA (ai_look L 0) ∧ RR S d 165 463 L ((gA (ai_look L 0)) :: st) h Q) := r165_462.trans (kA_eq _ _)
set_option maxRecDepth 20000 in
theorem q165_463 : RR S d 165 463 L st h Q = (iI (ai_look L 3) ∧ RR S d 165 464 L (.int (gI (ai_look L 3)) :: st) h Q) := r165_463.trans (kI_eq _ _)
set_option maxRecDepth 20000 in
theorem q165_466 {x : Int32} {a : Nat} : RR S d 165 466 L (.int x :: .ref a :: st) h Q = ((ai_arr h a 0).isSome = true ∧ ¬ (x < 0 ∨ ((ai_arr h a 0).getD (0, fun _ => 0)).1 ≤ x.toNatClampNeg) ∧ RR S d 165 467 L (.int (((ai_arr h a 0).getD (0, fun _ => 0)).2 x.toNatClampNeg) :: st) h Q) := r165_466.trans (kO_in (0, fun _ => 0) _ (fun q => q.1) _ _)
set_option maxRecDepth 20000 in
theorem q165_466x {x : Int32} {u : UInt32} : RR S d 165 466 L (.int x :: .float u :: st) h Q = (¬ (x < 0 ∨ (ai_ext S u).1 ≤ x.toNatClampNeg) ∧ RR S d 165 467 L (.int ((ai_ext S u).2 x.toNatClampNeg) :: st) h Q) := r165_466x.trans (kB_in _ _ _)
set_option maxRecDepth 20000 in
theorem q165_467 : RR S d 165 467 L st h Q = (iA (ai_look L 0) ∧ RR S d 165 468 L ((gA (ai_look L 0)) :: st) h Q) := r165_467.trans (kA_eq _ _)
set_option maxRecDepth 20000 in
theorem q165_468 : RR S d 165 468 L st h Q = (iI (ai_look L 3) ∧ RR S d 165 469 L (.int (gI (ai_look L 3)) :: st) h Q) := r165_468.trans (kI_eq _ _)
set_option maxRecDepth 20000 in
theorem q165_471 {x : Int32} {a : Nat} : RR S d 165 471 L (.int x :: .ref a :: st) h Q = ((ai_arr h a 0).isSome = true ∧ ¬ (x < 0 ∨ ((ai_arr h a 0).getD (0, fun _ => 0)).1 ≤ x.toNatClampNeg) ∧ RR S d 165 472 L (.int (((ai_arr h a 0).getD (0, fun _ => 0)).2 x.toNatClampNeg) :: st) h Q) := r165_471.trans (kO_in (0, fun _ => 0) _ (fun q => q.1) _ _)
set_option maxRecDepth 20000 in
theorem q165_471x {x : Int32} {u : UInt32} : RR S d 165 471 L (.int x :: .float u :: st) h Q = (¬ (x < 0 ∨ (ai_ext S u).1 ≤ x.toNatClampNeg) ∧ RR S d 165 472 L (.int ((ai_ext S u).2 x.toNatClampNeg) :: st) h Q) := r165_471x.trans (kB_in _ _ _)
set_option maxRecDepth 20000 in
theorem q165_472 {p0 : Int32} {p1 : Int32} {a : Nat} : RR S (d + 1) 165 472 L (.int p1 :: .int p0 :: .ref a :: st) h Q = (ai_sum st ≤ 8 ∧ (ai_obj h a 10).isSome = true ∧ RR S d 142 0 [(0, .ref a), (1, .int p0), (2, .int p1)] [] h (kc S d 165 475 L st Q)) := r165_472.trans (kB_cv _ _ _)
set_option maxRecDepth 20000 in
theorem q165_479 : RR S d 165 479 L st h Q = (iA (ai_look L 1) ∧ RR S d 165 480 L ((gA (ai_look L 1)) :: st) h Q) := r165_479.trans (kA_eq _ _)
set_option maxRecDepth 20000 in
theorem q165_480 {a : Nat} : RR S (d + 1) 165 480 L (.ref a :: st) h Q = (ai_sum st ≤ 8 ∧ (ai_obj h a 9).isSome = true ∧ RR S d 94 0 [(0, .ref a)] [] h (kc S d 165 483 L st Q)) := r165_480.trans (kB_cv _ _ _)
set_option maxRecDepth 20000 in
theorem q165_484 : RR S d 165 484 L st h Q = (iA (ai_look L 2) ∧ RR S d 165 485 L ((gA (ai_look L 2)) :: st) h Q) := r165_484.trans (kA_eq _ _)
set_option maxRecDepth 20000 in
theorem q165_485 {a : Nat} : RR S (d + 1) 165 485 L (.ref a :: st) h Q = (ai_sum st ≤ 8 ∧ (ai_obj h a 10).isSome = true ∧ RR S d 143 0 [(0, .ref a)] [] h (kc S d 165 488 L st Q)) := r165_485.trans (kB_cv _ _ _)
set_option maxRecDepth 20000 in
theorem q165_492 : RR S d 165 492 L st h Q = (iA (ai_look L 1) ∧ RR S d 165 493 L ((gA (ai_look L 1)) :: st) h Q) := r165_492.trans (kA_eq _ _)
set_option maxRecDepth 20000 in
theorem q165_493 : RR S d 165 493 L st h Q = (iA (ai_look L 0) ∧ RR S d 165 494 L ((gA (ai_look L 0)) :: st) h Q) := r165_493.trans (kA_eq _ _)
set_option maxRecDepth 20000 in
theorem q165_494 : RR S d 165 494 L st h Q = (iI (ai_look L 3) ∧ RR S d 165 495 L (.int (gI (ai_look L 3)) :: st) h Q) := r165_494.trans (kI_eq _ _)
set_option maxRecDepth 20000 in
theorem q165_497 {x : Int32} {a : Nat} : RR S d 165 497 L (.int x :: .ref a :: st) h Q = ((ai_arr h a 0).isSome = true ∧ ¬ (x < 0 ∨ ((ai_arr h a 0).getD (0, fun _ => 0)).1 ≤ x.toNatClampNeg) ∧ RR S d 165 498 L (.int (((ai_arr h a 0).getD (0, fun _ => 0)).2 x.toNatClampNeg) :: st) h Q) := r165_497.trans (kO_in (0, fun _ => 0) _ (fun q => q.1) _ _)
set_option maxRecDepth 20000 in
theorem q165_497x {x : Int32} {u : UInt32} : RR S d 165 497 L (.int x :: .float u :: st) h Q = (¬ (x < 0 ∨ (ai_ext S u).1 ≤ x.toNatClampNeg) ∧ RR S d 165 498 L (.int ((ai_ext S u).2 x.toNatClampNeg) :: st) h Q) := r165_497x.trans (kB_in _ _ _)
set_option maxRecDepth 20000 in
theorem q165_498 : RR S d 165 498 L st h Q = (iA (ai_look L 0) ∧ RR S d 165 499 L ((gA (ai_look L 0)) :: st) h Q) := r165_498.trans (kA_eq _ _)
set_option maxRecDepth 20000 in
theorem q165_499 : RR S d 165 499 L st h Q = (iI (ai_look L 3) ∧ RR S d 165 500 L (.int (gI (ai_look L 3)) :: st) h Q) := r165_499.trans (kI_eq _ _)
set_option maxRecDepth 20000 in
theorem q165_502 {x : Int32} {a : Nat} : RR S d 165 502 L (.int x :: .ref a :: st) h Q = ((ai_arr h a 0).isSome = true ∧ ¬ (x < 0 ∨ ((ai_arr h a 0).getD (0, fun _ => 0)).1 ≤ x.toNatClampNeg) ∧ RR S d 165 503 L (.int (((ai_arr h a 0).getD (0, fun _ => 0)).2 x.toNatClampNeg) :: st) h Q) := r165_502.trans (kO_in (0, fun _ => 0) _ (fun q => q.1) _ _)
set_option maxRecDepth 20000 in
theorem q165_502x {x : Int32} {u : UInt32} : RR S d 165 502 L (.int x :: .float u :: st) h Q = (¬ (x < 0 ∨ (ai_ext S u).1 ≤ x.toNatClampNeg) ∧ RR S d 165 503 L (.int ((ai_ext S u).2 x.toNatClampNeg) :: st) h Q) := r165_502x.trans (kB_in _ _ _)
set_option maxRecDepth 20000 in
theorem q165_503 {p0 : Int32} {p1 : Int32} {a : Nat} : RR S (d + 1) 165 503 L (.int p1 :: .int p0 :: .ref a :: st) h Q = (ai_sum st ≤ 8 ∧ (ai_obj h a 9).isSome = true ∧ RR S d 95 0 [(0, .ref a), (1, .int p0), (2, .int p1)] [] h (kc S d 165 506 L st Q)) := r165_503.trans (kB_cv _ _ _)
set_option maxRecDepth 20000 in
theorem q165_507 : RR S d 165 507 L st h Q = (iA (ai_look L 2) ∧ RR S d 165 508 L ((gA (ai_look L 2)) :: st) h Q) := r165_507.trans (kA_eq _ _)
set_option maxRecDepth 20000 in
theorem q165_508 : RR S d 165 508 L st h Q = (iA (ai_look L 0) ∧ RR S d 165 509 L ((gA (ai_look L 0)) :: st) h Q) := r165_508.trans (kA_eq _ _)
set_option maxRecDepth 20000 in
theorem q165_509 : RR S d 165 509 L st h Q = (iI (ai_look L 3) ∧ RR S d 165 510 L (.int (gI (ai_look L 3)) :: st) h Q) := r165_509.trans (kI_eq _ _)
set_option maxRecDepth 20000 in
theorem q165_512 {x : Int32} {a : Nat} : RR S d 165 512 L (.int x :: .ref a :: st) h Q = ((ai_arr h a 0).isSome = true ∧ ¬ (x < 0 ∨ ((ai_arr h a 0).getD (0, fun _ => 0)).1 ≤ x.toNatClampNeg) ∧ RR S d 165 513 L (.int (((ai_arr h a 0).getD (0, fun _ => 0)).2 x.toNatClampNeg) :: st) h Q) := r165_512.trans (kO_in (0, fun _ => 0) _ (fun q => q.1) _ _)
set_option maxRecDepth 20000 in
theorem q165_512x {x : Int32} {u : UInt32} : RR S d 165 512 L (.int x :: .float u :: st) h Q = (¬ (x < 0 ∨ (ai_ext S u).1 ≤ x.toNatClampNeg) ∧ RR S d 165 513 L (.int ((ai_ext S u).2 x.toNatClampNeg) :: st) h Q) := r165_512x.trans (kB_in _ _ _)
set_option maxRecDepth 20000 in
theorem q165_513 : RR S d 165 513 L st h Q = (iA (ai_look L 0) ∧ RR S d 165 514 L ((gA (ai_look L 0)) :: st) h Q) := r165_513.trans (kA_eq _ _)
set_option maxRecDepth 20000 in
theorem q165_514 : RR S d 165 514 L st h Q = (iI (ai_look L 3) ∧ RR S d 165 515 L (.int (gI (ai_look L 3)) :: st) h Q) := r165_514.trans (kI_eq _ _)
set_option maxRecDepth 20000 in
theorem q165_517 {x : Int32} {a : Nat} : RR S d 165 517 L (.int x :: .ref a :: st) h Q = ((ai_arr h a 0).isSome = true ∧ ¬ (x < 0 ∨ ((ai_arr h a 0).getD (0, fun _ => 0)).1 ≤ x.toNatClampNeg) ∧ RR S d 165 518 L (.int (((ai_arr h a 0).getD (0, fun _ => 0)).2 x.toNatClampNeg) :: st) h Q) := r165_517.trans (kO_in (0, fun _ => 0) _ (fun q => q.1) _ _)
set_option maxRecDepth 20000 in
theorem q165_517x {x : Int32} {u : UInt32} : RR S d 165 517 L (.int x :: .float u :: st) h Q = (¬ (x < 0 ∨ (ai_ext S u).1 ≤ x.toNatClampNeg) ∧ RR S d 165 518 L (.int ((ai_ext S u).2 x.toNatClampNeg) :: st) h Q) := r165_517x.trans (kB_in _ _ _)
set_option maxRecDepth 20000 in
theorem q165_518 {p0 : Int32} {p1 : Int32} {a : Nat} : RR S (d + 1) 165 518 L (.int p1 :: .int p0 :: .ref a :: st) h Q = (ai_sum st ≤ 8 ∧ (ai_obj h a 10).isSome = true ∧ RR S d 144 0 [(0, .ref a), (1, .int p0), (2, .int p1)] [] h (kc S d 165 521 L st Q)) := r165_518.trans (kB_cv _ _ _)
set_option maxRecDepth 20000 in
theorem q165_525 : RR S d 165 525 L st h Q = (iA (ai_look L 1) ∧ RR S d 165 526 L ((gA (ai_look L 1)) :: st) h Q) := r165_525.trans (kA_eq _ _)
set_option maxRecDepth 20000 in
theorem q165_526 : RR S d 165 526 L st h Q = (iA (ai_look L 0) ∧ RR S d 165 527 L ((gA (ai_look L 0)) :: st) h Q) := r165_526.trans (kA_eq _ _)
set_option maxRecDepth 20000 in
theorem q165_527 : RR S d 165 527 L st h Q = (iI (ai_look L 3) ∧ RR S d 165 528 L (.int (gI (ai_look L 3)) :: st) h Q) := r165_527.trans (kI_eq _ _)
set_option maxRecDepth 20000 in
theorem q165_530 {x : Int32} {a : Nat} : RR S d 165 530 L (.int x :: .ref a :: st) h Q = ((ai_arr h a 0).isSome = true ∧ ¬ (x < 0 ∨ ((ai_arr h a 0).getD (0, fun _ => 0)).1 ≤ x.toNatClampNeg) ∧ RR S d 165 531 L (.int (((ai_arr h a 0).getD (0, fun _ => 0)).2 x.toNatClampNeg) :: st) h Q) := r165_530.trans (kO_in (0, fun _ => 0) _ (fun q => q.1) _ _)
set_option maxRecDepth 20000 in
theorem q165_530x {x : Int32} {u : UInt32} : RR S d 165 530 L (.int x :: .float u :: st) h Q = (¬ (x < 0 ∨ (ai_ext S u).1 ≤ x.toNatClampNeg) ∧ RR S d 165 531 L (.int ((ai_ext S u).2 x.toNatClampNeg) :: st) h Q) := r165_530x.trans (kB_in _ _ _)
set_option maxRecDepth 20000 in
theorem q165_531 : RR S d 165 531 L st h Q = (iA (ai_look L 0) ∧ RR S d 165 532 L ((gA (ai_look L 0)) :: st) h Q) := r165_531.trans (kA_eq _ _)
set_option maxRecDepth 20000 in
theorem q165_532 : RR S d 165 532 L st h Q = (iI (ai_look L 3) ∧ RR S d 165 533 L (.int (gI (ai_look L 3)) :: st) h Q) := r165_532.trans (kI_eq _ _)
set_option maxRecDepth 20000 in
theorem q165_535 {x : Int32} {a : Nat} : RR S d 165 535 L (.int x :: .ref a :: st) h Q = ((ai_arr h a 0).isSome = true ∧ ¬ (x < 0 ∨ ((ai_arr h a 0).getD (0, fun _ => 0)).1 ≤ x.toNatClampNeg) ∧ RR S d 165 536 L (.int (((ai_arr h a 0).getD (0, fun _ => 0)).2 x.toNatClampNeg) :: st) h Q) := r165_535.trans (kO_in (0, fun _ => 0) _ (fun q => q.1) _ _)
set_option maxRecDepth 20000 in
theorem q165_535x {x : Int32} {u : UInt32} : RR S d 165 535 L (.int x :: .float u :: st) h Q = (¬ (x < 0 ∨ (ai_ext S u).1 ≤ x.toNatClampNeg) ∧ RR S d 165 536 L (.int ((ai_ext S u).2 x.toNatClampNeg) :: st) h Q) := r165_535x.trans (kB_in _ _ _)
set_option maxRecDepth 20000 in
theorem q165_536 : RR S d 165 536 L st h Q = (iA (ai_look L 0) ∧ RR S d 165 537 L ((gA (ai_look L 0)) :: st) h Q) := r165_536.trans (kA_eq _ _)
set_option maxRecDepth 20000 in
theorem q165_537 : RR S d 165 537 L st h Q = (iI (ai_look L 3) ∧ RR S d 165 538 L (.int (gI (ai_look L 3)) :: st) h Q) := r165_537.trans (kI_eq _ _)
set_option maxRecDepth 20000 in
theorem q165_540 {x : Int32} {a : Nat} : RR S d 165 540 L (.int x :: .ref a :: st) h Q = ((ai_arr h a 0).isSome = true ∧ ¬ (x < 0 ∨ ((ai_arr h a 0).getD (0, fun _ => 0)).1 ≤ x.toNatClampNeg) ∧ RR S d 165 541 L (.int (((ai_arr h a 0).getD (0, fun _ => 0)).2 x.toNatClampNeg) :: st) h Q) := r165_540.trans (kO_in (0, fun _ => 0) _ (fun q => q.1) _ _)
set_option maxRecDepth 20000 in
theorem q165_540x {x : Int32} {u : UInt32} : RR S d 165 540 L (.int x :: .float u :: st) h Q = (¬ (x < 0 ∨ (ai_ext S u).1 ≤ x.toNatClampNeg) ∧ RR S d 165 541 L (.int ((ai_ext S u).2 x.toNatClampNeg) :: st) h Q) := r165_540x.trans (kB_in _ _ _)
set_option maxRecDepth 20000 in
theorem q165_541 {p0 : Int32} {p1 : Int32} {p2 : Int32} {a : Nat} : RR S (d + 1) 165 541 L (.int p2 :: .int p1 :: .int p0 :: .ref a :: st) h Q = (ai_sum st ≤ 8 ∧ (ai_obj h a 9).isSome = true ∧ RR S d 96 0 [(0, .ref a), (1, .int p0), (2, .int p1), (3, .int p2)] [] h (kc S d 165 544 L st Q)) := r165_541.trans (kB_cv _ _ _)
set_option maxRecDepth 20000 in
theorem q165_545 : RR S d 165 545 L st h Q = (iA (ai_look L 2) ∧ RR S d 165 546 L ((gA (ai_look L 2)) :: st) h Q) := r165_545.trans (kA_eq _ _)
set_option maxRecDepth 20000 in
theorem q165_546 : RR S d 165 546 L st h Q = (iA (ai_look L 0) ∧ RR S d 165 547 L ((gA (ai_look L 0)) :: st) h Q) := r165_546.trans (kA_eq _ _)
set_option maxRecDepth 20000 in
theorem q165_547 : RR S d 165 547 L st h Q = (iI (ai_look L 3) ∧ RR S d 165 548 L (.int (gI (ai_look L 3)) :: st) h Q) := r165_547.trans (kI_eq _ _)
set_option maxRecDepth 20000 in
theorem q165_550 {x : Int32} {a : Nat} : RR S d 165 550 L (.int x :: .ref a :: st) h Q = ((ai_arr h a 0).isSome = true ∧ ¬ (x < 0 ∨ ((ai_arr h a 0).getD (0, fun _ => 0)).1 ≤ x.toNatClampNeg) ∧ RR S d 165 551 L (.int (((ai_arr h a 0).getD (0, fun _ => 0)).2 x.toNatClampNeg) :: st) h Q) := r165_550.trans (kO_in (0, fun _ => 0) _ (fun q => q.1) _ _)
set_option maxRecDepth 20000 in
theorem q165_550x {x : Int32} {u : UInt32} : RR S d 165 550 L (.int x :: .float u :: st) h Q = (¬ (x < 0 ∨ (ai_ext S u).1 ≤ x.toNatClampNeg) ∧ RR S d 165 551 L (.int ((ai_ext S u).2 x.toNatClampNeg) :: st) h Q) := r165_550x.trans (kB_in _ _ _)
set_option maxRecDepth 20000 in
theorem q165_551 : RR S d 165 551 L st h Q = (iA (ai_look L 0) ∧ RR S d 165 552 L ((gA (ai_look L 0)) :: st) h Q) := r165_551.trans (kA_eq _ _)
set_option maxRecDepth 20000 in
theorem q165_552 : RR S d 165 552 L st h Q = (iI (ai_look L 3) ∧ RR S d 165 553 L (.int (gI (ai_look L 3)) :: st) h Q) := r165_552.trans (kI_eq _ _)
set_option maxRecDepth 20000 in
theorem q165_555 {x : Int32} {a : Nat} : RR S d 165 555 L (.int x :: .ref a :: st) h Q = ((ai_arr h a 0).isSome = true ∧ ¬ (x < 0 ∨ ((ai_arr h a 0).getD (0, fun _ => 0)).1 ≤ x.toNatClampNeg) ∧ RR S d 165 556 L (.int (((ai_arr h a 0).getD (0, fun _ => 0)).2 x.toNatClampNeg) :: st) h Q) := r165_555.trans (kO_in (0, fun _ => 0) _ (fun q => q.1) _ _)
set_option maxRecDepth 20000 in
theorem q165_555x {x : Int32} {u : UInt32} : RR S d 165 555 L (.int x :: .float u :: st) h Q = (¬ (x < 0 ∨ (ai_ext S u).1 ≤ x.toNatClampNeg) ∧ RR S d 165 556 L (.int ((ai_ext S u).2 x.toNatClampNeg) :: st) h Q) := r165_555x.trans (kB_in _ _ _)
set_option maxRecDepth 20000 in
theorem q165_556 : RR S d 165 556 L st h Q = (iA (ai_look L 0) ∧ RR S d 165 557 L ((gA (ai_look L 0)) :: st) h Q) := r165_556.trans (kA_eq _ _)
set_option maxRecDepth 20000 in
theorem q165_557 : RR S d 165 557 L st h Q = (iI (ai_look L 3) ∧ RR S d 165 558 L (.int (gI (ai_look L 3)) :: st) h Q) := r165_557.trans (kI_eq _ _)
set_option maxRecDepth 20000 in
theorem q165_560 {x : Int32} {a : Nat} : RR S d 165 560 L (.int x :: .ref a :: st) h Q = ((ai_arr h a 0).isSome = true ∧ ¬ (x < 0 ∨ ((ai_arr h a 0).getD (0, fun _ => 0)).1 ≤ x.toNatClampNeg) ∧ RR S d 165 561 L (.int (((ai_arr h a 0).getD (0, fun _ => 0)).2 x.toNatClampNeg) :: st) h Q) := r165_560.trans (kO_in (0, fun _ => 0) _ (fun q => q.1) _ _)
set_option maxRecDepth 20000 in
theorem q165_560x {x : Int32} {u : UInt32} : RR S d 165 560 L (.int x :: .float u :: st) h Q = (¬ (x < 0 ∨ (ai_ext S u).1 ≤ x.toNatClampNeg) ∧ RR S d 165 561 L (.int ((ai_ext S u).2 x.toNatClampNeg) :: st) h Q) := r165_560x.trans (kB_in _ _ _)
set_option maxRecDepth 20000 in
theorem q165_561 {p0 : Int32} {p1 : Int32} {p2 : Int32} {a : Nat} : RR S (d + 1) 165 561 L (.int p2 :: .int p1 :: .int p0 :: .ref a :: st) h Q = (ai_sum st ≤ 8 ∧ (ai_obj h a 10).isSome = true ∧ RR S d 147 0 [(0, .ref a), (1, .int p0), (2, .int p1), (3, .int p2)] [] h (kc S d 165 564 L st Q)) := r165_561.trans (kB_cv _ _ _)
set_option maxRecDepth 20000 in
theorem q165_568 : RR S d 165 568 L st h Q = (iA (ai_look L 1) ∧ RR S d 165 569 L ((gA (ai_look L 1)) :: st) h Q) := r165_568.trans (kA_eq _ _)
set_option maxRecDepth 20000 in
theorem q165_569 : RR S d 165 569 L st h Q = (iA (ai_look L 0) ∧ RR S d 165 570 L ((gA (ai_look L 0)) :: st) h Q) := r165_569.trans (kA_eq _ _)
set_option maxRecDepth 20000 in
theorem q165_570 : RR S d 165 570 L st h Q = (iI (ai_look L 3) ∧ RR S d 165 571 L (.int (gI (ai_look L 3)) :: st) h Q) := r165_570.trans (kI_eq _ _)
set_option maxRecDepth 20000 in
theorem q165_573 {x : Int32} {a : Nat} : RR S d 165 573 L (.int x :: .ref a :: st) h Q = ((ai_arr h a 0).isSome = true ∧ ¬ (x < 0 ∨ ((ai_arr h a 0).getD (0, fun _ => 0)).1 ≤ x.toNatClampNeg) ∧ RR S d 165 574 L (.int (((ai_arr h a 0).getD (0, fun _ => 0)).2 x.toNatClampNeg) :: st) h Q) := r165_573.trans (kO_in (0, fun _ => 0) _ (fun q => q.1) _ _)
set_option maxRecDepth 20000 in
theorem q165_573x {x : Int32} {u : UInt32} : RR S d 165 573 L (.int x :: .float u :: st) h Q = (¬ (x < 0 ∨ (ai_ext S u).1 ≤ x.toNatClampNeg) ∧ RR S d 165 574 L (.int ((ai_ext S u).2 x.toNatClampNeg) :: st) h Q) := r165_573x.trans (kB_in _ _ _)
set_option maxRecDepth 20000 in
theorem q165_574 : RR S d 165 574 L st h Q = (iA (ai_look L 0) ∧ RR S d 165 575 L ((gA (ai_look L 0)) :: st) h Q) := r165_574.trans (kA_eq _ _)
set_option maxRecDepth 20000 in
theorem q165_575 : RR S d 165 575 L st h Q = (iI (ai_look L 3) ∧ RR S d 165 576 L (.int (gI (ai_look L 3)) :: st) h Q) := r165_575.trans (kI_eq _ _)
set_option maxRecDepth 20000 in
theorem q165_578 {x : Int32} {a : Nat} : RR S d 165 578 L (.int x :: .ref a :: st) h Q = ((ai_arr h a 0).isSome = true ∧ ¬ (x < 0 ∨ ((ai_arr h a 0).getD (0, fun _ => 0)).1 ≤ x.toNatClampNeg) ∧ RR S d 165 579 L (.int (((ai_arr h a 0).getD (0, fun _ => 0)).2 x.toNatClampNeg) :: st) h Q) := r165_578.trans (kO_in (0, fun _ => 0) _ (fun q => q.1) _ _)
set_option maxRecDepth 20000 in
theorem q165_578x {x : Int32} {u : UInt32} : RR S d 165 578 L (.int x :: .float u :: st) h Q = (¬ (x < 0 ∨ (ai_ext S u).1 ≤ x.toNatClampNeg) ∧ RR S d 165 579 L (.int ((ai_ext S u).2 x.toNatClampNeg) :: st) h Q) := r165_578x.trans (kB_in _ _ _)
set_option maxRecDepth 20000 in
theorem q165_579 {p0 : Int32} {p1 : Int32} {a : Nat} : RR S (d + 1) 165 579 L (.int p1 :: .int p0 :: .ref a :: st) h Q = (ai_sum st ≤ 8 ∧ (ai_obj h a 9).isSome = true ∧ RR S d 97 0 [(0, .ref a), (1, .int p0), (2, .int p1)] [] h (kc S d 165 582 L st Q)) := r165_579.trans (kB_cv _ _ _)
set_option maxRecDepth 20000 in
theorem q165_583 : RR S d 165 583 L st h Q = (iA (ai_look L 2) ∧ RR S d 165 584 L ((gA (ai_look L 2)) :: st) h Q) := r165_583.trans (kA_eq _ _)
set_option maxRecDepth 20000 in
theorem q165_584 : RR S d 165 584 L st h Q = (iA (ai_look L 0) ∧ RR S d 165 585 L ((gA (ai_look L 0)) :: st) h Q) := r165_584.trans (kA_eq _ _)
set_option maxRecDepth 20000 in
theorem q165_585 : RR S d 165 585 L st h Q = (iI (ai_look L 3) ∧ RR S d 165 586 L (.int (gI (ai_look L 3)) :: st) h Q) := r165_585.trans (kI_eq _ _)
set_option maxRecDepth 20000 in
theorem q165_588 {x : Int32} {a : Nat} : RR S d 165 588 L (.int x :: .ref a :: st) h Q = ((ai_arr h a 0).isSome = true ∧ ¬ (x < 0 ∨ ((ai_arr h a 0).getD (0, fun _ => 0)).1 ≤ x.toNatClampNeg) ∧ RR S d 165 589 L (.int (((ai_arr h a 0).getD (0, fun _ => 0)).2 x.toNatClampNeg) :: st) h Q) := r165_588.trans (kO_in (0, fun _ => 0) _ (fun q => q.1) _ _)
set_option maxRecDepth 20000 in
theorem q165_588x {x : Int32} {u : UInt32} : RR S d 165 588 L (.int x :: .float u :: st) h Q = (¬ (x < 0 ∨ (ai_ext S u).1 ≤ x.toNatClampNeg) ∧ RR S d 165 589 L (.int ((ai_ext S u).2 x.toNatClampNeg) :: st) h Q) := r165_588x.trans (kB_in _ _ _)
set_option maxRecDepth 20000 in
theorem q165_589 : RR S d 165 589 L st h Q = (iA (ai_look L 0) ∧ RR S d 165 590 L ((gA (ai_look L 0)) :: st) h Q) := r165_589.trans (kA_eq _ _)
set_option maxRecDepth 20000 in
theorem q165_590 : RR S d 165 590 L st h Q = (iI (ai_look L 3) ∧ RR S d 165 591 L (.int (gI (ai_look L 3)) :: st) h Q) := r165_590.trans (kI_eq _ _)
set_option maxRecDepth 20000 in
theorem q165_593 {x : Int32} {a : Nat} : RR S d 165 593 L (.int x :: .ref a :: st) h Q = ((ai_arr h a 0).isSome = true ∧ ¬ (x < 0 ∨ ((ai_arr h a 0).getD (0, fun _ => 0)).1 ≤ x.toNatClampNeg) ∧ RR S d 165 594 L (.int (((ai_arr h a 0).getD (0, fun _ => 0)).2 x.toNatClampNeg) :: st) h Q) := r165_593.trans (kO_in (0, fun _ => 0) _ (fun q => q.1) _ _)
set_option maxRecDepth 20000 in
theorem q165_593x {x : Int32} {u : UInt32} : RR S d 165 593 L (.int x :: .float u :: st) h Q = (¬ (x < 0 ∨ (ai_ext S u).1 ≤ x.toNatClampNeg) ∧ RR S d 165 594 L (.int ((ai_ext S u).2 x.toNatClampNeg) :: st) h Q) := r165_593x.trans (kB_in _ _ _)
set_option maxRecDepth 20000 in
theorem q165_594 {p0 : Int32} {p1 : Int32} {a : Nat} : RR S (d + 1) 165 594 L (.int p1 :: .int p0 :: .ref a :: st) h Q = (ai_sum st ≤ 8 ∧ (ai_obj h a 10).isSome = true ∧ RR S d 148 0 [(0, .ref a), (1, .int p0), (2, .int p1)] [] h (kc S d 165 597 L st Q)) := r165_594.trans (kB_cv _ _ _)
set_option maxRecDepth 20000 in
theorem q165_601 : RR S d 165 601 L st h Q = (iA (ai_look L 1) ∧ RR S d 165 602 L ((gA (ai_look L 1)) :: st) h Q) := r165_601.trans (kA_eq _ _)
set_option maxRecDepth 20000 in
theorem q165_602 : RR S d 165 602 L st h Q = (iA (ai_look L 0) ∧ RR S d 165 603 L ((gA (ai_look L 0)) :: st) h Q) := r165_602.trans (kA_eq _ _)
set_option maxRecDepth 20000 in
theorem q165_603 : RR S d 165 603 L st h Q = (iI (ai_look L 3) ∧ RR S d 165 604 L (.int (gI (ai_look L 3)) :: st) h Q) := r165_603.trans (kI_eq _ _)
set_option maxRecDepth 20000 in
theorem q165_606 {x : Int32} {a : Nat} : RR S d 165 606 L (.int x :: .ref a :: st) h Q = ((ai_arr h a 0).isSome = true ∧ ¬ (x < 0 ∨ ((ai_arr h a 0).getD (0, fun _ => 0)).1 ≤ x.toNatClampNeg) ∧ RR S d 165 607 L (.int (((ai_arr h a 0).getD (0, fun _ => 0)).2 x.toNatClampNeg) :: st) h Q) := r165_606.trans (kO_in (0, fun _ => 0) _ (fun q => q.1) _ _)
set_option maxRecDepth 20000 in
theorem q165_606x {x : Int32} {u : UInt32} : RR S d 165 606 L (.int x :: .float u :: st) h Q = (¬ (x < 0 ∨ (ai_ext S u).1 ≤ x.toNatClampNeg) ∧ RR S d 165 607 L (.int ((ai_ext S u).2 x.toNatClampNeg) :: st) h Q) := r165_606x.trans (kB_in _ _ _)
set_option maxRecDepth 20000 in
theorem q165_607 : RR S d 165 607 L st h Q = (iA (ai_look L 0) ∧ RR S d 165 608 L ((gA (ai_look L 0)) :: st) h Q) := r165_607.trans (kA_eq _ _)
set_option maxRecDepth 20000 in
theorem q165_608 : RR S d 165 608 L st h Q = (iI (ai_look L 3) ∧ RR S d 165 609 L (.int (gI (ai_look L 3)) :: st) h Q) := r165_608.trans (kI_eq _ _)
set_option maxRecDepth 20000 in
theorem q165_611 {x : Int32} {a : Nat} : RR S d 165 611 L (.int x :: .ref a :: st) h Q = ((ai_arr h a 0).isSome = true ∧ ¬ (x < 0 ∨ ((ai_arr h a 0).getD (0, fun _ => 0)).1 ≤ x.toNatClampNeg) ∧ RR S d 165 612 L (.int (((ai_arr h a 0).getD (0, fun _ => 0)).2 x.toNatClampNeg) :: st) h Q) := r165_611.trans (kO_in (0, fun _ => 0) _ (fun q => q.1) _ _)
set_option maxRecDepth 20000 in
theorem q165_611x {x : Int32} {u : UInt32} : RR S d 165 611 L (.int x :: .float u :: st) h Q = (¬ (x < 0 ∨ (ai_ext S u).1 ≤ x.toNatClampNeg) ∧ RR S d 165 612 L (.int ((ai_ext S u).2 x.toNatClampNeg) :: st) h Q) := r165_611x.trans (kB_in _ _ _)
set_option maxRecDepth 20000 in
theorem q165_612 {p0 : Int32} {p1 : Int32} {a : Nat} : RR S (d + 1) 165 612 L (.int p1 :: .int p0 :: .ref a :: st) h Q = (ai_sum st ≤ 8 ∧ (ai_obj h a 9).isSome = true ∧ RR S d 98 0 [(0, .ref a), (1, .int p0), (2, .int p1)] [] h (kc S d 165 615 L st Q)) := r165_612.trans (kB_cv _ _ _)
set_option maxRecDepth 20000 in
theorem q165_616 : RR S d 165 616 L st h Q = (iA (ai_look L 2) ∧ RR S d 165 617 L ((gA (ai_look L 2)) :: st) h Q) := r165_616.trans (kA_eq _ _)
set_option maxRecDepth 20000 in
theorem q165_617 : RR S d 165 617 L st h Q = (iA (ai_look L 0) ∧ RR S d 165 618 L ((gA (ai_look L 0)) :: st) h Q) := r165_617.trans (kA_eq _ _)
set_option maxRecDepth 20000 in
theorem q165_618 : RR S d 165 618 L st h Q = (iI (ai_look L 3) ∧ RR S d 165 619 L (.int (gI (ai_look L 3)) :: st) h Q) := r165_618.trans (kI_eq _ _)
set_option maxRecDepth 20000 in
theorem q165_621 {x : Int32} {a : Nat} : RR S d 165 621 L (.int x :: .ref a :: st) h Q = ((ai_arr h a 0).isSome = true ∧ ¬ (x < 0 ∨ ((ai_arr h a 0).getD (0, fun _ => 0)).1 ≤ x.toNatClampNeg) ∧ RR S d 165 622 L (.int (((ai_arr h a 0).getD (0, fun _ => 0)).2 x.toNatClampNeg) :: st) h Q) := r165_621.trans (kO_in (0, fun _ => 0) _ (fun q => q.1) _ _)
set_option maxRecDepth 20000 in
theorem q165_621x {x : Int32} {u : UInt32} : RR S d 165 621 L (.int x :: .float u :: st) h Q = (¬ (x < 0 ∨ (ai_ext S u).1 ≤ x.toNatClampNeg) ∧ RR S d 165 622 L (.int ((ai_ext S u).2 x.toNatClampNeg) :: st) h Q) := r165_621x.trans (kB_in _ _ _)
set_option maxRecDepth 20000 in
theorem q165_622 : RR S d 165 622 L st h Q = (iA (ai_look L 0) ∧ RR S d 165 623 L ((gA (ai_look L 0)) :: st) h Q) := r165_622.trans (kA_eq _ _)
set_option maxRecDepth 20000 in
theorem q165_623 : RR S d 165 623 L st h Q = (iI (ai_look L 3) ∧ RR S d 165 624 L (.int (gI (ai_look L 3)) :: st) h Q) := r165_623.trans (kI_eq _ _)
set_option maxRecDepth 20000 in
theorem q165_626 {x : Int32} {a : Nat} : RR S d 165 626 L (.int x :: .ref a :: st) h Q = ((ai_arr h a 0).isSome = true ∧ ¬ (x < 0 ∨ ((ai_arr h a 0).getD (0, fun _ => 0)).1 ≤ x.toNatClampNeg) ∧ RR S d 165 627 L (.int (((ai_arr h a 0).getD (0, fun _ => 0)).2 x.toNatClampNeg) :: st) h Q) := r165_626.trans (kO_in (0, fun _ => 0) _ (fun q => q.1) _ _)
set_option maxRecDepth 20000 in
theorem q165_626x {x : Int32} {u : UInt32} : RR S d 165 626 L (.int x :: .float u :: st) h Q = (¬ (x < 0 ∨ (ai_ext S u).1 ≤ x.toNatClampNeg) ∧ RR S d 165 627 L (.int ((ai_ext S u).2 x.toNatClampNeg) :: st) h Q) := r165_626x.trans (kB_in _ _ _)
set_option maxRecDepth 20000 in
theorem q165_627 {p0 : Int32} {p1 : Int32} {a : Nat} : RR S (d + 1) 165 627 L (.int p1 :: .int p0 :: .ref a :: st) h Q = (ai_sum st ≤ 8 ∧ (ai_obj h a 10).isSome = true ∧ RR S d 149 0 [(0, .ref a), (1, .int p0), (2, .int p1)] [] h (kc S d 165 630 L st Q)) := r165_627.trans (kB_cv _ _ _)
set_option maxRecDepth 20000 in
theorem q165_634 : RR S d 165 634 L st h Q = (iA (ai_look L 1) ∧ RR S d 165 635 L ((gA (ai_look L 1)) :: st) h Q) := r165_634.trans (kA_eq _ _)
set_option maxRecDepth 20000 in
theorem q165_635 : RR S d 165 635 L st h Q = (iA (ai_look L 0) ∧ RR S d 165 636 L ((gA (ai_look L 0)) :: st) h Q) := r165_635.trans (kA_eq _ _)
set_option maxRecDepth 20000 in
theorem q165_636 : RR S d 165 636 L st h Q = (iI (ai_look L 3) ∧ RR S d 165 637 L (.int (gI (ai_look L 3)) :: st) h Q) := r165_636.trans (kI_eq _ _)
set_option maxRecDepth 20000 in
theorem q165_639 {x : Int32} {a : Nat} : RR S d 165 639 L (.int x :: .ref a :: st) h Q = ((ai_arr h a 0).isSome = true ∧ ¬ (x < 0 ∨ ((ai_arr h a 0).getD (0, fun _ => 0)).1 ≤ x.toNatClampNeg) ∧ RR S d 165 640 L (.int (((ai_arr h a 0).getD (0, fun _ => 0)).2 x.toNatClampNeg) :: st) h Q) := r165_639.trans (kO_in (0, fun _ => 0) _ (fun q => q.1) _ _)
set_option maxRecDepth 20000 in
theorem q165_639x {x : Int32} {u : UInt32} : RR S d 165 639 L (.int x :: .float u :: st) h Q = (¬ (x < 0 ∨ (ai_ext S u).1 ≤ x.toNatClampNeg) ∧ RR S d 165 640 L (.int ((ai_ext S u).2 x.toNatClampNeg) :: st) h Q) := r165_639x.trans (kB_in _ _ _)
set_option maxRecDepth 20000 in
theorem q165_640 : RR S d 165 640 L st h Q = (iA (ai_look L 0) ∧ RR S d 165 641 L ((gA (ai_look L 0)) :: st) h Q) := r165_640.trans (kA_eq _ _)
set_option maxRecDepth 20000 in
theorem q165_641 : RR S d 165 641 L st h Q = (iI (ai_look L 3) ∧ RR S d 165 642 L (.int (gI (ai_look L 3)) :: st) h Q) := r165_641.trans (kI_eq _ _)
set_option maxRecDepth 20000 in
theorem q165_644 {x : Int32} {a : Nat} : RR S d 165 644 L (.int x :: .ref a :: st) h Q = ((ai_arr h a 0).isSome = true ∧ ¬ (x < 0 ∨ ((ai_arr h a 0).getD (0, fun _ => 0)).1 ≤ x.toNatClampNeg) ∧ RR S d 165 645 L (.int (((ai_arr h a 0).getD (0, fun _ => 0)).2 x.toNatClampNeg) :: st) h Q) := r165_644.trans (kO_in (0, fun _ => 0) _ (fun q => q.1) _ _)
set_option maxRecDepth 20000 in
theorem q165_644x {x : Int32} {u : UInt32} : RR S d 165 644 L (.int x :: .float u :: st) h Q = (¬ (x < 0 ∨ (ai_ext S u).1 ≤ x.toNatClampNeg) ∧ RR S d 165 645 L (.int ((ai_ext S u).2 x.toNatClampNeg) :: st) h Q) := r165_644x.trans (kB_in _ _ _)
set_option maxRecDepth 20000 in
theorem q165_645 : RR S d 165 645 L st h Q = (iA (ai_look L 0) ∧ RR S d 165 646 L ((gA (ai_look L 0)) :: st) h Q) := r165_645.trans (kA_eq _ _)
set_option maxRecDepth 20000 in
theorem q165_646 : RR S d 165 646 L st h Q = (iI (ai_look L 3) ∧ RR S d 165 647 L (.int (gI (ai_look L 3)) :: st) h Q) := r165_646.trans (kI_eq _ _)
set_option maxRecDepth 20000 in
theorem q165_649 {x : Int32} {a : Nat} : RR S d 165 649 L (.int x :: .ref a :: st) h Q = ((ai_arr h a 0).isSome = true ∧ ¬ (x < 0 ∨ ((ai_arr h a 0).getD (0, fun _ => 0)).1 ≤ x.toNatClampNeg) ∧ RR S d 165 650 L (.int (((ai_arr h a 0).getD (0, fun _ => 0)).2 x.toNatClampNeg) :: st) h Q) := r165_649.trans (kO_in (0, fun _ => 0) _ (fun q => q.1) _ _)
set_option maxRecDepth 20000 in
theorem q165_649x {x : Int32} {u : UInt32} : RR S d 165 649 L (.int x :: .float u :: st) h Q = (¬ (x < 0 ∨ (ai_ext S u).1 ≤ x.toNatClampNeg) ∧ RR S d 165 650 L (.int ((ai_ext S u).2 x.toNatClampNeg) :: st) h Q) := r165_649x.trans (kB_in _ _ _)
set_option maxRecDepth 20000 in
theorem q165_650 : RR S d 165 650 L st h Q = (iA (ai_look L 0) ∧ RR S d 165 651 L ((gA (ai_look L 0)) :: st) h Q) := r165_650.trans (kA_eq _ _)
set_option maxRecDepth 20000 in
theorem q165_651 : RR S d 165 651 L st h Q = (iI (ai_look L 3) ∧ RR S d 165 652 L (.int (gI (ai_look L 3)) :: st) h Q) := r165_651.trans (kI_eq _ _)
set_option maxRecDepth 20000 in
theorem q165_654 {x : Int32} {a : Nat} : RR S d 165 654 L (.int x :: .ref a :: st) h Q = ((ai_arr h a 0).isSome = true ∧ ¬ (x < 0 ∨ ((ai_arr h a 0).getD (0, fun _ => 0)).1 ≤ x.toNatClampNeg) ∧ RR S d 165 655 L (.int (((ai_arr h a 0).getD (0, fun _ => 0)).2 x.toNatClampNeg) :: st) h Q) := r165_654.trans (kO_in (0, fun _ => 0) _ (fun q => q.1) _ _)
set_option maxRecDepth 20000 in
theorem q165_654x {x : Int32} {u : UInt32} : RR S d 165 654 L (.int x :: .float u :: st) h Q = (¬ (x < 0 ∨ (ai_ext S u).1 ≤ x.toNatClampNeg) ∧ RR S d 165 655 L (.int ((ai_ext S u).2 x.toNatClampNeg) :: st) h Q) := r165_654x.trans (kB_in _ _ _)
set_option maxRecDepth 20000 in
theorem q165_655 {p0 : Int32} {p1 : Int32} {p2 : Int32} {p3 : Int32} {a : Nat} : RR S (d + 1) 165 655 L (.int p3 :: .int p2 :: .int p1 :: .int p0 :: .ref a :: st) h Q = (ai_sum st ≤ 8 ∧ (ai_obj h a 9).isSome = true ∧ RR S d 99 0 [(0, .ref a), (1, .int p0), (2, .int p1), (3, .int p2), (4, .int p3)] [] h (kc S d 165 658 L st Q)) := r165_655.trans (kB_cv _ _ _)
set_option maxRecDepth 20000 in
theorem q165_659 : RR S d 165 659 L st h Q = (iA (ai_look L 2) ∧ RR S d 165 660 L ((gA (ai_look L 2)) :: st) h Q) := r165_659.trans (kA_eq _ _)
set_option maxRecDepth 20000 in
theorem q165_660 : RR S d 165 660 L st h Q = (iA (ai_look L 0) ∧ RR S d 165 661 L ((gA (ai_look L 0)) :: st) h Q) := r165_660.trans (kA_eq _ _)
set_option maxRecDepth 20000 in
theorem q165_661 : RR S d 165 661 L st h Q = (iI (ai_look L 3) ∧ RR S d 165 662 L (.int (gI (ai_look L 3)) :: st) h Q) := r165_661.trans (kI_eq _ _)
set_option maxRecDepth 20000 in
theorem q165_664 {x : Int32} {a : Nat} : RR S d 165 664 L (.int x :: .ref a :: st) h Q = ((ai_arr h a 0).isSome = true ∧ ¬ (x < 0 ∨ ((ai_arr h a 0).getD (0, fun _ => 0)).1 ≤ x.toNatClampNeg) ∧ RR S d 165 665 L (.int (((ai_arr h a 0).getD (0, fun _ => 0)).2 x.toNatClampNeg) :: st) h Q) := r165_664.trans (kO_in (0, fun _ => 0) _ (fun q => q.1) _ _)
set_option maxRecDepth 20000 in
theorem q165_664x {x : Int32} {u : UInt32} : RR S d 165 664 L (.int x :: .float u :: st) h Q = (¬ (x < 0 ∨ (ai_ext S u).1 ≤ x.toNatClampNeg) ∧ RR S d 165 665 L (.int ((ai_ext S u).2 x.toNatClampNeg) :: st) h Q) := r165_664x.trans (kB_in _ _ _)
set_option maxRecDepth 20000 in
theorem q165_665 : RR S d 165 665 L st h Q = (iA (ai_look L 0) ∧ RR S d 165 666 L ((gA (ai_look L 0)) :: st) h Q) := r165_665.trans (kA_eq _ _)
set_option maxRecDepth 20000 in
theorem q165_666 : RR S d 165 666 L st h Q = (iI (ai_look L 3) ∧ RR S d 165 667 L (.int (gI (ai_look L 3)) :: st) h Q) := r165_666.trans (kI_eq _ _)
set_option maxRecDepth 20000 in
theorem q165_669 {x : Int32} {a : Nat} : RR S d 165 669 L (.int x :: .ref a :: st) h Q = ((ai_arr h a 0).isSome = true ∧ ¬ (x < 0 ∨ ((ai_arr h a 0).getD (0, fun _ => 0)).1 ≤ x.toNatClampNeg) ∧ RR S d 165 670 L (.int (((ai_arr h a 0).getD (0, fun _ => 0)).2 x.toNatClampNeg) :: st) h Q) := r165_669.trans (kO_in (0, fun _ => 0) _ (fun q => q.1) _ _)
set_option maxRecDepth 20000 in
theorem q165_669x {x : Int32} {u : UInt32} : RR S d 165 669 L (.int x :: .float u :: st) h Q = (¬ (x < 0 ∨ (ai_ext S u).1 ≤ x.toNatClampNeg) ∧ RR S d 165 670 L (.int ((ai_ext S u).2 x.toNatClampNeg) :: st) h Q) := r165_669x.trans (kB_in _ _ _)
set_option maxRecDepth 20000 in
theorem q165_670 : RR S d 165 670 L st h Q = (iA (ai_look L 0) ∧ RR S d 165 671 L ((gA (ai_look L 0)) :: st) h Q) := r165_670.trans (kA_eq _ _)
set_option maxRecDepth 20000 in
theorem q165_671 : RR S d 165 671 L st h Q = (iI (ai_look L 3) ∧ RR S d 165 672 L (.int (gI (ai_look L 3)) :: st) h Q) := r165_671.trans (kI_eq _ _)
set_option maxRecDepth 20000 in
theorem q165_674 {x : Int32} {a : Nat} : RR S d 165 674 L (.int x :: .ref a :: st) h Q = ((ai_arr h a 0).isSome = true ∧ ¬ (x < 0 ∨ ((ai_arr h a 0).getD (0, fun _ => 0)).1 ≤ x.toNatClampNeg) ∧ RR S d 165 675 L (.int (((ai_arr h a 0).getD (0, fun _ => 0)).2 x.toNatClampNeg) :: st) h Q) := r165_674.trans (kO_in (0, fun _ => 0) _ (fun q => q.1) _ _)
set_option maxRecDepth 20000 in
theorem q165_674x {x : Int32} {u : UInt32} : RR S d 165 674 L (.int x :: .float u :: st) h Q = (¬ (x < 0 ∨ (ai_ext S u).1 ≤ x.toNatClampNeg) ∧ RR S d 165 675 L (.int ((ai_ext S u).2 x.toNatClampNeg) :: st) h Q) := r165_674x.trans (kB_in _ _ _)
set_option maxRecDepth 20000 in
theorem q165_675 : RR S d 165 675 L st h Q = (iA (ai_look L 0) ∧ RR S d 165 676 L ((gA (ai_look L 0)) :: st) h Q) := r165_675.trans (kA_eq _ _)
set_option maxRecDepth 20000 in
theorem q165_676 : RR S d 165 676 L st h Q = (iI (ai_look L 3) ∧ RR S d 165 677 L (.int (gI (ai_look L 3)) :: st) h Q) := r165_676.trans (kI_eq _ _)
set_option maxRecDepth 20000 in
theorem q165_679 {x : Int32} {a : Nat} : RR S d 165 679 L (.int x :: .ref a :: st) h Q = ((ai_arr h a 0).isSome = true ∧ ¬ (x < 0 ∨ ((ai_arr h a 0).getD (0, fun _ => 0)).1 ≤ x.toNatClampNeg) ∧ RR S d 165 680 L (.int (((ai_arr h a 0).getD (0, fun _ => 0)).2 x.toNatClampNeg) :: st) h Q) := r165_679.trans (kO_in (0, fun _ => 0) _ (fun q => q.1) _ _)
set_option maxRecDepth 20000 in
theorem q165_679x {x : Int32} {u : UInt32} : RR S d 165 679 L (.int x :: .float u :: st) h Q = (¬ (x < 0 ∨ (ai_ext S u).1 ≤ x.toNatClampNeg) ∧ RR S d 165 680 L (.int ((ai_ext S u).2 x.toNatClampNeg) :: st) h Q) := r165_679x.trans (kB_in _ _ _)
set_option maxRecDepth 20000 in
theorem q165_680 {p0 : Int32} {p1 : Int32} {p2 : Int32} {p3 : Int32} {a : Nat} : RR S (d + 1) 165 680 L (.int p3 :: .int p2 :: .int p1 :: .int p0 :: .ref a :: st) h Q = (ai_sum st ≤ 8 ∧ (ai_obj h a 10).isSome = true ∧ RR S d 150 0 [(0, .ref a), (1, .int p0), (2, .int p1), (3, .int p2), (4, .int p3)] [] h (kc S d 165 683 L st Q)) := r165_680.trans (kB_cv _ _ _)
set_option maxRecDepth 20000 in
theorem q165_687 : RR S d 165 687 L st h Q = (iA (ai_look L 1) ∧ RR S d 165 688 L ((gA (ai_look L 1)) :: st) h Q) := r165_687.trans (kA_eq _ _)
set_option maxRecDepth 20000 in
theorem q165_688 : RR S d 165 688 L st h Q = (iA (ai_look L 0) ∧ RR S d 165 689 L ((gA (ai_look L 0)) :: st) h Q) := r165_688.trans (kA_eq _ _)
set_option maxRecDepth 20000 in
theorem q165_689 : RR S d 165 689 L st h Q = (iI (ai_look L 3) ∧ RR S d 165 690 L (.int (gI (ai_look L 3)) :: st) h Q) := r165_689.trans (kI_eq _ _)
set_option maxRecDepth 20000 in
theorem q165_692 {x : Int32} {a : Nat} : RR S d 165 692 L (.int x :: .ref a :: st) h Q = ((ai_arr h a 0).isSome = true ∧ ¬ (x < 0 ∨ ((ai_arr h a 0).getD (0, fun _ => 0)).1 ≤ x.toNatClampNeg) ∧ RR S d 165 693 L (.int (((ai_arr h a 0).getD (0, fun _ => 0)).2 x.toNatClampNeg) :: st) h Q) := r165_692.trans (kO_in (0, fun _ => 0) _ (fun q => q.1) _ _)
set_option maxRecDepth 20000 in
theorem q165_692x {x : Int32} {u : UInt32} : RR S d 165 692 L (.int x :: .float u :: st) h Q = (¬ (x < 0 ∨ (ai_ext S u).1 ≤ x.toNatClampNeg) ∧ RR S d 165 693 L (.int ((ai_ext S u).2 x.toNatClampNeg) :: st) h Q) := r165_692x.trans (kB_in _ _ _)
set_option maxRecDepth 20000 in
theorem q165_693 : RR S d 165 693 L st h Q = (iA (ai_look L 0) ∧ RR S d 165 694 L ((gA (ai_look L 0)) :: st) h Q) := r165_693.trans (kA_eq _ _)
set_option maxRecDepth 20000 in
theorem q165_694 : RR S d 165 694 L st h Q = (iI (ai_look L 3) ∧ RR S d 165 695 L (.int (gI (ai_look L 3)) :: st) h Q) := r165_694.trans (kI_eq _ _)
set_option maxRecDepth 20000 in
theorem q165_697 {x : Int32} {a : Nat} : RR S d 165 697 L (.int x :: .ref a :: st) h Q = ((ai_arr h a 0).isSome = true ∧ ¬ (x < 0 ∨ ((ai_arr h a 0).getD (0, fun _ => 0)).1 ≤ x.toNatClampNeg) ∧ RR S d 165 698 L (.int (((ai_arr h a 0).getD (0, fun _ => 0)).2 x.toNatClampNeg) :: st) h Q) := r165_697.trans (kO_in (0, fun _ => 0) _ (fun q => q.1) _ _)
set_option maxRecDepth 20000 in
theorem q165_697x {x : Int32} {u : UInt32} : RR S d 165 697 L (.int x :: .float u :: st) h Q = (¬ (x < 0 ∨ (ai_ext S u).1 ≤ x.toNatClampNeg) ∧ RR S d 165 698 L (.int ((ai_ext S u).2 x.toNatClampNeg) :: st) h Q) := r165_697x.trans (kB_in _ _ _)
set_option maxRecDepth 20000 in
theorem q165_698 : RR S d 165 698 L st h Q = (iA (ai_look L 0) ∧ RR S d 165 699 L ((gA (ai_look L 0)) :: st) h Q) := r165_698.trans (kA_eq _ _)
set_option maxRecDepth 20000 in
theorem q165_699 : RR S d 165 699 L st h Q = (iI (ai_look L 3) ∧ RR S d 165 700 L (.int (gI (ai_look L 3)) :: st) h Q) := r165_699.trans (kI_eq _ _)
set_option maxRecDepth 20000 in
theorem q165_702 {x : Int32} {a : Nat} : RR S d 165 702 L (.int x :: .ref a :: st) h Q = ((ai_arr h a 0).isSome = true ∧ ¬ (x < 0 ∨ ((ai_arr h a 0).getD (0, fun _ => 0)).1 ≤ x.toNatClampNeg) ∧ RR S d 165 703 L (.int (((ai_arr h a 0).getD (0, fun _ => 0)).2 x.toNatClampNeg) :: st) h Q) := r165_702.trans (kO_in (0, fun _ => 0) _ (fun q => q.1) _ _)
set_option maxRecDepth 20000 in
theorem q165_702x {x : Int32} {u : UInt32} : RR S d 165 702 L (.int x :: .float u :: st) h Q = (¬ (x < 0 ∨ (ai_ext S u).1 ≤ x.toNatClampNeg) ∧ RR S d 165 703 L (.int ((ai_ext S u).2 x.toNatClampNeg) :: st) h Q) := r165_702x.trans (kB_in _ _ _)
set_option maxRecDepth 20000 in
theorem q165_703 {p0 : Int32} {p1 : Int32} {p2 : Int32} {a : Nat} : RR S (d + 1) 165 703 L (.int p2 :: .int p1 :: .int p0 :: .ref a :: st) h Q = (ai_sum st ≤ 8 ∧ (ai_obj h a 9).isSome = true ∧ RR S d 100 0 [(0, .ref a), (1, .int p0), (2, .int p1), (3, .int p2)] [] h (kc S d 165 706 L st Q)) := r165_703.trans (kB_cv _ _ _)
set_option maxRecDepth 20000 in
theorem q165_707 : RR S d 165 707 L st h Q = (iA (ai_look L 2) ∧ RR S d 165 708 L ((gA (ai_look L 2)) :: st) h Q) := r165_707.trans (kA_eq _ _)
set_option maxRecDepth 20000 in
theorem q165_708 : RR S d 165 708 L st h Q = (iA (ai_look L 0) ∧ RR S d 165 709 L ((gA (ai_look L 0)) :: st) h Q) := r165_708.trans (kA_eq _ _)
set_option maxRecDepth 20000 in
theorem q165_709 : RR S d 165 709 L st h Q = (iI (ai_look L 3) ∧ RR S d 165 710 L (.int (gI (ai_look L 3)) :: st) h Q) := r165_709.trans (kI_eq _ _)
set_option maxRecDepth 20000 in
theorem q165_712 {x : Int32} {a : Nat} : RR S d 165 712 L (.int x :: .ref a :: st) h Q = ((ai_arr h a 0).isSome = true ∧ ¬ (x < 0 ∨ ((ai_arr h a 0).getD (0, fun _ => 0)).1 ≤ x.toNatClampNeg) ∧ RR S d 165 713 L (.int (((ai_arr h a 0).getD (0, fun _ => 0)).2 x.toNatClampNeg) :: st) h Q) := r165_712.trans (kO_in (0, fun _ => 0) _ (fun q => q.1) _ _)
set_option maxRecDepth 20000 in
theorem q165_712x {x : Int32} {u : UInt32} : RR S d 165 712 L (.int x :: .float u :: st) h Q = (¬ (x < 0 ∨ (ai_ext S u).1 ≤ x.toNatClampNeg) ∧ RR S d 165 713 L (.int ((ai_ext S u).2 x.toNatClampNeg) :: st) h Q) := r165_712x.trans (kB_in _ _ _)
set_option maxRecDepth 20000 in
theorem q165_713 : RR S d 165 713 L st h Q = (iA (ai_look L 0) ∧ RR S d 165 714 L ((gA (ai_look L 0)) :: st) h Q) := r165_713.trans (kA_eq _ _)
set_option maxRecDepth 20000 in
theorem q165_714 : RR S d 165 714 L st h Q = (iI (ai_look L 3) ∧ RR S d 165 715 L (.int (gI (ai_look L 3)) :: st) h Q) := r165_714.trans (kI_eq _ _)
set_option maxRecDepth 20000 in
theorem q165_717 {x : Int32} {a : Nat} : RR S d 165 717 L (.int x :: .ref a :: st) h Q = ((ai_arr h a 0).isSome = true ∧ ¬ (x < 0 ∨ ((ai_arr h a 0).getD (0, fun _ => 0)).1 ≤ x.toNatClampNeg) ∧ RR S d 165 718 L (.int (((ai_arr h a 0).getD (0, fun _ => 0)).2 x.toNatClampNeg) :: st) h Q) := r165_717.trans (kO_in (0, fun _ => 0) _ (fun q => q.1) _ _)
set_option maxRecDepth 20000 in
theorem q165_717x {x : Int32} {u : UInt32} : RR S d 165 717 L (.int x :: .float u :: st) h Q = (¬ (x < 0 ∨ (ai_ext S u).1 ≤ x.toNatClampNeg) ∧ RR S d 165 718 L (.int ((ai_ext S u).2 x.toNatClampNeg) :: st) h Q) := r165_717x.trans (kB_in _ _ _)
set_option maxRecDepth 20000 in
theorem q165_718 : RR S d 165 718 L st h Q = (iA (ai_look L 0) ∧ RR S d 165 719 L ((gA (ai_look L 0)) :: st) h Q) := r165_718.trans (kA_eq _ _)
set_option maxRecDepth 20000 in
theorem q165_719 : RR S d 165 719 L st h Q = (iI (ai_look L 3) ∧ RR S d 165 720 L (.int (gI (ai_look L 3)) :: st) h Q) := r165_719.trans (kI_eq _ _)
set_option maxRecDepth 20000 in
theorem q165_722 {x : Int32} {a : Nat} : RR S d 165 722 L (.int x :: .ref a :: st) h Q = ((ai_arr h a 0).isSome = true ∧ ¬ (x < 0 ∨ ((ai_arr h a 0).getD (0, fun _ => 0)).1 ≤ x.toNatClampNeg) ∧ RR S d 165 723 L (.int (((ai_arr h a 0).getD (0, fun _ => 0)).2 x.toNatClampNeg) :: st) h Q) := r165_722.trans (kO_in (0, fun _ => 0) _ (fun q => q.1) _ _)
set_option maxRecDepth 20000 in
theorem q165_722x {x : Int32} {u : UInt32} : RR S d 165 722 L (.int x :: .float u :: st) h Q = (¬ (x < 0 ∨ (ai_ext S u).1 ≤ x.toNatClampNeg) ∧ RR S d 165 723 L (.int ((ai_ext S u).2 x.toNatClampNeg) :: st) h Q) := r165_722x.trans (kB_in _ _ _)
set_option maxRecDepth 20000 in
theorem q165_723 {p0 : Int32} {p1 : Int32} {p2 : Int32} {a : Nat} : RR S (d + 1) 165 723 L (.int p2 :: .int p1 :: .int p0 :: .ref a :: st) h Q = (ai_sum st ≤ 8 ∧ (ai_obj h a 10).isSome = true ∧ RR S d 152 0 [(0, .ref a), (1, .int p0), (2, .int p1), (3, .int p2)] [] h (kc S d 165 726 L st Q)) := r165_723.trans (kB_cv _ _ _)
set_option maxRecDepth 20000 in
theorem q165_730 : RR S d 165 730 L st h Q = (iA (ai_look L 1) ∧ RR S d 165 731 L ((gA (ai_look L 1)) :: st) h Q) := r165_730.trans (kA_eq _ _)
set_option maxRecDepth 20000 in
theorem q165_731 : RR S d 165 731 L st h Q = (iA (ai_look L 0) ∧ RR S d 165 732 L ((gA (ai_look L 0)) :: st) h Q) := r165_731.trans (kA_eq _ _)
set_option maxRecDepth 20000 in
theorem q165_732 : RR S d 165 732 L st h Q = (iI (ai_look L 3) ∧ RR S d 165 733 L (.int (gI (ai_look L 3)) :: st) h Q) := r165_732.trans (kI_eq _ _)
set_option maxRecDepth 20000 in
theorem q165_735 {x : Int32} {a : Nat} : RR S d 165 735 L (.int x :: .ref a :: st) h Q = ((ai_arr h a 0).isSome = true ∧ ¬ (x < 0 ∨ ((ai_arr h a 0).getD (0, fun _ => 0)).1 ≤ x.toNatClampNeg) ∧ RR S d 165 736 L (.int (((ai_arr h a 0).getD (0, fun _ => 0)).2 x.toNatClampNeg) :: st) h Q) := r165_735.trans (kO_in (0, fun _ => 0) _ (fun q => q.1) _ _)
set_option maxRecDepth 20000 in
theorem q165_735x {x : Int32} {u : UInt32} : RR S d 165 735 L (.int x :: .float u :: st) h Q = (¬ (x < 0 ∨ (ai_ext S u).1 ≤ x.toNatClampNeg) ∧ RR S d 165 736 L (.int ((ai_ext S u).2 x.toNatClampNeg) :: st) h Q) := r165_735x.trans (kB_in _ _ _)
set_option maxRecDepth 20000 in
theorem q165_736 : RR S d 165 736 L st h Q = (iA (ai_look L 0) ∧ RR S d 165 737 L ((gA (ai_look L 0)) :: st) h Q) := r165_736.trans (kA_eq _ _)
set_option maxRecDepth 20000 in
theorem q165_737 : RR S d 165 737 L st h Q = (iI (ai_look L 3) ∧ RR S d 165 738 L (.int (gI (ai_look L 3)) :: st) h Q) := r165_737.trans (kI_eq _ _)
set_option maxRecDepth 20000 in
theorem q165_740 {x : Int32} {a : Nat} : RR S d 165 740 L (.int x :: .ref a :: st) h Q = ((ai_arr h a 0).isSome = true ∧ ¬ (x < 0 ∨ ((ai_arr h a 0).getD (0, fun _ => 0)).1 ≤ x.toNatClampNeg) ∧ RR S d 165 741 L (.int (((ai_arr h a 0).getD (0, fun _ => 0)).2 x.toNatClampNeg) :: st) h Q) := r165_740.trans (kO_in (0, fun _ => 0) _ (fun q => q.1) _ _)
set_option maxRecDepth 20000 in
theorem q165_740x {x : Int32} {u : UInt32} : RR S d 165 740 L (.int x :: .float u :: st) h Q = (¬ (x < 0 ∨ (ai_ext S u).1 ≤ x.toNatClampNeg) ∧ RR S d 165 741 L (.int ((ai_ext S u).2 x.toNatClampNeg) :: st) h Q) := r165_740x.trans (kB_in _ _ _)
set_option maxRecDepth 20000 in
theorem q165_741 : RR S d 165 741 L st h Q = (iA (ai_look L 0) ∧ RR S d 165 742 L ((gA (ai_look L 0)) :: st) h Q) := r165_741.trans (kA_eq _ _)
set_option maxRecDepth 20000 in
theorem q165_742 : RR S d 165 742 L st h Q = (iI (ai_look L 3) ∧ RR S d 165 743 L (.int (gI (ai_look L 3)) :: st) h Q) := r165_742.trans (kI_eq _ _)
set_option maxRecDepth 20000 in
theorem q165_745 {x : Int32} {a : Nat} : RR S d 165 745 L (.int x :: .ref a :: st) h Q = ((ai_arr h a 0).isSome = true ∧ ¬ (x < 0 ∨ ((ai_arr h a 0).getD (0, fun _ => 0)).1 ≤ x.toNatClampNeg) ∧ RR S d 165 746 L (.int (((ai_arr h a 0).getD (0, fun _ => 0)).2 x.toNatClampNeg) :: st) h Q) := r165_745.trans (kO_in (0, fun _ => 0) _ (fun q => q.1) _ _)
set_option maxRecDepth 20000 in
theorem q165_745x {x : Int32} {u : UInt32} : RR S d 165 745 L (.int x :: .float u :: st) h Q = (¬ (x < 0 ∨ (ai_ext S u).1 ≤ x.toNatClampNeg) ∧ RR S d 165 746 L (.int ((ai_ext S u).2 x.toNatClampNeg) :: st) h Q) := r165_745x.trans (kB_in _ _ _)
set_option maxRecDepth 20000 in
theorem q165_746 {p0 : Int32} {p1 : Int32} {p2 : Int32} {a : Nat} : RR S (d + 1) 165 746 L (.int p2 :: .int p1 :: .int p0 :: .ref a :: st) h Q = (ai_sum st ≤ 8 ∧ (ai_obj h a 9).isSome = true ∧ RR S d 101 0 [(0, .ref a), (1, .int p0), (2, .int p1), (3, .int p2)] [] h (kc S d 165 749 L st Q)) := r165_746.trans (kB_cv _ _ _)
set_option maxRecDepth 20000 in
theorem q165_749 : RR S d 165 749 L st h Q = (iA (ai_look L 2) ∧ RR S d 165 750 L ((gA (ai_look L 2)) :: st) h Q) := r165_749.trans (kA_eq _ _)
set_option maxRecDepth 20000 in
theorem q165_750 : RR S d 165 750 L st h Q = (iA (ai_look L 0) ∧ RR S d 165 751 L ((gA (ai_look L 0)) :: st) h Q) := r165_750.trans (kA_eq _ _)
set_option maxRecDepth 20000 in
theorem q165_751 : RR S d 165 751 L st h Q = (iI (ai_look L 3) ∧ RR S d 165 752 L (.int (gI (ai_look L 3)) :: st) h Q) := r165_751.trans (kI_eq _ _)
set_option maxRecDepth 20000 in
theorem q165_754 {x : Int32} {a : Nat} : RR S d 165 754 L (.int x :: .ref a :: st) h Q = ((ai_arr h a 0).isSome = true ∧ ¬ (x < 0 ∨ ((ai_arr h a 0).getD (0, fun _ => 0)).1 ≤ x.toNatClampNeg) ∧ RR S d 165 755 L (.int (((ai_arr h a 0).getD (0, fun _ => 0)).2 x.toNatClampNeg) :: st) h Q) := r165_754.trans (kO_in (0, fun _ => 0) _ (fun q => q.1) _ _)
set_option maxRecDepth 20000 in
theorem q165_754x {x : Int32} {u : UInt32} : RR S d 165 754 L (.int x :: .float u :: st) h Q = (¬ (x < 0 ∨ (ai_ext S u).1 ≤ x.toNatClampNeg) ∧ RR S d 165 755 L (.int ((ai_ext S u).2 x.toNatClampNeg) :: st) h Q) := r165_754x.trans (kB_in _ _ _)
set_option maxRecDepth 20000 in
theorem q165_755 : RR S d 165 755 L st h Q = (iA (ai_look L 0) ∧ RR S d 165 756 L ((gA (ai_look L 0)) :: st) h Q) := r165_755.trans (kA_eq _ _)
set_option maxRecDepth 20000 in
theorem q165_756 : RR S d 165 756 L st h Q = (iI (ai_look L 3) ∧ RR S d 165 757 L (.int (gI (ai_look L 3)) :: st) h Q) := r165_756.trans (kI_eq _ _)
set_option maxRecDepth 20000 in
theorem q165_759 {x : Int32} {a : Nat} : RR S d 165 759 L (.int x :: .ref a :: st) h Q = ((ai_arr h a 0).isSome = true ∧ ¬ (x < 0 ∨ ((ai_arr h a 0).getD (0, fun _ => 0)).1 ≤ x.toNatClampNeg) ∧ RR S d 165 760 L (.int (((ai_arr h a 0).getD (0, fun _ => 0)).2 x.toNatClampNeg) :: st) h Q) := r165_759.trans (kO_in (0, fun _ => 0) _ (fun q => q.1) _ _)
set_option maxRecDepth 20000 in
theorem q165_759x {x : Int32} {u : UInt32} : RR S d 165 759 L (.int x :: .float u :: st) h Q = (¬ (x < 0 ∨ (ai_ext S u).1 ≤ x.toNatClampNeg) ∧ RR S d 165 760 L (.int ((ai_ext S u).2 x.toNatClampNeg) :: st) h Q) := r165_759x.trans (kB_in _ _ _)
set_option maxRecDepth 20000 in
theorem q165_760 : RR S d 165 760 L st h Q = (iA (ai_look L 0) ∧ RR S d 165 761 L ((gA (ai_look L 0)) :: st) h Q) := r165_760.trans (kA_eq _ _)
set_option maxRecDepth 20000 in
theorem q165_761 : RR S d 165 761 L st h Q = (iI (ai_look L 3) ∧ RR S d 165 762 L (.int (gI (ai_look L 3)) :: st) h Q) := r165_761.trans (kI_eq _ _)
set_option maxRecDepth 20000 in
theorem q165_764 {x : Int32} {a : Nat} : RR S d 165 764 L (.int x :: .ref a :: st) h Q = ((ai_arr h a 0).isSome = true ∧ ¬ (x < 0 ∨ ((ai_arr h a 0).getD (0, fun _ => 0)).1 ≤ x.toNatClampNeg) ∧ RR S d 165 765 L (.int (((ai_arr h a 0).getD (0, fun _ => 0)).2 x.toNatClampNeg) :: st) h Q) := r165_764.trans (kO_in (0, fun _ => 0) _ (fun q => q.1) _ _)
set_option maxRecDepth 20000 in
theorem q165_764x {x : Int32} {u : UInt32} : RR S d 165 764 L (.int x :: .float u :: st) h Q = (¬ (x < 0 ∨ (ai_ext S u).1 ≤ x.toNatClampNeg) ∧ RR S d 165 765 L (.int ((ai_ext S u).2 x.toNatClampNeg) :: st) h Q) := r165_764x.trans (kB_in _ _ _)
set_option maxRecDepth 20000 in
theorem q165_765 {p0 : Int32} {p1 : Int32} {p2 : Int32} {a : Nat} : RR S (d + 1) 165 765 L (.int p2 :: .int p1 :: .int p0 :: .ref a :: st) h Q = (ai_sum st ≤ 8 ∧ (ai_obj h a 10).isSome = true ∧ RR S d 153 0 [(0, .ref a), (1, .int p0), (2, .int p1), (3, .int p2)] [] h (kc S d 165 768 L st Q)) := r165_765.trans (kB_cv _ _ _)
set_option maxRecDepth 20000 in
theorem q165_773 : RR S d 165 773 L st h Q = (iA (ai_look L 1) ∧ RR S d 165 774 L ((gA (ai_look L 1)) :: st) h Q) := r165_773.trans (kA_eq _ _)
set_option maxRecDepth 20000 in
theorem q165_774 : RR S d 165 774 L st h Q = (iA (ai_look L 0) ∧ RR S d 165 775 L ((gA (ai_look L 0)) :: st) h Q) := r165_774.trans (kA_eq _ _)
set_option maxRecDepth 20000 in
theorem q165_775 : RR S d 165 775 L st h Q = (iI (ai_look L 3) ∧ RR S d 165 776 L (.int (gI (ai_look L 3)) :: st) h Q) := r165_775.trans (kI_eq _ _)
set_option maxRecDepth 20000 in
theorem q165_778 {x : Int32} {a : Nat} : RR S d 165 778 L (.int x :: .ref a :: st) h Q = ((ai_arr h a 0).isSome = true ∧ ¬ (x < 0 ∨ ((ai_arr h a 0).getD (0, fun _ => 0)).1 ≤ x.toNatClampNeg) ∧ RR S d 165 779 L (.int (((ai_arr h a 0).getD (0, fun _ => 0)).2 x.toNatClampNeg) :: st) h Q) := r165_778.trans (kO_in (0, fun _ => 0) _ (fun q => q.1) _ _)
set_option maxRecDepth 20000 in
theorem q165_778x {x : Int32} {u : UInt32} : RR S d 165 778 L (.int x :: .float u :: st) h Q = (¬ (x < 0 ∨ (ai_ext S u).1 ≤ x.toNatClampNeg) ∧ RR S d 165 779 L (.int ((ai_ext S u).2 x.toNatClampNeg) :: st) h Q) := r165_778x.trans (kB_in _ _ _)
set_option maxRecDepth 20000 in
theorem q165_779 : RR S d 165 779 L st h Q = (iA (ai_look L 0) ∧ RR S d 165 780 L ((gA (ai_look L 0)) :: st) h Q) := r165_779.trans (kA_eq _ _)
set_option maxRecDepth 20000 in
theorem q165_780 : RR S d 165 780 L st h Q = (iI (ai_look L 3) ∧ RR S d 165 781 L (.int (gI (ai_look L 3)) :: st) h Q) := r165_780.trans (kI_eq _ _)
set_option maxRecDepth 20000 in
theorem q165_783 {x : Int32} {a : Nat} : RR S d 165 783 L (.int x :: .ref a :: st) h Q = ((ai_arr h a 0).isSome = true ∧ ¬ (x < 0 ∨ ((ai_arr h a 0).getD (0, fun _ => 0)).1 ≤ x.toNatClampNeg) ∧ RR S d 165 784 L (.int (((ai_arr h a 0).getD (0, fun _ => 0)).2 x.toNatClampNeg) :: st) h Q) := r165_783.trans (kO_in (0, fun _ => 0) _ (fun q => q.1) _ _)
set_option maxRecDepth 20000 in
theorem q165_783x {x : Int32} {u : UInt32} : RR S d 165 783 L (.int x :: .float u :: st) h Q = (¬ (x < 0 ∨ (ai_ext S u).1 ≤ x.toNatClampNeg) ∧ RR S d 165 784 L (.int ((ai_ext S u).2 x.toNatClampNeg) :: st) h Q) := r165_783x.trans (kB_in _ _ _)
set_option maxRecDepth 20000 in
theorem q165_784 {p0 : Int32} {p1 : Int32} {a : Nat} : RR S (d + 1) 165 784 L (.int p1 :: .int p0 :: .ref a :: st) h Q = (ai_sum st ≤ 8 ∧ (ai_obj h a 9).isSome = true ∧ RR S d 102 0 [(0, .ref a), (1, .int p0), (2, .int p1)] [] h (kc S d 165 787 L st Q)) := r165_784.trans (kB_cv _ _ _)
set_option maxRecDepth 20000 in
theorem q165_788 : RR S d 165 788 L st h Q = (iA (ai_look L 2) ∧ RR S d 165 789 L ((gA (ai_look L 2)) :: st) h Q) := r165_788.trans (kA_eq _ _)
set_option maxRecDepth 20000 in
theorem q165_789 : RR S d 165 789 L st h Q = (iA (ai_look L 0) ∧ RR S d 165 790 L ((gA (ai_look L 0)) :: st) h Q) := r165_789.trans (kA_eq _ _)
set_option maxRecDepth 20000 in
theorem q165_790 : RR S d 165 790 L st h Q = (iI (ai_look L 3) ∧ RR S d 165 791 L (.int (gI (ai_look L 3)) :: st) h Q) := r165_790.trans (kI_eq _ _)
set_option maxRecDepth 20000 in
theorem q165_793 {x : Int32} {a : Nat} : RR S d 165 793 L (.int x :: .ref a :: st) h Q = ((ai_arr h a 0).isSome = true ∧ ¬ (x < 0 ∨ ((ai_arr h a 0).getD (0, fun _ => 0)).1 ≤ x.toNatClampNeg) ∧ RR S d 165 794 L (.int (((ai_arr h a 0).getD (0, fun _ => 0)).2 x.toNatClampNeg) :: st) h Q) := r165_793.trans (kO_in (0, fun _ => 0) _ (fun q => q.1) _ _)
set_option maxRecDepth 20000 in
theorem q165_793x {x : Int32} {u : UInt32} : RR S d 165 793 L (.int x :: .float u :: st) h Q = (¬ (x < 0 ∨ (ai_ext S u).1 ≤ x.toNatClampNeg) ∧ RR S d 165 794 L (.int ((ai_ext S u).2 x.toNatClampNeg) :: st) h Q) := r165_793x.trans (kB_in _ _ _)
set_option maxRecDepth 20000 in
theorem q165_794 : RR S d 165 794 L st h Q = (iA (ai_look L 0) ∧ RR S d 165 795 L ((gA (ai_look L 0)) :: st) h Q) := r165_794.trans (kA_eq _ _)
set_option maxRecDepth 20000 in
theorem q165_795 : RR S d 165 795 L st h Q = (iI (ai_look L 3) ∧ RR S d 165 796 L (.int (gI (ai_look L 3)) :: st) h Q) := r165_795.trans (kI_eq _ _)
set_option maxRecDepth 20000 in
theorem q165_798 {x : Int32} {a : Nat} : RR S d 165 798 L (.int x :: .ref a :: st) h Q = ((ai_arr h a 0).isSome = true ∧ ¬ (x < 0 ∨ ((ai_arr h a 0).getD (0, fun _ => 0)).1 ≤ x.toNatClampNeg) ∧ RR S d 165 799 L (.int (((ai_arr h a 0).getD (0, fun _ => 0)).2 x.toNatClampNeg) :: st) h Q) := r165_798.trans (kO_in (0, fun _ => 0) _ (fun q => q.1) _ _)
set_option maxRecDepth 20000 in
theorem q165_798x {x : Int32} {u : UInt32} : RR S d 165 798 L (.int x :: .float u :: st) h Q = (¬ (x < 0 ∨ (ai_ext S u).1 ≤ x.toNatClampNeg) ∧ RR S d 165 799 L (.int ((ai_ext S u).2 x.toNatClampNeg) :: st) h Q) := r165_798x.trans (kB_in _ _ _)
set_option maxRecDepth 20000 in
theorem q165_799 {p0 : Int32} {p1 : Int32} {a : Nat} : RR S (d + 1) 165 799 L (.int p1 :: .int p0 :: .ref a :: st) h Q = (ai_sum st ≤ 8 ∧ (ai_obj h a 10).isSome = true ∧ RR S d 158 0 [(0, .ref a), (1, .int p0), (2, .int p1)] [] h (kc S d 165 802 L st Q)) := r165_799.trans (kB_cv _ _ _)
set_option maxRecDepth 20000 in
theorem q165_806 : RR S d 165 806 L st h Q = (iA (ai_look L 1) ∧ RR S d 165 807 L ((gA (ai_look L 1)) :: st) h Q) := r165_806.trans (kA_eq _ _)
set_option maxRecDepth 20000 in
theorem q165_807 : RR S d 165 807 L st h Q = (iA (ai_look L 0) ∧ RR S d 165 808 L ((gA (ai_look L 0)) :: st) h Q) := r165_807.trans (kA_eq _ _)
set_option maxRecDepth 20000 in
theorem q165_808 : RR S d 165 808 L st h Q = (iI (ai_look L 3) ∧ RR S d 165 809 L (.int (gI (ai_look L 3)) :: st) h Q) := r165_808.trans (kI_eq _ _)
set_option maxRecDepth 20000 in
theorem q165_811 {x : Int32} {a : Nat} : RR S d 165 811 L (.int x :: .ref a :: st) h Q = ((ai_arr h a 0).isSome = true ∧ ¬ (x < 0 ∨ ((ai_arr h a 0).getD (0, fun _ => 0)).1 ≤ x.toNatClampNeg) ∧ RR S d 165 812 L (.int (((ai_arr h a 0).getD (0, fun _ => 0)).2 x.toNatClampNeg) :: st) h Q) := r165_811.trans (kO_in (0, fun _ => 0) _ (fun q => q.1) _ _)
set_option maxRecDepth 20000 in
theorem q165_811x {x : Int32} {u : UInt32} : RR S d 165 811 L (.int x :: .float u :: st) h Q = (¬ (x < 0 ∨ (ai_ext S u).1 ≤ x.toNatClampNeg) ∧ RR S d 165 812 L (.int ((ai_ext S u).2 x.toNatClampNeg) :: st) h Q) := r165_811x.trans (kB_in _ _ _)
set_option maxRecDepth 20000 in
theorem q165_812 {p0 : Int32} {a : Nat} : RR S (d + 1) 165 812 L (.int p0 :: .ref a :: st) h Q = (ai_sum st ≤ 8 ∧ (ai_obj h a 9).isSome = true ∧ RR S d 103 0 [(0, .ref a), (1, .int p0)] [] h (kc S d 165 815 L st Q)) := r165_812.trans (kB_cv _ _ _)
set_option maxRecDepth 20000 in
theorem q165_816 : RR S d 165 816 L st h Q = (iA (ai_look L 2) ∧ RR S d 165 817 L ((gA (ai_look L 2)) :: st) h Q) := r165_816.trans (kA_eq _ _)
set_option maxRecDepth 20000 in
theorem q165_817 : RR S d 165 817 L st h Q = (iA (ai_look L 0) ∧ RR S d 165 818 L ((gA (ai_look L 0)) :: st) h Q) := r165_817.trans (kA_eq _ _)
set_option maxRecDepth 20000 in
theorem q165_818 : RR S d 165 818 L st h Q = (iI (ai_look L 3) ∧ RR S d 165 819 L (.int (gI (ai_look L 3)) :: st) h Q) := r165_818.trans (kI_eq _ _)
set_option maxRecDepth 20000 in
theorem q165_821 {x : Int32} {a : Nat} : RR S d 165 821 L (.int x :: .ref a :: st) h Q = ((ai_arr h a 0).isSome = true ∧ ¬ (x < 0 ∨ ((ai_arr h a 0).getD (0, fun _ => 0)).1 ≤ x.toNatClampNeg) ∧ RR S d 165 822 L (.int (((ai_arr h a 0).getD (0, fun _ => 0)).2 x.toNatClampNeg) :: st) h Q) := r165_821.trans (kO_in (0, fun _ => 0) _ (fun q => q.1) _ _)
set_option maxRecDepth 20000 in
theorem q165_821x {x : Int32} {u : UInt32} : RR S d 165 821 L (.int x :: .float u :: st) h Q = (¬ (x < 0 ∨ (ai_ext S u).1 ≤ x.toNatClampNeg) ∧ RR S d 165 822 L (.int ((ai_ext S u).2 x.toNatClampNeg) :: st) h Q) := r165_821x.trans (kB_in _ _ _)
set_option maxRecDepth 20000 in
theorem q165_822 {p0 : Int32} {a : Nat} : RR S (d + 1) 165 822 L (.int p0 :: .ref a :: st) h Q = (ai_sum st ≤ 8 ∧ (ai_obj h a 10).isSome = true ∧ RR S d 159 0 [(0, .ref a), (1, .int p0)] [] h (kc S d 165 825 L st Q)) := r165_822.trans (kB_cv _ _ _)
set_option maxRecDepth 20000 in
theorem q165_829 : RR S d 165 829 L st h Q = (iA (ai_look L 1) ∧ RR S d 165 830 L ((gA (ai_look L 1)) :: st) h Q) := r165_829.trans (kA_eq _ _)
set_option maxRecDepth 20000 in
theorem q165_830 : RR S d 165 830 L st h Q = (iA (ai_look L 0) ∧ RR S d 165 831 L ((gA (ai_look L 0)) :: st) h Q) := r165_830.trans (kA_eq _ _)
set_option maxRecDepth 20000 in
theorem q165_831 : RR S d 165 831 L st h Q = (iI (ai_look L 3) ∧ RR S d 165 832 L (.int (gI (ai_look L 3)) :: st) h Q) := r165_831.trans (kI_eq _ _)
set_option maxRecDepth 20000 in
theorem q165_834 {x : Int32} {a : Nat} : RR S d 165 834 L (.int x :: .ref a :: st) h Q = ((ai_arr h a 0).isSome = true ∧ ¬ (x < 0 ∨ ((ai_arr h a 0).getD (0, fun _ => 0)).1 ≤ x.toNatClampNeg) ∧ RR S d 165 835 L (.int (((ai_arr h a 0).getD (0, fun _ => 0)).2 x.toNatClampNeg) :: st) h Q) := r165_834.trans (kO_in (0, fun _ => 0) _ (fun q => q.1) _ _)
set_option maxRecDepth 20000 in
theorem q165_834x {x : Int32} {u : UInt32} : RR S d 165 834 L (.int x :: .float u :: st) h Q = (¬ (x < 0 ∨ (ai_ext S u).1 ≤ x.toNatClampNeg) ∧ RR S d 165 835 L (.int ((ai_ext S u).2 x.toNatClampNeg) :: st) h Q) := r165_834x.trans (kB_in _ _ _)
set_option maxRecDepth 20000 in
theorem q165_835 {p0 : Int32} {a : Nat} : RR S (d + 1) 165 835 L (.int p0 :: .ref a :: st) h Q = (ai_sum st ≤ 8 ∧ (ai_obj h a 9).isSome = true ∧ RR S d 104 0 [(0, .ref a), (1, .int p0)] [] h (kc S d 165 838 L st Q)) := r165_835.trans (kB_cv _ _ _)
set_option maxRecDepth 20000 in
theorem q165_839 : RR S d 165 839 L st h Q = (iA (ai_look L 2) ∧ RR S d 165 840 L ((gA (ai_look L 2)) :: st) h Q) := r165_839.trans (kA_eq _ _)
set_option maxRecDepth 20000 in
theorem q165_840 : RR S d 165 840 L st h Q = (iA (ai_look L 0) ∧ RR S d 165 841 L ((gA (ai_look L 0)) :: st) h Q) := r165_840.trans (kA_eq _ _)
set_option maxRecDepth 20000 in
theorem q165_841 : RR S d 165 841 L st h Q = (iI (ai_look L 3) ∧ RR S d 165 842 L (.int (gI (ai_look L 3)) :: st) h Q) := r165_841.trans (kI_eq _ _)
set_option maxRecDepth 20000 in
theorem q165_844 {x : Int32} {a : Nat} : RR S d 165 844 L (.int x :: .ref a :: st) h Q = ((ai_arr h a 0).isSome = true ∧ ¬ (x < 0 ∨ ((ai_arr h a 0).getD (0, fun _ => 0)).1 ≤ x.toNatClampNeg) ∧ RR S d 165 845 L (.int (((ai_arr h a 0).getD (0, fun _ => 0)).2 x.toNatClampNeg) :: st) h Q) := r165_844.trans (kO_in (0, fun _ => 0) _ (fun q => q.1) _ _)
set_option maxRecDepth 20000 in
theorem q165_844x {x : Int32} {u : UInt32} : RR S d 165 844 L (.int x :: .float u :: st) h Q = (¬ (x < 0 ∨ (ai_ext S u).1 ≤ x.toNatClampNeg) ∧ RR S d 165 845 L (.int ((ai_ext S u).2 x.toNatClampNeg) :: st) h Q) := r165_844x.trans (kB_in _ _ _)
set_option maxRecDepth 20000 in
theorem q165_845 {p0 : Int32} {a : Nat} : RR S (d + 1) 165 845 L (.int p0 :: .ref a :: st) h Q = (ai_sum st ≤ 8 ∧ (ai_obj h a 10).isSome = true ∧ RR S d 160 0 [(0, .ref a), (1, .int p0)] [] h (kc S d 165 848 L st Q)) := r165_845.trans (kB_cv _ _ _)
set_option maxRecDepth 20000 in
theorem q165_852 : RR S d 165 852 L st h Q = (iI (ai_look L 3) ∧ RR S d 165 855 (ai_put 3 (.int ((gI (ai_look L 3)) + 6)) L) st h Q) := r165_852.trans (kI_eq _ _)
end Ru
