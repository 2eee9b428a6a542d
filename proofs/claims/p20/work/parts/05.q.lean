def ai_Ma : List Nat := [162, 163, 164]
theorem ai_pl0 : plainFor yJ9_floorMod_7cf53 = true := by decide +kernel
theorem ai_pl1 : plainFor yJ9_max_7cf53 = true := by decide +kernel
theorem ai_pl2 : plainFor yJ9_min_7cf53 = true := by decide +kernel
def ai_Px : List (Nat × Nat × Nat × Nat × Nat) := [(42, 151, 0, 1, 0), (42, 447, 448, 0, 1), (42, 468, 469, 4, 2), (42, 528, 529, 3, 3), (42, 639, 640, 3, 4), (50, 659, 0, 4, 5), (50, 745, 746, 1, 6), (50, 753, 754, 0, 7), (50, 762, 763, 0, 8), (50, 758, 759, 1, 9), (50, 799, 800, 1, 10), (50, 808, 809, 2, 11), (39, 62, 0, 0, 12), (39, 296, 297, 1, 13), (39, 292, 293, 2, 14), (39, 345, 346, 1, 15), (39, 618, 619, 1, 16), (39, 284, 285, 1, 17), (39, 300, 301, 4, 18), (39, 317, 318, 0, 19), (39, 474, 475, 2, 20), (39, 341, 342, 2, 21), (39, 723, 724, 1, 22), (39, 356, 357, 1, 23), (39, 714, 715, 1, 24), (39, 601, 602, 2, 25), (39, 710, 711, 3, 26), (39, 622, 623, 3, 27), (44, 187, 0, 3, 28), (44, 510, 511, 0, 29), (44, 573, 574, 0, 30), (44, 579, 0, 1, 31), (44, 518, 519, 1, 32), (44, 443, 444, 0, 33), (44, 456, 4, 1, 34), (44, 551, 8, 0, 35), (44, 524, 6, 1, 36), (44, 542, 7, 3, 37), (45, 222, 0, 3, 38), (45, 702, 703, 1, 39), (45, 739, 740, 1, 40), (45, 731, 732, 0, 41), (45, 736, 9, 0, 42), (45, 750, 10, 1, 43), (45, 767, 11, 2, 44), (45, 777, 12, 0, 45), (45, 781, 13, 1, 46), (45, 795, 796, 1, 47), (45, 805, 14, 2, 48), (45, 818, 819, 0, 49), (43, 158, 0, 1, 50), (43, 451, 452, 0, 51), (43, 532, 533, 0, 52), (43, 546, 547, 1, 53), (43, 495, 496, 1, 54), (43, 499, 500, 1, 55), (43, 536, 537, 2, 56), (43, 478, 479, 3, 57), (43, 487, 488, 1, 58), (43, 492, 5, 3, 59), (47, 380, 0, 2, 60), (47, 423, 424, 1, 61), (47, 464, 465, 1, 62), (47, 460, 461, 0, 63), (41, 134, 0, 0, 64), (41, 427, 428, 1, 65), (41, 439, 440, 1, 66), (41, 435, 436, 1, 67), (41, 514, 515, 0, 68), (41, 564, 565, 0, 69), (41, 559, 560, 0, 70), (40, 112, 0, 1, 71), (40, 360, 0, 1, 72), (40, 363, 0, 2, 73), (40, 594, 0, 1, 74), (40, 598, 0, 2, 75), (40, 626, 0, 2, 76), (40, 349, 0, 1, 77), (40, 329, 330, 4, 78), (40, 333, 334, 4, 79), (40, 338, 0, 5, 80), (40, 353, 1, 1, 81), (38, 54, 0, 0, 82), (38, 277, 278, 1, 83), (38, 288, 289, 4, 84), (38, 304, 305, 1, 85), (38, 313, 314, 1, 86), (38, 321, 322, 5, 87), (38, 366, 367, 5, 88), (38, 431, 432, 1, 89), (38, 506, 507, 0, 90), (38, 555, 556, 0, 91), (38, 569, 570, 0, 92), (38, 589, 590, 2, 93), (38, 609, 610, 0, 94), (38, 613, 614, 2, 95), (38, 634, 635, 3, 96), (38, 644, 645, 2, 97), (38, 649, 650, 2, 98), (38, 653, 654, 4, 99), (38, 706, 707, 3, 100), (38, 719, 720, 3, 101), (38, 727, 728, 2, 102), (38, 791, 792, 1, 103), (38, 812, 813, 1, 104), (38, 420, 3, 4, 105), (38, 371, 2, 1, 106), (38, 375, 0, 2, 107), (38, 308, 0, 1, 108), (38, 326, 0, 1, 109), (38, 281, 0, 3, 110), (38, 788, 0, 1, 111), (46, 824, 0, 0, 112), (46, 965, 15, 1, 113), (46, 1079, 30, 1, 114), (46, 956, 957, 1, 115), (46, 960, 961, 4, 116), (46, 968, 969, 1, 117), (46, 972, 973, 1, 118), (46, 996, 19, 4, 119), (46, 988, 17, 3, 120), (46, 984, 16, 3, 121), (46, 992, 18, 2, 122), (46, 1000, 20, 3, 123), (46, 980, 0, 1, 124), (46, 976, 977, 5, 125), (46, 1003, 1004, 5, 126), (46, 1007, 1008, 1, 127), (46, 1020, 23, 4, 128), (46, 1037, 26, 3, 129), (46, 1016, 22, 4, 130), (46, 1012, 21, 0, 131), (46, 1032, 25, 0, 132), (46, 1028, 24, 1, 133), (46, 1023, 1024, 0, 134), (46, 1040, 1041, 0, 135), (46, 1049, 27, 0, 136), (46, 1056, 0, 1, 137), (46, 1059, 0, 2, 138), (46, 1053, 28, 3, 139), (46, 1044, 1045, 0, 140), (46, 1067, 29, 1, 141), (46, 1062, 1063, 2, 142), (46, 1070, 1071, 0, 143), (46, 1074, 1075, 2, 144), (46, 1091, 32, 1, 145), (46, 1087, 31, 3, 146), (46, 1082, 1083, 3, 147), (46, 1094, 1095, 2, 148), (46, 1099, 1100, 2, 149), (46, 1103, 1104, 4, 150), (46, 1112, 33, 3, 151), (46, 1107, 1108, 3, 152), (46, 1115, 1116, 3, 153), (46, 1124, 34, 0, 154), (46, 1129, 35, 2, 155), (46, 1133, 36, 3, 156), (46, 1136, 0, 1, 157), (46, 1119, 1120, 2, 158), (46, 1139, 1140, 1, 159), (46, 1143, 1144, 1, 160), (49, 582, 0, 1, 161), (48, 630, 0, 2, 162), (48, 384, 0, 2, 163), (48, 483, 0, 2, 164)]
def ai_pm (r : MethodName × ByteArray × Nat × Option FieldType × Nat) (j : Nat × Nat × Nat × Nat × Nat) : Bool := ai_wd j.1 (Jvm.Cond.initialized r.1.cls) && (decide (r.1.cls = ai_Rn r.2.2.2.2) && (decide (r.1.cls ≠ "java/lang/invoke/MethodHandle" ∧ r.1.cls ≠ "java/lang/invoke/VarHandle" ∧ (parseMethodDescriptor r.1.desc).map (fun d => d.parameters.length) = some j.2.2.2.1) && ((plainName r.1.cls || ai_Ma.contains j.2.2.2.2) && (decide (r.2.2.1 ≤ 21) && (match ai_Sm.contains j.2.2.2.2 with
    | true => ai_wd j.2.1 (Jvm.Cond.static r.1)
    | false => ai_wd j.2.1 (Jvm.Cond.instanceMethod r.1) && (decide (r.1.name = "<init>") || ai_wd j.2.2.1 (Jvm.Cond.selects r.1.cls r.1 r.1)))))))
set_option maxRecDepth 100000 in
theorem ai_ckP : (List.zipWith ai_pm ai_M ai_Px).all id = true := by decide +kernel
/-- what is known of a callee -/
def ai_mk (r : MethodName × ByteArray × Nat × Option FieldType × Nat) (mn n : Nat) : Prop := Jvm.Cond.code r.1 r.2.1 r.2.2.1 r.2.2.2.1 ∈ ai_tb ∧ Jvm.Cond.initialized r.1.cls ∈ ai_tb ∧ r.1.cls = ai_Rn r.2.2.2.2 ∧ (r.1.cls ≠ "java/lang/invoke/MethodHandle" ∧ r.1.cls ≠ "java/lang/invoke/VarHandle" ∧ (parseMethodDescriptor r.1.desc).map (fun d => d.parameters.length) = some n) ∧ plainFor r.1 = true ∧ r.2.2.1 ≤ 21 ∧ (ai_Sm.contains mn = true → Jvm.Cond.static r.1 ∈ ai_tb) ∧ (ai_Sm.contains mn = false → Jvm.Cond.instanceMethod r.1 ∈ ai_tb ∧ (r.1.name = "<init>" ∨ Jvm.Cond.selects r.1.cls r.1 r.1 ∈ ai_tb))
theorem ai_Pxi : ∀ i, i < 165 → (ai_Px[i]?).map (fun j => j.2.2.2.2) = some i := by decide +kernel
theorem ai_pl {mn : Nat} {r : MethodName × ByteArray × Nat × Option FieldType × Nat} (h : ai_M[mn]? = some r) (hm : ai_Ma.contains mn = true) : plainFor r.1 = true := by
  have h1 := List.contains_iff_mem.mp hm
  rcases List.mem_cons.mp h1 with e | h1
  · subst e; have e2 : r = (yJ9_floorMod_7cf53, cJ9_floorMod_7cf53, 3, (some .int), 12) := (Option.some.inj h).symm; rw [e2]; exact ai_pl0
  rcases List.mem_cons.mp h1 with e | h1
  · subst e; have e2 : r = (yJ9_max_7cf53, cJ9_max_7cf53, 2, (some .int), 12) := (Option.some.inj h).symm; rw [e2]; exact ai_pl1
  rcases List.mem_cons.mp h1 with e | h1
  · subst e; have e2 : r = (yJ9_min_7cf53, cJ9_min_7cf53, 2, (some .int), 12) := (Option.some.inj h).symm; rw [e2]; exact ai_pl2
  · exact absurd h1 List.not_mem_nil
theorem ai_mk_s {mn : Nat} (hm : mn < 165) : ∃ r n, ai_M[mn]? = some r ∧ ((ai_Px[mn]?).map (fun j => j.2.2.2.1) = some n) ∧ ai_mk r mn n := by
  have hl : mn < ai_M.length := by
    have : ai_M.length = 166 := by decide +kernel
    omega
  have hl2 : mn < ai_Px.length := by
    have : ai_Px.length = 165 := by decide +kernel
    omega
  have hr : ai_M[mn]? = some ai_M[mn] := List.getElem?_eq_getElem hl
  have hj : ai_Px[mn]? = some ai_Px[mn] := List.getElem?_eq_getElem hl2
  generalize ai_M[mn] = r at hr
  generalize ai_Px[mn] = j at hj
  have hi := ai_Pxi mn hm
  rw [hj] at hi
  have hi : j.2.2.2.2 = mn := Option.some.inj hi
  have hz : (List.zipWith ai_pm ai_M ai_Px)[mn]? = some (ai_pm r j) := by rw [List.getElem?_zipWith, hr, hj]
  have h1 : ai_pm r j = true := List.all_eq_true.mp ai_ckP _ (List.mem_of_getElem? hz)
  obtain ⟨jc, hjc⟩ := ai_cw_s hr hm
  refine ⟨r, j.2.2.2.1, hr, by rw [hj]; rfl, ?_⟩
  unfold ai_pm at h1
  rw [hi] at h1
  simp only [Bool.and_eq_true, decide_eq_true_eq] at h1
  obtain ⟨h2, h3, h4, h5, h6, h7⟩ := h1
  have hpl : plainFor r.1 = true := by
    rcases Bool.or_eq_true_iff.mp h5 with z | z
    · exact plainFor_of_name z
    · exact ai_pl hr z
  have hgood : goodWord (Jvm.Cond.code r.1 r.2.1 r.2.2.1 r.2.2.2.1) = true := rfl
  refine ⟨ai_tb_in hjc hgood, ai_wd_s h2, h3, h4, hpl, h6, fun e => ?_, fun e => ?_⟩
  · rw [e] at h7
    exact ai_wd_s h7
  · rw [e] at h7
    simp only [Bool.and_eq_true, Bool.or_eq_true, decide_eq_true_eq] at h7
    exact ⟨ai_wd_s h7.1, h7.2.imp id ai_wd_s⟩
def ai_pG (q : (Nat × Nat) × Nat × Nat) (j : Nat) : Bool := decide (q.2.1 < 165) && (decide ((ai_Px[q.2.1]?).map (fun j => j.2.2.2.1) = some q.2.2) && (match ai_M[q.2.1]? with
  | some r => ai_wd j (Jvm.Cond.methodLink (ai_Rn q.1.1) q.1.2 r.1)
  | none => false))
set_option maxRecDepth 100000 in
theorem ai_ckG : (List.zipWith ai_pG ai_G (ai_Gx.map (·.1))).all id = true := by decide +kernel
def ai_pQ (q : (Nat × Nat) × Nat) (j : Nat × Nat × Nat × Nat) : Bool := decide (q.2 < 165) && (decide ((ai_Px[q.2]?).map (fun j => j.2.2.2.1) = some 0) && (match ai_M[q.2]? with
  | some r => decide (lw_tbl[j.1]? = some (Jvm.Cond.methodLinkNest (ai_Rn q.1.1) q.1.2 r.1 RX9))
  | none => false))
theorem ai_ckQ : (List.zipWith ai_pQ ai_Q ai_Qx).all id = true := by decide +kernel
theorem ai_G_s {o i mn n : Nat} (h : ai_get ai_G o i = some (mn, n)) : ∃ r, ai_M[mn]? = some r ∧ Jvm.Cond.methodLink (ai_Rn o) i r.1 ∈ ai_tb ∧ ai_mk r mn n := by
  obtain ⟨j, hj⟩ := ai_z2 (by decide +kernel) ai_ckG (ai_get_mem h)
  unfold ai_pG at hj
  simp only [Bool.and_eq_true, decide_eq_true_eq] at hj
  obtain ⟨h1, h2, h3⟩ := hj
  obtain ⟨r, n', hr, hn, hk⟩ := ai_mk_s h1
  rw [h2] at hn
  cases hn
  rw [hr] at h3
  exact ⟨r, hr, ai_wd_s h3, hk⟩
theorem ai_Q_s {o i mn : Nat} (h : ai_get ai_Q o i = some mn) : ∃ r, ai_M[mn]? = some r ∧ ((o, i), mn) ∈ ai_Q ∧ ai_mk r mn 0 := by
  obtain ⟨j, hj⟩ := ai_z2 (by decide +kernel) ai_ckQ (ai_get_mem h)
  unfold ai_pQ at hj
  simp only [Bool.and_eq_true, decide_eq_true_eq] at hj
  obtain ⟨h1, h2, h3⟩ := hj
  obtain ⟨r, n', hr, hn, hk⟩ := ai_mk_s h1
  rw [h2] at hn
  cases hn
  exact ⟨r, hr, ai_get_mem h, hk⟩
set_option maxRecDepth 100000 in
theorem ai_ckN : (List.zipWith (fun (q : (Nat × Nat) × Nat) j => ai_wd j (Jvm.Cond.classLink (ai_Rn q.1.1) q.1.2 (ai_Rn q.2))) ai_N ai_Nx).all id = true := by decide +kernel
theorem ai_N_s {o i c : Nat} (h : ai_get ai_N o i = some c) : Jvm.Cond.classLink (ai_Rn o) i (ai_Rn c) ∈ ai_tb := by
  obtain ⟨j, hj⟩ := ai_z2 (by decide +kernel) ai_ckN (ai_get_mem h)
  exact ai_wd_s hj
theorem ai_ckO : (List.zipWith (fun (q : Nat × Nat) j => ai_wd j (Jvm.Cond.methodLink (ai_Rn q.1) q.2 objectInit)) ai_O ai_Ox).all id = true := by decide +kernel
theorem ai_O_s {o i : Nat} (h : ai_O.contains (o, i) = true) : Jvm.Cond.methodLink (ai_Rn o) i objectInit ∈ ai_tb := by
  obtain ⟨j, hj⟩ := ai_z2 (by decide +kernel) ai_ckO (List.contains_iff_mem.mp h)
  exact ai_wd_s hj
theorem ai_ckK : (List.zipWith (fun (q : (Nat × Nat) × Int32) j => ai_wd j (Jvm.Cond.constant (ai_Rn q.1.1) q.1.2 q.2)) ai_K ai_Kx).all id = true := by decide +kernel
theorem ai_K_s {o i : Nat} {v : Int32} (h : ai_get ai_K o i = some v) : Jvm.Cond.constant (ai_Rn o) i v ∈ ai_tb := by
  obtain ⟨j, hj⟩ := ai_z2 (by decide +kernel) ai_ckK (ai_get_mem h)
  exact ai_wd_s hj
set_option maxRecDepth 100000 in
theorem ai_ckC : (List.zipWith (fun (r : vw_C) (j : Nat × Nat) => ai_wd j.1 (Jvm.Cond.instantiable r.1 r.2.2) && ai_wd j.2 (Jvm.Cond.initialized r.1)) ai_cl ai_Cx).all id = true := by decide +kernel
set_option maxRecDepth 100000 in
theorem ai_ckL : (List.zipWith (fun (r : vw_C) (l : List Nat) => decide (l.length = r.2.2) && (List.zipWith (fun k j => ai_wd j (u_lay r.1 r.2.1 k)) (List.range r.2.2) l).all id) ai_cl ai_Lx).all id = true := by decide +kernel
theorem ai_C_s {r : vw_C} (h : r ∈ ai_cl) : Jvm.Cond.instantiable r.1 r.2.2 ∈ ai_tb ∧ Jvm.Cond.initialized r.1 ∈ ai_tb ∧ ∀ w ∈ u_ws r.1 r.2.1 r.2.2, w ∈ ai_tb := by
  obtain ⟨j, hj⟩ := ai_z2 (by decide +kernel) ai_ckC h
  obtain ⟨l, hl⟩ := ai_z2 (by decide +kernel) ai_ckL h
  simp only [Bool.and_eq_true, decide_eq_true_eq] at hj hl
  refine ⟨ai_wd_s hj.1, ai_wd_s hj.2, fun w hw => ?_⟩
  obtain ⟨k, hk, rfl⟩ := List.mem_map.mp hw
  obtain ⟨b, hb⟩ := ai_z2 (by rw [hl.1, List.length_range]) hl.2 hk
  exact ai_wd_s hb
theorem ai_ckC2 : ((List.range 11).all fun c => match ai_cl[c]? with
  | some r => decide (r.1 = ai_Rn c) && ((List.range r.2.2).all (fun k => decide ((r.2.1 k).1 = ai_Rn c) && (decide (parseFieldDescriptor (r.2.1 k).2.2.1 = some (ai_ft c k)) && (List.range r.2.2).all (fun j => decide (k = j) || decide ((r.2.1 k).2.1 ≠ (r.2.1 j).2.1)))))
  | none => false) = true := by decide +kernel
theorem ai_C2_s {c : Nat} {r : vw_C} (h : ai_cl[c]? = some r) : r.1 = ai_Rn c ∧ (∀ k, k < r.2.2 → (r.2.1 k).1 = ai_Rn c) ∧ (∀ k, k < r.2.2 → parseFieldDescriptor (r.2.1 k).2.2.1 = some (ai_ft c k)) ∧ (∀ a, a < r.2.2 → ∀ b, b < r.2.2 → a ≠ b → (r.2.1 a).2.1 ≠ (r.2.1 b).2.1) := by
  have hc : c < 11 := (List.getElem?_eq_some_iff.mp h).1
  have h1 := List.all_eq_true.mp ai_ckC2 c (List.mem_range.mpr hc)
  rw [h] at h1
  simp only [Bool.and_eq_true, decide_eq_true_eq, List.all_eq_true, List.mem_range, Bool.or_eq_true] at h1
  refine ⟨h1.1, fun k hk => (h1.2 k hk).1, fun k hk => (h1.2 k hk).2.1, fun a ha b hb hab => ?_⟩
  rcases (h1.2 a ha).2.2 b hb with e | e
  · exact absurd e hab
  · exact e
