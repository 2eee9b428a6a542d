theorem ai_ckJ : (List.zipWith (fun (q : (Nat × Nat) × Int64) j => ai_wd j (Jvm.Cond.constantLong (ai_Rn q.1.1) q.1.2 q.2)) ai_J [502]).all id = true := by decide +kernel
theorem ai_J_s {o i : Nat} {v : Int64} (h : ai_get ai_J o i = some v) : Jvm.Cond.constantLong (ai_Rn o) i v ∈ ai_tb := by
  obtain ⟨j, hj⟩ := ai_z2 (by decide +kernel) ai_ckJ (ai_get_mem h)
  exact ai_wd_s hj
theorem ai_ckZ : (List.zipWith (fun (q : Nat × Nat) j => ai_wd j (Jvm.Cond.fieldLink (ai_Rn q.1) q.2 RX9 "CYCLES" "[I")) ai_Z [310]).all id = true := by decide +kernel
theorem ai_Z_s {o i : Nat} (h : ai_Z.contains (o, i) = true) : Jvm.Cond.fieldLink (ai_Rn o) i RX9 "CYCLES" "[I" ∈ ai_tb := by
  obtain ⟨j, hj⟩ := ai_z2 (by decide +kernel) ai_ckZ (List.contains_iff_mem.mp h)
  exact ai_wd_s hj
theorem ai_wI : Jvm.Cond.arrayClass .int ∈ ai_tb := ai_wd_s (i := 108) (by decide +kernel)
theorem ai_wB : Jvm.Cond.arrayClass .boolean ∈ ai_tb := ai_wd_s (i := 954) (by decide +kernel)
theorem ai_wA {c t : Nat} (h : ai_ao c = some t) : Jvm.Cond.arrayOver (.object (ai_Rn c)) ∈ lw_tbl := by
  unfold ai_ao at h
  split at h
  · exact List.mem_of_getElem? (i := 155) (by decide +kernel)
  · exact List.mem_of_getElem? (i := 138) (by decide +kernel)
  · exact List.mem_of_getElem? (i := 226) (by decide +kernel)
  · cases h
theorem ai_wO1 : Jvm.Cond.instanceMethod objectInit ∈ ai_tb := ai_wd_s (i := 57) (by decide +kernel)
theorem ai_wO2 : Jvm.Cond.code objectInit ⟨#[0xb1]⟩ 1 none ∈ ai_tb := ai_wd_s (i := 58) (by decide +kernel)
theorem ai_wS : Jvm.Cond.laysStatic RX9 "CYCLES" "[I" ∈ lw_tbl := List.mem_of_getElem? (i := 311) (by decide +kernel)
