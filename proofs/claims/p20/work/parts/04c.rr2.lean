section RRt
variable {S : ai_S} {d mn pc : Nat} {L : ai_L} {st : List Value} {h : ai_H} {Q : Option Value → ai_H → Prop} {i : Instr}
theorem RR.icn {n : Int} {v : Int32} {pc' : Nat} (hi : ai_I mn pc = some (.iconst n)) (hv : Int32.ofInt n = v) (hp : pc + 1 = pc') : RR S d mn pc L st h Q = RR S d mn pc' L (.int v :: st) h Q := by
  subst hp; subst hv
  exact RR.do1 (pc + 1, L, .int (Int32.ofInt n) :: st, h) hi rfl rfl
theorem RR.bip {n : Int} {v : Int32} {pc' : Nat} (hi : ai_I mn pc = some (.bipush n)) (hv : (Int8.ofInt n).toInt32 = v) (hp : pc + 2 = pc') : RR S d mn pc L st h Q = RR S d mn pc' L (.int v :: st) h Q := by
  subst hp; subst hv
  exact RR.do1 (pc + 2, L, .int (Int8.ofInt n).toInt32 :: st, h) hi rfl rfl
theorem RR.sip {n : Int} {v : Int32} {pc' : Nat} (hi : ai_I mn pc = some (.sipush n)) (hv : (Int16.ofInt n).toInt32 = v) (hp : pc + 3 = pc') : RR S d mn pc L st h Q = RR S d mn pc' L (.int v :: st) h Q := by
  subst hp; subst hv
  exact RR.do1 (pc + 3, L, .int (Int16.ofInt n).toInt32 :: st, h) hi rfl rfl
theorem RR.lcn {n : Fin 2} {v : Int64} {pc' : Nat} (hi : ai_I mn pc = some (.lconst n)) (hv : Int64.ofNat (n : Nat) = v) (hp : pc + 1 = pc') : RR S d mn pc L st h Q = RR S d mn pc' L (.long v :: st) h Q := by
  subst hp; subst hv
  exact RR.do1 (pc + 1, L, .long (Int64.ofNat (n : Nat)) :: st, h) hi rfl rfl
theorem RR.idiv {x y : Int32} {pc' : Nat} (hi : ai_I mn pc = some .idiv) (hp : pc + 1 = pc') : RR S d mn pc L (.int y :: .int x :: st) h Q = kB (decide (¬ y = 0)) (RR S d mn pc' L (.int (x / y) :: st) h Q) := by
  subst hp
  rw [RR.go hi rfl]
  show kO (ai_g (decide (¬ y = 0)) _) _ = _
  cases decide (¬ y = 0) <;> rfl
theorem RR.irem {x y : Int32} {pc' : Nat} (hi : ai_I mn pc = some .irem) (hp : pc + 1 = pc') : RR S d mn pc L (.int y :: .int x :: st) h Q = kB (decide (¬ y = 0)) (RR S d mn pc' L (.int (x - x / y * y) :: st) h Q) := by
  subst hp
  rw [RR.go hi rfl]
  show kO (ai_g (decide (¬ y = 0)) _) _ = _
  cases decide (¬ y = 0) <;> rfl
theorem RR.pop {v : Value} {pc' : Nat} (hi : ai_I mn pc = some .pop) (hv : v.category = 1) (hp : pc + 1 = pc') : RR S d mn pc L (v :: st) h Q = RR S d mn pc' L st h Q := by
  subst hp
  refine RR.do1 (pc + 1, L, st, h) hi rfl ?_
  show ai_g (decide (v.category = 1)) _ = _
  rw [decide_eq_true hv]; rfl
theorem RR.dup {v : Value} {pc' : Nat} (hi : ai_I mn pc = some .dup) (hv : v.category = 1) (hp : pc + 1 = pc') : RR S d mn pc L (v :: st) h Q = RR S d mn pc' L (v :: v :: st) h Q := by
  subst hp
  refine RR.do1 (pc + 1, L, v :: v :: st, h) hi rfl ?_
  show ai_g (decide (v.category = 1)) _ = _
  rw [decide_eq_true hv]; rfl
theorem RR.dup2 {v w : Value} {pc' : Nat} (hi : ai_I mn pc = some .dup2) (hv : v.category = 1) (hw : w.category = 1) (hp : pc + 1 = pc') : RR S d mn pc L (v :: w :: st) h Q = RR S d mn pc' L (v :: w :: v :: w :: st) h Q := by
  subst hp
  refine RR.do1 (pc + 1, L, v :: w :: v :: w :: st, h) hi rfl ?_
  show ai_g (decide (v.category = 1) && decide (w.category = 1)) _ = _
  rw [decide_eq_true hv, decide_eq_true hw]; rfl
theorem RR.nul {b : Bool} {off : Int} {tgt t pc' : Nat} {r : List Value} (hi : ai_I mn pc = some i) (hk : ai_kd mn i = 0) (hq : ai_do S mn pc L st h i = ai_br pc off b L r h) (h0 : (pc : Int) + off = (tgt : Int)) (hp : pc + 3 = pc') (ht : (if b = true then tgt else pc') = t) : RR S d mn pc L st h Q = RR S d mn t L r h Q := by
  subst hp
  have h1 : decide (0 ≤ (pc : Int) + off) = true := decide_eq_true (by omega)
  have h2 : ((pc : Int) + off).toNat = tgt := by omega
  rw [RR.go hi hk, hq]
  unfold ai_br
  rw [h1, h2, ht]
  rfl
theorem RR.b2 {P : Prop} [Decidable P] {c : Jvm.ClassFile.Cond} {off : Int} {tgt pc' : Nat} {x y : Int32} (hi : ai_I mn pc = some (.if_icmp c off)) (hP : ai_cnd c x y = decide P) (h0 : (pc : Int) + off = (tgt : Int)) (hp : pc + 3 = pc') : RR S d mn pc L (.int y :: .int x :: st) h Q = if P then RR S d mn tgt L st h Q else RR S d mn pc' L st h Q :=
  RR.br hi rfl (by show ai_br pc off (ai_cnd c x y) L st h = _; rw [hP]) h0 hp
theorem RR.b1 {P : Prop} [Decidable P] {c : Jvm.ClassFile.Cond} {off : Int} {tgt pc' : Nat} {x : Int32} (hi : ai_I mn pc = some (.ifCond c off)) (hP : ai_cnd c x 0 = decide P) (h0 : (pc : Int) + off = (tgt : Int)) (hp : pc + 3 = pc') : RR S d mn pc L (.int x :: st) h Q = if P then RR S d mn tgt L st h Q else RR S d mn pc' L st h Q :=
  RR.br hi rfl (by show ai_br pc off (ai_cnd c x 0) L st h = _; rw [hP]) h0 hp
theorem ai_okp_i {nm : MethodName} {c k : Nat} {x : Int32} (hft : ai_ft c k = .int) (h0 : ai_okp nm c k (.int 0) = true) : ai_okp nm c k (.int x) = true := by
  unfold ai_okp at h0 ⊢
  rw [hft] at h0 ⊢
  simp only [Bool.and_eq_true] at h0 ⊢
  exact ⟨rfl, h0.2.1, decide_eq_true rfl, rfl⟩
theorem ai_okp_j {nm : MethodName} {c k : Nat} {x : Int64} (hft : ai_ft c k = .long) (h0 : ai_okp nm c k (.long 0) = true) : ai_okp nm c k (.long x) = true := by
  unfold ai_okp at h0 ⊢
  rw [hft] at h0 ⊢
  simp only [Bool.and_eq_true] at h0 ⊢
  exact ⟨rfl, h0.2.1, decide_eq_true rfl, rfl⟩
theorem ai_okp_r {nm : MethodName} {c k : Nat} {x : Nat} (h0 : ai_okp nm c k (.ref 0) = true) : ai_okp nm c k (.ref x) = true := by
  unfold ai_okp at h0 ⊢
  simp only [Bool.and_eq_true] at h0 ⊢
  obtain ⟨h1, h2, h3, h4⟩ := h0
  refine ⟨rfl, h2, decide_eq_true (by cases ai_ft c k <;> rfl), ?_⟩
  revert h4
  cases ai_ft c k <;> exact id
theorem RR.oin {j a pc' : Nat} (hi : ai_I mn pc = some (.invokespecial j)) (hk : ai_kd mn (.invokespecial j) = 0) (hp : pc + 3 = pc') : RR S d mn pc L (.ref a :: st) h Q = kB (decide (ai_sum st ≤ 8)) (RR S d mn pc' L st h Q) := by
  subst hp
  rw [RR.go hi hk]
  show kO (ai_g (decide (ai_sum st ≤ 8)) _) _ = _
  cases decide (ai_sum st ≤ 8) <;> rfl
theorem RR.newa0 {n : Int32} {pc' : Nat} (hi : ai_I mn pc = some (.newarray .int)) (hp : pc + 2 = pc') : RR S d mn pc L (.int n :: st) h Q = kB (decide (¬ n < 0) && decide (n.toNatClampNeg ≤ 100000)) (RR S d mn pc' L (.ref h.1.length :: st) (h.1 ++ [.inl (0, n.toNatClampNeg, .inl (fun _ => 0))], h.2 + n.toNatClampNeg) Q) := by
  subst hp
  rw [RR.go hi rfl]
  show kO (ai_g (decide (¬ n < 0) && decide (n.toNatClampNeg ≤ 100000)) _) _ = _
  cases decide (¬ n < 0) && decide (n.toNatClampNeg ≤ 100000) <;> rfl
theorem RR.newa1 {n : Int32} {pc' : Nat} (hi : ai_I mn pc = some (.newarray .boolean)) (hp : pc + 2 = pc') : RR S d mn pc L (.int n :: st) h Q = kB (decide (¬ n < 0) && decide (n.toNatClampNeg ≤ 100000)) (RR S d mn pc' L (.ref h.1.length :: st) (h.1 ++ [.inl (1, n.toNatClampNeg, .inl (fun _ => 0))], h.2 + n.toNatClampNeg) Q) := by
  subst hp
  rw [RR.go hi rfl]
  show kO (ai_g (decide (¬ n < 0) && decide (n.toNatClampNeg ≤ 100000)) _) _ = _
  cases decide (¬ n < 0) && decide (n.toNatClampNeg ≤ 100000) <;> rfl
theorem RR.newq {n : Int32} {j c t pc' : Nat} (hi : ai_I mn pc = some (.anewarray j)) (hN : ai_get ai_N (ai_ow mn) j = some c) (hA : ai_ao c = some t) (hp : pc + 3 = pc') : RR S d mn pc L (.int n :: st) h Q = kB (decide (¬ n < 0) && decide (n.toNatClampNeg ≤ 100000)) (RR S d mn pc' L (.ref h.1.length :: st) (h.1 ++ [.inl (t, n.toNatClampNeg, .inr (fun _ => none))], h.2 + n.toNatClampNeg) Q) := by
  subst hp
  rw [RR.go hi rfl]
  show kO (ai_g (decide (¬ n < 0) && decide (n.toNatClampNeg ≤ 100000)) (ai_o (ai_get ai_N (ai_ow mn) j) _)) _ = _
  rw [hN]
  show kO (ai_g (decide (¬ n < 0) && decide (n.toNatClampNeg ≤ 100000)) (ai_o (ai_ao c) _)) _ = _
  rw [hA]
  cases decide (¬ n < 0) && decide (n.toNatClampNeg ≤ 100000) <;> rfl
end RRt
