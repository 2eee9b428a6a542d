def kO {α : Type} (o : Option α) (k : α → Prop) : Prop := match o with
  | some a => k a
  | none => False
def kB (b : Bool) (P : Prop) : Prop := match b with
  | true => P
  | false => False
def kI (o : Option Value) (k : Int32 → Prop) : Prop := match o with
  | some (.int x) => k x
  | _ => False
def kJ (o : Option Value) (k : Int64 → Prop) : Prop := match o with
  | some (.long x) => k x
  | _ => False
def kA (o : Option Value) (k : Value → Prop) : Prop := match o with
  | some (.ref a) => k (.ref a)
  | some .null => k .null
  | some (.float u) => k (.float u)
  | _ => False
theorem kO_s {α : Type} (a : α) (k : α → Prop) : kO (some a) k = k a := rfl
theorem kB_t (P : Prop) : kB true P = P := rfl
theorem kI_s (x : Int32) (k : Int32 → Prop) : kI (some (.int x)) k = k x := rfl
theorem kJ_s (x : Int64) (k : Int64 → Prop) : kJ (some (.long x)) k = k x := rfl
theorem kA_r (a : Nat) (k : Value → Prop) : kA (some (.ref a)) k = k (.ref a) := rfl
theorem kA_n (k : Value → Prop) : kA (some .null) k = k .null := rfl
theorem kA_f (u : UInt32) (k : Value → Prop) : kA (some (.float u)) k = k (.float u) := rfl
section RRs
variable {S : ai_S} {d mn pc : Nat} {L : ai_L} {st : List Value} {h : ai_H} {Q : Option Value → ai_H → Prop} {i : Instr}
theorem RR.no (hs : ai_step S mn pc L st h = none) : RR S d mn pc L st h Q = False := by
  refine propext ⟨fun ⟨n, x, e, hq⟩ => ?_, False.elim⟩
  cases n with
  | zero => simp [ai_run] at e
  | succ n => rw [ai_run, hs] at e; cases e
theorem ai_step_0 (hi : ai_I mn pc = some i) (hk : ai_kd mn i = 0) : ai_step S mn pc L st h = (ai_do S mn pc L st h i).map .inl := by
  simp only [ai_step, hi, ai_stp, hk]
theorem ai_step_1 (hi : ai_I mn pc = some i) (hk : ai_kd mn i = 1) : ai_step S mn pc L st h = (ai_inv mn st h i).map (fun q => .inr (.inl q)) := by
  simp only [ai_step, hi, ai_stp, hk]
theorem ai_step_2 (hi : ai_I mn pc = some i) (hk : ai_kd mn i = 2) : ai_step S mn pc L st h = (ai_ret mn st i).map (fun q => .inr (.inr q)) := by
  simp only [ai_step, hi, ai_stp, hk]
theorem RR.go (hi : ai_I mn pc = some i) (hk : ai_kd mn i = 0) : RR S d mn pc L st h Q = kO (ai_do S mn pc L st h i) (fun q => RR S d mn q.1 q.2.1 q.2.2.1 q.2.2.2 Q) := by
  cases hq : ai_do S mn pc L st h i with
  | none => rw [RR.no (by rw [ai_step_0 hi hk, hq]; rfl)]; rfl
  | some q => rw [RR.next (q := q) (by rw [ai_step_0 hi hk, hq]; rfl)]; rfl
theorem RR.do1 (q : ai_Y) (hi : ai_I mn pc = some i) (hk : ai_kd mn i = 0) (hq : ai_do S mn pc L st h i = some q) : RR S d mn pc L st h Q = RR S d mn q.1 q.2.1 q.2.2.1 q.2.2.2 Q := by
  rw [RR.go hi hk, hq]; rfl
theorem RR.ldi_n {k : Fin 4} {j pc' : Nat} (hi : ai_I mn pc = some (.iload_n k)) (hj : (k : Nat) = j) (hp : pc + 1 = pc') : RR S d mn pc L st h Q = kI (ai_look L j) (fun x => RR S d mn pc' L (.int x :: st) h Q) := by
  subst hj; subst hp
  rw [RR.go hi rfl]
  show kO (ai_o (ai_look L k) _) _ = _
  cases ai_look L k with
  | none => rfl
  | some v => cases v <;> rfl
theorem RR.ldi {k pc' : Nat} (hi : ai_I mn pc = some (.iload k)) (hp : pc + 2 = pc') : RR S d mn pc L st h Q = kI (ai_look L k) (fun x => RR S d mn pc' L (.int x :: st) h Q) := by
  subst hp
  rw [RR.go hi rfl]
  show kO (ai_o (ai_look L k) _) _ = _
  cases ai_look L k with
  | none => rfl
  | some v => cases v <;> rfl
theorem RR.ldl_n {k : Fin 4} {j pc' : Nat} (hi : ai_I mn pc = some (.lload_n k)) (hj : (k : Nat) = j) (hp : pc + 1 = pc') : RR S d mn pc L st h Q = kJ (ai_look L j) (fun x => RR S d mn pc' L (.long x :: st) h Q) := by
  subst hj; subst hp
  rw [RR.go hi rfl]
  show kO (ai_o (ai_look L k) _) _ = _
  cases ai_look L k with
  | none => rfl
  | some v => cases v <;> rfl
theorem RR.ldl {k pc' : Nat} (hi : ai_I mn pc = some (.lload k)) (hp : pc + 2 = pc') : RR S d mn pc L st h Q = kJ (ai_look L k) (fun x => RR S d mn pc' L (.long x :: st) h Q) := by
  subst hp
  rw [RR.go hi rfl]
  show kO (ai_o (ai_look L k) _) _ = _
  cases ai_look L k with
  | none => rfl
  | some v => cases v <;> rfl
theorem RR.lda_n {k : Fin 4} {j pc' : Nat} (hi : ai_I mn pc = some (.aload_n k)) (hj : (k : Nat) = j) (hp : pc + 1 = pc') : RR S d mn pc L st h Q = kA (ai_look L j) (fun x => RR S d mn pc' L (x :: st) h Q) := by
  subst hj; subst hp
  rw [RR.go hi rfl]
  show kO (ai_o (ai_look L k) _) _ = _
  cases ai_look L k with
  | none => rfl
  | some v => cases v <;> rfl
theorem RR.lda {k pc' : Nat} (hi : ai_I mn pc = some (.aload k)) (hp : pc + 2 = pc') : RR S d mn pc L st h Q = kA (ai_look L k) (fun x => RR S d mn pc' L (x :: st) h Q) := by
  subst hp
  rw [RR.go hi rfl]
  show kO (ai_o (ai_look L k) _) _ = _
  cases ai_look L k with
  | none => rfl
  | some v => cases v <;> rfl
theorem RR.iinc {k pc' : Nat} {n : Int} {c : Int32} (hi : ai_I mn pc = some (.iinc k n)) (hm : k < ai_ml mn) (hc : Int32.ofInt n = c) (hp : pc + 3 = pc') : RR S d mn pc L st h Q = kI (ai_look L k) (fun x => RR S d mn pc' (ai_put k (.int (x + c)) L) st h Q) := by
  subst hp; subst hc
  rw [RR.go hi rfl]
  have hm' : decide (k < ai_ml mn) = true := decide_eq_true hm
  show kO (ai_o (ai_look L k) fun v => ai_ldi v fun x => ai_g (decide (k < ai_ml mn)) _) _ = _
  rw [hm']
  cases ai_look L k with
  | none => rfl
  | some v => cases v <;> rfl
theorem RR.br {P : Prop} [Decidable P] {off : Int} {tgt pc' : Nat} {r : List Value} (hi : ai_I mn pc = some i) (hk : ai_kd mn i = 0) (hq : ai_do S mn pc L st h i = ai_br pc off (decide P) L r h) (h0 : (pc : Int) + off = (tgt : Int)) (hp : pc + 3 = pc') : RR S d mn pc L st h Q = if P then RR S d mn tgt L r h Q else RR S d mn pc' L r h Q := by
  subst hp
  have h1 : decide (0 ≤ (pc : Int) + off) = true := decide_eq_true (by omega)
  have h2 : ((pc : Int) + off).toNat = tgt := by omega
  rw [RR.go hi hk, hq]
  unfold ai_br
  rw [h1, h2]
  show RR S d mn (if decide P = true then tgt else pc + 3) L r h Q = _
  by_cases hP : P
  · rw [if_pos (decide_eq_true hP), if_pos hP]
  · rw [if_neg (fun z => hP (of_decide_eq_true z)), if_neg hP]
theorem RR.jmp {off : Int} {tgt : Nat} (hi : ai_I mn pc = some (.goto off)) (h0 : (pc : Int) + off = (tgt : Int)) : RR S d mn pc L st h Q = RR S d mn tgt L st h Q := by
  rw [RR.br (P := True) (r := st) (tgt := tgt) hi rfl rfl h0 rfl, if_pos trivial]
theorem RR.ts {df lo hi' : Int} {offs : Array Int} {x : Int32} {r : List Value} (hi : ai_I mn pc = some (.tableswitch df lo hi' offs)) (tg : Int → Nat) (tgd : Nat) (hd : (pc : Int) + df = (tgd : Int)) (ht : ∀ z : Int, ¬ (z < lo ∨ hi' < z) → ∃ off, offs[(z - lo).toNat]? = some off ∧ (pc : Int) + off = (tg z : Int)) : RR S d mn pc L (.int x :: r) h Q = if x.toInt < lo ∨ hi' < x.toInt then RR S d mn tgd L r h Q else RR S d mn (tg x.toInt) L r h Q := by
  have hg : ∀ (off : Int) (t : Nat), (pc : Int) + off = (t : Int) → kO (ai_br pc off true L r h) (fun q => RR S d mn q.1 q.2.1 q.2.2.1 q.2.2.2 Q) = RR S d mn t L r h Q := by
    intro off t e
    have h1 : decide (0 ≤ (pc : Int) + off) = true := decide_eq_true (by omega)
    have h2 : ((pc : Int) + off).toNat = t := by omega
    unfold ai_br
    rw [h1, h2]
    rfl
  rw [RR.go hi rfl]
  show kO (if x.toInt < lo ∨ hi' < x.toInt then ai_br pc df true L r h else ai_o (offs[(x.toInt - lo).toNat]?) fun off => ai_br pc off true L r h) _ = _
  by_cases hz : x.toInt < lo ∨ hi' < x.toInt
  · rw [if_pos hz, if_pos hz]; exact hg _ _ hd
  · rw [if_neg hz, if_neg hz]
    obtain ⟨off, e1, e2⟩ := ht _ hz
    rw [e1]
    exact hg _ _ e2
def ai_fld (h : ai_H) (a c k : Nat) : Option Value := match ai_obj h a c with
  | some fs => fs[k]?
  | none => none
theorem RR.get {j a c k pc' : Nat} (hi : ai_I mn pc = some (.getfield j)) (hF : ai_get ai_F (ai_ow mn) j = some (c, k)) (hp : pc + 3 = pc') : RR S d mn pc L (.ref a :: st) h Q = kO (ai_fld h a c k) (fun w => RR S d mn pc' L (w :: st) h Q) := by
  subst hp
  rw [RR.go hi rfl]
  show kO (ai_o (ai_get ai_F (ai_ow mn) j) _) _ = _
  rw [hF]
  show kO (ai_o (ai_obj h a c) _) _ = _
  unfold ai_fld
  cases ai_obj h a c with
  | none => rfl
  | some fs =>
    show kO (ai_o (fs[k]?) _) _ = kO (fs[k]?) _
    cases fs[k]? <;> rfl
theorem RR.put {j a c k pc' : Nat} {v : Value} (hi : ai_I mn pc = some (.putfield j)) (hF : ai_get ai_F (ai_ow mn) j = some (c, k)) (hv : ai_okp (ai_nm mn) c k v = true) (hp : pc + 3 = pc') : RR S d mn pc L (v :: .ref a :: st) h Q = kO (ai_obj h a c) (fun fs => kB (decide (k < fs.length)) (RR S d mn pc' L st (h.1.set a (.inr (c, fs.set k v)), h.2) Q)) := by
  subst hp
  rw [RR.go hi rfl]
  show kO (ai_o (ai_get ai_F (ai_ow mn) j) _) _ = _
  rw [hF]
  show kO (ai_o (ai_obj h a c) _) _ = _
  cases ai_obj h a c with
  | none => rfl
  | some fs =>
    show kO (ai_g (decide (k < fs.length) && ai_okp (ai_nm mn) c k v) _) _ = kB _ _
    rw [hv, Bool.and_true]
    cases decide (k < fs.length) <;> rfl
theorem RR.ial {a pc' : Nat} {x : Int32} (hi : ai_I mn pc = some .iaload) (hp : pc + 1 = pc') : RR S d mn pc L (.int x :: .ref a :: st) h Q = kO (ai_arr h a 0) (fun q => kB (ai_in x q.1) (RR S d mn pc' L (.int (q.2 x.toNatClampNeg) :: st) h Q)) := by
  subst hp
  rw [RR.go hi rfl]
  show kO (ai_o (ai_arr h a 0) _) _ = _
  cases ai_arr h a 0 with
  | none => rfl
  | some q =>
    show kO (ai_g (ai_in x q.1) _) _ = kB _ _
    cases ai_in x q.1 <;> rfl
theorem RR.iax {pc' : Nat} {u : UInt32} {x : Int32} (hi : ai_I mn pc = some .iaload) (hp : pc + 1 = pc') : RR S d mn pc L (.int x :: .float u :: st) h Q = kB (ai_in x (ai_ext S u).1) (RR S d mn pc' L (.int ((ai_ext S u).2 x.toNatClampNeg) :: st) h Q) := by
  subst hp
  rw [RR.go hi rfl]
  show kO (ai_g (ai_in x (ai_ext S u).1) _) _ = kB _ _
  cases ai_in x (ai_ext S u).1 <;> rfl
theorem RR.bal {a pc' : Nat} {x : Int32} (hi : ai_I mn pc = some .baload) (hp : pc + 1 = pc') : RR S d mn pc L (.int x :: .ref a :: st) h Q = kO (ai_arr h a 1) (fun q => kB (ai_in x q.1) (RR S d mn pc' L (.int (q.2 x.toNatClampNeg) :: st) h Q)) := by
  subst hp
  rw [RR.go hi rfl]
  show kO (ai_o (ai_arr h a 1) _) _ = _
  cases ai_arr h a 1 with
  | none => rfl
  | some q =>
    show kO (ai_g (ai_in x q.1) _) _ = kB _ _
    cases ai_in x q.1 <;> rfl
theorem RR.aal {a pc' : Nat} {x : Int32} (hi : ai_I mn pc = some .aaload) (hp : pc + 1 = pc') : RR S d mn pc L (.int x :: .ref a :: st) h Q = kO (ai_arq h a) (fun q => kB (ai_in x q.2.1 && (decide (2 ≤ q.1) && decide (q.1 < 5))) (RR S d mn pc' L (va_rf (q.2.2 x.toNatClampNeg) :: st) h Q)) := by
  subst hp
  rw [RR.go hi rfl]
  show kO (ai_o (ai_arq h a) _) _ = _
  cases ai_arq h a with
  | none => rfl
  | some q =>
    show kO (ai_g (ai_in x q.2.1 && (decide (2 ≤ q.1) && decide (q.1 < 5))) _) _ = kB _ _
    cases ai_in x q.2.1 && (decide (2 ≤ q.1) && decide (q.1 < 5)) <;> rfl
theorem RR.ias {a pc' : Nat} {x y : Int32} (hi : ai_I mn pc = some .iastore) (hp : pc + 1 = pc') : RR S d mn pc L (.int y :: .int x :: .ref a :: st) h Q = kO (ai_arr h a 0) (fun q => kB (ai_in x q.1) (RR S d mn pc' L st (h.1.set a (.inl (0, q.1, .inl (upd q.2 x.toNatClampNeg y))), h.2) Q)) := by
  subst hp
  rw [RR.go hi rfl]
  show kO (ai_o (ai_arr h a 0) _) _ = _
  cases ai_arr h a 0 with
  | none => rfl
  | some q =>
    show kO (ai_g (ai_in x q.1) _) _ = kB _ _
    cases ai_in x q.1 <;> rfl
theorem RR.bas {a pc' : Nat} {x y : Int32} (hi : ai_I mn pc = some .bastore) (hp : pc + 1 = pc') : RR S d mn pc L (.int y :: .int x :: .ref a :: st) h Q = kO (ai_arr h a 1) (fun q => kB (ai_in x q.1 && decide (y &&& 1 = y)) (RR S d mn pc' L st (h.1.set a (.inl (1, q.1, .inl (upd q.2 x.toNatClampNeg y))), h.2) Q)) := by
  subst hp
  rw [RR.go hi rfl]
  show kO (ai_o (ai_arr h a 1) _) _ = _
  cases ai_arr h a 1 with
  | none => rfl
  | some q =>
    show kO (ai_g (ai_in x q.1 && decide (y &&& 1 = y)) _) _ = kB _ _
    cases ai_in x q.1 && decide (y &&& 1 = y) <;> rfl
theorem RR.aasn {a pc' : Nat} {x : Int32} (hi : ai_I mn pc = some .aastore) (hp : pc + 1 = pc') : RR S d mn pc L (.null :: .int x :: .ref a :: st) h Q = kO (ai_arq h a) (fun q => kB (ai_in x q.2.1 && (decide (2 ≤ q.1) && decide (q.1 < 5))) (RR S d mn pc' L st (h.1.set a (.inl (q.1, q.2.1, .inr (va_up q.2.2 x.toNatClampNeg none))), h.2) Q)) := by
  subst hp
  rw [RR.go hi rfl]
  show kO (ai_o (ai_arq h a) _) _ = _
  cases ai_arq h a with
  | none => rfl
  | some q =>
    show kO (ai_g (ai_in x q.2.1 && (decide (2 ≤ q.1) && decide (q.1 < 5))) _) _ = kB _ _
    cases ai_in x q.2.1 && (decide (2 ≤ q.1) && decide (q.1 < 5)) <;> rfl
def ai_cno (h : ai_H) (w : Nat) : Option Nat := match h.1[w]? with
  | some (.inr (c, _)) => some c
  | _ => none
theorem RR.aasr {a w pc' : Nat} {x : Int32} (hi : ai_I mn pc = some .aastore) (hp : pc + 1 = pc') : RR S d mn pc L (.ref w :: .int x :: .ref a :: st) h Q = kO (ai_arq h a) (fun q => kB (ai_in x q.2.1 && (decide (2 ≤ q.1) && decide (q.1 < 5))) (kO (ai_cno h w) (fun c => kB (decide (ai_ao c = some q.1)) (RR S d mn pc' L st (h.1.set a (.inl (q.1, q.2.1, .inr (va_up q.2.2 x.toNatClampNeg (some w)))), h.2) Q)))) := by
  subst hp
  rw [RR.go hi rfl]
  show kO (ai_o (ai_arq h a) _) _ = _
  cases ai_arq h a with
  | none => rfl
  | some q =>
    show kO (ai_g (ai_in x q.2.1 && (decide (2 ≤ q.1) && decide (q.1 < 5))) _) _ = kB _ _
    cases ai_in x q.2.1 && (decide (2 ≤ q.1) && decide (q.1 < 5)) with
    | false => rfl
    | true =>
      show kO (match h.1[w]? with
        | some (.inr (c, _)) => ai_g (decide (ai_ao c = some q.1)) _
        | _ => none) _ = kO (ai_cno h w) _
      unfold ai_cno
      rcases h.1[w]? with _ | (_ | ⟨c, fs⟩)
      · rfl
      · rfl
      · show kO (ai_g (decide (ai_ao c = some q.1)) _) _ = kB _ _
        cases decide (ai_ao c = some q.1) <;> rfl
theorem RR.alen {a pc' : Nat} (hi : ai_I mn pc = some .arraylength) (hp : pc + 1 = pc') : RR S d mn pc L (.ref a :: st) h Q = kO (ai_alen h a) (fun n => RR S d mn pc' L (.int (Int32.ofNat n) :: st) h Q) := by
  subst hp
  rw [RR.go hi rfl]
  show kO (ai_o (ai_alen h a) _) _ = _
  cases ai_alen h a <;> rfl
theorem RR.rt {r : Option Value} (hi : ai_I mn pc = some i) (hk : ai_kd mn i = 2) (hr : ai_ret mn st i = some r) : RR S d mn pc L st h Q = Q r h := RR.ret (by rw [ai_step_2 hi hk, hr]; rfl)
theorem RR.zrt {x : Int32} (hi : ai_I mn pc = some .ireturn) (hr : ai_rt mn = some .boolean) (hx : x &&& 1 = x) : RR S d mn pc L [.int x] h Q = Q (some (.int x)) h := by
  refine RR.rt hi rfl ?_
  show ai_g (true && (decide (ai_rt mn = some .int) || (decide (ai_rt mn = some .boolean) && decide (x &&& 1 = x)))) _ = _
  rw [hr, decide_eq_true hx]
  rfl
/-- a call of a method of an object -/
theorem RR.cv {j mn' n a pc' : Nat} {As rest : List Value} (hi : ai_I mn pc = some (.invokevirtual j)) (hG : ai_get ai_G (ai_ow mn) j = some (mn', n)) (hs : st.drop n = .ref a :: rest) (hA : (st.take n).reverse = As) (hb : (decide ((lg_sl (.ref a :: As)).length ≤ ai_ml mn') && (decide (((ai_nm mn').name = "<init>") ↔ false = true) && !ai_Sm.contains mn')) = true) (hp : pc + 3 = pc') :
    RR S (d + 1) mn pc L st h Q = kB (decide (ai_sum rest ≤ 8)) (kB ((ai_obj h a (ai_ow mn')).isSome) (RR S d mn' 0 (lv_args 0 (.ref a :: As)) [] h (fun r h1 => RR S (d + 1) mn pc' L (r.toList ++ rest) h1 Q))) := by
  subst hp; subst hA
  have e : ai_inv mn st h (.invokevirtual j) = ai_g (decide (ai_sum rest ≤ 8) && (ai_obj h a (ai_ow mn')).isSome) (some (mn', .ref a :: (st.take n).reverse, rest)) := by
    show ai_o (ai_get ai_G (ai_ow mn) j) _ = _
    rw [hG]
    show ai_cll h mn' n true false st = _
    unfold ai_cll
    rw [hs]
    have hb := Bool.and_eq_true_iff.mp hb
    show ai_g (decide (ai_sum rest ≤ 8) && (decide ((lg_sl (.ref a :: (st.take n).reverse)).length ≤ ai_ml mn') && (decide (((ai_nm mn').name = "<init>") ↔ false = true) && (!ai_Sm.contains mn' && (ai_obj h a (ai_ow mn')).isSome)))) _ = _
    have hb2 := Bool.and_eq_true_iff.mp hb.2
    rw [hb.1, hb2.1, hb2.2]
    rfl
  cases hb1 : (decide (ai_sum rest ≤ 8) && (ai_obj h a (ai_ow mn')).isSome) with
  | false =>
    rw [RR.no (by rw [ai_step_1 hi rfl, e, hb1]; rfl)]
    cases h1 : decide (ai_sum rest ≤ 8) with
    | false => rfl
    | true => rw [h1, Bool.true_and] at hb1; rw [hb1]; rfl
  | true =>
    rw [RR.call (q := (mn', .ref a :: (st.take n).reverse, rest)) (by rw [ai_step_1 hi rfl, e, hb1]; rfl)]
    simp only [Bool.and_eq_true] at hb1
    rw [hb1.1, hb1.2]
    rfl
theorem RR.ci {j mn' n a pc' : Nat} {As rest : List Value} (hi : ai_I mn pc = some (.invokespecial j)) (hk : ai_kd mn (.invokespecial j) = 1) (hG : (match ai_get ai_Q (ai_ow mn) j with
    | some k => some (k, 0)
    | none => ai_get ai_G (ai_ow mn) j) = some (mn', n)) (hs : st.drop n = .ref a :: rest) (hA : (st.take n).reverse = As) (hb : (decide ((lg_sl (.ref a :: As)).length ≤ ai_ml mn') && (decide (((ai_nm mn').name = "<init>") ↔ true = true) && !ai_Sm.contains mn')) = true) (hp : pc + 3 = pc') :
    RR S (d + 1) mn pc L st h Q = kB (decide (ai_sum rest ≤ 8)) (RR S d mn' 0 (lv_args 0 (.ref a :: As)) [] h (fun r h1 => RR S (d + 1) mn pc' L (r.toList ++ rest) h1 Q)) := by
  subst hp; subst hA
  have e : ai_inv mn st h (.invokespecial j) = ai_g (decide (ai_sum rest ≤ 8)) (some (mn', .ref a :: (st.take n).reverse, rest)) := by
    have e0 : ai_inv mn st h (.invokespecial j) = ai_cll h mn' n false true st := by
      show (match ai_get ai_Q (ai_ow mn) j with
        | some k => ai_cll h k 0 false true st
        | none => ai_o (ai_get ai_G (ai_ow mn) j) fun q => ai_cll h q.1 q.2 false true st) = _
      cases hq : ai_get ai_Q (ai_ow mn) j with
      | some k => rw [hq] at hG; cases hG; rfl
      | none => rw [hq] at hG; dsimp only at hG; rw [hG]; rfl
    rw [e0]
    unfold ai_cll
    rw [hs]
    have hb := Bool.and_eq_true_iff.mp hb
    show ai_g (decide (ai_sum rest ≤ 8) && (decide ((lg_sl (.ref a :: (st.take n).reverse)).length ≤ ai_ml mn') && (decide (((ai_nm mn').name = "<init>") ↔ true = true) && (!ai_Sm.contains mn' && true)))) _ = _
    have hb2 := Bool.and_eq_true_iff.mp hb.2
    rw [hb.1, hb2.1, hb2.2]
    cases decide (ai_sum rest ≤ 8) <;> rfl
  cases hb1 : decide (ai_sum rest ≤ 8) with
  | false => rw [RR.no (by rw [ai_step_1 hi hk, e, hb1]; rfl)]; rfl
  | true => rw [RR.call (q := (mn', .ref a :: (st.take n).reverse, rest)) (by rw [ai_step_1 hi hk, e, hb1]; rfl)]; rfl
theorem RR.cs {j mn' n pc' : Nat} {As rest : List Value} (hi : ai_I mn pc = some (.invokestatic j)) (hG : ai_get ai_G (ai_ow mn) j = some (mn', n)) (hs : st.drop n = rest) (hA : (st.take n).reverse = As) (hl : n ≤ st.length) (hb : (decide ((lg_sl As).length ≤ ai_ml mn') && ai_Sm.contains mn') = true) (hp : pc + 3 = pc') :
    RR S (d + 1) mn pc L st h Q = kB (decide (ai_sum rest ≤ 8)) (RR S d mn' 0 (lv_args 0 As) [] h (fun r h1 => RR S (d + 1) mn pc' L (r.toList ++ rest) h1 Q)) := by
  subst hp; subst hA; subst hs
  have e : ai_inv mn st h (.invokestatic j) = ai_g (decide (ai_sum (st.drop n) ≤ 8)) (some (mn', (st.take n).reverse, st.drop n)) := by
    show ai_o (ai_get ai_G (ai_ow mn) j) _ = _
    rw [hG]
    have hb := Bool.and_eq_true_iff.mp hb
    show ai_g (decide (n ≤ st.length) && (decide (ai_sum (st.drop n) ≤ 8) && (decide ((lg_sl (st.take n).reverse).length ≤ ai_ml mn') && ai_Sm.contains mn'))) _ = _
    rw [hb.1, hb.2, decide_eq_true hl]
    cases decide (ai_sum (st.drop n) ≤ 8) <;> rfl
  cases hb1 : decide (ai_sum (st.drop n) ≤ 8) with
  | false => rw [RR.no (by rw [ai_step_1 hi rfl, e, hb1]; rfl)]; rfl
  | true => rw [RR.call (q := (mn', (st.take n).reverse, st.drop n)) (by rw [ai_step_1 hi rfl, e, hb1]; rfl)]; rfl
end RRs
theorem ai_look_hit (i : Nat) (v : Value) (t : ai_L) : ai_look ((i, v) :: t) i = some v := by simp [ai_look]
theorem ai_look_miss {i j : Nat} (hj : j ≠ i) (v : Value) (t : ai_L) : ai_look ((j, v) :: t) i = ai_look t i := by simp [ai_look, hj]
theorem ai_put_nil (i : Nat) (v : Value) : ai_put i v [] = [(i, v)] := rfl
def ai_flt (i : Nat) (L : ai_L) : ai_L := L.filter (fun q => !(q.1 == i) && !(q.1 + 1 == i && q.2.category == 2))
theorem ai_put_lt {i j : Nat} (hj : j + 1 < i) (v w : Value) (t : ai_L) : ai_put i v ((j, w) :: t) = (j, w) :: ai_put i v t := by
  have h1 : ¬ i < j := by omega
  have h2 : (j == i) = false := beq_false_of_ne (by omega)
  have h3 : (j + 1 == i) = false := beq_false_of_ne (by omega)
  simp [ai_put, ai_sort, h1, h2, h3, List.filter_cons]
theorem ai_put_l1 {i j : Nat} (hj : j + 1 = i) (v : Value) {w : Value} (hw : w.category = 1) (t : ai_L) : ai_put i v ((j, w) :: t) = (j, w) :: ai_put i v t := by
  have h1 : ¬ i < j := by omega
  have h2 : (j == i) = false := beq_false_of_ne (by omega)
  simp [ai_put, ai_sort, h1, h2, hw, List.filter_cons]
theorem ai_put_eq (i : Nat) (v w : Value) (t : ai_L) : ai_put i v ((i, w) :: t) = ai_put i v t := by simp [ai_put]
theorem ai_put_gt {i j : Nat} (hj : i < j) (v w : Value) (t : ai_L) : ai_put i v ((j, w) :: t) = (i, v) :: (j, w) :: ai_flt i t := by
  have h2 : (j == i) = false := beq_false_of_ne (by omega)
  have h3 : (j + 1 == i) = false := beq_false_of_ne (by omega)
  simp [ai_put, ai_sort, ai_flt, hj, h2, h3, List.filter_cons]
theorem ai_flt_nil (i : Nat) : ai_flt i [] = [] := rfl
theorem ai_flt_gt {i j : Nat} (hj : i < j) (w : Value) (t : ai_L) : ai_flt i ((j, w) :: t) = (j, w) :: ai_flt i t := by
  have h2 : (j == i) = false := beq_false_of_ne (by omega)
  have h3 : (j + 1 == i) = false := beq_false_of_ne (by omega)
  simp [ai_flt, h2, h3, List.filter_cons]
theorem cat_int (x : Int32) : (Value.int x).category = 1 := rfl
theorem cat_ref (x : Nat) : (Value.ref x).category = 1 := rfl
theorem cat_null : Value.null.category = 1 := rfl
theorem cat_float (u : UInt32) : (Value.float u).category = 1 := rfl
theorem cat_long (x : Int64) : (Value.long x).category = 2 := rfl
