/-! An abstract interpreter of the program: one heap as a list of cells (address: a start and the place), calls big-step. -/
abbrev ai_C : Type := (Nat × Nat × ((Nat → Int32) ⊕ (Nat → Option Nat))) ⊕ (Nat × List Value)
abbrev ai_H : Type := List ai_C × Nat
abbrev ai_L : Type := List (Nat × Value)
abbrev ai_S : Type := Nat × (Nat → Int32)
abbrev ai_Y : Type := Nat × ai_L × List Value × ai_H
abbrev ai_R : Type := ai_Y ⊕ ((Nat × List Value × List Value) ⊕ Option Value)
def ai_cyc : Nat → Int32 := fun j => match j with
  | 0 => 12
  | 1 => 24
  | 2 => 48
  | 3 => 60
  | _ => 120
def ai_ext (S : ai_S) (u : UInt32) : ai_S := if u = 0 then S else (5, ai_cyc)
/-- array types: number, component -/
def ai_at : Nat → FieldType := fun t => match t with
  | 0 => .int
  | 1 => .boolean
  | 2 => .object RX5
  | 3 => .object RX6
  | _ => .object RX1
/-- the array type over a class -/
def ai_ao : Nat → Option Nat := fun c => match c with
  | 5 => some 2
  | 6 => some 3
  | 1 => some 4
  | _ => none
def ai_get {α : Type} (l : List ((Nat × Nat) × α)) (o i : Nat) : Option α := (l.find? (fun q => q.1.1 == o && q.1.2 == i)).map (·.2)
theorem ai_get_mem {α : Type} {l : List ((Nat × Nat) × α)} {o i : Nat} {x : α} (h : ai_get l o i = some x) : ((o, i), x) ∈ l := by
  unfold ai_get at h
  obtain ⟨q, hq, rfl⟩ := Option.map_eq_some_iff.mp h
  have h1 := List.find?_some hq
  have h2 := List.mem_of_find?_eq_some hq
  simp only [Bool.and_eq_true, beq_iff_eq] at h1
  obtain ⟨⟨a, b⟩, c⟩ := q
  obtain ⟨rfl, rfl⟩ := h1
  exact h2
def ai_I (mn pc : Nat) : Option Instr := match ai_T[mn]? with
  | some t => (match t[pc]? with
    | some (some i) => some i
    | _ => none)
  | none => none
def ai_look (L : ai_L) (i : Nat) : Option Value := (L.find? (fun q => q.1 == i)).map (·.2)
def ai_sort (i : Nat) (v : Value) : ai_L → ai_L
  | [] => [(i, v)]
  | (j, w) :: t => if i < j then (i, v) :: (j, w) :: t else (j, w) :: ai_sort i v t
def ai_put (i : Nat) (v : Value) (L : ai_L) : ai_L := ai_sort i v (L.filter (fun q => !(q.1 == i) && !(q.1 + 1 == i && q.2.category == 2)))
def ai_put2 (i : Nat) (v : Value) (L : ai_L) : ai_L := ai_sort i v (L.filter (fun q => !(q.1 == i) && (!(q.1 == i + 1) && !(q.1 + 1 == i && q.2.category == 2))))
theorem ai_sort_mem {i : Nat} {v : Value} {L : ai_L} {q : Nat × Value} (h : q ∈ ai_sort i v L) : q ∈ (i, v) :: L := by
  induction L with
  | nil => exact h
  | cons a t ih =>
    obtain ⟨j, w⟩ := a
    unfold ai_sort at h
    split at h
    · exact h
    · rcases List.mem_cons.mp h with rfl | h
      · simp
      · rcases List.mem_cons.mp (ih h) with rfl | h
        · simp
        · simp [h]
def ai_nx (pc : Nat) (L : ai_L) (st : List Value) (h : ai_H) : Option ai_Y := some (pc, L, st, h)
def ai_m1 {β : Type} (st : List Value) (f : Int32 → List Value → Option β) : Option β := match st with
  | .int x :: r => f x r
  | _ => none
def ai_m2 {β : Type} (st : List Value) (f : Int32 → Int32 → List Value → Option β) : Option β := match st with
  | .int y :: .int x :: r => f x y r
  | _ => none
def ai_l2 {β : Type} (st : List Value) (f : Int64 → Int64 → List Value → Option β) : Option β := match st with
  | .long y :: .long x :: r => f x y r
  | _ => none
def ai_lh {β : Type} (st : List Value) (f : Int64 → Int32 → List Value → Option β) : Option β := match st with
  | .int y :: .long x :: r => f x y r
  | _ => none
def ai_g {β : Type} (c : Bool) (x : Option β) : Option β := match c with
  | true => x
  | false => none
def ai_o {α β : Type} (o : Option α) (f : α → Option β) : Option β := match o with
  | some a => f a
  | none => none
theorem ai_m1_s {β : Type} {st : List Value} {f : Int32 → List Value → Option β} {z : β} (h : ai_m1 st f = some z) : ∃ x r, st = .int x :: r ∧ f x r = some z := by
  unfold ai_m1 at h; split at h
  · exact ⟨_, _, rfl, h⟩
  · cases h
theorem ai_m2_s {β : Type} {st : List Value} {f : Int32 → Int32 → List Value → Option β} {z : β} (h : ai_m2 st f = some z) : ∃ x y r, st = .int y :: .int x :: r ∧ f x y r = some z := by
  unfold ai_m2 at h; split at h
  · exact ⟨_, _, _, rfl, h⟩
  · cases h
theorem ai_l2_s {β : Type} {st : List Value} {f : Int64 → Int64 → List Value → Option β} {z : β} (h : ai_l2 st f = some z) : ∃ x y r, st = .long y :: .long x :: r ∧ f x y r = some z := by
  unfold ai_l2 at h; split at h
  · exact ⟨_, _, _, rfl, h⟩
  · cases h
theorem ai_lh_s {β : Type} {st : List Value} {f : Int64 → Int32 → List Value → Option β} {z : β} (h : ai_lh st f = some z) : ∃ x y r, st = .int y :: .long x :: r ∧ f x y r = some z := by
  unfold ai_lh at h; split at h
  · exact ⟨_, _, _, rfl, h⟩
  · cases h
theorem ai_g_s {β : Type} {c : Bool} {x : Option β} {z : β} (h : ai_g c x = some z) : c = true ∧ x = some z := by
  unfold ai_g at h; split at h
  · exact ⟨rfl, h⟩
  · cases h
theorem ai_o_s {α β : Type} {o : Option α} {f : α → Option β} {z : β} (h : ai_o o f = some z) : ∃ a, o = some a ∧ f a = some z := by
  unfold ai_o at h; split at h
  · exact ⟨_, rfl, h⟩
  · cases h
def ai_cnd (c : Jvm.ClassFile.Cond) (x y : Int32) : Bool := match c with
  | .eq => decide (x = y)
  | .ne => decide (¬ x = y)
  | .lt => decide (x < y)
  | .ge => decide (y ≤ x)
  | .gt => decide (y < x)
  | .le => decide (x ≤ y)
/-- a branch -/
def ai_br (pc : Nat) (off : Int) (c : Bool) (L : ai_L) (st : List Value) (h : ai_H) : Option ai_Y := ai_g (decide (0 ≤ (pc : Int) + off)) (ai_nx (if c = true then ((pc : Int) + off).toNat else pc + 3) L st h)
def ai_in (i : Int32) (n : Nat) : Bool := decide (¬ (i < 0 ∨ n ≤ i.toNatClampNeg))
theorem ai_in_s {i : Int32} {n : Nat} (h : ai_in i n = true) : ¬ (i < 0 ∨ n ≤ i.toNatClampNeg) := of_decide_eq_true h
def ai_iref (v : Value) : Bool := match v with
  | .ref _ => true
  | .null => true
  | .float _ => true
  | _ => false
def ai_ldi {β : Type} (v : Value) (f : Int32 → Option β) : Option β := match v with
  | .int x => f x
  | _ => none
def ai_ldl {β : Type} (v : Value) (f : Int64 → Option β) : Option β := match v with
  | .long x => f x
  | _ => none
theorem ai_ldi_s {β : Type} {v : Value} {f : Int32 → Option β} {z : β} (h : ai_ldi v f = some z) : ∃ x, v = .int x ∧ f x = some z := by
  unfold ai_ldi at h; split at h
  · exact ⟨_, rfl, h⟩
  · cases h
theorem ai_ldl_s {β : Type} {v : Value} {f : Int64 → Option β} {z : β} (h : ai_ldl v f = some z) : ∃ x, v = .long x ∧ f x = some z := by
  unfold ai_ldl at h; split at h
  · exact ⟨_, rfl, h⟩
  · cases h
/-- an object's fields -/
def ai_obj (h : ai_H) (a ci : Nat) : Option (List Value) := match h.1[a]? with
  | some (.inr (c, fs)) => if c = ci then some fs else none
  | _ => none
/-- an array of ints (0) or booleans (1) -/
def ai_arr (h : ai_H) (a t : Nat) : Option (Nat × (Nat → Int32)) := match h.1[a]? with
  | some (.inl (t', n, .inl f)) => if t' = t then some (n, f) else none
  | _ => none
/-- an array of references -/
def ai_arq (h : ai_H) (a : Nat) : Option (Nat × Nat × (Nat → Option Nat)) := match h.1[a]? with
  | some (.inl (t, n, .inr f)) => some (t, n, f)
  | _ => none
def ai_alen (h : ai_H) (a : Nat) : Option Nat := match h.1[a]? with
  | some (.inl (t, n, _)) => if t < 5 then some n else none
  | _ => none
theorem ai_obj_s {h : ai_H} {a ci : Nat} {fs : List Value} (q : ai_obj h a ci = some fs) : h.1[a]? = some (.inr (ci, fs)) := by
  unfold ai_obj at q
  split at q
  next c f e =>
    split at q
    next hc => subst hc; cases q; exact e
    next => cases q
  next => cases q
theorem ai_arr_s {h : ai_H} {a t : Nat} {x : Nat × (Nat → Int32)} (q : ai_arr h a t = some x) : h.1[a]? = some (.inl (t, x.1, .inl x.2)) := by
  unfold ai_arr at q
  split at q
  next c n f e =>
    split at q
    next hc => subst hc; cases q; exact e
    next => cases q
  next => cases q
theorem ai_arq_s {h : ai_H} {a : Nat} {x : Nat × Nat × (Nat → Option Nat)} (q : ai_arq h a = some x) : h.1[a]? = some (.inl (x.1, x.2.1, .inr x.2.2)) := by
  unfold ai_arq at q
  split at q
  next c n f e => cases q; exact e
  next => cases q
theorem ai_alen_s {h : ai_H} {a n : Nat} (q : ai_alen h a = some n) : ∃ t x, h.1[a]? = some (.inl (t, n, x)) ∧ t < 5 := by
  unfold ai_alen at q
  split at q
  next c n' f e =>
    split at q
    next hc => cases q; exact ⟨_, _, e, hc⟩
    next => cases q
  next => cases q
def ai_nf (c : Nat) : Nat := match ai_cl[c]? with
  | some r => r.2.2
  | none => 0
def ai_fs0 (c : Nat) : List Value := (List.range (ai_nf c)).map (fun k => defaultValue (ai_ft c k))
def ai_fin (c k : Nat) : Bool := match ai_cl[c]? with
  | some r => (r.2.1 k).2.2.2
  | none => false
def ai_nofl (v : Value) : Bool := match v with
  | .float _ => false
  | _ => true
def ai_okp (nm : MethodName) (c k : Nat) (v : Value) : Bool := ai_nofl v && ((match ai_fin c k with
  | true => decide (nm.name = "<init>" ∧ nm.cls = ai_Rn c)
  | false => true) && (decide (narrow (ai_ft c k) v = v) && fits (ai_ft c k) v))
def ai_sum (st : List Value) : Nat := (st.map fun v => v.category).sum
def ai_ow (mn : Nat) : Nat := match ai_M[mn]? with
  | some q => q.2.2.2.2
  | none => 99
def ai_ml (mn : Nat) : Nat := match ai_M[mn]? with
  | some q => q.2.2.1
  | none => 0
def ai_rt (mn : Nat) : Option FieldType := match ai_M[mn]? with
  | some q => q.2.2.2.1
  | none => none
def ai_nm (mn : Nat) : MethodName := match ai_M[mn]? with
  | some q => q.1
  | none => yL_law
def ai_bc (mn : Nat) : ByteArray := match ai_M[mn]? with
  | some q => q.2.1
  | none => code
def ai_ref {β : Type} (v : Value) (f : Nat → Option β) : Option β := match v with
  | .ref a => f a
  | _ => none
theorem ai_ref_s {β : Type} {v : Value} {f : Nat → Option β} {z : β} (h : ai_ref v f = some z) : ∃ x, v = .ref x ∧ f x = some z := by
  unfold ai_ref at h; split at h
  · exact ⟨_, rfl, h⟩
  · cases h
def ai_c1 {β : Type} (st : List Value) (f : Value → List Value → Option β) : Option β := match st with
  | v :: r => f v r
  | _ => none
theorem ai_c1_s {β : Type} {st : List Value} {f : Value → List Value → Option β} {z : β} (h : ai_c1 st f = some z) : ∃ v r, st = v :: r ∧ f v r = some z := by
  unfold ai_c1 at h; split at h
  · exact ⟨_, _, rfl, h⟩
  · cases h
/-- a call: the parameters off the stack -/
def ai_cll (h : ai_H) (mn n : Nat) (vir : Bool) (ini : Bool) (st : List Value) : Option (Nat × List Value × List Value) :=
  ai_c1 (st.drop n) fun v rest => ai_ref v fun a => ai_g (decide (ai_sum rest ≤ 8) && (decide ((lg_sl (.ref a :: (st.take n).reverse)).length ≤ ai_ml mn) && (decide (((ai_nm mn).name = "<init>") ↔ ini = true) && (!ai_Sm.contains mn && (match vir with
    | true => (ai_obj h a (ai_ow mn)).isSome
    | false => true))))) (some (mn, .ref a :: (st.take n).reverse, rest))
def ai_do (S : ai_S) (mn pc : Nat) (L : ai_L) (st : List Value) (h : ai_H) : Instr → Option ai_Y
  | .iconst n => ai_nx (pc + 1) L (.int (Int32.ofInt n) :: st) h
  | .bipush n => ai_nx (pc + 2) L (.int (Int8.ofInt n).toInt32 :: st) h
  | .sipush n => ai_nx (pc + 3) L (.int (Int16.ofInt n).toInt32 :: st) h
  | .lconst n => ai_nx (pc + 1) L (.long (Int64.ofNat (n : Nat)) :: st) h
  | .aconst_null => ai_nx (pc + 1) L (.null :: st) h
  | .ldc i => ai_o (ai_get ai_K (ai_ow mn) i) fun v => ai_nx (pc + 2) L (.int v :: st) h
  | .ldc_w i => ai_o (ai_get ai_K (ai_ow mn) i) fun v => ai_nx (pc + 3) L (.int v :: st) h
  | .ldc2_w i => ai_o (ai_get ai_J (ai_ow mn) i) fun v => ai_nx (pc + 3) L (.long v :: st) h
  | .iload_n k => ai_o (ai_look L (k : Nat)) fun v => ai_ldi v fun x => ai_nx (pc + 1) L (.int x :: st) h
  | .iload k => ai_o (ai_look L k) fun v => ai_ldi v fun x => ai_nx (pc + 2) L (.int x :: st) h
  | .lload_n k => ai_o (ai_look L (k : Nat)) fun v => ai_ldl v fun x => ai_nx (pc + 1) L (.long x :: st) h
  | .lload k => ai_o (ai_look L k) fun v => ai_ldl v fun x => ai_nx (pc + 2) L (.long x :: st) h
  | .aload_n k => ai_o (ai_look L (k : Nat)) fun v => ai_g (ai_iref v) (ai_nx (pc + 1) L (v :: st) h)
  | .aload k => ai_o (ai_look L k) fun v => ai_g (ai_iref v) (ai_nx (pc + 2) L (v :: st) h)
  | .istore_n k => ai_m1 st fun x r => ai_g (decide ((k : Nat) < ai_ml mn)) (ai_nx (pc + 1) (ai_put k (.int x) L) r h)
  | .istore k => ai_m1 st fun x r => ai_g (decide (k < ai_ml mn)) (ai_nx (pc + 2) (ai_put k (.int x) L) r h)
  | .lstore k => ai_c1 st fun v r => ai_ldl v fun x => ai_g (decide (k + 1 < ai_ml mn)) (ai_nx (pc + 2) (ai_put2 k (.long x) L) r h)
  | .astore_n k => ai_c1 st fun v r => ai_g (decide ((k : Nat) < ai_ml mn) && ai_iref v) (ai_nx (pc + 1) (ai_put k v L) r h)
  | .astore k => ai_c1 st fun v r => ai_g (decide (k < ai_ml mn) && ai_iref v) (ai_nx (pc + 2) (ai_put k v L) r h)
  | .iinc k n => ai_o (ai_look L k) fun v => ai_ldi v fun x => ai_g (decide (k < ai_ml mn)) (ai_nx (pc + 3) (ai_put k (.int (x + Int32.ofInt n)) L) st h)
  | .iadd => ai_m2 st fun x y r => ai_nx (pc + 1) L (.int (x + y) :: r) h
  | .isub => ai_m2 st fun x y r => ai_nx (pc + 1) L (.int (x - y) :: r) h
  | .imul => ai_m2 st fun x y r => ai_nx (pc + 1) L (.int (x * y) :: r) h
  | .iand => ai_m2 st fun x y r => ai_nx (pc + 1) L (.int (x &&& y) :: r) h
  | .ior => ai_m2 st fun x y r => ai_nx (pc + 1) L (.int (x ||| y) :: r) h
  | .ixor => ai_m2 st fun x y r => ai_nx (pc + 1) L (.int (x ^^^ y) :: r) h
  | .idiv => ai_m2 st fun x y r => ai_g (decide (¬ y = 0)) (ai_nx (pc + 1) L (.int (x / y) :: r) h)
  | .irem => ai_m2 st fun x y r => ai_g (decide (¬ y = 0)) (ai_nx (pc + 1) L (.int (x - x / y * y) :: r) h)
  | .ineg => ai_m1 st fun x r => ai_nx (pc + 1) L (.int (-x) :: r) h
  | .ishl => ai_m2 st fun x y r => ai_nx (pc + 1) L (.int (x <<< (y &&& 31)) :: r) h
  | .ishr => ai_m2 st fun x y r => ai_nx (pc + 1) L (.int (x >>> (y &&& 31)) :: r) h
  | .iushr => ai_m2 st fun x y r => ai_nx (pc + 1) L (.int (x.toUInt32 >>> (y.toUInt32 &&& Int32.toUInt32 31)).toInt32 :: r) h
  | .lsub => ai_l2 st fun x y r => ai_nx (pc + 1) L (.long (x - y) :: r) h
  | .land => ai_l2 st fun x y r => ai_nx (pc + 1) L (.long (x &&& y) :: r) h
  | .lor => ai_l2 st fun x y r => ai_nx (pc + 1) L (.long (x ||| y) :: r) h
  | .lxor => ai_l2 st fun x y r => ai_nx (pc + 1) L (.long (x ^^^ y) :: r) h
  | .lcmp => ai_l2 st fun x y r => ai_nx (pc + 1) L (.int (lg_cmp x y) :: r) h
  | .lshl => ai_lh st fun x y r => ai_nx (pc + 1) L (.long (x <<< (y.toInt64 &&& 63)) :: r) h
  | .lshr => ai_lh st fun x y r => ai_nx (pc + 1) L (.long (x >>> (y.toInt64 &&& 63)) :: r) h
  | .lushr => ai_lh st fun x y r => ai_nx (pc + 1) L (.long (x.toUInt64 >>> (y.toInt64.toUInt64 &&& Int64.toUInt64 63)).toInt64 :: r) h
  | .dup => ai_c1 st fun v r => ai_g (decide (v.category = 1)) (ai_nx (pc + 1) L (v :: v :: r) h)
  | .pop => ai_c1 st fun v r => ai_g (decide (v.category = 1)) (ai_nx (pc + 1) L r h)
  | .dup2 => ai_c1 st fun v r => ai_c1 r fun w q => ai_g (decide (v.category = 1) && decide (w.category = 1)) (ai_nx (pc + 1) L (v :: w :: v :: w :: q) h)
  | .goto off => ai_br pc off true L st h
  | .ifCond c off => ai_m1 st fun x r => ai_br pc off (ai_cnd c x 0) L r h
  | .if_icmp c off => ai_m2 st fun x y r => ai_br pc off (ai_cnd c x y) L r h
  | .ifnull off => ai_c1 st fun v r => (match v with
    | .ref _ => ai_br pc off false L r h
    | .null => ai_br pc off true L r h
    | _ => none)
  | .ifnonnull off => ai_c1 st fun v r => (match v with
    | .ref _ => ai_br pc off true L r h
    | .null => ai_br pc off false L r h
    | _ => none)
  | .tableswitch d lo hi offs => ai_m1 st fun x r => if x.toInt < lo ∨ hi < x.toInt then ai_br pc d true L r h else ai_o (offs[(x.toInt - lo).toNat]?) fun off => ai_br pc off true L r h
  | .getfield i => ai_c1 st fun v r => ai_ref v fun a => ai_o (ai_get ai_F (ai_ow mn) i) fun q => ai_o (ai_obj h a q.1) fun fs => ai_o (fs[q.2]?) fun w => ai_nx (pc + 3) L (w :: r) h
  | .putfield i => ai_c1 st fun v r => ai_c1 r fun u r => ai_ref u fun a => ai_o (ai_get ai_F (ai_ow mn) i) fun q => ai_o (ai_obj h a q.1) fun fs => ai_g (decide (q.2 < fs.length) && ai_okp (ai_nm mn) q.1 q.2 v) (ai_nx (pc + 3) L r (h.1.set a (.inr (q.1, fs.set q.2 v)), h.2))
  | .getstatic i => ai_g (ai_Z.contains (ai_ow mn, i)) (ai_nx (pc + 3) L (.float 1 :: st) h)
  | .iaload => ai_m1 st fun i r => ai_c1 r fun u r => (match u with
    | .ref a => ai_o (ai_arr h a 0) fun q => ai_g (ai_in i q.1) (ai_nx (pc + 1) L (.int (q.2 i.toNatClampNeg) :: r) h)
    | .float u => ai_g (ai_in i (ai_ext S u).1) (ai_nx (pc + 1) L (.int ((ai_ext S u).2 i.toNatClampNeg) :: r) h)
    | _ => none)
  | .baload => ai_m1 st fun i r => ai_c1 r fun u r => ai_ref u fun a => ai_o (ai_arr h a 1) fun q => ai_g (ai_in i q.1) (ai_nx (pc + 1) L (.int (q.2 i.toNatClampNeg) :: r) h)
  | .iastore => ai_m2 st fun i x r => ai_c1 r fun u r => ai_ref u fun a => ai_o (ai_arr h a 0) fun q => ai_g (ai_in i q.1) (ai_nx (pc + 1) L r (h.1.set a (.inl (0, q.1, .inl (upd q.2 i.toNatClampNeg x))), h.2))
  | .bastore => ai_m2 st fun i x r => ai_c1 r fun u r => ai_ref u fun a => ai_o (ai_arr h a 1) fun q => ai_g (ai_in i q.1 && decide (x &&& 1 = x)) (ai_nx (pc + 1) L r (h.1.set a (.inl (1, q.1, .inl (upd q.2 i.toNatClampNeg x))), h.2))
  | .aaload => ai_m1 st fun i r => ai_c1 r fun u r => ai_ref u fun a => ai_o (ai_arq h a) fun q => ai_g (ai_in i q.2.1 && (decide (2 ≤ q.1) && decide (q.1 < 5))) (ai_nx (pc + 1) L (va_rf (q.2.2 i.toNatClampNeg) :: r) h)
  | .aastore => ai_c1 st fun v r => ai_m1 r fun i r => ai_c1 r fun u r => ai_ref u fun a => ai_o (ai_arq h a) fun q => ai_g (ai_in i q.2.1 && (decide (2 ≤ q.1) && decide (q.1 < 5))) (match v with
    | .null => ai_nx (pc + 1) L r (h.1.set a (.inl (q.1, q.2.1, .inr (va_up q.2.2 i.toNatClampNeg none))), h.2)
    | .ref w => (match h.1[w]? with
      | some (.inr (c, _)) => ai_g (decide (ai_ao c = some q.1)) (ai_nx (pc + 1) L r (h.1.set a (.inl (q.1, q.2.1, .inr (va_up q.2.2 i.toNatClampNeg (some w)))), h.2))
      | _ => none)
    | _ => none)
  | .arraylength => ai_c1 st fun u r => (match u with
    | .ref a => ai_o (ai_alen h a) fun n => ai_nx (pc + 1) L (.int (Int32.ofNat n) :: r) h
    | .float u => ai_nx (pc + 1) L (.int (Int32.ofNat (ai_ext S u).1) :: r) h
    | _ => none)
  | .new i => ai_o (ai_get ai_N (ai_ow mn) i) fun c => ai_g (decide (c < 11)) (ai_nx (pc + 3) L (.ref h.1.length :: st) (h.1 ++ [.inr (c, ai_fs0 c)], h.2 + ai_nf c))
  | .newarray t => ai_m1 st fun n r => ai_g (decide (¬ n < 0) && decide (n.toNatClampNeg ≤ 100000)) (match t with
    | .int => ai_nx (pc + 2) L (.ref h.1.length :: r) (h.1 ++ [.inl (0, n.toNatClampNeg, .inl (fun _ => 0))], h.2 + n.toNatClampNeg)
    | .boolean => ai_nx (pc + 2) L (.ref h.1.length :: r) (h.1 ++ [.inl (1, n.toNatClampNeg, .inl (fun _ => 0))], h.2 + n.toNatClampNeg)
    | _ => none)
  | .anewarray i => ai_m1 st fun n r => ai_g (decide (¬ n < 0) && decide (n.toNatClampNeg ≤ 100000)) (ai_o (ai_get ai_N (ai_ow mn) i) fun c => ai_o (ai_ao c) fun t => ai_nx (pc + 3) L (.ref h.1.length :: r) (h.1 ++ [.inl (t, n.toNatClampNeg, .inr (fun _ => none))], h.2 + n.toNatClampNeg))
  | .invokespecial _ => ai_c1 st fun v r => ai_ref v fun _ => ai_g (decide (ai_sum r ≤ 8)) (ai_nx (pc + 3) L r h)
  | _ => none
def ai_inv (mn : Nat) (st : List Value) (h : ai_H) : Instr → Option (Nat × List Value × List Value)
  | .invokevirtual i => ai_o (ai_get ai_G (ai_ow mn) i) fun q => ai_cll h q.1 q.2 true false st
  | .invokespecial i => (match ai_get ai_Q (ai_ow mn) i with
    | some k => ai_cll h k 0 false true st
    | none => ai_o (ai_get ai_G (ai_ow mn) i) fun q => ai_cll h q.1 q.2 false true st)
  | .invokestatic i => ai_o (ai_get ai_G (ai_ow mn) i) fun q => ai_g (decide (q.2 ≤ st.length) && (decide (ai_sum (st.drop q.2) ≤ 8) && (decide ((lg_sl (st.take q.2).reverse).length ≤ ai_ml q.1) && ai_Sm.contains q.1))) (some (q.1, (st.take q.2).reverse, st.drop q.2))
  | _ => none
def ai_obr (t : Option FieldType) : Bool := match t with
  | some (.object _) => true
  | _ => false
def ai_ret (mn : Nat) (st : List Value) : Instr → Option (Option Value)
  | .return_ => (match st with
    | [] => ai_g (decide (ai_rt mn = none)) (some none)
    | _ => none)
  | .ireturn => ai_m1 st fun x r => ai_g (r.isEmpty && (decide (ai_rt mn = some .int) || (decide (ai_rt mn = some .boolean) && decide (x &&& 1 = x)))) (some (some (.int x)))
  | .areturn => ai_c1 st fun v r => ai_g (r.isEmpty && (ai_obr (ai_rt mn) && (ai_iref v && ai_nofl v))) (some (some v))
  | _ => none
/-- 0: goes on, 1: a call, 2: an end -/
def ai_kd (mn : Nat) : Instr → Nat
  | .invokevirtual _ => 1
  | .invokestatic _ => 1
  | .invokespecial i => if ai_O.contains (ai_ow mn, i) = true then 0 else 1
  | .return_ => 2
  | .ireturn => 2
  | .areturn => 2
  | _ => 0
def ai_stp (S : ai_S) (mn pc : Nat) (L : ai_L) (st : List Value) (h : ai_H) (i : Instr) : Option ai_R := match ai_kd mn i with
  | 0 => (ai_do S mn pc L st h i).map .inl
  | 1 => (ai_inv mn st h i).map (fun q => .inr (.inl q))
  | _ => (ai_ret mn st i).map (fun q => .inr (.inr q))
def ai_step (S : ai_S) (mn pc : Nat) (L : ai_L) (st : List Value) (h : ai_H) : Option ai_R := match ai_I mn pc with
  | some i => ai_stp S mn pc L st h i
  | none => none
def ai_run (S : ai_S) : Nat → Nat → Nat → Nat → ai_L → List Value → ai_H → Option (Option Value × ai_H)
  | 0, _, _, _, _, _, _ => none
  | n + 1, d, mn, pc, L, st, h => match ai_step S mn pc L st h with
    | none => none
    | some (.inl q) => ai_run S n d mn q.1 q.2.1 q.2.2.1 q.2.2.2
    | some (.inr (.inl q)) => (match d with
      | 0 => none
      | d' + 1 => (match ai_run S n d' q.1 0 (lv_args 0 q.2.1) [] h with
        | none => none
        | some x => ai_run S n (d' + 1) mn (pc + 3) L (x.1.toList ++ q.2.2) x.2))
    | some (.inr (.inr r)) => some (r, h)
theorem ai_run_succ {S : ai_S} : ∀ (n d mn pc : Nat) (L : ai_L) (st : List Value) (h : ai_H) (x : Option Value × ai_H), ai_run S n d mn pc L st h = some x → ai_run S (n + 1) d mn pc L st h = some x := by
  intro n
  induction n with
  | zero => intro d mn pc L st h x e; simp [ai_run] at e
  | succ n ih =>
    intro d mn pc L st h x e
    rw [ai_run] at e ⊢
    cases hs : ai_step S mn pc L st h with
    | none => rw [hs] at e; cases e
    | some q =>
      rw [hs] at e
      rcases q with q | q | q
      · exact ih _ _ _ _ _ _ _ e
      · cases d with
        | zero => cases e
        | succ d =>
          dsimp only at e ⊢
          cases hr : ai_run S n d q.1 0 (lv_args 0 q.2.1) [] h with
          | none => rw [hr] at e; cases e
          | some y =>
            rw [hr] at e
            rw [ih _ _ _ _ _ _ _ hr]
            exact ih _ _ _ _ _ _ _ e
      · exact e
theorem ai_run_le {S : ai_S} {n k d mn pc : Nat} {L : ai_L} {st : List Value} {h : ai_H} {x : Option Value × ai_H} (hk : n ≤ k) (e : ai_run S n d mn pc L st h = some x) : ai_run S k d mn pc L st h = some x := by
  induction hk with
  | refl => exact e
  | step _ ih => exact ai_run_succ _ _ _ _ _ _ _ _ ih
/-- from here the method comes to an end with Q -/
def RR (S : ai_S) (d mn pc : Nat) (L : ai_L) (st : List Value) (h : ai_H) (Q : Option Value → ai_H → Prop) : Prop := ∃ n x, ai_run S n d mn pc L st h = some x ∧ Q x.1 x.2
theorem RR.next {S : ai_S} {d mn pc : Nat} {L : ai_L} {st : List Value} {h : ai_H} {Q : Option Value → ai_H → Prop} {q : Nat × ai_L × List Value × ai_H} (hs : ai_step S mn pc L st h = some (.inl q)) : RR S d mn pc L st h Q = RR S d mn q.1 q.2.1 q.2.2.1 q.2.2.2 Q := by
  refine propext ⟨fun ⟨n, x, e, hq⟩ => ?_, fun ⟨n, x, e, hq⟩ => ⟨n + 1, x, ?_, hq⟩⟩
  · cases n with
    | zero => simp [ai_run] at e
    | succ n => rw [ai_run, hs] at e; exact ⟨n, x, e, hq⟩
  · rw [ai_run, hs]; exact e
theorem RR.ret {S : ai_S} {d mn pc : Nat} {L : ai_L} {st : List Value} {h : ai_H} {Q : Option Value → ai_H → Prop} {r : Option Value} (hs : ai_step S mn pc L st h = some (.inr (.inr r))) : RR S d mn pc L st h Q = Q r h := by
  refine propext ⟨fun ⟨n, x, e, hq⟩ => ?_, fun hq => ⟨1, (r, h), ?_, hq⟩⟩
  · cases n with
    | zero => simp [ai_run] at e
    | succ n => rw [ai_run, hs] at e; cases e; exact hq
  · rw [ai_run, hs]
theorem RR.call {S : ai_S} {d mn pc : Nat} {L : ai_L} {st : List Value} {h : ai_H} {Q : Option Value → ai_H → Prop} {q : Nat × List Value × List Value} (hs : ai_step S mn pc L st h = some (.inr (.inl q))) :
    RR S (d + 1) mn pc L st h Q = RR S d q.1 0 (lv_args 0 q.2.1) [] h (fun r h1 => RR S (d + 1) mn (pc + 3) L (r.toList ++ q.2.2) h1 Q) := by
  refine propext ⟨fun ⟨n, x, e, hq⟩ => ?_, fun ⟨n, x, e, k, y, e2, hq⟩ => ⟨n + k + 1, y, ?_, hq⟩⟩
  · cases n with
    | zero => simp [ai_run] at e
    | succ n =>
      rw [ai_run, hs] at e
      dsimp only at e
      cases hr : ai_run S n d q.1 0 (lv_args 0 q.2.1) [] h with
      | none => rw [hr] at e; cases e
      | some y => rw [hr] at e; exact ⟨n, y, hr, n, x, e, hq⟩
  · rw [ai_run, hs]
    dsimp only
    rw [ai_run_le (Nat.le_add_right n k) e]
    exact ai_run_le (Nat.le_add_left k n) e2
/-- one result: R as an equation -/
theorem RR.val {S : ai_S} {d mn pc : Nat} {L : ai_L} {st : List Value} {h h' : ai_H} {r : Option Value} (e : RR S d mn pc L st h (fun r1 h1 => r1 = r ∧ h1 = h')) (Q : Option Value → ai_H → Prop) : RR S d mn pc L st h Q = Q r h' := by
  obtain ⟨n, x, e, e1, e2⟩ := e
  refine propext ⟨fun ⟨k, y, e3, hq⟩ => ?_, fun hq => ⟨n, x, e, by rw [e1, e2]; exact hq⟩⟩
  have a := ai_run_le (Nat.le_add_right n k) e
  have b := ai_run_le (Nat.le_add_left k n) e3
  rw [a] at b
  cases b
  rw [← e1, ← e2]; exact hq
theorem RR.mono {S : ai_S} {d mn pc : Nat} {L : ai_L} {st : List Value} {h : ai_H} {Q Q' : Option Value → ai_H → Prop} (e : RR S d mn pc L st h Q) (hq : ∀ r h1, Q r h1 → Q' r h1) : RR S d mn pc L st h Q' := by
  obtain ⟨n, x, e, q⟩ := e
  exact ⟨n, x, e, hq _ _ q⟩
