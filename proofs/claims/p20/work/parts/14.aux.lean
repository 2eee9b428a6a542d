theorem ai_sum_n : ai_sum [] = 0 := rfl
theorem ai_sum_c (v : Value) (t : List Value) : ai_sum (v :: t) = v.category + ai_sum t := by simp [ai_sum]
theorem kB_dec (P : Prop) [Decidable P] (X : Prop) : kB (decide P) X = (P ∧ X) := by
  by_cases h : P
  · rw [decide_eq_true h]; exact propext ⟨fun x => ⟨h, x⟩, fun x => x.2⟩
  · rw [decide_eq_false h]; exact propext ⟨False.elim, fun x => h x.1⟩
theorem kB_and (a b : Bool) (X : Prop) : kB (a && b) X = kB a (kB b X) := by cases a <;> rfl
theorem kB_eq (b : Bool) (X : Prop) : kB b X = (b = true ∧ X) := by
  cases b
  · exact propext ⟨False.elim, fun x => Bool.noConfusion x.1⟩
  · exact propext ⟨fun x => ⟨rfl, x⟩, fun x => x.2⟩
theorem kB_in (i : Int32) (n : Nat) (X : Prop) : kB (ai_in i n) X = (¬ (i < 0 ∨ n ≤ i.toNatClampNeg) ∧ X) := kB_dec _ _
def iI (o : Option Value) : Prop := match o with
  | some (.int _) => True
  | _ => False
def gI (o : Option Value) : Int32 := match o with
  | some (.int x) => x
  | _ => 0
def iJ (o : Option Value) : Prop := match o with
  | some (.long _) => True
  | _ => False
def gJ (o : Option Value) : Int64 := match o with
  | some (.long x) => x
  | _ => 0
def iA (o : Option Value) : Prop := match o with
  | some (.ref _) => True
  | some .null => True
  | some (.float _) => True
  | _ => False
def gA (o : Option Value) : Value := match o with
  | some v => v
  | _ => .null
theorem iI_s (x : Int32) : iI (some (.int x)) = True := rfl
theorem gI_s (x : Int32) : gI (some (.int x)) = x := rfl
theorem iJ_s (x : Int64) : iJ (some (.long x)) = True := rfl
theorem gJ_s (x : Int64) : gJ (some (.long x)) = x := rfl
theorem iA_r (x : Nat) : iA (some (.ref x)) = True := rfl
theorem iA_n : iA (some .null) = True := rfl
theorem iA_f (u : UInt32) : iA (some (.float u)) = True := rfl
theorem gA_s (v : Value) : gA (some v) = v := rfl
theorem kI_eq (o : Option Value) (k : Int32 → Prop) : kI o k = (iI o ∧ k (gI o)) := by
  rcases o with _ | v
  · exact propext ⟨False.elim, fun x => x.1⟩
  · cases v <;> first | exact propext ⟨fun x => ⟨trivial, x⟩, fun x => x.2⟩ | exact propext ⟨False.elim, fun x => x.1⟩
theorem kJ_eq (o : Option Value) (k : Int64 → Prop) : kJ o k = (iJ o ∧ k (gJ o)) := by
  rcases o with _ | v
  · exact propext ⟨False.elim, fun x => x.1⟩
  · cases v <;> first | exact propext ⟨fun x => ⟨trivial, x⟩, fun x => x.2⟩ | exact propext ⟨False.elim, fun x => x.1⟩
theorem kA_eq (o : Option Value) (k : Value → Prop) : kA o k = (iA o ∧ k (gA o)) := by
  rcases o with _ | v
  · exact propext ⟨False.elim, fun x => x.1⟩
  · cases v <;> first | exact propext ⟨fun x => ⟨trivial, x⟩, fun x => x.2⟩ | exact propext ⟨False.elim, fun x => x.1⟩
theorem kO_eq {α : Type} (d0 : α) (o : Option α) (k : α → Prop) : kO o k = (o.isSome = true ∧ k (o.getD d0)) := by
  cases o
  · exact propext ⟨False.elim, fun x => Bool.noConfusion x.1⟩
  · exact propext ⟨fun x => ⟨rfl, x⟩, fun x => x.2⟩
theorem kO_dec {α : Type} (d0 : α) (o : Option α) (P : α → Prop) [∀ a, Decidable (P a)] (k : α → Prop) : kO o (fun a => kB (decide (P a)) (k a)) = (o.isSome = true ∧ P (o.getD d0) ∧ k (o.getD d0)) := by
  rw [kO_eq d0, kB_dec]
theorem kO_in {α : Type} (d0 : α) (o : Option α) (f : α → Nat) (i : Int32) (k : α → Prop) : kO o (fun q => kB (ai_in i (f q)) (k q)) = (o.isSome = true ∧ ¬ (i < 0 ∨ f (o.getD d0) ≤ i.toNatClampNeg) ∧ k (o.getD d0)) := by
  rw [kO_eq d0, kB_in]
theorem kO_inq (o : Option (Nat × Nat × (Nat → Option Nat))) (i : Int32) (k : Nat × Nat × (Nat → Option Nat) → Prop) : kO o (fun q => kB (ai_in i q.2.1 && (decide (2 ≤ q.1) && decide (q.1 < 5))) (k q)) = (o.isSome = true ∧ ¬ (i < 0 ∨ (o.getD (0, 0, fun _ => none)).2.1 ≤ i.toNatClampNeg) ∧ 2 ≤ (o.getD (0, 0, fun _ => none)).1 ∧ (o.getD (0, 0, fun _ => none)).1 < 5 ∧ k (o.getD (0, 0, fun _ => none))) := by
  rw [kO_eq (0, 0, fun _ => none), kB_and, kB_in, kB_and, kB_dec, kB_dec]
theorem kO_inb (o : Option (Nat × (Nat → Int32))) (i y : Int32) (k : Nat × (Nat → Int32) → Prop) : kO o (fun q => kB (ai_in i q.1 && decide (y &&& 1 = y)) (k q)) = (o.isSome = true ∧ ¬ (i < 0 ∨ (o.getD (0, fun _ => 0)).1 ≤ i.toNatClampNeg) ∧ y &&& 1 = y ∧ k (o.getD (0, fun _ => 0))) := by
  rw [kO_eq (0, fun _ => 0), kB_and, kB_in, kB_dec]
theorem kO_inr (o : Option (Nat × Nat × (Nat → Option Nat))) (i : Int32) (oc : Option Nat) (k : Nat × Nat × (Nat → Option Nat) → Prop) : kO o (fun q => kB (ai_in i q.2.1 && (decide (2 ≤ q.1) && decide (q.1 < 5))) (kO oc (fun c => kB (decide (ai_ao c = some q.1)) (k q)))) = (o.isSome = true ∧ ¬ (i < 0 ∨ (o.getD (0, 0, fun _ => none)).2.1 ≤ i.toNatClampNeg) ∧ 2 ≤ (o.getD (0, 0, fun _ => none)).1 ∧ (o.getD (0, 0, fun _ => none)).1 < 5 ∧ oc.isSome = true ∧ ai_ao (oc.getD 0) = some (o.getD (0, 0, fun _ => none)).1 ∧ k (o.getD (0, 0, fun _ => none))) := by
  rw [kO_inq, kO_eq 0 oc, kB_dec]
theorem kB_nw (n : Int32) (X : Prop) : kB (decide (¬ n < 0) && decide (n.toNatClampNeg ≤ 100000)) X = (¬ n < 0 ∧ n.toNatClampNeg ≤ 100000 ∧ X) := by
  rw [kB_and, kB_dec, kB_dec]
/-- behind a call -/
def kc (S : ai_S) (d mn pc : Nat) (L : ai_L) (st : List Value) (Q : Option Value → ai_H → Prop) : Option Value → ai_H → Prop := fun r h1 => RR S (d + 1) mn pc L (r.toList ++ st) h1 Q
theorem kc_s (S : ai_S) (d mn pc : Nat) (L : ai_L) (st : List Value) (Q : Option Value → ai_H → Prop) (r : Option Value) (h1 : ai_H) : kc S d mn pc L st Q r h1 = RR S (d + 1) mn pc L (r.toList ++ st) h1 Q := rfl
theorem kB_cv (P : Prop) [Decidable P] (b : Bool) (X : Prop) : kB (decide P) (kB b X) = (P ∧ b = true ∧ X) := by rw [kB_dec, kB_eq]
theorem va_rf_s (a : Nat) : va_rf (some a) = .ref a := rfl
theorem va_rf_n : va_rf none = .null := rfl
theorem ai_set_ne {l : List ai_C} {i j : Nat} {a : ai_C} (h : i ≠ j) : (l.set i a)[j]? = l[j]? := List.getElem?_set_ne h
theorem ai_set_eq {l : List ai_C} {i : Nat} {a : ai_C} (h : i < l.length) : (l.set i a)[i]? = some a := List.getElem?_set_self h
theorem ai_put_si (j : Nat) (v : Value) (x : Int32) (t : ai_L) : ai_put (j + 1) v ((j, .int x) :: t) = (j, .int x) :: ai_put (j + 1) v t := ai_put_l1 rfl v rfl t
theorem ai_put_sr (j : Nat) (v : Value) (x : Nat) (t : ai_L) : ai_put (j + 1) v ((j, .ref x) :: t) = (j, .ref x) :: ai_put (j + 1) v t := ai_put_l1 rfl v rfl t
theorem ai_put_sn (j : Nat) (v : Value) (t : ai_L) : ai_put (j + 1) v ((j, .null) :: t) = (j, .null) :: ai_put (j + 1) v t := ai_put_l1 rfl v rfl t
theorem ai_put_sf (j : Nat) (v : Value) (u : UInt32) (t : ai_L) : ai_put (j + 1) v ((j, .float u) :: t) = (j, .float u) :: ai_put (j + 1) v t := ai_put_l1 rfl v rfl t
theorem ai_sg (a : Int32) : ((a < 0) = True ∧ (0 ≤ a) = False) ∨ ((a < 0) = False ∧ (0 ≤ a) = True) := by
  by_cases h : a < 0
  · exact Or.inl ⟨eq_true h, eq_false (Int32.not_le.mpr h)⟩
  · exact Or.inr ⟨eq_false h, eq_true (Int32.not_lt.mp h)⟩
