/-! Sets of streams as bits, and the order in which both take them. -/
def b5 (x : Int32) (i : Nat) : Bool := x.toBitVec.getLsbD i
theorem l_s5 : ∀ K : Fin 32, (((Int32.ofNat K.val) &&& 31).toBitVec.smod 32).toNat = K.val := by decide +kernel
theorem b5_or {x y : Int32} {i : Nat} : b5 (x ||| y) i = (b5 x i || b5 y i) := by
  unfold b5; rw [Int32.toBitVec_or, BitVec.getLsbD_or]
theorem b5_and {x y : Int32} {i : Nat} : b5 (x &&& y) i = (b5 x i && b5 y i) := by
  unfold b5; rw [Int32.toBitVec_and, BitVec.getLsbD_and]
theorem b5_nt {x : Int32} {i : Nat} (h : i < 32) : b5 (x ^^^ -1) i = !(b5 x i) := by
  unfold b5
  have e : (-1 : Int32).toBitVec = BitVec.allOnes 32 := by decide
  rw [Int32.toBitVec_xor, BitVec.getLsbD_xor, e, BitVec.getLsbD_allOnes, decide_eq_true h, Bool.xor_true]
theorem b5_shr {x : Int32} {i : Nat} (h : i < 32) : b5 (x >>> (Int32.ofNat i &&& 31)) 0 = b5 x i := by
  have e : ((Int32.ofNat i &&& 31).toBitVec.smod 32).toNat = i := l_s5 ⟨i, h⟩
  unfold b5
  rw [Int32.toBitVec_shiftRight, BitVec.getLsbD_sshiftRight', e, if_pos (by omega), Nat.add_zero]
  rfl
theorem b5_1 {v : Int32} : v &&& 1 = 1 ↔ b5 v 0 = true := by
  rw [← Int32.toBitVec_inj, Int32.toBitVec_and]
  have e : (1 : Int32).toBitVec = 1#32 := by decide
  rw [e, BitVec.and_one_eq_setWidth_ofBool_getLsbD]
  unfold b5
  cases v.toBitVec.getLsbD 0 <;> decide
theorem b5_0 {v : Int32} : v &&& 1 = 0 ↔ ¬ b5 v 0 = true := by
  rw [← b5_1]
  rcases z_bit v with e | e <;> rw [e] <;> decide
theorem bit_1 {x : Int32} {i : Nat} (h : i < 32) : (x >>> (Int32.ofNat i &&& 31)) &&& 1 = 1 ↔ b5 x i = true := by rw [b5_1, b5_shr h]
theorem bit_0 {x : Int32} {i : Nat} (h : i < 32) : (x >>> (Int32.ofNat i &&& 31)) &&& 1 = 0 ↔ ¬ b5 x i = true := by rw [b5_0, b5_shr h]
theorem l_o5 : ∀ K i : Fin 9, b5 ((1 : Int32) <<< (Int32.ofNat K.val &&& 31)) i.val = decide (i.val = K.val) := by decide +kernel
theorem l_m5 : ∀ K i : Fin 9, b5 (((1 : Int32) <<< (Int32.ofNat K.val &&& 31)) - 1) i.val = decide (i.val < K.val) := by decide +kernel
theorem b5_o {K i : Nat} (hK : K < 9) (hi : i < 9) : b5 ((1 : Int32) <<< (Int32.ofNat K &&& 31)) i = decide (i = K) := l_o5 ⟨K, hK⟩ ⟨i, hi⟩
theorem b5_m {K i : Nat} (hK : K < 9) (hi : i < 9) : b5 (((1 : Int32) <<< (Int32.ofNat K &&& 31)) - 1) i = decide (i < K) := l_m5 ⟨K, hK⟩ ⟨i, hi⟩
theorem l_255 : ∀ i : Fin 8, b5 255 i.val = true := by decide +kernel
theorem b5_z {i : Nat} : b5 0 i = false := by
  unfold b5
  have e : (0 : Int32).toBitVec = 0#32 := by decide
  rw [e]; exact BitVec.getLsbD_zero
/-- both know alike which streams have a place -/
theorem xPl_n {N A B G : z_A} {T : Int32} {St : z_R} {D : Nat → Nat} {n h : Nat} (S : z_SS N A B G T St D n h) {i : Nat} (hi : (i : Int) < T.toInt) : (B 58 i = 0 ∧ xPl T St G (Int32.ofNat i) = none) ∨ (¬ B 58 i = 0 ∧ ∃ q, St i = some q ∧ xPl T St G (Int32.ofNat i) = some q) := by
  have T8 : T.toInt ≤ 8 := by rw [S.g3.hT]; exact S.g3.hB.1.2
  have ei := z_oft (K := i) (by omega)
  have ci := z_ofc (K := i) (by omega)
  obtain ⟨q, hq, -, s2⟩ := S.st i hi
  have e := xPl_y (T := T) (G := G) (s := Int32.ofNat i) (by omega) (by omega) (show St (Int32.ofNat i).toNatClampNeg = some q by rw [ci]; exact hq)
  rcases s2 with ⟨a, b⟩ | ⟨a, b, -⟩
  · exact Or.inl ⟨a, by rw [e, if_pos b]⟩
  · refine Or.inr ⟨a, q, hq, ?_⟩
    rw [e, if_neg]
    intro c
    rw [b] at c
    have := (S.g3.hB.2.2.2.2.2.2.1 i).1
    rw [c] at this
    exact absurd this (by decide)
theorem wp_l {N A B G : z_A} {T : Int32} {St : z_R} {D : Nat → Nat} {n h : Nat} (S : z_SS N A B G T St D n h) : ∀ (k i : Nat) (a : Int32), (i : Int) ≤ T.toInt → T.toInt < (i : Int) + (k : Int) → (∀ j, j < 8 → (b5 a j = true ↔ j < i ∧ ¬ B 58 j = 0)) → xWp T St G k (Int32.ofNat i) a = mPd B k (Int32.ofNat i) a ∧ ∀ j, j < 8 → (b5 (mPd B k (Int32.ofNat i) a) j = true ↔ (j : Int) < T.toInt ∧ ¬ B 58 j = 0) := by
  have T8 : T.toInt ≤ 8 := by rw [S.g3.hT]; exact S.g3.hB.1.2
  intro k
  induction k with
  | zero => intro i a h1 h2; omega
  | succ k ih =>
    intro i a h1 h2 ha
    have ei := z_oft (K := i) (by omega)
    have ci := z_ofc (K := i) (by omega)
    have st_ : xWp T St G (k + 1) (Int32.ofNat i) a = if Int32.ofNat i < T then xWp T St G k (Int32.ofNat i + 1) (match xPl T St G (Int32.ofNat i) with
      | none => a
      | some _ => a ||| ((1 : Int32) <<< (Int32.ofNat i &&& 31))) else a := rfl
    rw [st_, mPd_s, ← S.g3.hT]
    by_cases c : (i : Int) < T.toInt
    · have lt : Int32.ofNat i < T := by rw [z_ltI]; omega
      have ek : Int32.ofNat i + 1 = Int32.ofNat (i + 1) := Int32.toInt_inj.mp (by rw [z_up1 (by omega) (by omega), ei, z_oft (by omega)]; omega)
      rw [if_pos lt, if_pos lt, ci, ek]
      rcases xPl_n S c with ⟨p, e⟩ | ⟨p, q, -, e⟩
      · rw [if_pos p, e]
        refine ih (i + 1) a (by omega) (by omega) (fun j hj => ?_)
        rw [ha j hj]
        constructor
        · rintro ⟨x, y⟩; exact ⟨by omega, y⟩
        · rintro ⟨x, y⟩
          refine ⟨?_, y⟩
          by_cases e : j = i
          · subst e; exact absurd p y
          · omega
      · rw [if_neg p, e]
        refine ih (i + 1) (a ||| ((1 : Int32) <<< (Int32.ofNat i &&& 31))) (by omega) (by omega) (fun j hj => ?_)
        rw [b5_or, Bool.or_eq_true, ha j hj, b5_o (by omega) (by omega), decide_eq_true_iff]
        constructor
        · rintro (⟨x, y⟩ | x)
          · exact ⟨by omega, y⟩
          · subst x; exact ⟨by omega, p⟩
        · rintro ⟨x, y⟩
          by_cases e : j = i
          · exact Or.inr e
          · exact Or.inl ⟨by omega, y⟩
    · have lt : ¬ Int32.ofNat i < T := by rw [z_ltI]; omega
      rw [if_neg lt, if_neg lt]
      refine ⟨rfl, fun j hj => (ha j hj).trans ?_⟩
      constructor
      · rintro ⟨x, y⟩; exact ⟨by omega, y⟩
      · rintro ⟨x, y⟩; exact ⟨by omega, y⟩
theorem wp_I {N A B G : z_A} {T : Int32} {St : z_R} {D : Nat → Nat} {n h : Nat} (S : z_SS N A B G T St D n h) (T0 : 0 ≤ T.toInt) : xWp T St G 9 0 0 = mPd B 9 0 0 ∧ ∀ j, j < 8 → (b5 (mPd B 9 0 0) j = true ↔ (j : Int) < T.toInt ∧ ¬ B 58 j = 0) := by
  have T8 : T.toInt ≤ 8 := by rw [S.g3.hT]; exact S.g3.hB.1.2
  exact wp_l S 9 0 0 (by omega) (by omega) (fun j _ => ⟨fun q => (by rw [b5_z] at q; exact absurd q (by decide)), fun q => (by omega)⟩)
/-- the sets that plan, add and stir seek with -/
theorem z_tb {T : Int32} (T0 : 0 ≤ T.toInt) (T8 : T.toInt ≤ 8) {i : Nat} (hi : i < 8) : b5 (((1 : Int32) <<< (T &&& 31)) - 1) i = decide ((i : Int) < T.toInt) := by
  have p := z_pp T0
  rw [z_ofn T0, b5_m (by omega) (by omega)]
  rw [z_oft (by omega)]
  exact decide_eq_decide.mpr (by omega)
theorem hs_plan {N A B G : z_A} {T : Int32} {St : z_R} {D : Nat → Nat} {n h : Nat} (S : z_SS N A B G T St D n h) (T0 : 0 ≤ T.toInt) (i : Nat) (hi : (i : Int) < T.toInt) : (((((1 : Int32) <<< (T &&& 31)) - 1) >>> (Int32.ofNat i &&& 31)) &&& 1 = 0 ↔ ¬ B 58 i = 0 ∧ ¬ ((255 : Int32) >>> (Int32.ofNat i &&& 31)) &&& 1 = 1) := by
  have T8 : T.toInt ≤ 8 := by rw [S.g3.hT]; exact S.g3.hB.1.2
  rw [bit_0 (by omega), bit_1 (by omega), z_tb T0 T8 (by omega), decide_eq_true hi]
  have e : b5 255 i = true := l_255 ⟨i, by omega⟩
  exact ⟨fun q => absurd rfl q, fun q => absurd e q.2⟩
theorem hs_add {N A B G : z_A} {T : Int32} {St : z_R} {D : Nat → Nat} {n h : Nat} (S : z_SS N A B G T St D n h) (T0 : 0 ≤ T.toInt) (i : Nat) (hi : (i : Int) < T.toInt) : ((((((1 : Int32) <<< (T &&& 31)) - 1) &&& (xWp T St G 9 0 0 ^^^ -1)) >>> (Int32.ofNat i &&& 31)) &&& 1 = 0 ↔ ¬ B 58 i = 0 ∧ ¬ ((0 : Int32) >>> (Int32.ofNat i &&& 31)) &&& 1 = 1) := by
  have T8 : T.toInt ≤ 8 := by rw [S.g3.hT]; exact S.g3.hB.1.2
  obtain ⟨e1, e2⟩ := wp_I S T0
  have e3 := e2 i (by omega)
  rw [bit_0 (by omega), bit_1 (by omega), b5_and, z_tb T0 T8 (by omega), decide_eq_true hi, Bool.true_and, b5_nt (by omega), e1, b5_z]
  constructor
  · intro q
    refine ⟨?_, by decide⟩
    by_cases c : b5 (mPd B 9 0 0) i = true
    · exact (e3.mp c).2
    · rw [Bool.eq_false_iff.mpr c] at q
      exact absurd rfl q
  · rintro ⟨q, -⟩ c
    rw [e3.mpr ⟨hi, q⟩] at c
    cases c
theorem hs_stir {N A B G : z_A} {T : Int32} {St : z_R} {D : Nat → Nat} {n h : Nat} (S : z_SS N A B G T St D n h) (T0 : 0 ≤ T.toInt) (set : Int32) (i : Nat) (hi : (i : Int) < T.toInt) : ((set ||| ((((1 : Int32) <<< (T &&& 31)) - 1) &&& (xWp T St G 9 0 0 ^^^ -1))) >>> (Int32.ofNat i &&& 31)) &&& 1 = 0 ↔ ¬ B 58 i = 0 ∧ ¬ (set >>> (Int32.ofNat i &&& 31)) &&& 1 = 1 := by
  have T8 : T.toInt ≤ 8 := by rw [S.g3.hT]; exact S.g3.hB.1.2
  obtain ⟨e1, e2⟩ := wp_I S T0
  have e3 := e2 i (by omega)
  rw [bit_0 (by omega), bit_1 (by omega), b5_or, b5_and, z_tb T0 T8 (by omega), decide_eq_true hi, Bool.true_and, b5_nt (by omega), e1, Bool.or_eq_true]
  constructor
  · intro q
    refine ⟨?_, fun c => q (Or.inl c)⟩
    by_cases c : b5 (mPd B 9 0 0) i = true
    · exact (e3.mp c).2
    · rw [Bool.eq_false_iff.mpr c] at q
      exact absurd (Or.inr rfl) q
  · rintro ⟨q, q2⟩ (c | c)
    · exact q2 c
    · rw [e3.mpr ⟨hi, q⟩] at c
      cases c
/-! The order. -/
theorem mAh_f {a b : Int32} : ∀ (k : Nat) (i : Int32), ¬ mAh a b k i = true → mRh a k i ≤ mRh b k i := by
  intro k
  induction k with
  | zero => intro i h; exact Nat.le_refl _
  | succ k ih =>
    intro i h
    rw [mAh_s] at h
    rw [mRh_s, mRh_s]
    by_cases c8 : i < 8
    · rw [if_pos c8] at h
      rw [if_pos c8, if_pos c8]
      have ha := mRh_b (a := a) k (i + 1)
      by_cases e : (a >>> (i &&& 31)) &&& 1 = (b >>> (i &&& 31)) &&& 1
      · rw [if_pos e] at h
        have := ih (i + 1) h
        rw [e]; omega
      · rw [if_neg e] at h
        rcases z_bit (a >>> (i &&& 31)) with e1 | e1
        · rcases z_bit (b >>> (i &&& 31)) with e2 | e2
          · exact absurd (e1.trans e2.symm) e
          · rw [e1, e2, show (0 : Int32).toNatClampNeg = 0 from rfl, show (1 : Int32).toNatClampNeg = 1 from rfl, Nat.zero_mul, Nat.one_mul]; omega
        · rw [if_pos e1] at h
          exact absurd rfl h
    · rw [if_neg c8, if_neg c8]
      exact Nat.le_refl _
theorem mAh_I {a b : Int32} : mAh a b 9 0 = true ↔ mRh b 9 0 < mRh a 9 0 := by
  refine ⟨mAh_r 9 0, fun h => ?_⟩
  by_cases c : mAh a b 9 0 = true
  · exact c
  · have := mAh_f 9 0 c
    omega
/-- the b-th set -/
def sB (b : Nat) : Int32 := xMi (Int32.ofNat b) 9 0 0
theorem l_sB : ∀ b : Fin 256, mRh (xMi (Int32.ofNat b.val) 9 0 0) 9 0 = 2 * b.val ∧ 0 ≤ (xMi (Int32.ofNat b.val) 9 0 0).toInt ∧ (xMi (Int32.ofNat b.val) 9 0 0).toInt < 256 := by decide +kernel
theorem l_sS : ∀ a : Fin 256, xMi (xMi (Int32.ofNat a.val) 9 0 0) 9 0 0 = Int32.ofNat a.val := by decide +kernel
theorem l_bt : ∀ b : Fin 256, xBt (xMi (Int32.ofNat b.val) 9 0 0) = mBi (xMi (Int32.ofNat b.val) 9 0 0) 9 0 0 := by decide +kernel
theorem sB_b {b : Nat} (h : b < 256) : mRh (sB b) 9 0 = 2 * b ∧ 0 ≤ (sB b).toInt ∧ (sB b).toInt < 256 := l_sB ⟨b, h⟩
theorem sB_s {a : Nat} (h : a < 256) : ∃ b, b < 256 ∧ sB b = Int32.ofNat a := by
  obtain ⟨-, h1, h2⟩ := sB_b h
  refine ⟨(sB a).toNatClampNeg, ?_, ?_⟩
  · have := z_pp h1; omega
  · unfold sB
    have e : Int32.ofNat (xMi (Int32.ofNat a) 9 0 0).toNatClampNeg = xMi (Int32.ofNat a) 9 0 0 := (z_ofn h1).symm
    show xMi (Int32.ofNat (xMi (Int32.ofNat a) 9 0 0).toNatClampNeg) 9 0 0 = _
    rw [e]
    exact l_sS ⟨a, h⟩
theorem sB_i {b b' : Nat} (h : b < 256) (h' : b' < 256) (e : sB b = sB b') : b = b' := by
  have a := (sB_b h).1
  have c := (sB_b h').1
  rw [e] at a
  omega
theorem sB_a {b b' : Nat} (h : b < 256) (h' : b' < 256) : mAh (sB b') (sB b) 9 0 = true ↔ b < b' := by
  rw [mAh_I, (sB_b h).1, (sB_b h').1]
  omega
def sO (all n : Int32) (b : Nat) : Prop := sB b &&& (all ^^^ -1) = 0 ∧ mBi (sB b) 9 0 0 = n
/-- the next set that may be, below b0 -/
def sN (all n : Int32) (b0 : Nat) (set : Int32) : Prop := (set = -1 ∧ ∀ b, b < b0 → ¬ sO all n b) ∨ ∃ b, b < b0 ∧ set = sB b ∧ sO all n b ∧ ∀ b', b < b' → b' < b0 → ¬ sO all n b'
theorem may_I {all n behind : Int32} {b0 b : Nat} (hb : b < 256) (hB : (behind = -1 ∧ b0 = 256) ∨ (b0 < 256 ∧ behind = sB b0)) : mMay all n behind (sB b) = true ↔ sO all n b ∧ b < b0 := by
  unfold mMay sO
  by_cases c1 : sB b &&& (all ^^^ -1) = 0
  · rw [if_pos c1]
    by_cases c2 : mBi (sB b) 9 0 0 = n
    · rw [if_pos c2]
      rcases hB with ⟨e, e0⟩ | ⟨l, e⟩
      · subst e
        rw [if_pos (by decide)]
        exact ⟨fun _ => ⟨⟨c1, c2⟩, by omega⟩, fun _ => rfl⟩
      · subst e
        have n0 : ¬ sB b0 < 0 := by rw [z_ltI, tI0]; have := (sB_b l).2.1; omega
        rw [if_neg n0]
        by_cases c3 : mAh (sB b0) (sB b) 9 0 = true
        · rw [if_pos c3]
          exact ⟨fun _ => ⟨⟨c1, c2⟩, (sB_a hb l).mp c3⟩, fun _ => rfl⟩
        · rw [if_neg c3]
          exact ⟨fun q => (by cases q), fun q => absurd ((sB_a hb l).mpr q.2) c3⟩
    · rw [if_neg c2]
      exact ⟨fun q => (by cases q), fun q => absurd q.1.2 c2⟩
  · rw [if_neg c1]
    exact ⟨fun q => (by cases q), fun q => absurd q.1.1 c1⟩
theorem mNx_l {all n behind : Int32} {b0 : Nat} (hB : (behind = -1 ∧ b0 = 256) ∨ (b0 < 256 ∧ behind = sB b0)) : ∀ (k i : Nat) (best : Int32), i ≤ 256 → 256 < i + k → ((best = -1 ∧ ∀ b, b < 256 → (sB b).toInt < (i : Int) → ¬ (sO all n b ∧ b < b0)) ∨ ∃ b, b < 256 ∧ best = sB b ∧ (sO all n b ∧ b < b0) ∧ ∀ b', b' < 256 → (sB b').toInt < (i : Int) → sO all n b' ∧ b' < b0 → b' ≤ b) → sN all n b0 (mNx all n behind k (Int32.ofNat i) best) := by
  have b256 : b0 ≤ 256 := by rcases hB with ⟨-, e⟩ | ⟨e, -⟩ <;> omega
  intro k
  induction k with
  | zero => intro i best h1 h2; omega
  | succ k ih =>
    intro i best h1 h2 I
    have ei := z_oft (K := i) (by omega)
    have t : Int32.toInt 256 = 256 := rfl
    rw [mNx_s]
    by_cases c : i < 256
    · have ek : Int32.ofNat i + 1 = Int32.ofNat (i + 1) := Int32.toInt_inj.mp (by rw [z_up1 (by omega) (by omega), ei, z_oft (by omega)]; omega)
      rw [if_pos (by rw [z_ltI]; omega), ek]
      obtain ⟨a, ha, ea⟩ := sB_s c
      have sp : ∀ b, b < 256 → (sB b).toInt < ((i + 1 : Nat) : Int) → (sB b).toInt < (i : Int) ∨ b = a := fun b hb h => by
        by_cases e : (sB b).toInt = (i : Int)
        · exact Or.inr (sB_i hb ha (Int32.toInt_inj.mp (by rw [e, ea, ei])))
        · left; omega
      refine ih (i + 1) _ (by omega) (by omega) ?_
      rw [← ea]
      by_cases m : mMay all n behind (sB a) = true
      · have m' := (may_I ha hB).mp m
        rw [if_pos m]
        rcases I with ⟨e, I⟩ | ⟨b, hb, e, I1, I2⟩
        · rw [e, if_pos (by decide)]
          refine Or.inr ⟨a, ha, rfl, m', fun b' hb' h o => ?_⟩
          rcases sp b' hb' h with x | x
          · exact absurd o (I b' hb' x)
          · omega
        · have n0 : ¬ sB b < 0 := by rw [z_ltI, tI0]; have := (sB_b hb).2.1; omega
          rw [e, if_neg n0]
          by_cases g : mAh (sB a) (sB b) 9 0 = true
          · rw [if_pos g]
            have g' := (sB_a hb ha).mp g
            refine Or.inr ⟨a, ha, rfl, m', fun b' hb' h o => ?_⟩
            rcases sp b' hb' h with x | x
            · have := I2 b' hb' x o; omega
            · omega
          · rw [if_neg g]
            have g' : ¬ b < a := fun q => g ((sB_a hb ha).mpr q)
            refine Or.inr ⟨b, hb, rfl, I1, fun b' hb' h o => ?_⟩
            rcases sp b' hb' h with x | x
            · exact I2 b' hb' x o
            · omega
      · rw [if_neg m]
        have m' : ¬ (sO all n a ∧ a < b0) := fun q => m ((may_I ha hB).mpr q)
        rcases I with ⟨e, I⟩ | ⟨b, hb, e, I1, I2⟩
        · refine Or.inl ⟨e, fun b' hb' h o => ?_⟩
          rcases sp b' hb' h with x | x
          · exact I b' hb' x o
          · subst x; exact m' o
        · refine Or.inr ⟨b, hb, e, I1, fun b' hb' h o => ?_⟩
          rcases sp b' hb' h with x | x
          · exact I2 b' hb' x o
          · subst x; exact absurd o m'
    · rw [if_neg (by rw [z_ltI]; omega)]
      have e : i = 256 := by omega
      subst e
      rcases I with ⟨e, I⟩ | ⟨b, hb, e, I1, I2⟩
      · exact Or.inl ⟨e, fun b hb o => I b (by omega) (by have := (sB_b (b := b) (by omega)).2.2; omega) ⟨o, hb⟩⟩
      · refine Or.inr ⟨b, I1.2, e, I1.1, fun b' h1 h2 o => ?_⟩
        have := I2 b' (by omega) (by have := (sB_b (b := b') (by omega)).2.2; omega) ⟨o, h2⟩
        omega
theorem mNx_I {all n behind : Int32} {b0 : Nat} (hB : (behind = -1 ∧ b0 = 256) ∨ (b0 < 256 ∧ behind = sB b0)) : sN all n b0 (mNx all n behind 257 0 (-1)) :=
  mNx_l hB 257 0 (-1) (by omega) (by omega) (Or.inl ⟨rfl, fun b hb h => by have := (sB_b hb).2.1; omega⟩)
