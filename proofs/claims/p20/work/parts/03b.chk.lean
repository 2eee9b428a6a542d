def ai_len : Instr → Nat
  | .aload _ => 2
  | .iload _ => 2
  | .lload _ => 2
  | .istore _ => 2
  | .astore _ => 2
  | .lstore _ => 2
  | .bipush _ => 2
  | .ldc _ => 2
  | .newarray _ => 2
  | .getfield _ => 3
  | .putfield _ => 3
  | .getstatic _ => 3
  | .invokevirtual _ => 3
  | .invokestatic _ => 3
  | .invokespecial _ => 3
  | .if_icmp _ _ => 3
  | .ifCond _ _ => 3
  | .goto _ => 3
  | .ifnull _ => 3
  | .ifnonnull _ => 3
  | .iinc _ _ => 3
  | .sipush _ => 3
  | .new _ => 3
  | .anewarray _ => 3
  | .ldc_w _ => 3
  | .ldc2_w _ => 3
  | _ => 1
def ai_sw : Instr → Bool
  | .tableswitch _ _ _ _ => true
  | _ => false
def ai_cf (c : ByteArray) (T : List (Option Instr)) (pc : Nat) : Bool := match T[pc]? with
  | some (some i) => (match decode c pc with
    | .ok (j, len) => decide (j = i) && (ai_sw i || len == ai_len i)
    | .error _ => false)
  | _ => true
def ai_chk (c : ByteArray) (T : List (Option Instr)) : Bool := (List.range T.length).all (ai_cf c T)
def ai_chr (c : ByteArray) (T : List (Option Instr)) (lo n : Nat) : Bool := (List.range' lo n).all (ai_cf c T)
theorem ai_chr_s {c : ByteArray} {T : List (Option Instr)} {lo n : Nat} (h : ai_chr c T lo n = true) {pc : Nat} (h1 : lo ≤ pc) (h2 : pc < lo + n) : ai_cf c T pc = true := List.all_eq_true.mp h pc (List.mem_range'_1.mpr ⟨h1, h2⟩)
theorem ai_chk_s {c : ByteArray} {T : List (Option Instr)} (h : ai_chk c T = true) {pc : Nat} {i : Instr} (e : T[pc]? = some (some i)) : ∃ len, decode c pc = .ok (i, len) ∧ (ai_sw i = true ∨ len = ai_len i) := by
  have hl : pc < T.length := (List.getElem?_eq_some_iff.mp e).1
  have h1 := List.all_eq_true.mp h pc (List.mem_range.mpr hl)
  unfold ai_cf at h1
  rw [e] at h1
  dsimp only at h1
  split at h1
  next j len hd =>
    simp only [Bool.and_eq_true, decide_eq_true_eq, Bool.or_eq_true, beq_iff_eq] at h1
    obtain ⟨rfl, h2⟩ := h1
    exact ⟨len, hd, h2⟩
  next => cases h1
