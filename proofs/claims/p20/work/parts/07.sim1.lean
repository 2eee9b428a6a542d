theorem ai_ftok : ∀ c, c < 11 → ∀ k, k < 42 → ai_nofl (defaultValue (ai_ft c k)) = true := by decide +kernel
theorem ai_nf42 : ∀ c, c < 11 → ai_nf c ≤ 42 := by decide +kernel
section AI
variable {p : Program} {l : Launch} {e : Env} {R : Room} {s : State} {m : MethodId} {args : Array Value} {below : List Frame} {meth : Method} {c : Code} {H : Heap} {locs : List Loc} {cells slots : Nat} {Q : State → Prop}
variable {S : ai_S} {D : ai_D} {E : ai_E} {mn pc : Nat} {L : ai_L} {st : List Value} {h : ai_H} {ls : Array Slot}
theorem ai_getf (hX : ai_X p s m args meth c mn) (hW : ai_W D E S s) (hP : ai_P D E h.1 H) {i a ci k : Nat} {fs r : List Value} {w : Value} (hd : decode (ai_bc mn) pc = .ok (.getfield i, 3)) (h1 : ai_get ai_F (ai_ow mn) i = some (ci, k)) (h2 : ai_obj h a ci = some fs) (h3 : fs[k]? = some w)
    (kk : W p l e R s m args below meth c H locs cells slots Q (F0 m (pc + 3) ls (ai_v E w :: r))) : W p l e R s m args below meth c H locs cells slots Q (F0 m pc ls (.ref (E.1 + a) :: r)) := by
  obtain ⟨hx, hb, hml, hown, hts, -, -⟩ := hX
  obtain ⟨r0, hr, hk, hl⟩ := ai_F_s h1
  obtain ⟨r1, hr1, cell, q1, q2, q3, q4⟩ := hP.2 a _ (ai_obj_s h2)
  cases hr.symm.trans hr1
  obtain ⟨hin1, hin2, hin⟩ := ai_C_s (List.mem_of_getElem? hr)
  obtain ⟨hS, hfc, kC, hkC, hkind⟩ := hW.1.1 ci _ hr
  obtain ⟨cf, kf, fi, f, hi, hsl⟩ := hS k hk
  refine W.getf hx hb hown (hts _ hl) hi (u_facts hfc hkC (u_lays hts hin hk) hi).1 q1 (by rw [q3]; exact fun h => by cases h) (v := ai_v E w) ?_ rfl rfl hd kk
  rw [hsl, q4 k hk]
  simp [vp_V, h3]
theorem ai_tld (hX : ai_X p s m args meth c mn) (hW : ai_W D E S s) (hS : va_S (fun q => E.1 ≤ q) s.heap H locs) {i : Int32} {r : List Value} (hd : decode (ai_bc mn) pc = .ok (.iaload, 1)) (hin : ¬ (i < 0 ∨ 5 ≤ i.toNatClampNeg))
    (kk : W p l e R s m args below meth c H locs cells slots Q (F0 m (pc + 1) ls (.int (ai_cyc i.toNatClampNeg) :: r))) : W p l e R s m args below meth c H locs cells slots Q (F0 m pc ls (.int i :: .ref E.2.2 :: r)) := by
  obtain ⟨hx, hb, hml, hown, hts, -, -⟩ := hX
  obtain ⟨-, -, ⟨⟨cell, h1, h2, h3, h4, h5, h6, h7⟩, -⟩, -⟩ := hW
  have hlt : i.toNatClampNeg < 5 := Nat.not_le.mp fun q => hin (Or.inr q)
  exact W.iald (v := .int (ai_cyc i.toNatClampNeg)) hx hb (by rw [hS.2.1 _ (Array.getElem?_eq_some_iff.mp h1).1 h7]; exact h1) h2 h3 (fun q => q.elim (fun z => hin (Or.inl z)) (fun z => by omega)) (h6 _ hlt) rfl rfl hd kk
theorem ai_tln (hX : ai_X p s m args meth c mn) (hW : ai_W D E S s) (hS : va_S (fun q => E.1 ≤ q) s.heap H locs) {r : List Value} (hd : decode (ai_bc mn) pc = .ok (.arraylength, 1))
    (kk : W p l e R s m args below meth c H locs cells slots Q (F0 m (pc + 1) ls (.int (Int32.ofNat 5) :: r))) : W p l e R s m args below meth c H locs cells slots Q (F0 m pc ls (.ref E.2.2 :: r)) := by
  obtain ⟨hx, hb, hml, hown, hts, -, -⟩ := hX
  obtain ⟨-, -, ⟨⟨cell, h1, h2, h3, h4, h5, h6, h7⟩, -⟩, -⟩ := hW
  exact W.alen (n := Int32.ofNat 5) hx hb (by rw [hS.2.1 _ (Array.getElem?_eq_some_iff.mp h1).1 h7]; exact h1) h2 h5 rfl rfl hd kk
theorem ai_S_put {H1 : Heap} {a k : Nat} (hS : va_S (fun q => E.1 ≤ q) s.heap H locs) (z : H1.size = H.size) (o : ∀ q : Nat, q ≠ E.1 + a → H1[q]? = H[q]?) : va_S (fun q => E.1 ≤ q) s.heap H1 (locs ++ [⟨E.1 + a, k⟩]) := hS.put z o (Nat.le_add_right _ _)
theorem ai_putf (hX : ai_X p s m args meth c mn) (hW : ai_W D E S s) (hP : ai_P D E h.1 H) (hS0 : va_S (fun q => E.1 ≤ q) s.heap H locs) {i a ci k : Nat} {fs r : List Value} {w : Value} (hd : decode (ai_bc mn) pc = .ok (.putfield i, 3)) (h1 : ai_get ai_F (ai_ow mn) i = some (ci, k)) (h2 : ai_obj h a ci = some fs) (h3 : k < fs.length) (h4 : ai_okp (ai_nm mn) ci k w = true)
    (kk : ∀ (H1 : Heap) (locs1 : List Loc), ai_P D E (h.1.set a (.inr (ci, fs.set k w))) H1 → va_S (fun q => E.1 ≤ q) s.heap H1 locs1 → W p l e R s m args below meth c H1 locs1 cells slots Q (F0 m (pc + 3) ls r)) : W p l e R s m args below meth c H locs cells slots Q (F0 m pc ls (ai_v E w :: .ref (E.1 + a) :: r)) := by
  obtain ⟨hx, hb, hml, hown, hts, hnm, hcl⟩ := hX
  obtain ⟨r0, hr, hk, hl⟩ := ai_F_s h1
  obtain ⟨r1, hr1, cell, q1, q2, q3, q4⟩ := hP.2 a _ (ai_obj_s h2)
  cases hr.symm.trans hr1
  obtain ⟨hin1, hin2, hin⟩ := ai_C_s (List.mem_of_getElem? hr)
  obtain ⟨hname, hdecl, hty, hne⟩ := ai_C2_s hr
  have hap := va_apart (own := ai_Rn (ai_ow mn)) hts hin (ai_ft ci) hty hne hW.1 hr
  obtain ⟨hS, hfc, kC, hkC, hkind⟩ := hW.1.1 ci _ hr
  obtain ⟨cf, kf, fi, f, hi, hsl⟩ := hS k hk
  unfold ai_okp at h4
  simp only [Bool.and_eq_true, decide_eq_true_eq] at h4
  obtain ⟨hfl, hf, hn, hfit⟩ := h4
  have hn' : narrow (ai_ft ci k) (ai_v E w) = ai_v E w := by
    cases w <;> first | exact hn | (cases ai_ft ci k <;> rfl)
  have hfit' : fits (ai_ft ci k) (ai_v E w) = true := by
    cases w with
    | ref a => revert hfit; cases ai_ft ci k <;> exact id
    | float u => cases hfl
    | _ => exact hfit
  have hlay := hts _ (hin _ (u_in_lay hk))
  have hst := (u_facts hfc hkC (u_lays hts hin hk) hi).1
  have fin : ∀ H' : Heap, H'[E.1 + a]? = some (cell.setSlot f.slot (ai_v E w)) → H'.size = H.size → (∀ q, q ≠ E.1 + a → H'[q]? = H[q]?) → W p l e R s m args below meth c H' (locs ++ [⟨E.1 + a, f.slot⟩]) cells slots Q (F0 m (pc + 3) ls r) := by
    intro H' e1 e2 e3
    rw [hsl] at e1
    refine kk H' _ (hP.set e2 e3 ⟨_, hr, ?_⟩) (ai_S_put hS0 e2 e3)
    refine t_OB.to (V := updV (vp_V (fs.map (ai_v E))) k (ai_v E w)) ⟨_, e1, q2, q3, t_set q4 hap hk _⟩ (fun j _ => ?_)
    rw [List.map_set]
    exact vp_updV_set (by rw [List.length_map]; exact h3) _ j
  cases hfn : (r0.2.1 k).2.2.2 with
  | false =>
    unfold u_lay at hlay
    rw [if_neg (by rw [hfn]; decide)] at hlay
    have h6 := u_store hfc hkC hkind hlay hi (hty k hk) hn' hfit'
    exact W.putK hx hb (f := f) ⟨hown, hts _ hl, ⟨_, _, _, hi⟩, hst⟩ (by rw [q2]; exact h6) q1 q3 (by rw [hsl]; exact k2_hasslot (q4 k hk)) rfl rfl hd fin
  | true =>
    have hfin : ai_fin ci k = true := by unfold ai_fin; rw [hr]; exact hfn
    rw [hfin] at hf
    simp only [decide_eq_true_eq] at hf
    unfold u_lay at hlay
    rw [if_pos hfn] at hlay
    have hown2 : s.vm.findClass (r0.2.1 k).1 = some m.cls := by rw [hdecl k hk, ← hf.2, hcl]; exact hown
    have hcf : m.cls = cf := by
      obtain ⟨_, _, c', _, _, _, -, -, hf', -, -, -, hown3, -⟩ := Cond.laysFinal_spec hlay
      have e1 : c' = cf := by have := hi.symm.trans hf'; simp at this; exact this.1.symm
      rw [← e1]; exact Option.some.inj (hown2.symm.trans hown3)
    have h6 := u_fits hfc hkC hkind (Or.inr hlay) hi (hty k hk) hn' hfit'
    exact W.putFinK hx hb hown (hts _ hl) hi hst hcf (hnm hf.1) (by rw [q2]; exact h6) q1 q3 (by rw [hsl]; exact k2_hasslot (q4 k hk)) rfl rfl hd fin
theorem ai_new (hX : ai_X p s m args meth c mn) (hW : ai_W D E S s) (hP : ai_P D E h.1 H) (hS0 : va_S (fun q => E.1 ≤ q) s.heap H locs) {i ci : Nat} {r : List Value} (hd : decode (ai_bc mn) pc = .ok (.new i, 3)) (h1 : ai_get ai_N (ai_ow mn) i = some ci) (h2 : ci < 11) (hc : cells + 1 ≤ R.cells) (hsl : slots + ai_nf ci ≤ R.slots)
    (kk : ∀ (H1 : Heap), ai_P D E (h.1 ++ [.inr (ci, ai_fs0 ci)]) H1 → va_S (fun q => E.1 ≤ q) s.heap H1 locs → W p l e R s m args below meth c H1 locs (cells + 1) (slots + ai_nf ci) Q (F0 m (pc + 3) ls (.ref (E.1 + h.1.length) :: r))) : W p l e R s m args below meth c H locs cells slots Q (F0 m pc ls r) := by
  obtain ⟨hx, hb, hml, hown, hts, hnm, hcl⟩ := hX
  have hr : ai_cl[ci]? = some ai_cl[ci] := List.getElem?_eq_getElem h2
  generalize ai_cl[ci] = r0 at hr
  obtain ⟨hin1, hin2, hin⟩ := ai_C_s (List.mem_of_getElem? hr)
  obtain ⟨hname, hdecl, hty, hne⟩ := ai_C2_s hr
  have hKn := hW.1.1 ci _ hr
  have hnf : ai_nf ci = r0.2.2 := by unfold ai_nf; rw [hr]
  refine W.newcK hx hb hown (by rw [hname]; exact hts _ (ai_N_s h1)) (hts _ hin1) (hts _ hin2) rfl hd hc (by rw [← hnf]; exact hsl) hKn.2.1 hP.1 fun H1 kC hkC e1 z1 o1 => ?_
  rw [← hnf]
  refine kk H1 (hP.app (by rw [z1, hP.1]) (fun q hq => o1 q (by rw [← hP.1]; exact hq)) ⟨r0, hr, ?_⟩) ⟨Nat.le_trans hS0.1 (by rw [z1, ← hP.1]; omega), fun q a b => (o1 q (by rw [← hP.1]; exact Nat.lt_of_lt_of_le a hS0.1)).trans (hS0.2.1 q a b), hS0.2.2⟩
  refine (u_born (ai_ft ci) hts hin hKn hkC e1 hty).to (fun k hk => ?_)
  have hk2 : k < ai_nf ci := by rw [hnf]; exact hk
  show _ = ((ai_fs0 ci).map (ai_v E)).getD k .null
  unfold ai_fs0
  simp [List.getD_eq_getElem?_getD, hk2]
  have hnf2 := ai_ftok ci h2 k (Nat.lt_of_lt_of_le hk2 (ai_nf42 ci h2))
  revert hnf2
  generalize ai_ft ci k = ty
  intro hnf2
  cases ty <;> first | rfl | cases hnf2
theorem ai_newar (hX : ai_X p s m args meth c mn) (hW : ai_W D E S s) (hP : ai_P D E h.1 H) (hS0 : va_S (fun q => E.1 ≤ q) s.heap H locs) {t : Nat} {at1 : ArrayType} {n : Int32} {r : List Value} (hd : decode (ai_bc mn) pc = .ok (.newarray at1, 2)) (ht : t < 2) (hat : newarray.typeOf at1 = ai_at t) (hw : Jvm.Cond.arrayClass (ai_at t) ∈ ai_tb) (hn : ¬ n < 0) (hn2 : n.toNatClampNeg ≤ 100000) (hc : cells + 1 ≤ R.cells) (hsl : slots + n.toNatClampNeg ≤ R.slots)
    (kk : ∀ (H1 : Heap), ai_P D E (h.1 ++ [.inl (t, n.toNatClampNeg, .inl (fun _ => 0))]) H1 → va_S (fun q => E.1 ≤ q) s.heap H1 locs → W p l e R s m args below meth c H1 locs (cells + 1) (slots + n.toNatClampNeg) Q (F0 m (pc + 2) ls (.ref (E.1 + h.1.length) :: r))) : W p l e R s m args below meth c H locs cells slots Q (F0 m pc ls (.int n :: r)) := by
  obtain ⟨hx, hb, hml, hown, hts, hnm, hcl⟩ := hX
  have hA := hW.1.2 t _ (ai_tys_at D.2 (by omega))
  have hbytes : n.toNatClampNeg * componentBytes (newarray.typeOf at1) ≤ 536870912 := by
    have : componentBytes (newarray.typeOf at1) ≤ 8 := by cases at1 <;> decide
    calc n.toNatClampNeg * componentBytes (newarray.typeOf at1) ≤ 100000 * 8 := Nat.mul_le_mul hn2 this
      _ ≤ 536870912 := by decide
  refine va_newaK hx hb (by rw [hat]; exact hts _ hw) rfl hd rfl hn rfl hbytes hc hsl hP.1 fun H1 cA e1 z1 o1 _ hfc => ?_
  have hcA : cA = D.2 t := by
    have h2 := hA.2
    rw [hat] at hfc
    rcases (by omega : t = 0 ∨ t = 1) with rfl | rfl
    · exact Option.some.inj (hfc.symm.trans h2)
    · exact Option.some.inj (hfc.symm.trans h2)
  subst hcA
  refine kk H1 (hP.app (by rw [z1, hP.1]) (fun q hq => o1 q (by rw [← hP.1]; exact hq)) ?_) ⟨Nat.le_trans hS0.1 (by rw [z1, ← hP.1]; omega), fun q a b => (o1 q (by rw [← hP.1]; exact Nat.lt_of_lt_of_le a hS0.1)).trans (hS0.2.1 q a b), hS0.2.2⟩
  show H1[E.1 + h.1.length]? = _
  rw [e1, hat]
  rcases (by omega : t = 0 ∨ t = 1) with rfl | rfl <;> rfl
theorem ai_ao_s {c t : Nat} (h : ai_ao c = some t) : 2 ≤ t ∧ t < 5 ∧ c < 11 ∧ ai_at t = .object (ai_Rn c) := by
  unfold ai_ao at h
  split at h <;> first | (cases h; exact ⟨by decide, by decide, by decide, rfl⟩) | cases h
theorem ai_newq (hX : ai_X p s m args meth c mn) (hW : ai_W D E S s) (hP : ai_P D E h.1 H) (hS0 : va_S (fun q => E.1 ≤ q) s.heap H locs) {i ci t : Nat} {n : Int32} {r : List Value} (hd : decode (ai_bc mn) pc = .ok (.anewarray i, 3)) (h1 : ai_get ai_N (ai_ow mn) i = some ci) (h2 : ai_ao ci = some t) (hn : ¬ n < 0) (hn2 : n.toNatClampNeg ≤ 100000) (hc : cells + 1 ≤ R.cells) (hsl : slots + n.toNatClampNeg ≤ R.slots)
    (kk : ∀ (H1 : Heap), ai_P D E (h.1 ++ [.inl (t, n.toNatClampNeg, .inr (fun _ => none))]) H1 → va_S (fun q => E.1 ≤ q) s.heap H1 locs → W p l e R s m args below meth c H1 locs (cells + 1) (slots + n.toNatClampNeg) Q (F0 m (pc + 3) ls (.ref (E.1 + h.1.length) :: r))) : W p l e R s m args below meth c H locs cells slots Q (F0 m pc ls (.int n :: r)) := by
  obtain ⟨hx, hb, hml, hown, hts, hnm, hcl⟩ := hX
  obtain ⟨t2, t5, -, hat⟩ := ai_ao_s h2
  have hA := hW.1.2 t _ (ai_tys_at D.2 t5)
  refine W.anew hx hb hown (hts _ (ai_N_s h1)) (va_AO.use (hW.2.2.2.2.2.2 ci t h2)) rfl hd rfl hn (by omega) hc hsl fun cA kA comp f1 f2 f3 f4 => ?_
  have hcA : cA = D.2 t := by
    have h3 := hA.2
    rw [hat] at h3
    obtain ⟨_, _, _, _, _, h4⟩ := h3
    exact Option.some.inj (f1.symm.trans h4)
  subst hcA
  generalize hH1 : H.push ({ cls := D.2 t, slots := Array.replicate n.toNatClampNeg .null, vm := .none } : Cell) = H1
  have z1 : H1.size = H.size + 1 := by rw [← hH1, Array.size_push]
  have e1 : H1[H.size]? = some (arrV (D.2 t) n.toNatClampNeg (fun _ => .null)) := by rw [← hH1, Array.getElem?_push_size, ← arrV_new]
  have o1 : ∀ q : Nat, q < H.size → H1[q]? = H[q]? := fun q hq => by rw [← hH1, Array.getElem?_push, if_neg (Nat.ne_of_lt hq)]
  have hz := hP.1
  refine W.eq (g2 := F0 m (pc + 3) ls (.ref (E.1 + h.1.length) :: r)) (by rw [← hz]) ?_
  refine kk H1 (hP.app z1 o1 ?_) ⟨Nat.le_trans hS0.1 (by rw [z1]; omega), fun q a b => (o1 q (Nat.lt_of_lt_of_le a hS0.1)).trans (hS0.2.1 q a b), hS0.2.2⟩
  show H1[E.1 + h.1.length]? = _
  rw [← hz, e1]
  rfl
theorem ai_ild (hX : ai_X p s m args meth c mn) (hW : ai_W D E S s) (hP : ai_P D E h.1 H) {a : Nat} {i : Int32} {q : Nat × (Nat → Int32)} {r : List Value} (hd : decode (ai_bc mn) pc = .ok (.iaload, 1)) (h1 : ai_arr h a 0 = some q) (h2 : ai_in i q.1 = true)
    (kk : W p l e R s m args below meth c H locs cells slots Q (F0 m (pc + 1) ls (.int (q.2 i.toNatClampNeg) :: r))) : W p l e R s m args below meth c H locs cells slots Q (F0 m pc ls (.int i :: .ref (E.1 + a) :: r)) := by
  obtain ⟨hx, hb, hml, hown, hts, hnm, hcl⟩ := hX
  have hA := hW.1.2 0 _ (ai_tys_at D.2 (by omega))
  have hin := ai_in_s h2
  have hlt : i.toNatClampNeg < q.1 := Nat.not_le.mp fun z => hin (Or.inr z)
  have hc := hP.2 a _ (ai_arr_s h1)
  exact W.iald (v := .int (q.2 i.toNatClampNeg)) hx hb hc (hA.1 q.1 (fun j => .int (q.2 j))) (fun z => by cases z) (by rw [arrV_size]; exact hin) (by rw [arrV_read _ _ hlt]) rfl rfl hd kk
theorem ai_zld (hX : ai_X p s m args meth c mn) (hW : ai_W D E S s) (hP : ai_P D E h.1 H) {a : Nat} {i : Int32} {q : Nat × (Nat → Int32)} {r : List Value} (hd : decode (ai_bc mn) pc = .ok (.baload, 1)) (h1 : ai_arr h a 1 = some q) (h2 : ai_in i q.1 = true)
    (kk : W p l e R s m args below meth c H locs cells slots Q (F0 m (pc + 1) ls (.int (q.2 i.toNatClampNeg) :: r))) : W p l e R s m args below meth c H locs cells slots Q (F0 m pc ls (.int i :: .ref (E.1 + a) :: r)) := by
  obtain ⟨hx, hb, hml, hown, hts, hnm, hcl⟩ := hX
  have hA := hW.1.2 1 _ (ai_tys_at D.2 (by omega))
  have hin := ai_in_s h2
  have hlt : i.toNatClampNeg < q.1 := Nat.not_le.mp fun z => hin (Or.inr z)
  have hc := hP.2 a _ (ai_arr_s h1)
  exact W.zald (v := .int (q.2 i.toNatClampNeg)) hx hb hc (hA.1 q.1 (fun j => .int (q.2 j))) (fun z => by cases z) (by rw [arrV_size]; exact hin) (by rw [arrV_read _ _ hlt]) rfl rfl hd kk
theorem ai_qld (hX : ai_X p s m args meth c mn) (hW : ai_W D E S s) (hP : ai_P D E h.1 H) {a : Nat} {i : Int32} {q : Nat × Nat × (Nat → Option Nat)} {r : List Value} (hd : decode (ai_bc mn) pc = .ok (.aaload, 1)) (h1 : ai_arq h a = some q) (h2 : ai_in i q.2.1 = true) (h3 : 2 ≤ q.1) (h4 : q.1 < 5)
    (kk : W p l e R s m args below meth c H locs cells slots Q (F0 m (pc + 1) ls (ai_v E (va_rf (q.2.2 i.toNatClampNeg)) :: r))) : W p l e R s m args below meth c H locs cells slots Q (F0 m pc ls (.int i :: .ref (E.1 + a) :: r)) := by
  obtain ⟨hx, hb, hml, hown, hts, hnm, hcl⟩ := hX
  have hA := hW.1.2 q.1 _ (ai_tys_at D.2 h4)
  have hin := ai_in_s h2
  have hlt : i.toNatClampNeg < q.2.1 := Nat.not_le.mp fun z => hin (Or.inr z)
  have hc := hP.2 a _ (ai_arq_s h1)
  have hrf : (ai_at q.1).isReference = true := by
    rcases (by omega : q.1 = 2 ∨ q.1 = 3 ∨ q.1 = 4) with z | z | z <;> rw [z] <;> rfl
  exact W.aald (v := ai_v E (va_rf (q.2.2 i.toNatClampNeg))) (ty := ai_at q.1) hx hb hc (hA.1 q.2.1 _) hrf (fun z => by cases z) (by rw [arrV_size]; exact hin) (by rw [arrV_read _ _ hlt]) rfl rfl hd kk
theorem ai_ist (hX : ai_X p s m args meth c mn) (hW : ai_W D E S s) (hP : ai_P D E h.1 H) (hS0 : va_S (fun q => E.1 ≤ q) s.heap H locs) {a : Nat} {i x : Int32} {q : Nat × (Nat → Int32)} {r : List Value} (hd : decode (ai_bc mn) pc = .ok (.iastore, 1)) (h1 : ai_arr h a 0 = some q) (h2 : ai_in i q.1 = true)
    (kk : ∀ (H1 : Heap) (locs1 : List Loc), ai_P D E (h.1.set a (.inl (0, q.1, .inl (upd q.2 i.toNatClampNeg x)))) H1 → va_S (fun q => E.1 ≤ q) s.heap H1 locs1 → W p l e R s m args below meth c H1 locs1 cells slots Q (F0 m (pc + 1) ls r)) : W p l e R s m args below meth c H locs cells slots Q (F0 m pc ls (.int x :: .int i :: .ref (E.1 + a) :: r)) := by
  obtain ⟨hx, hb, hml, hown, hts, hnm, hcl⟩ := hX
  have hA := hW.1.2 0 _ (ai_tys_at D.2 (by omega))
  have hin := ai_in_s h2
  have hc := hP.2 a _ (ai_arr_s h1)
  refine W.iast hx hb hc (hA.1 q.1 (fun j => .int (q.2 j))) (fun z => by cases z) (by rw [arrV_size]; exact hin) rfl rfl hd fun H1 e1 z o => ?_
  refine kk H1 _ (hP.set z o ?_) (ai_S_put hS0 z o)
  show H1[E.1 + a]? = _
  rw [e1, arrV_store]
  congr 2
  funext j
  by_cases hj : j = i.toNatClampNeg
  · subst hj; simp [updV, upd]
  · simp [updV, upd, hj]
theorem ai_zst (hX : ai_X p s m args meth c mn) (hW : ai_W D E S s) (hP : ai_P D E h.1 H) (hS0 : va_S (fun q => E.1 ≤ q) s.heap H locs) {a : Nat} {i x : Int32} {q : Nat × (Nat → Int32)} {r : List Value} (hd : decode (ai_bc mn) pc = .ok (.bastore, 1)) (h1 : ai_arr h a 1 = some q) (h2 : ai_in i q.1 = true) (h3 : x &&& 1 = x)
    (kk : ∀ (H1 : Heap) (locs1 : List Loc), ai_P D E (h.1.set a (.inl (1, q.1, .inl (upd q.2 i.toNatClampNeg x)))) H1 → va_S (fun q => E.1 ≤ q) s.heap H1 locs1 → W p l e R s m args below meth c H1 locs1 cells slots Q (F0 m (pc + 1) ls r)) : W p l e R s m args below meth c H locs cells slots Q (F0 m pc ls (.int x :: .int i :: .ref (E.1 + a) :: r)) := by
  obtain ⟨hx, hb, hml, hown, hts, hnm, hcl⟩ := hX
  have hA := hW.1.2 1 _ (ai_tys_at D.2 (by omega))
  have hin := ai_in_s h2
  have hc := hP.2 a _ (ai_arr_s h1)
  refine W.zast hx hb hc (hA.1 q.1 (fun j => .int (q.2 j))) (fun z => by cases z) (by rw [arrV_size]; exact hin) rfl rfl hd fun H1 e1 z o => ?_
  refine kk H1 _ (hP.set z o ?_) (ai_S_put hS0 z o)
  show H1[E.1 + a]? = _
  have hnar : narrow .boolean (.int x) = .int x := by show Value.int (x &&& 1) = _; rw [h3]
  rw [e1, arrV_store, hnar]
  congr 2
  funext j
  by_cases hj : j = i.toNatClampNeg
  · subst hj; simp [updV, upd]
  · simp [updV, upd, hj]
theorem ai_qst (hX : ai_X p s m args meth c mn) (hW : ai_W D E S s) (hP : ai_P D E h.1 H) (hS0 : va_S (fun q => E.1 ≤ q) s.heap H locs) {a w k : Nat} {fs : List Value} {i : Int32} {q : Nat × Nat × (Nat → Option Nat)} {r : List Value} (hd : decode (ai_bc mn) pc = .ok (.aastore, 1)) (h1 : ai_arq h a = some q) (h2 : ai_in i q.2.1 = true) (h5 : h.1[w]? = some (.inr (k, fs))) (h6 : ai_ao k = some q.1)
    (kk : ∀ (H1 : Heap) (locs1 : List Loc), ai_P D E (h.1.set a (.inl (q.1, q.2.1, .inr (va_up q.2.2 i.toNatClampNeg (some w))))) H1 → va_S (fun q => E.1 ≤ q) s.heap H1 locs1 → W p l e R s m args below meth c H1 locs1 cells slots Q (F0 m (pc + 1) ls r)) : W p l e R s m args below meth c H locs cells slots Q (F0 m pc ls (.ref (E.1 + w) :: .int i :: .ref (E.1 + a) :: r)) := by
  obtain ⟨hx, hb, hml, hown, hts, hnm, hcl⟩ := hX
  obtain ⟨t2, t5, -, hat⟩ := ai_ao_s h6
  have hA := hW.1.2 q.1 _ (ai_tys_at D.2 t5)
  have hin := ai_in_s h2
  have hlt : i.toNatClampNeg < q.2.1 := Nat.not_le.mp fun z => hin (Or.inr z)
  have h0 : ¬ i < 0 := fun z => hin (Or.inl z)
  have hc := hP.2 a _ (ai_arq_s h1)
  obtain ⟨r0, hr, cellV, g1, g2, g3, -⟩ := hP.2 w _ h5
  have hcls := (hW.1.1 k r0 hr).2
  have hA2 := hA.2
  rw [hat] at hA2
  obtain ⟨kA, comp, k1, k2, k3, -⟩ := hA2
  have hcomp : comp = D.1.1 k := by
    have := hcls.1
    rw [(ai_C2_s hr).1] at this
    exact Option.some.inj (k3.symm.trans this)
  subst hcomp
  obtain ⟨kC, hkC, hkd⟩ := hcls.2
  refine W.aast hx hb hc (fun z h => by cases h) (fun h => by cases h) k1 k2 rfl hkC ⟨h0, by rw [arrV_size]; exact hlt⟩ g1 (fun z h => by rw [g3] at h; cases h) (by rw [g2]; exact hkC) (by rw [g2]; exact va_assign hcls) rfl rfl hd fun H1 e1 z o => ?_
  refine kk H1 _ (hP.set z o ?_) (ai_S_put hS0 z o)
  show H1[E.1 + a]? = _
  rw [e1, arrV_store]
  congr 2
  funext j
  by_cases hj : j = i.toNatClampNeg
  · subst hj; simp [updV, va_up, va_rf, ai_v]
  · simp [updV, va_up, hj]
theorem ai_qst0 (hX : ai_X p s m args meth c mn) (hW : ai_W D E S s) (hP : ai_P D E h.1 H) (hS0 : va_S (fun q => E.1 ≤ q) s.heap H locs) {a : Nat} {i : Int32} {q : Nat × Nat × (Nat → Option Nat)} {r : List Value} (hd : decode (ai_bc mn) pc = .ok (.aastore, 1)) (h1 : ai_arq h a = some q) (h2 : ai_in i q.2.1 = true) (h3 : 2 ≤ q.1) (h4 : q.1 < 5)
    (kk : ∀ (H1 : Heap) (locs1 : List Loc), ai_P D E (h.1.set a (.inl (q.1, q.2.1, .inr (va_up q.2.2 i.toNatClampNeg none)))) H1 → va_S (fun q => E.1 ≤ q) s.heap H1 locs1 → W p l e R s m args below meth c H1 locs1 cells slots Q (F0 m (pc + 1) ls r)) : W p l e R s m args below meth c H locs cells slots Q (F0 m pc ls (.null :: .int i :: .ref (E.1 + a) :: r)) := by
  obtain ⟨hx, hb, hml, hown, hts, hnm, hcl⟩ := hX
  have hA := hW.1.2 q.1 _ (ai_tys_at D.2 h4)
  have hin := ai_in_s h2
  have hc := hP.2 a _ (ai_arq_s h1)
  have hat : ∃ C, ai_at q.1 = .object C := by
    rcases (by omega : q.1 = 2 ∨ q.1 = 3 ∨ q.1 = 4) with z | z | z <;> rw [z] <;> exact ⟨_, rfl⟩
  obtain ⟨C, hat⟩ := hat
  refine va_WaastN (C := C) hx hb hc (by rw [← hat]; exact hA.1 q.2.1 _) (fun h => by cases h) (by rw [arrV_size]; exact hin) rfl rfl hd fun H1 e1 z o => ?_
  refine kk H1 _ (hP.set z o ?_) (ai_S_put hS0 z o)
  show H1[E.1 + a]? = _
  rw [e1, arrV_store]
  congr 2
  funext j
  by_cases hj : j = i.toNatClampNeg
  · subst hj; simp [updV, va_up, va_rf, ai_v]
  · simp [updV, va_up, hj]
theorem ai_al (hX : ai_X p s m args meth c mn) (hW : ai_W D E S s) (hP : ai_P D E h.1 H) {a n : Nat} {r : List Value} (hd : decode (ai_bc mn) pc = .ok (.arraylength, 1)) (h1 : ai_alen h a = some n)
    (kk : W p l e R s m args below meth c H locs cells slots Q (F0 m (pc + 1) ls (.int (Int32.ofNat n) :: r))) : W p l e R s m args below meth c H locs cells slots Q (F0 m pc ls (.ref (E.1 + a) :: r)) := by
  obtain ⟨hx, hb, hml, hown, hts, hnm, hcl⟩ := hX
  obtain ⟨t, x, hc0, ht⟩ := ai_alen_s h1
  have hA := hW.1.2 t _ (ai_tys_at D.2 ht)
  have hc := hP.2 a _ hc0
  rcases x with f | f
  · exact W.alen (n := Int32.ofNat n) hx hb hc (hA.1 n _) (by rw [arrV_size] <;> rfl) rfl rfl hd kk
  · exact W.alen (n := Int32.ofNat n) hx hb hc (hA.1 n _) (by rw [arrV_size] <;> rfl) rfl rfl hd kk
end AI
