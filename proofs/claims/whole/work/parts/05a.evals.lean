/-! one instruction of the small machine, as a rule of its answers -/
def mm_c1 (v : Option Value) : Prop := (v.map Value.category).getD 1 = 1
theorem mm_c1_n : mm_c1 none := rfl
theorem mm_c1_i (x : Int32) : mm_c1 (some (.int x)) := rfl
theorem mm_c1_a (x : Nat) : mm_c1 (some (.ref x)) := rfl
def mm_rd (I : mm_I) (a k : Nat) : Int32 := I a k
theorem mm_ct_a (a : Nat) : (Value.ref a).category = 1 := rfl
theorem mm_ct_i (x : Int32) : (Value.int x).category = 1 := rfl
def mm_pu (v : Option Value) (st : List Value) : List Value := v.toList ++ st
theorem mm_pu_n (st : List Value) : mm_pu none st = st := rfl
theorem mm_pu_s (v : Value) (st : List Value) : mm_pu (some v) st = v :: st := rfl
def mm_ix (r : mm_R) (a c : Nat) (i : Int32) : Prop := (mm_S r a).1 = c ∧ vp_in i (mm_S r a).2
theorem mm_w8_0 : mm_w8 [] = true := rfl
theorem mm_w8_1 (x : Value) : mm_w8 [x] = true := by cases x <;> rfl
theorem mm_w8_2 (x y : Value) : mm_w8 [x, y] = true := by cases x <;> cases y <;> rfl
theorem mm_w8_3 (x y z : Value) : mm_w8 [x, y, z] = true := by cases x <;> cases y <;> cases z <;> rfl
theorem mm_w8_4 (x y z w : Value) : mm_w8 [x, y, z, w] = true := by cases x <;> cases y <;> cases z <;> cases w <;> rfl
theorem va_rf_s (a : Nat) : va_rf (some a) = .ref a := rfl
section
variable {j pc : Nat} {cc : ByteArray} {ls : mm_L} {st : List Value} {I : mm_I} {r : mm_R} {Q : Option Value → mm_I → mm_R → Prop}
theorem mm_stp_of {i : Instr} {len : Nat} (hc : mm_c j = cc) (hd : decode cc pc = .ok (i, len)) (hlen : (mm_len i).getD len = len) : mm_stp j pc ls st I r = mm_flt i (mm_act j pc i ls st I r) := by
  unfold mm_stp
  rw [hc, hd]
  exact if_pos hlen
theorem mm_E_if {c : Prop} [Decidable c] {pc' : Nat} {ls' : mm_L} {st' : List Value} {I' : mm_I} {r' : mm_R} {i : Instr} (h : mm_stp j pc ls st I r = mm_flt i (if c then mm_nx pc' ls' st' I' r' else none)) : mm_E j pc ls st I r Q ↔ c ∧ mm_E j pc' ls' st' I' r' Q := by
  by_cases hc : c
  · rw [if_pos hc] at h
    rw [mm_E_nx h]
    exact ⟨fun q => ⟨hc, q⟩, fun q => q.2⟩
  · rw [if_neg hc] at h
    rw [mm_E_no h]
    exact ⟨False.elim, fun q => absurd q.1 hc⟩
theorem me_il {k : Fin 4} {x : Int32} (hc : mm_c j = cc) (hd : decode cc pc = .ok (.iload_n k, 1)) (hl : mm_ld ls k = some (.int x)) : mm_E j pc ls st I r Q ↔ mm_E j (pc + 1) ls (.int x :: st) I r Q := mm_E_nx ((mm_stp_of hc hd rfl).trans (by simp only [mm_act, hl]; rfl))
theorem me_il2 {k : Nat} {x : Int32} (hc : mm_c j = cc) (hd : decode cc pc = .ok (.iload k, 2)) (hl : mm_ld ls k = some (.int x)) : mm_E j pc ls st I r Q ↔ mm_E j (pc + 2) ls (.int x :: st) I r Q := mm_E_nx ((mm_stp_of hc hd rfl).trans (by simp only [mm_act, hl]; rfl))
theorem me_al {k : Fin 4} {x : Nat} (hc : mm_c j = cc) (hd : decode cc pc = .ok (.aload_n k, 1)) (hl : mm_ld ls k = some (.ref x)) : mm_E j pc ls st I r Q ↔ mm_E j (pc + 1) ls (.ref x :: st) I r Q := mm_E_nx ((mm_stp_of hc hd rfl).trans (by simp only [mm_act, hl]; rfl))
theorem me_al2 {k : Nat} {x : Nat} (hc : mm_c j = cc) (hd : decode cc pc = .ok (.aload k, 2)) (hl : mm_ld ls k = some (.ref x)) : mm_E j pc ls st I r Q ↔ mm_E j (pc + 2) ls (.ref x :: st) I r Q := mm_E_nx ((mm_stp_of hc hd rfl).trans (by simp only [mm_act, hl]; rfl))
theorem me_ll {k : Fin 4} {x : Int64} (hc : mm_c j = cc) (hd : decode cc pc = .ok (.lload_n k, 1)) (hl : mm_ld ls k = some (.long x)) : mm_E j pc ls st I r Q ↔ mm_E j (pc + 1) ls (.long x :: st) I r Q := mm_E_nx ((mm_stp_of hc hd rfl).trans (by simp only [mm_act, hl]; rfl))
theorem me_ll2 {k : Nat} {x : Int64} (hc : mm_c j = cc) (hd : decode cc pc = .ok (.lload k, 2)) (hl : mm_ld ls k = some (.long x)) : mm_E j pc ls st I r Q ↔ mm_E j (pc + 2) ls (.long x :: st) I r Q := mm_E_nx ((mm_stp_of hc hd rfl).trans (by simp only [mm_act, hl]; rfl))
theorem me_ic {n : Int} {v : Int32} (hc : mm_c j = cc) (hd : decode cc pc = .ok (.iconst n, 1)) (hv : Int32.ofInt n = v) : mm_E j pc ls st I r Q ↔ mm_E j (pc + 1) ls (.int v :: st) I r Q := by subst hv; exact mm_E_nx ((mm_stp_of hc hd rfl).trans rfl)
theorem me_bi {n : Int} {v : Int32} (hc : mm_c j = cc) (hd : decode cc pc = .ok (.bipush n, 2)) (hv : (Int8.ofInt n).toInt32 = v) : mm_E j pc ls st I r Q ↔ mm_E j (pc + 2) ls (.int v :: st) I r Q := by subst hv; exact mm_E_nx ((mm_stp_of hc hd rfl).trans rfl)
theorem me_si {n : Int} {v : Int32} (hc : mm_c j = cc) (hd : decode cc pc = .ok (.sipush n, 3)) (hv : (Int16.ofInt n).toInt32 = v) : mm_E j pc ls st I r Q ↔ mm_E j (pc + 3) ls (.int v :: st) I r Q := by subst hv; exact mm_E_nx ((mm_stp_of hc hd rfl).trans rfl)
theorem me_lc {n : Fin 2} {v : Int64} (hc : mm_c j = cc) (hd : decode cc pc = .ok (.lconst n, 1)) (hv : Int64.ofNat (n : Nat) = v) : mm_E j pc ls st I r Q ↔ mm_E j (pc + 1) ls (.long v :: st) I r Q := by subst hv; exact mm_E_nx ((mm_stp_of hc hd rfl).trans rfl)
theorem me_ldc {k : Nat} {v : Int32} (hc : mm_c j = cc) (hd : decode cc pc = .ok (.ldc k, 2)) (hv : mm_ci (mm_o j) k = some v) : mm_E j pc ls st I r Q ↔ mm_E j (pc + 2) ls (.int v :: st) I r Q := mm_E_nx ((mm_stp_of hc hd rfl).trans (by simp only [mm_act, hv]; rfl))
theorem me_ldcw {k : Nat} {v : Int32} (hc : mm_c j = cc) (hd : decode cc pc = .ok (.ldc_w k, 3)) (hv : mm_ci (mm_o j) k = some v) : mm_E j pc ls st I r Q ↔ mm_E j (pc + 3) ls (.int v :: st) I r Q := mm_E_nx ((mm_stp_of hc hd rfl).trans (by simp only [mm_act, hv]; rfl))
theorem me_ldc2 {k : Nat} {v : Int64} (hc : mm_c j = cc) (hd : decode cc pc = .ok (.ldc2_w k, 3)) (hv : mm_cl (mm_o j) k = some v) : mm_E j pc ls st I r Q ↔ mm_E j (pc + 3) ls (.long v :: st) I r Q := mm_E_nx ((mm_stp_of hc hd rfl).trans (by simp only [mm_act, hv]; rfl))
theorem mm_s1_c {k : Nat} {v : Value} {ls' : mm_L} {g : mm_L → Option mm_O} (hn : k < ls.length) (h0 : k = 0 ∨ mm_c1 (mm_ld ls (k - 1))) (hs : ls.set k (some v) = ls') : mm_s1 ls k v g = g ls' := by
  unfold mm_s1
  rw [if_pos ⟨hn, h0⟩, hs]
theorem mm_s1_x {k : Nat} {v : Value} {g : mm_L → Option mm_O} (h0 : ¬ (k = 0 ∨ mm_c1 (mm_ld ls (k - 1)))) : mm_s1 ls k v g = none := by
  unfold mm_s1
  rw [if_neg (fun h => h0 h.2)]
theorem me_st {k pc' : Nat} {v : Value} {i : Instr} {len : Nat} {ls' : mm_L} {st' : List Value} {c : Prop} (hc : mm_c j = cc) (hd : decode cc pc = .ok (i, len)) (hlen : (mm_len i).getD len = len) (ha : mm_act j pc i ls st I r = mm_s1 ls k v (fun ls2 => mm_nx pc' ls2 st' I r)) (hn : k < ls.length) (hs : ls.set k (some v) = ls') (h0 : c ↔ (k = 0 ∨ mm_c1 (mm_ld ls (k - 1)))) : mm_E j pc ls st I r Q ↔ c ∧ mm_E j pc' ls' st' I r Q := by
  by_cases hq : c
  · rw [mm_E_nx (pc' := pc') (ls' := ls') (st' := st') (I' := I) (r' := r) (by rw [mm_stp_of hc hd hlen, ha, mm_s1_c hn (h0.mp hq) hs]; rfl)]
    exact ⟨fun q => ⟨hq, q⟩, fun q => q.2⟩
  · rw [mm_E_no (by rw [mm_stp_of hc hd hlen, ha, mm_s1_x (fun h => hq (h0.mpr h))]; rfl)]
    exact ⟨False.elim, fun q => absurd q.1 hq⟩
theorem me_gi {k ci f a : Nat} (hc : mm_c j = cc) (hd : decode cc pc = .ok (.getfield k, 3)) (hf : mm_f (mm_o j) k = some (ci, f)) (hi : mm_ik ci f = true) : mm_E j pc ls (.ref a :: st) I r Q ↔ mm_S r a = (1, ci) ∧ mm_E j (pc + 3) ls (.int (I a f) :: st) I r Q := mm_E_if ((mm_stp_of hc hd rfl).trans (by simp only [mm_act, hf, mm_gf, mm_a1, hi]; rfl))
theorem me_gr {k ci f a : Nat} (hc : mm_c j = cc) (hd : decode cc pc = .ok (.getfield k, 3)) (hf : mm_f (mm_o j) k = some (ci, f)) (hi : mm_ik ci f = false) : mm_E j pc ls (.ref a :: st) I r Q ↔ mm_S r a = (1, ci) ∧ mm_E j (pc + 3) ls (va_rf (mm_P r a f) :: st) I r Q := mm_E_if ((mm_stp_of hc hd rfl).trans (by simp only [mm_act, hf, mm_gf, mm_a1, hi]; rfl))
theorem me_pi {k ci f a : Nat} {x : Int32} (hc : mm_c j = cc) (hd : decode cc pc = .ok (.putfield k, 3)) (hf : mm_f (mm_o j) k = some (ci, f)) (hi : mm_ik ci f = true ∧ (mm_Tn ci f).2.2.2 = false ∧ mm_bo ci f = false) : mm_E j pc ls (.int x :: .ref a :: st) I r Q ↔ mm_S r a = (1, ci) ∧ mm_E j (pc + 3) ls st (mm_uI I a f x) r Q := by
  rw [mm_E_if (i := .putfield k) (j := j) (pc := pc) (c := mm_S r a = (1, ci) ∧ mm_ik ci f = true ∧ (mm_Tn ci f).2.2.2 = false ∧ (mm_bo ci f = false ∨ x = 0 ∨ x = 1)) (pc' := pc + 3) (ls' := ls) (st' := st) (I' := mm_uI I a f x) (r' := r) ((mm_stp_of hc hd rfl).trans (by simp only [mm_act, hf, mm_pf, mm_pt]))]
  exact ⟨fun h => ⟨h.1.1, h.2⟩, fun h => ⟨⟨h.1, hi.1, hi.2.1, Or.inl hi.2.2⟩, h.2⟩⟩
theorem me_pb {k ci f a : Nat} {x : Int32} (hc : mm_c j = cc) (hd : decode cc pc = .ok (.putfield k, 3)) (hf : mm_f (mm_o j) k = some (ci, f)) (hi : mm_ik ci f = true ∧ (mm_Tn ci f).2.2.2 = false ∧ mm_bo ci f = true) : mm_E j pc ls (.int x :: .ref a :: st) I r Q ↔ (mm_S r a = (1, ci) ∧ (x = 0 ∨ x = 1)) ∧ mm_E j (pc + 3) ls st (mm_uI I a f x) r Q := by
  rw [mm_E_if (i := .putfield k) (j := j) (pc := pc) (c := mm_S r a = (1, ci) ∧ mm_ik ci f = true ∧ (mm_Tn ci f).2.2.2 = false ∧ (mm_bo ci f = false ∨ x = 0 ∨ x = 1)) (pc' := pc + 3) (ls' := ls) (st' := st) (I' := mm_uI I a f x) (r' := r) ((mm_stp_of hc hd rfl).trans (by simp only [mm_act, hf, mm_pf, mm_pt]))]
  exact ⟨fun h => ⟨⟨h.1.1, by rcases h.1.2.2.2 with q | q; (rw [hi.2.2] at q; cases q); exact q⟩, h.2⟩, fun h => ⟨⟨h.1.1, hi.1, hi.2.1, Or.inr h.1.2⟩, h.2⟩⟩
theorem me_pr {k ci f a x : Nat} (hc : mm_c j = cc) (hd : decode cc pc = .ok (.putfield k, 3)) (hf : mm_f (mm_o j) k = some (ci, f)) (hi : mm_ik ci f = false ∧ (mm_Tn ci f).2.2.2 = true ∧ mm_k j = 2 ∧ mm_o j = ci) : mm_E j pc ls (.ref x :: .ref a :: st) I r Q ↔ mm_S r a = (1, ci) ∧ mm_E j (pc + 3) ls st I (mm_uP r a f (some x)) Q := by
  rw [mm_E_if (i := .putfield k) (j := j) (pc := pc) (c := mm_S r a = (1, ci) ∧ mm_ik ci f = false ∧ (mm_Tn ci f).2.2.2 = true ∧ mm_k j = 2 ∧ mm_o j = ci) (pc' := pc + 3) (ls' := ls) (st' := st) (I' := I) (r' := mm_uP r a f (some x)) ((mm_stp_of hc hd rfl).trans (by simp only [mm_act, hf, mm_pf, mm_pt]))]
  exact ⟨fun h => ⟨h.1.1, h.2⟩, fun h => ⟨⟨h.1, hi⟩, h.2⟩⟩
theorem me_ia {a : Nat} {i : Int32} (hc : mm_c j = cc) (hd : decode cc pc = .ok (.iaload, 1)) : mm_E j pc ls (.int i :: .ref a :: st) I r Q ↔ mm_ix r a 2 i ∧ mm_E j (pc + 1) ls (.int (I a i.toNatClampNeg) :: st) I r Q := mm_E_if (i := .iaload) (c := (mm_S r a).1 = 2 ∧ ¬ (i < 0 ∨ (mm_S r a).2 ≤ i.toNatClampNeg)) ((mm_stp_of hc hd rfl).trans rfl)
theorem me_is {a : Nat} {i x : Int32} (hc : mm_c j = cc) (hd : decode cc pc = .ok (.iastore, 1)) : mm_E j pc ls (.int x :: .int i :: .ref a :: st) I r Q ↔ mm_ix r a 2 i ∧ mm_E j (pc + 1) ls st (mm_uI I a i.toNatClampNeg x) r Q := mm_E_if (i := .iastore) (c := (mm_S r a).1 = 2 ∧ ¬ (i < 0 ∨ (mm_S r a).2 ≤ i.toNatClampNeg)) ((mm_stp_of hc hd rfl).trans rfl)
theorem me_la {a : Nat} {i : Int32} (hc : mm_c j = cc) (hd : decode cc pc = .ok (.laload, 1)) : mm_E j pc ls (.int i :: .ref a :: st) I r Q ↔ mm_ix r a 3 i ∧ mm_E j (pc + 1) ls (.long (mm_G r a i.toNatClampNeg) :: st) I r Q := mm_E_if (i := .laload) (c := (mm_S r a).1 = 3 ∧ ¬ (i < 0 ∨ (mm_S r a).2 ≤ i.toNatClampNeg)) ((mm_stp_of hc hd rfl).trans rfl)
theorem me_ls {a : Nat} {i : Int32} {x : Int64} (hc : mm_c j = cc) (hd : decode cc pc = .ok (.lastore, 1)) : mm_E j pc ls (.long x :: .int i :: .ref a :: st) I r Q ↔ mm_ix r a 3 i ∧ mm_E j (pc + 1) ls st I (mm_uG r a i.toNatClampNeg x) Q := mm_E_if (i := .lastore) (c := (mm_S r a).1 = 3 ∧ ¬ (i < 0 ∨ (mm_S r a).2 ≤ i.toNatClampNeg)) ((mm_stp_of hc hd rfl).trans rfl)
theorem me_aa {a : Nat} {i : Int32} (hc : mm_c j = cc) (hd : decode cc pc = .ok (.aaload, 1)) : mm_E j pc ls (.int i :: .ref a :: st) I r Q ↔ (((mm_S r a).1 = 4 ∨ (mm_S r a).1 = 5) ∧ vp_in i (mm_S r a).2) ∧ mm_E j (pc + 1) ls (va_rf (mm_P r a i.toNatClampNeg) :: st) I r Q := mm_E_if (i := .aaload) (c := ((mm_S r a).1 = 4 ∨ (mm_S r a).1 = 5) ∧ ¬ (i < 0 ∨ (mm_S r a).2 ≤ i.toNatClampNeg)) ((mm_stp_of hc hd rfl).trans rfl)
theorem me_as {a x : Nat} {i : Int32} (hc : mm_c j = cc) (hd : decode cc pc = .ok (.aastore, 1)) : mm_E j pc ls (.ref x :: .int i :: .ref a :: st) I r Q ↔ (((mm_S r a).1 = 4 ∧ mm_S r x = (1, 0) ∨ (mm_S r a).1 = 5 ∧ mm_S r x = (1, 3)) ∧ vp_in i (mm_S r a).2) ∧ mm_E j (pc + 1) ls st I (mm_uP r a i.toNatClampNeg (some x)) Q := mm_E_if (i := .aastore) (c := ((mm_S r a).1 = 4 ∧ mm_S r x = (1, 0) ∨ (mm_S r a).1 = 5 ∧ mm_S r x = (1, 3)) ∧ ¬ (i < 0 ∨ (mm_S r a).2 ≤ i.toNatClampNeg)) ((mm_stp_of hc hd rfl).trans rfl)
theorem me_nai {x : Int32} (hc : mm_c j = cc) (hd : decode cc pc = .ok (.newarray .int, 2)) : mm_E j pc ls (.int x :: st) I r Q ↔ (¬ x < 0 ∧ x.toNatClampNeg ≤ 1000) ∧ mm_E j (pc + 2) ls (.ref (mm_t r) :: st) (mm_nI I r) (mm_nR r (2, x.toNatClampNeg) x.toNatClampNeg) Q := mm_E_if ((mm_stp_of hc hd rfl).trans rfl)
theorem me_nal {x : Int32} (hc : mm_c j = cc) (hd : decode cc pc = .ok (.newarray .long, 2)) : mm_E j pc ls (.int x :: st) I r Q ↔ (¬ x < 0 ∧ x.toNatClampNeg ≤ 1000) ∧ mm_E j (pc + 2) ls (.ref (mm_t r) :: st) (mm_nI I r) (mm_nR r (3, x.toNatClampNeg) x.toNatClampNeg) Q := mm_E_if ((mm_stp_of hc hd rfl).trans rfl)
theorem me_na0 {k : Nat} {x : Int32} (hc : mm_c j = cc) (hd : decode cc pc = .ok (.anewarray k, 3)) (hk : mm_kk (mm_o j) k = some 0) : mm_E j pc ls (.int x :: st) I r Q ↔ (¬ x < 0 ∧ x.toNatClampNeg ≤ 1000) ∧ mm_E j (pc + 3) ls (.ref (mm_t r) :: st) (mm_nI I r) (mm_nR r (4, x.toNatClampNeg) x.toNatClampNeg) Q := mm_E_if ((mm_stp_of hc hd rfl).trans (by simp only [mm_act, hk]; rfl))
theorem me_na3 {k : Nat} {x : Int32} (hc : mm_c j = cc) (hd : decode cc pc = .ok (.anewarray k, 3)) (hk : mm_kk (mm_o j) k = some 3) : mm_E j pc ls (.int x :: st) I r Q ↔ (¬ x < 0 ∧ x.toNatClampNeg ≤ 1000) ∧ mm_E j (pc + 3) ls (.ref (mm_t r) :: st) (mm_nI I r) (mm_nR r (5, x.toNatClampNeg) x.toNatClampNeg) Q := mm_E_if ((mm_stp_of hc hd rfl).trans (by simp only [mm_act, hk]; rfl))
theorem me_new {k ci : Nat} (hc : mm_c j = cc) (hd : decode cc pc = .ok (.new k, 3)) (hk : mm_kk (mm_o j) k = some ci) : mm_E j pc ls st I r Q ↔ mm_E j (pc + 3) ls (.ref (mm_t r) :: st) (mm_nI I r) (mm_nR r (1, ci) (mm_N ci)) Q := mm_E_nx ((mm_stp_of hc hd rfl).trans (by simp only [mm_act, hk]; rfl))
theorem me_dup {v : Value} (hc : mm_c j = cc) (hd : decode cc pc = .ok (.dup, 1)) : mm_E j pc ls (v :: st) I r Q ↔ v.category = 1 ∧ mm_E j (pc + 1) ls (v :: v :: st) I r Q := mm_E_if ((mm_stp_of hc hd rfl).trans rfl)
theorem me_dup2 {v w : Value} (hc : mm_c j = cc) (hd : decode cc pc = .ok (.dup2, 1)) : mm_E j pc ls (w :: v :: st) I r Q ↔ (v.category = 1 ∧ w.category = 1) ∧ mm_E j (pc + 1) ls (w :: v :: w :: v :: st) I r Q := mm_E_if ((mm_stp_of hc hd rfl).trans rfl)
theorem me_pop {v : Value} (hc : mm_c j = cc) (hd : decode cc pc = .ok (.pop, 1)) : mm_E j pc ls (v :: st) I r Q ↔ v.category = 1 ∧ mm_E j (pc + 1) ls st I r Q := mm_E_if ((mm_stp_of hc hd rfl).trans rfl)
theorem me_iadd {x y : Int32} (hc : mm_c j = cc) (hd : decode cc pc = .ok (.iadd, 1)) : mm_E j pc ls (.int y :: .int x :: st) I r Q ↔ mm_E j (pc + 1) ls (.int (x + y) :: st) I r Q := mm_E_nx ((mm_stp_of hc hd rfl).trans rfl)
theorem me_isub {x y : Int32} (hc : mm_c j = cc) (hd : decode cc pc = .ok (.isub, 1)) : mm_E j pc ls (.int y :: .int x :: st) I r Q ↔ mm_E j (pc + 1) ls (.int (x - y) :: st) I r Q := mm_E_nx ((mm_stp_of hc hd rfl).trans rfl)
theorem me_imul {x y : Int32} (hc : mm_c j = cc) (hd : decode cc pc = .ok (.imul, 1)) : mm_E j pc ls (.int y :: .int x :: st) I r Q ↔ mm_E j (pc + 1) ls (.int (x * y) :: st) I r Q := mm_E_nx ((mm_stp_of hc hd rfl).trans rfl)
theorem me_iand {x y : Int32} (hc : mm_c j = cc) (hd : decode cc pc = .ok (.iand, 1)) : mm_E j pc ls (.int y :: .int x :: st) I r Q ↔ mm_E j (pc + 1) ls (.int (x &&& y) :: st) I r Q := mm_E_nx ((mm_stp_of hc hd rfl).trans rfl)
theorem me_ior {x y : Int32} (hc : mm_c j = cc) (hd : decode cc pc = .ok (.ior, 1)) : mm_E j pc ls (.int y :: .int x :: st) I r Q ↔ mm_E j (pc + 1) ls (.int (x ||| y) :: st) I r Q := mm_E_nx ((mm_stp_of hc hd rfl).trans rfl)
theorem me_ishl {x y : Int32} (hc : mm_c j = cc) (hd : decode cc pc = .ok (.ishl, 1)) : mm_E j pc ls (.int y :: .int x :: st) I r Q ↔ mm_E j (pc + 1) ls (.int (x <<< (y &&& 31)) :: st) I r Q := mm_E_nx ((mm_stp_of hc hd rfl).trans rfl)
theorem me_ishr {x y : Int32} (hc : mm_c j = cc) (hd : decode cc pc = .ok (.ishr, 1)) : mm_E j pc ls (.int y :: .int x :: st) I r Q ↔ mm_E j (pc + 1) ls (.int (x >>> (y &&& 31)) :: st) I r Q := mm_E_nx ((mm_stp_of hc hd rfl).trans rfl)
theorem me_iushr {x y : Int32} (hc : mm_c j = cc) (hd : decode cc pc = .ok (.iushr, 1)) : mm_E j pc ls (.int y :: .int x :: st) I r Q ↔ mm_E j (pc + 1) ls (.int ((x.toUInt32 >>> (y.toUInt32 &&& Int32.toUInt32 31)).toInt32) :: st) I r Q := mm_E_nx ((mm_stp_of hc hd rfl).trans rfl)
theorem me_idiv {x y : Int32} (hc : mm_c j = cc) (hd : decode cc pc = .ok (.idiv, 1)) : mm_E j pc ls (.int y :: .int x :: st) I r Q ↔ ¬ y = 0 ∧ mm_E j (pc + 1) ls (.int (x / y) :: st) I r Q := by
  by_cases hy : y = 0
  · rw [mm_E_no ((mm_stp_of hc hd rfl).trans (by simp only [mm_act, mm_i2]; rw [if_pos hy]; rfl))]
    exact ⟨False.elim, fun q => q.1 hy⟩
  · rw [mm_E_nx (pc' := pc + 1) (ls' := ls) (st' := .int (x / y) :: st) (I' := I) (r' := r) ((mm_stp_of hc hd rfl).trans (by simp only [mm_act, mm_i2]; rw [if_neg hy]; rfl))]
    exact ⟨fun q => ⟨hy, q⟩, fun q => q.2⟩
theorem me_irem {x y : Int32} (hc : mm_c j = cc) (hd : decode cc pc = .ok (.irem, 1)) : mm_E j pc ls (.int y :: .int x :: st) I r Q ↔ ¬ y = 0 ∧ mm_E j (pc + 1) ls (.int (x - x / y * y) :: st) I r Q := by
  by_cases hy : y = 0
  · rw [mm_E_no ((mm_stp_of hc hd rfl).trans (by simp only [mm_act, mm_i2]; rw [if_pos hy]; rfl))]
    exact ⟨False.elim, fun q => q.1 hy⟩
  · rw [mm_E_nx (pc' := pc + 1) (ls' := ls) (st' := .int (x - x / y * y) :: st) (I' := I) (r' := r) ((mm_stp_of hc hd rfl).trans (by simp only [mm_act, mm_i2]; rw [if_neg hy]; rfl))]
    exact ⟨fun q => ⟨hy, q⟩, fun q => q.2⟩
theorem me_i2l {x : Int32} (hc : mm_c j = cc) (hd : decode cc pc = .ok (.i2l, 1)) : mm_E j pc ls (.int x :: st) I r Q ↔ mm_E j (pc + 1) ls (.long x.toInt64 :: st) I r Q := mm_E_nx ((mm_stp_of hc hd rfl).trans rfl)
theorem me_i2b {x : Int32} (hc : mm_c j = cc) (hd : decode cc pc = .ok (.i2b, 1)) : mm_E j pc ls (.int x :: st) I r Q ↔ mm_E j (pc + 1) ls (.int x.toInt8.toInt32 :: st) I r Q := mm_E_nx ((mm_stp_of hc hd rfl).trans rfl)
theorem me_i2s {x : Int32} (hc : mm_c j = cc) (hd : decode cc pc = .ok (.i2s, 1)) : mm_E j pc ls (.int x :: st) I r Q ↔ mm_E j (pc + 1) ls (.int x.toInt16.toInt32 :: st) I r Q := mm_E_nx ((mm_stp_of hc hd rfl).trans rfl)
theorem me_l2i {x : Int64} (hc : mm_c j = cc) (hd : decode cc pc = .ok (.l2i, 1)) : mm_E j pc ls (.long x :: st) I r Q ↔ mm_E j (pc + 1) ls (.int x.toInt32 :: st) I r Q := mm_E_nx ((mm_stp_of hc hd rfl).trans rfl)
theorem me_ladd {x y : Int64} (hc : mm_c j = cc) (hd : decode cc pc = .ok (.ladd, 1)) : mm_E j pc ls (.long y :: .long x :: st) I r Q ↔ mm_E j (pc + 1) ls (.long (x + y) :: st) I r Q := mm_E_nx ((mm_stp_of hc hd rfl).trans rfl)
theorem me_lmul {x y : Int64} (hc : mm_c j = cc) (hd : decode cc pc = .ok (.lmul, 1)) : mm_E j pc ls (.long y :: .long x :: st) I r Q ↔ mm_E j (pc + 1) ls (.long (x * y) :: st) I r Q := mm_E_nx ((mm_stp_of hc hd rfl).trans rfl)
theorem me_land {x y : Int64} (hc : mm_c j = cc) (hd : decode cc pc = .ok (.land, 1)) : mm_E j pc ls (.long y :: .long x :: st) I r Q ↔ mm_E j (pc + 1) ls (.long (x &&& y) :: st) I r Q := mm_E_nx ((mm_stp_of hc hd rfl).trans rfl)
theorem me_lcmp {x y : Int64} (hc : mm_c j = cc) (hd : decode cc pc = .ok (.lcmp, 1)) : mm_E j pc ls (.long y :: .long x :: st) I r Q ↔ mm_E j (pc + 1) ls (.int (lg_cmp x y) :: st) I r Q := mm_E_nx ((mm_stp_of hc hd rfl).trans rfl)
theorem me_lrem {x y : Int64} (hc : mm_c j = cc) (hd : decode cc pc = .ok (.lrem, 1)) : mm_E j pc ls (.long y :: .long x :: st) I r Q ↔ ¬ y = 0 ∧ mm_E j (pc + 1) ls (.long (x - x / y * y) :: st) I r Q := by
  by_cases hy : y = 0
  · rw [mm_E_no ((mm_stp_of hc hd rfl).trans (by simp only [mm_act, mm_l2]; rw [if_pos hy]; rfl))]
    exact ⟨False.elim, fun q => q.1 hy⟩
  · rw [mm_E_nx (pc' := pc + 1) (ls' := ls) (st' := .long (x - x / y * y) :: st) (I' := I) (r' := r) ((mm_stp_of hc hd rfl).trans (by simp only [mm_act, mm_l2]; rw [if_neg hy]; rfl))]
    exact ⟨fun q => ⟨hy, q⟩, fun q => q.2⟩
theorem me_goto {off : Int} {tgt : Nat} (hc : mm_c j = cc) (hd : decode cc pc = .ok (.goto off, 3)) (ht : (pc : Int) + off = (tgt : Int)) : mm_E j pc ls st I r Q ↔ mm_E j tgt ls st I r Q := mm_E_nx ((mm_stp_of hc hd rfl).trans (by simp only [mm_act, mm_jp, ht]; rw [if_pos (Int.natCast_nonneg tgt)]; rfl))
theorem mm_E_go {i : Instr} {P : Prop} [Decidable P] {off : Int} {tgt : Nat} (ht : (pc : Int) + off = (tgt : Int)) {st' : List Value} (h : mm_stp j pc ls st I r = mm_flt i (mm_go (decide P) pc off ls st' I r)) : mm_E j pc ls st I r Q ↔ if P then mm_E j tgt ls st' I r Q else mm_E j (pc + 3) ls st' I r Q := by
  unfold mm_go at h
  rw [ht, if_pos (Int.natCast_nonneg tgt)] at h
  by_cases hP : P
  · rw [if_pos hP]
    rw [decide_eq_true hP, if_pos rfl] at h
    exact mm_E_nx h
  · rw [if_neg hP]
    rw [decide_eq_false hP, if_neg (by decide)] at h
    exact mm_E_nx h
theorem me_ceq {x y : Int32} {off : Int} {tgt : Nat} (hc : mm_c j = cc) (hd : decode cc pc = .ok (.if_icmp .eq off, 3)) (ht : (pc : Int) + off = (tgt : Int)) : mm_E j pc ls (.int y :: .int x :: st) I r Q ↔ if x = y then mm_E j tgt ls st I r Q else mm_E j (pc + 3) ls st I r Q := mm_E_go ht ((mm_stp_of hc hd rfl).trans rfl)
theorem me_zeq {x : Int32} {off : Int} {tgt : Nat} (hc : mm_c j = cc) (hd : decode cc pc = .ok (.ifCond .eq off, 3)) (ht : (pc : Int) + off = (tgt : Int)) : mm_E j pc ls (.int x :: st) I r Q ↔ if x = 0 then mm_E j tgt ls st I r Q else mm_E j (pc + 3) ls st I r Q := mm_E_go ht ((mm_stp_of hc hd rfl).trans rfl)
theorem me_cne {x y : Int32} {off : Int} {tgt : Nat} (hc : mm_c j = cc) (hd : decode cc pc = .ok (.if_icmp .ne off, 3)) (ht : (pc : Int) + off = (tgt : Int)) : mm_E j pc ls (.int y :: .int x :: st) I r Q ↔ if ¬ x = y then mm_E j tgt ls st I r Q else mm_E j (pc + 3) ls st I r Q := mm_E_go ht ((mm_stp_of hc hd rfl).trans rfl)
theorem me_zne {x : Int32} {off : Int} {tgt : Nat} (hc : mm_c j = cc) (hd : decode cc pc = .ok (.ifCond .ne off, 3)) (ht : (pc : Int) + off = (tgt : Int)) : mm_E j pc ls (.int x :: st) I r Q ↔ if ¬ x = 0 then mm_E j tgt ls st I r Q else mm_E j (pc + 3) ls st I r Q := mm_E_go ht ((mm_stp_of hc hd rfl).trans rfl)
theorem me_clt {x y : Int32} {off : Int} {tgt : Nat} (hc : mm_c j = cc) (hd : decode cc pc = .ok (.if_icmp .lt off, 3)) (ht : (pc : Int) + off = (tgt : Int)) : mm_E j pc ls (.int y :: .int x :: st) I r Q ↔ if x < y then mm_E j tgt ls st I r Q else mm_E j (pc + 3) ls st I r Q := mm_E_go ht ((mm_stp_of hc hd rfl).trans rfl)
theorem me_zlt {x : Int32} {off : Int} {tgt : Nat} (hc : mm_c j = cc) (hd : decode cc pc = .ok (.ifCond .lt off, 3)) (ht : (pc : Int) + off = (tgt : Int)) : mm_E j pc ls (.int x :: st) I r Q ↔ if x < 0 then mm_E j tgt ls st I r Q else mm_E j (pc + 3) ls st I r Q := mm_E_go ht ((mm_stp_of hc hd rfl).trans rfl)
theorem me_cge {x y : Int32} {off : Int} {tgt : Nat} (hc : mm_c j = cc) (hd : decode cc pc = .ok (.if_icmp .ge off, 3)) (ht : (pc : Int) + off = (tgt : Int)) : mm_E j pc ls (.int y :: .int x :: st) I r Q ↔ if y ≤ x then mm_E j tgt ls st I r Q else mm_E j (pc + 3) ls st I r Q := mm_E_go ht ((mm_stp_of hc hd rfl).trans rfl)
theorem me_zge {x : Int32} {off : Int} {tgt : Nat} (hc : mm_c j = cc) (hd : decode cc pc = .ok (.ifCond .ge off, 3)) (ht : (pc : Int) + off = (tgt : Int)) : mm_E j pc ls (.int x :: st) I r Q ↔ if 0 ≤ x then mm_E j tgt ls st I r Q else mm_E j (pc + 3) ls st I r Q := mm_E_go ht ((mm_stp_of hc hd rfl).trans rfl)
theorem me_cgt {x y : Int32} {off : Int} {tgt : Nat} (hc : mm_c j = cc) (hd : decode cc pc = .ok (.if_icmp .gt off, 3)) (ht : (pc : Int) + off = (tgt : Int)) : mm_E j pc ls (.int y :: .int x :: st) I r Q ↔ if y < x then mm_E j tgt ls st I r Q else mm_E j (pc + 3) ls st I r Q := mm_E_go ht ((mm_stp_of hc hd rfl).trans rfl)
theorem me_zgt {x : Int32} {off : Int} {tgt : Nat} (hc : mm_c j = cc) (hd : decode cc pc = .ok (.ifCond .gt off, 3)) (ht : (pc : Int) + off = (tgt : Int)) : mm_E j pc ls (.int x :: st) I r Q ↔ if 0 < x then mm_E j tgt ls st I r Q else mm_E j (pc + 3) ls st I r Q := mm_E_go ht ((mm_stp_of hc hd rfl).trans rfl)
theorem me_cle {x y : Int32} {off : Int} {tgt : Nat} (hc : mm_c j = cc) (hd : decode cc pc = .ok (.if_icmp .le off, 3)) (ht : (pc : Int) + off = (tgt : Int)) : mm_E j pc ls (.int y :: .int x :: st) I r Q ↔ if x ≤ y then mm_E j tgt ls st I r Q else mm_E j (pc + 3) ls st I r Q := mm_E_go ht ((mm_stp_of hc hd rfl).trans rfl)
theorem me_zle {x : Int32} {off : Int} {tgt : Nat} (hc : mm_c j = cc) (hd : decode cc pc = .ok (.ifCond .le off, 3)) (ht : (pc : Int) + off = (tgt : Int)) : mm_E j pc ls (.int x :: st) I r Q ↔ if x ≤ 0 then mm_E j tgt ls st I r Q else mm_E j (pc + 3) ls st I r Q := mm_E_go ht ((mm_stp_of hc hd rfl).trans rfl)
theorem me_ri {x : Int32} (hc : mm_c j = cc) (hd : decode cc pc = .ok (.ireturn, 1)) (hr : mm_r j = some .int) : mm_E j pc ls [.int x] I r Q ↔ Q (some (.int x)) I r := mm_E_rt ((mm_stp_of hc hd rfl).trans (by simp only [mm_act, mm_rti, mm_i1]; rw [if_pos ⟨trivial, Or.inl hr⟩]; rfl))
theorem me_rz {x : Int32} (hc : mm_c j = cc) (hd : decode cc pc = .ok (.ireturn, 1)) (hr : mm_r j = some .boolean) : mm_E j pc ls [.int x] I r Q ↔ (x = 0 ∨ x = 1) ∧ Q (some (.int x)) I r := by
  by_cases hx : x = 0 ∨ x = 1
  · rw [mm_E_rt (v := some (.int x)) ((mm_stp_of hc hd rfl).trans (by simp only [mm_act, mm_rti, mm_i1]; rw [if_pos ⟨trivial, Or.inr ⟨hr, hx⟩⟩]; rfl))]
    exact ⟨fun q => ⟨hx, q⟩, fun q => q.2⟩
  · rw [mm_E_no ((mm_stp_of hc hd rfl).trans (by simp only [mm_act, mm_rti, mm_i1]; rw [if_neg (by rintro ⟨-, q | q⟩; (rw [hr] at q; cases q); exact hx q.2)]; rfl))]
    exact ⟨False.elim, fun q => absurd q.1 hx⟩
theorem me_rl {x : Int64} (hc : mm_c j = cc) (hd : decode cc pc = .ok (.lreturn, 1)) (hr : mm_r j = some .long) : mm_E j pc ls [.long x] I r Q ↔ Q (some (.long x)) I r := mm_E_rt ((mm_stp_of hc hd rfl).trans (by simp only [mm_act, mm_rtl, mm_l1]; rw [if_pos ⟨trivial, hr⟩]; rfl))
theorem me_rv (hc : mm_c j = cc) (hd : decode cc pc = .ok (.return_, 1)) (hr : mm_r j = none) : mm_E j pc ls [] I r Q ↔ Q none I r := mm_E_rt ((mm_stp_of hc hd rfl).trans (by simp only [mm_act]; rw [if_pos ⟨trivial, hr⟩]; rfl))
theorem me_oi {k a : Nat} (hc : mm_c j = cc) (hd : decode cc pc = .ok (.invokespecial k, 3)) (hk : mm_m (mm_o j) k = none ∧ mm_oT.contains (mm_o j, k) = true ∧ 1 ≤ mm_h j) : mm_E j pc ls (.ref a :: st) I r Q ↔ mm_w8 st = true ∧ mm_E j (pc + 3) ls st I r Q := by
  rw [mm_E_if (i := .invokespecial k) (j := j) (pc := pc) (c := 1 ≤ mm_h j ∧ mm_w8 st = true) (pc' := pc + 3) (ls' := ls) (st' := st) (I' := I) (r' := r) ((mm_stp_of hc hd rfl).trans (by simp only [mm_act, hk.1]; rw [if_pos hk.2.1]; rfl))]
  exact ⟨fun h => ⟨h.1.2, h.2⟩, fun h => ⟨⟨hk.2.2, h.1⟩, h.2⟩⟩
theorem me_cp {k a b : Nat} {sp dp n : Int32} (hc : mm_c j = cc) (hd : decode cc pc = .ok (.invokestatic k, 3)) (hk : mm_m (mm_o j) k = none ∧ mm_nT.contains (mm_o j, k) = true ∧ 1 ≤ mm_h j) : mm_E j pc ls (.int n :: .int dp :: .ref a :: .int sp :: .ref b :: st) I r Q ↔ (mm_w8 st = true ∧ (mm_S r b).1 = 3 ∧ (mm_S r a).1 = 3 ∧ ¬ sp < 0 ∧ ¬ dp < 0 ∧ ¬ n < 0 ∧ sp.toNatClampNeg + n.toNatClampNeg ≤ (mm_S r b).2 ∧ dp.toNatClampNeg + n.toNatClampNeg ≤ (mm_S r a).2) ∧ mm_E j (pc + 3) ls st I (mm_cG r a b sp.toNatClampNeg dp.toNatClampNeg n.toNatClampNeg) Q := by
  rw [mm_E_if (i := .invokestatic k) (j := j) (pc := pc) (c := (1 ≤ mm_h j ∧ mm_w8 st = true) ∧ (mm_S r b).1 = 3 ∧ (mm_S r a).1 = 3 ∧ ¬ sp < 0 ∧ ¬ dp < 0 ∧ ¬ n < 0 ∧ sp.toNatClampNeg + n.toNatClampNeg ≤ (mm_S r b).2 ∧ dp.toNatClampNeg + n.toNatClampNeg ≤ (mm_S r a).2) (pc' := pc + 3) (ls' := ls) (st' := st) (I' := I) (r' := mm_cG r a b sp.toNatClampNeg dp.toNatClampNeg n.toNatClampNeg) ((mm_stp_of hc hd rfl).trans (by simp only [mm_act, hk.1]; rw [if_pos hk.2.1]; rfl))]
  exact ⟨fun h => ⟨⟨h.1.1.2, h.1.2⟩, h.2⟩, fun h => ⟨⟨⟨hk.2.2, h.1.1⟩, h.1.2⟩, h.2⟩⟩
/-- a call: P is what is asked of the stack below and of the receiver -/
theorem mm_E_call {i : Instr} {j2 : Nat} {av st' : List Value} {P : Prop} [Decidable P] {en : mm_L} (hi : mm_iC i = true) (he : mm_en j2 av = en) (h : mm_stp j pc ls st I r = mm_flt i (if P then some (.inr (.inr (j2, av, pc + 3, st'))) else none)) : mm_E j pc ls st I r Q ↔ P ∧ mm_E j2 0 en [] I r (fun v I' r' => mm_E j (pc + 3) ls (mm_pu v st') I' r' Q) := by
  subst he
  by_cases hP : P
  · rw [if_pos hP] at h
    have h2 : mm_stp j pc ls st I r = some (.inr (.inr (j2, av, pc + 3, st'))) := by rw [h]; unfold mm_flt; exact if_pos hi
    rw [mm_E_cl h2]
    exact ⟨fun q => ⟨hP, q⟩, fun q => q.2⟩
  · rw [if_neg hP] at h
    rw [mm_E_no h]
    exact ⟨False.elim, fun q => absurd q.1 hP⟩
theorem me_vc {k j2 a n o : Nat} {As xs : List Value} {en : mm_L} (hc : mm_c j = cc) (hd : decode cc pc = .ok (.invokevirtual k, 3)) (hm : mm_m (mm_o j) k = some j2) (hs : mm_a j2 = n ∧ mm_k j2 = 0 ∧ mm_h j2 < mm_h j ∧ mm_x j2 ≤ 15 ∧ mm_o j2 = o) (hl : As.length = n) (hx : xs = As.reverse) (hsl : (mm_sl (.ref a :: As)).length ≤ mm_x j2) (he : mm_en j2 (.ref a :: As) = en) : mm_E j pc ls (xs ++ .ref a :: st) I r Q ↔ (mm_w8 st = true ∧ mm_S r a = (1, o)) ∧ mm_E j2 0 en [] I r (fun v I' r' => mm_E j (pc + 3) ls (mm_pu v st) I' r' Q) := by
  subst hx
  have ht : (As.reverse ++ .ref a :: st).take (mm_a j2) = As.reverse := by rw [hs.1, ← hl, ← List.length_reverse]; exact List.take_left
  have hdp : (As.reverse ++ .ref a :: st).drop (mm_a j2) = .ref a :: st := by rw [hs.1, ← hl, ← List.length_reverse]; exact List.drop_left
  rw [mm_E_call (i := .invokevirtual k) (j := j) (pc := pc) (P := As.reverse.length = mm_a j2 ∧ mm_k j2 = 0 ∧ mm_h j2 < mm_h j ∧ mm_w8 st = true ∧ mm_S r a = (1, mm_o j2) ∧ mm_x j2 ≤ 15 ∧ (mm_sl (.ref a :: As)).length ≤ mm_x j2) (st' := st) rfl he ((mm_stp_of hc hd rfl).trans (by simp only [mm_act, hm, mm_vc, hdp, ht, List.reverse_reverse]))]
  rw [hs.2.2.2.2]
  exact ⟨fun h => ⟨⟨h.1.2.2.2.1, h.1.2.2.2.2.1⟩, h.2⟩, fun h => ⟨⟨by rw [List.length_reverse, hl, hs.1], hs.2.1, hs.2.2.1, h.1.1, h.1.2, hs.2.2.2.1, hsl⟩, h.2⟩⟩
theorem me_xc {k j2 a n : Nat} {As xs : List Value} {en : mm_L} (hc : mm_c j = cc) (hd : decode cc pc = .ok (.invokespecial k, 3)) (hm : mm_m (mm_o j) k = some j2) (hs : mm_a j2 = n ∧ mm_k j2 = 2 ∧ mm_h j2 < mm_h j ∧ mm_x j2 ≤ 15) (hl : As.length = n) (hx : xs = As.reverse) (hsl : (mm_sl (.ref a :: As)).length ≤ mm_x j2) (he : mm_en j2 (.ref a :: As) = en) : mm_E j pc ls (xs ++ .ref a :: st) I r Q ↔ mm_w8 st = true ∧ mm_E j2 0 en [] I r (fun v I' r' => mm_E j (pc + 3) ls (mm_pu v st) I' r' Q) := by
  subst hx
  have ht : (As.reverse ++ .ref a :: st).take (mm_a j2) = As.reverse := by rw [hs.1, ← hl, ← List.length_reverse]; exact List.take_left
  have hdp : (As.reverse ++ .ref a :: st).drop (mm_a j2) = .ref a :: st := by rw [hs.1, ← hl, ← List.length_reverse]; exact List.drop_left
  rw [mm_E_call (i := .invokespecial k) (j := j) (pc := pc) (P := As.reverse.length = mm_a j2 ∧ mm_k j2 = 2 ∧ mm_h j2 < mm_h j ∧ mm_w8 st = true ∧ mm_x j2 ≤ 15 ∧ (mm_sl (.ref a :: As)).length ≤ mm_x j2) (st' := st) rfl he ((mm_stp_of hc hd rfl).trans (by simp only [mm_act, hm, mm_xc, hdp, ht, List.reverse_reverse]))]
  exact ⟨fun h => ⟨h.1.2.2.2.1, h.2⟩, fun h => ⟨⟨by rw [List.length_reverse, hl, hs.1], hs.2.1, hs.2.2.1, h.1, hs.2.2.2, hsl⟩, h.2⟩⟩
theorem me_sc {k j2 n : Nat} {As xs : List Value} {en : mm_L} (hc : mm_c j = cc) (hd : decode cc pc = .ok (.invokestatic k, 3)) (hm : mm_m (mm_o j) k = some j2) (hs : mm_a j2 = n ∧ mm_k j2 = 1 ∧ mm_h j2 < mm_h j ∧ mm_x j2 ≤ 15) (hl : As.length = n) (hx : xs = As.reverse) (hsl : (mm_sl As).length ≤ mm_x j2) (he : mm_en j2 As = en) : mm_E j pc ls (xs ++ st) I r Q ↔ mm_w8 st = true ∧ mm_E j2 0 en [] I r (fun v I' r' => mm_E j (pc + 3) ls (mm_pu v st) I' r' Q) := by
  subst hx
  have ht : (As.reverse ++ st).take (mm_a j2) = As.reverse := by rw [hs.1, ← hl, ← List.length_reverse]; exact List.take_left
  have hdp : (As.reverse ++ st).drop (mm_a j2) = st := by rw [hs.1, ← hl, ← List.length_reverse]; exact List.drop_left
  rw [mm_E_call (i := .invokestatic k) (j := j) (pc := pc) (P := As.reverse.length = mm_a j2 ∧ mm_k j2 = 1 ∧ mm_h j2 < mm_h j ∧ mm_w8 st = true ∧ mm_x j2 ≤ 15 ∧ (mm_sl As).length ≤ mm_x j2) (st' := st) rfl he ((mm_stp_of hc hd rfl).trans (by simp only [mm_act, hm, mm_sc, hdp, ht, List.reverse_reverse]))]
  exact ⟨fun h => ⟨h.1.2.2.2.1, h.2⟩, fun h => ⟨⟨by rw [List.length_reverse, hl, hs.1], hs.2.1, hs.2.2.1, h.1, hs.2.2.2, hsl⟩, h.2⟩⟩
theorem me_sw {i : Instr} {len tgt : Nat} {off : Int} {x : Int32} (hc : mm_c j = cc) (hd : decode cc pc = .ok (i, len)) (hlen : (mm_len i).getD len = len) (ha : mm_act j pc i ls (.int x :: st) I r = mm_jp pc off ls st I r) (ht : (pc : Int) + off = (tgt : Int)) : mm_E j pc ls (.int x :: st) I r Q ↔ mm_E j tgt ls st I r Q := mm_E_nx ((mm_stp_of hc hd hlen).trans (by rw [ha]; simp only [mm_jp, ht]; rw [if_pos (Int.natCast_nonneg tgt)]; rfl))
end
