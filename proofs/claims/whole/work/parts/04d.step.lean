theorem mm_nf {ci k : Nat} {x : Int32} (h : mm_ik ci k = true) (hb : mm_bo ci k = false ∨ x = 0 ∨ x = 1) : narrow (mm_tyn ci k) (.int x) = .int x ∧ fits (mm_tyn ci k) (.int x) = true := by
  unfold mm_ik at h
  unfold mm_bo at hb
  cases hq : mm_tyn ci k <;> rw [hq] at h hb <;> simp at h hb
  all_goals first | exact ⟨rfl, rfl⟩ | (rcases hb with rfl | rfl <;> exact ⟨rfl, rfl⟩)
theorem mm_nr {ci k x : Nat} (h : mm_tyn ci k = .int ∨ mm_tyn ci k = .boolean ∨ (∃ C, mm_tyn ci k = .object C) ∨ (∃ C, mm_tyn ci k = .array C)) (hik : mm_ik ci k = false) : narrow (mm_tyn ci k) (.ref x) = .ref x ∧ fits (mm_tyn ci k) (.ref x) = true := by
  unfold mm_ik at hik
  rcases h with h | h | ⟨C, h⟩ | ⟨C, h⟩ <;> rw [h] at hik ⊢
  · cases hik
  · cases hik
  · exact ⟨rfl, rfl⟩
  · exact ⟨rfl, rfl⟩
theorem mm_dflt {ci w : Nat} (h : ci < 7) : ∀ k, k < mm_N ci → ∀ (I : mm_I) (r : mm_R), defaultValue (mm_tyn ci k) = vp_V (mm_fs ci (mm_nI I r) (mm_nR r (1, ci) w) (mm_t r)) k := by
  intro k hk I r
  unfold vp_V
  rw [List.getD_eq_getElem?_getD, mm_fs_at _ _ _ hk]
  rcases mm_kin h k hk with q | q | ⟨C, q⟩ | ⟨C, q⟩ <;> rw [q] <;> simp [mm_ik, q, mm_nI, mm_nR, mm_P, va_rf, defaultValue]
theorem mm_fresh {D : va_G} {cA : Nat → ClassId} {b q : Nat} {I : mm_I} {r : mm_R} {H H1 : Heap} {e : va_E} (hW : mm_Wd D cA b I r H) (hD : va_D (mm_A b) (mm_ws cA b I r ++ [(q, e)])) (hP : va_P D vwCl (mm_ws cA b I r ++ [(q, e)]) H1) (hz : H1.size ≤ mm_t r + 1) : q = mm_t r := by
  have hl : (mm_ws cA b I r).length = mm_t r - b := by simp [mm_ws]
  have hlast : (mm_ws cA b I r ++ [(q, e)])[mm_t r - b]? = some (q, e) := by rw [← hl]; simp
  have h1 : b ≤ q := hD.2 _ _ hlast
  have h2 : q < H1.size := (hP _ _ hlast).lt
  rcases Nat.lt_or_ge q (mm_t r) with h3 | h3
  · have h4 : (mm_ws cA b I r ++ [(q, e)])[q - b]? = some (q, mm_cell cA I r q) := by rw [List.getElem?_append_left (by rw [hl]; omega)]; exact mm_at cA I h1 h3
    have h5 := hD.1 _ _ _ _ h4 hlast rfl
    omega
  · omega
theorem mm_sameA {D : va_G} {cA : Nat → ClassId} {s : State} {cN : ClassId} {ty : FieldType} (h : va_K D vwCl (mm_tys cA) s) (h1 : va_K D vwCl (mm_tys cA ++ [(cN, ty)]) s) (k : Nat) {cK : ClassId} (hk : (mm_tys cA)[k]? = some (cK, ty)) (hl : (mm_tys cA ++ [(cN, ty)])[4]? = some (cN, ty)) (hp : va_RA s cK ty = (s.vm.findClass ("[" ++ ty.toString) = some cK)) : cN = cK := by
  have a1 := (h.2 k _ hk).2
  have a2 := (h1.2 4 _ hl).2
  dsimp only at a1 a2
  cases ty with
  | object C =>
    obtain ⟨_, _, _, _, _, a3⟩ := a1
    obtain ⟨_, _, _, _, _, a4⟩ := a2
    exact Option.some.inj (a4.symm.trans a3)
  | _ => exact Option.some.inj (a2.symm.trans a1)
theorem mm_sameR {D : va_G} {cA : Nat → ClassId} {s : State} {cN : ClassId} {C : String} (h : va_K D vwCl (mm_tys cA) s) (h1 : va_K D vwCl (mm_tys cA ++ [(cN, .object C)]) s) (k : Nat) {cK : ClassId} (hk : (mm_tys cA)[k]? = some (cK, .object C)) (hl : (mm_tys cA ++ [(cN, .object C)])[4]? = some (cN, .object C)) : cN = cK := by
  have a1 := (h.2 k _ hk).2
  have a2 := (h1.2 4 _ hl).2
  obtain ⟨_, _, _, _, _, a3⟩ := a1
  obtain ⟨_, _, _, _, _, a4⟩ := a2
  exact Option.some.inj (a4.symm.trans a3)
abbrev mm_Cx (D : va_G) (cA : Nat → ClassId) (b j : Nat) (p : Program) (R : Room) (s : State) (m : MethodId) (args : Array Value) (meth : Method) (c : Code) : Prop :=
  p.tables.exec = Jvm.exec ∧ c.code = mm_c j ∧ c.maxLocals = mm_x j ∧ meth.sig.returnType = mm_r j ∧ meth.locks = false ∧ (mm_k j = 2 → meth.name = "<init>") ∧ s.vm.findClass (mm_Rn (mm_o j)) = some m.cls ∧ (∀ w ∈ mm_U, w.before args s = true) ∧ va_K D vwCl (mm_tys cA) s ∧ va_AO RX0 s ∧ va_AO RX3 s ∧ b ≤ s.heap.size ∧ mm_h j ≤ R.frames ∧ 34 * mm_h j ≤ R.locals
section
variable {p : Program} {l : Launch} {e : Env} {R : Room} {s : State} {m : MethodId} {args : Array Value} {below : List Frame} {meth : Method} {c : Code} {H : Heap} {locs : List Loc} {cells slots : Nat} {Q : State → Prop}
variable {D : va_G} {cA : Nat → ClassId} {b j : Nat} {I : mm_I} {r : mm_R}
theorem mm_sz {g : JFrame} (h : H.size ≤ s.heap.size + cells → W p l e R s m args below meth c H locs cells slots Q g) : W p l e R s m args below meth c H locs cells slots Q g := fun T hT X => h (by rw [← hT]; exact X.heapSize) T hT X
theorem mm_Wd.ge (h : mm_Wd D cA b I r H) (hS : va_S (mm_A b) s.heap H locs) (hb : b ≤ s.heap.size) : mm_t r ≤ H.size := by
  rcases Nat.lt_or_ge b (mm_t r) with q | q
  · have h1 := h.2.1 _ _ (mm_at cA I (a := mm_t r - 1) (by omega) (by omega))
    have h2 : mm_t r - 1 < H.size := h1.lt
    omega
  · have := hS.1
    omega
def mm_KK (p : Program) (l : Launch) (e : Env) (R : Room) (s : State) (m : MethodId) (args : Array Value) (below : List Frame) (meth : Method) (c : Code) (Q : State → Prop) (D : va_G) (cA : Nat → ClassId) (b j cells slots pc : Nat) (ls : mm_L) (st : List Value) (I : mm_I) (r : mm_R) : Prop :=
  ∀ (H : Heap) (locs : List Loc) (arr : Array Slot), mm_Wd D cA b I r H → va_S (mm_A b) s.heap H locs → mm_lv arr ls → ls.length = mm_x j → W p l e R s m args below meth c H locs cells slots Q (F0 m pc arr st)
theorem mm_one (X : mm_Cx D cA b j p R s m args meth c) {pc len : Nat} {i : Instr} (hd : decode (mm_c j) pc = .ok (i, len)) (hlen : (mm_len i).getD len = len) {ls : mm_L} {st : List Value} {pc' : Nat} {ls' : mm_L} {st' : List Value} {I' : mm_I} {r' : mm_R} (ha : mm_act j pc i ls st I r = some (.inl (pc', ls', st', I', r')))
    {arr : Array Slot} (hW : mm_Wd D cA b I r H) (hS : va_S (mm_A b) s.heap H locs) (hl : mm_lv arr ls) (hn : ls.length = mm_x j) (hz : s.heap.size + cells = mm_t r) (hc : cells + (mm_t r' - mm_t r) ≤ R.cells) (hs : slots + (mm_n r' - mm_n r) ≤ R.slots)
    (kk : mm_KK p l e R s m args below meth c Q D cA b j (cells + (mm_t r' - mm_t r)) (slots + (mm_n r' - mm_n r)) pc' ls' st' I' r') : W p l e R s m args below meth c H locs cells slots Q (F0 m pc arr st) := by
  obtain ⟨hx, hb, hml, hr, hlk, hin, hown, hts, hK, hA0, hA3, hbs, hfr, hlo⟩ := X
  cases i with
  | iload_n k =>
    have hlen : 1 = len := hlen
    subst hlen
    obtain ⟨x, hv, ha⟩ := mm_li_inv ha
    obtain ⟨rfl, rfl, rfl, rfl, rfl⟩ := mm_nx_inv ha
    simp only [Nat.sub_self, Nat.add_zero] at kk
    exact lv_iload_n hx hb hd rfl (hl.2.2 _ _ hv) (kk H locs arr hW hS hl hn)
  | iload k =>
    have hlen : 2 = len := hlen
    subst hlen
    obtain ⟨x, hv, ha⟩ := mm_li_inv ha
    obtain ⟨rfl, rfl, rfl, rfl, rfl⟩ := mm_nx_inv ha
    simp only [Nat.sub_self, Nat.add_zero] at kk
    exact lv_iload hx hb hd (hl.2.2 _ _ hv) (kk H locs arr hW hS hl hn)
  | aload_n k =>
    have hlen : 1 = len := hlen
    subst hlen
    obtain ⟨x, hv, ha⟩ := mm_la_inv ha
    obtain ⟨rfl, rfl, rfl, rfl, rfl⟩ := mm_nx_inv ha
    simp only [Nat.sub_self, Nat.add_zero] at kk
    exact lv_aload_n hx hb hd rfl (hl.2.2 _ _ hv) (kk H locs arr hW hS hl hn)
  | aload k =>
    have hlen : 2 = len := hlen
    subst hlen
    obtain ⟨x, hv, ha⟩ := mm_la_inv ha
    obtain ⟨rfl, rfl, rfl, rfl, rfl⟩ := mm_nx_inv ha
    simp only [Nat.sub_self, Nat.add_zero] at kk
    exact lv_aload hx hb hd (hl.2.2 _ _ hv) (kk H locs arr hW hS hl hn)
  | lload_n k =>
    have hlen : 1 = len := hlen
    subst hlen
    obtain ⟨x, hv, ha⟩ := mm_ll_inv ha
    obtain ⟨rfl, rfl, rfl, rfl, rfl⟩ := mm_nx_inv ha
    simp only [Nat.sub_self, Nat.add_zero] at kk
    exact lv_lload_n hx hb hd rfl (hl.2.2 _ _ hv) (kk H locs arr hW hS hl hn)
  | lload k =>
    have hlen : 2 = len := hlen
    subst hlen
    obtain ⟨x, hv, ha⟩ := mm_ll_inv ha
    obtain ⟨rfl, rfl, rfl, rfl, rfl⟩ := mm_nx_inv ha
    simp only [Nat.sub_self, Nat.add_zero] at kk
    exact lv_lload hx hb hd (hl.2.2 _ _ hv) (kk H locs arr hW hS hl hn)
  | iconst n =>
    have hlen : 1 = len := hlen
    subst hlen
    obtain ⟨rfl, rfl, rfl, rfl, rfl⟩ := mm_nx_inv ha
    simp only [Nat.sub_self, Nat.add_zero] at kk
    exact lv_iconst hx hb hd rfl (kk H locs arr hW hS hl hn)
  | bipush n =>
    have hlen : 2 = len := hlen
    subst hlen
    obtain ⟨rfl, rfl, rfl, rfl, rfl⟩ := mm_nx_inv ha
    simp only [Nat.sub_self, Nat.add_zero] at kk
    exact lv_bipush hx hb hd rfl (kk H locs arr hW hS hl hn)
  | sipush n =>
    have hlen : 3 = len := hlen
    subst hlen
    obtain ⟨rfl, rfl, rfl, rfl, rfl⟩ := mm_nx_inv ha
    simp only [Nat.sub_self, Nat.add_zero] at kk
    exact lv_sipush hx hb hd rfl (kk H locs arr hW hS hl hn)
  | lconst n =>
    have hlen : 1 = len := hlen
    subst hlen
    obtain ⟨rfl, rfl, rfl, rfl, rfl⟩ := mm_nx_inv ha
    simp only [Nat.sub_self, Nat.add_zero] at kk
    exact lv_lconst hx hb hd rfl (kk H locs arr hW hS hl hn)
  | ldc k =>
    have hlen : 2 = len := hlen
    subst hlen
    simp only [mm_act] at ha
    cases hv : mm_ci (mm_o j) k with
    | none => rw [hv] at ha; cases ha
    | some x =>
      rw [hv] at ha
      obtain ⟨rfl, rfl, rfl, rfl, rfl⟩ := mm_nx_inv ha
      simp only [Nat.sub_self, Nat.add_zero] at kk
      exact lv_ldc hx hb hown (hts _ (mm_ci_ok hv)) hd (kk H locs arr hW hS hl hn)
  | ldc_w k =>
    have hlen : 3 = len := hlen
    subst hlen
    simp only [mm_act] at ha
    cases hv : mm_ci (mm_o j) k with
    | none => rw [hv] at ha; cases ha
    | some x =>
      rw [hv] at ha
      obtain ⟨rfl, rfl, rfl, rfl, rfl⟩ := mm_nx_inv ha
      simp only [Nat.sub_self, Nat.add_zero] at kk
      exact lv_ldcw hx hb hown (hts _ (mm_ci_ok hv)) hd (kk H locs arr hW hS hl hn)
  | ldc2_w k =>
    have hlen : 3 = len := hlen
    subst hlen
    simp only [mm_act] at ha
    cases hv : mm_cl (mm_o j) k with
    | none => rw [hv] at ha; cases ha
    | some x =>
      rw [hv] at ha
      obtain ⟨rfl, rfl, rfl, rfl, rfl⟩ := mm_nx_inv ha
      simp only [Nat.sub_self, Nat.add_zero] at kk
      exact lv_ldc2 hx hb hown (hts _ (mm_cl_ok hv)) hd (kk H locs arr hW hS hl hn)
  | istore_n k =>
    have hlen : 1 = len := hlen
    subst hlen
    obtain ⟨x, tl, hst, hq9⟩ := mm_i1_inv ha
    clear ha
    subst hst
    have ha := hq9
    obtain ⟨hi, ha⟩ := mm_s1_inv ha
    obtain ⟨rfl, rfl, rfl, rfl, rfl⟩ := mm_nx_inv ha
    simp only [Nat.sub_self, Nat.add_zero] at kk
    exact lv_istore_n hx hb hd rfl hl.has hi.1 rfl (fun ls2 h2 => kk H locs ls2 hW hS (mm_lv.set hi h2) (by rw [List.length_set]; exact hn))
  | istore k =>
    have hlen : 2 = len := hlen
    subst hlen
    obtain ⟨x, tl, hst, hq9⟩ := mm_i1_inv ha
    clear ha
    subst hst
    have ha := hq9
    obtain ⟨hi, ha⟩ := mm_s1_inv ha
    obtain ⟨rfl, rfl, rfl, rfl, rfl⟩ := mm_nx_inv ha
    simp only [Nat.sub_self, Nat.add_zero] at kk
    exact lv_istore hx hb hd hl.has hi.1 rfl (fun ls2 h2 => kk H locs ls2 hW hS (mm_lv.set hi h2) (by rw [List.length_set]; exact hn))
  | astore_n k =>
    have hlen : 1 = len := hlen
    subst hlen
    obtain ⟨x, tl, hst, hq9⟩ := mm_a1_inv ha
    clear ha
    subst hst
    have ha := hq9
    obtain ⟨hi, ha⟩ := mm_s1_inv ha
    obtain ⟨rfl, rfl, rfl, rfl, rfl⟩ := mm_nx_inv ha
    simp only [Nat.sub_self, Nat.add_zero] at kk
    exact lv_astore_n hx hb hd rfl hl.has hi.1 rfl (fun ls2 h2 => kk H locs ls2 hW hS (mm_lv.set hi h2) (by rw [List.length_set]; exact hn))
  | astore k =>
    have hlen : 2 = len := hlen
    subst hlen
    obtain ⟨x, tl, hst, hq9⟩ := mm_a1_inv ha
    clear ha
    subst hst
    have ha := hq9
    obtain ⟨hi, ha⟩ := mm_s1_inv ha
    obtain ⟨rfl, rfl, rfl, rfl, rfl⟩ := mm_nx_inv ha
    simp only [Nat.sub_self, Nat.add_zero] at kk
    exact lv_astore hx hb hd hl.has hi.1 rfl (fun ls2 h2 => kk H locs ls2 hW hS (mm_lv.set hi h2) (by rw [List.length_set]; exact hn))
  | iinc k n =>
    have hlen : 3 = len := hlen
    subst hlen
    obtain ⟨x, hv, ha⟩ := mm_li_inv ha
    obtain ⟨hi, ha⟩ := mm_s1_inv ha
    obtain ⟨rfl, rfl, rfl, rfl, rfl⟩ := mm_nx_inv ha
    simp only [Nat.sub_self, Nat.add_zero] at kk
    obtain ⟨q, hq⟩ := List.getElem?_of_mem (mm_al_mem hv)
    exact lv_iinc hx hb hd hl.has hq rfl hi.1 rfl (fun ls2 h2 => kk H locs ls2 hW hS (mm_lv.set hi h2) (by rw [List.length_set]; exact hn))
  | iadd =>
    have hlen : 1 = len := hlen
    subst hlen
    obtain ⟨x, y, tl, hst, hq9⟩ := mm_i2_inv ha
    clear ha
    subst hst
    have ha := hq9
    obtain ⟨rfl, rfl, rfl, rfl, rfl⟩ := mm_nx_inv ha
    simp only [Nat.sub_self, Nat.add_zero] at kk
    exact lv_iadd hx hb hd (kk H locs arr hW hS hl hn)
  | isub =>
    have hlen : 1 = len := hlen
    subst hlen
    obtain ⟨x, y, tl, hst, hq9⟩ := mm_i2_inv ha
    clear ha
    subst hst
    have ha := hq9
    obtain ⟨rfl, rfl, rfl, rfl, rfl⟩ := mm_nx_inv ha
    simp only [Nat.sub_self, Nat.add_zero] at kk
    exact lv_isub hx hb hd (kk H locs arr hW hS hl hn)
  | imul =>
    have hlen : 1 = len := hlen
    subst hlen
    obtain ⟨x, y, tl, hst, hq9⟩ := mm_i2_inv ha
    clear ha
    subst hst
    have ha := hq9
    obtain ⟨rfl, rfl, rfl, rfl, rfl⟩ := mm_nx_inv ha
    simp only [Nat.sub_self, Nat.add_zero] at kk
    exact lv_imul hx hb hd (kk H locs arr hW hS hl hn)
  | iand =>
    have hlen : 1 = len := hlen
    subst hlen
    obtain ⟨x, y, tl, hst, hq9⟩ := mm_i2_inv ha
    clear ha
    subst hst
    have ha := hq9
    obtain ⟨rfl, rfl, rfl, rfl, rfl⟩ := mm_nx_inv ha
    simp only [Nat.sub_self, Nat.add_zero] at kk
    exact lv_iand hx hb hd (kk H locs arr hW hS hl hn)
  | ior =>
    have hlen : 1 = len := hlen
    subst hlen
    obtain ⟨x, y, tl, hst, hq9⟩ := mm_i2_inv ha
    clear ha
    subst hst
    have ha := hq9
    obtain ⟨rfl, rfl, rfl, rfl, rfl⟩ := mm_nx_inv ha
    simp only [Nat.sub_self, Nat.add_zero] at kk
    exact lv_ior hx hb hd (kk H locs arr hW hS hl hn)
  | ishl =>
    have hlen : 1 = len := hlen
    subst hlen
    obtain ⟨x, y, tl, hst, hq9⟩ := mm_i2_inv ha
    clear ha
    subst hst
    have ha := hq9
    obtain ⟨rfl, rfl, rfl, rfl, rfl⟩ := mm_nx_inv ha
    simp only [Nat.sub_self, Nat.add_zero] at kk
    exact lv_ishl hx hb hd (kk H locs arr hW hS hl hn)
  | ishr =>
    have hlen : 1 = len := hlen
    subst hlen
    obtain ⟨x, y, tl, hst, hq9⟩ := mm_i2_inv ha
    clear ha
    subst hst
    have ha := hq9
    obtain ⟨rfl, rfl, rfl, rfl, rfl⟩ := mm_nx_inv ha
    simp only [Nat.sub_self, Nat.add_zero] at kk
    exact lv_ishr hx hb hd (kk H locs arr hW hS hl hn)
  | iushr =>
    have hlen : 1 = len := hlen
    subst hlen
    obtain ⟨x, y, tl, hst, hq9⟩ := mm_i2_inv ha
    clear ha
    subst hst
    have ha := hq9
    obtain ⟨rfl, rfl, rfl, rfl, rfl⟩ := mm_nx_inv ha
    simp only [Nat.sub_self, Nat.add_zero] at kk
    exact lv_iushr hx hb hd rfl (kk H locs arr hW hS hl hn)
  | idiv =>
    have hlen : 1 = len := hlen
    subst hlen
    obtain ⟨x, y, tl, hst, hq9⟩ := mm_i2_inv ha
    clear ha
    subst hst
    have ha := hq9
    obtain ⟨hne, ha⟩ := mm_ifn_inv ha
    obtain ⟨rfl, rfl, rfl, rfl, rfl⟩ := mm_nx_inv ha
    simp only [Nat.sub_self, Nat.add_zero] at kk
    exact lv_idiv hx hb hd hne (kk H locs arr hW hS hl hn)
  | irem =>
    have hlen : 1 = len := hlen
    subst hlen
    obtain ⟨x, y, tl, hst, hq9⟩ := mm_i2_inv ha
    clear ha
    subst hst
    have ha := hq9
    obtain ⟨hne, ha⟩ := mm_ifn_inv ha
    obtain ⟨rfl, rfl, rfl, rfl, rfl⟩ := mm_nx_inv ha
    simp only [Nat.sub_self, Nat.add_zero] at kk
    exact lv_irem hx hb hd hne (kk H locs arr hW hS hl hn)
  | i2l =>
    have hlen : 1 = len := hlen
    subst hlen
    obtain ⟨x, tl, hst, hq9⟩ := mm_i1_inv ha
    clear ha
    subst hst
    have ha := hq9
    obtain ⟨rfl, rfl, rfl, rfl, rfl⟩ := mm_nx_inv ha
    simp only [Nat.sub_self, Nat.add_zero] at kk
    exact lv_i2l hx hb hd rfl (kk H locs arr hW hS hl hn)
  | i2b =>
    have hlen : 1 = len := hlen
    subst hlen
    obtain ⟨x, tl, hst, hq9⟩ := mm_i1_inv ha
    clear ha
    subst hst
    have ha := hq9
    obtain ⟨rfl, rfl, rfl, rfl, rfl⟩ := mm_nx_inv ha
    simp only [Nat.sub_self, Nat.add_zero] at kk
    exact lv_i2b hx hb hd rfl (kk H locs arr hW hS hl hn)
  | i2s =>
    have hlen : 1 = len := hlen
    subst hlen
    obtain ⟨x, tl, hst, hq9⟩ := mm_i1_inv ha
    clear ha
    subst hst
    have ha := hq9
    obtain ⟨rfl, rfl, rfl, rfl, rfl⟩ := mm_nx_inv ha
    simp only [Nat.sub_self, Nat.add_zero] at kk
    exact lv_i2s hx hb hd rfl (kk H locs arr hW hS hl hn)
  | l2i =>
    have hlen : 1 = len := hlen
    subst hlen
    obtain ⟨x, tl, hst, hq9⟩ := mm_l1_inv ha
    clear ha
    subst hst
    have ha := hq9
    obtain ⟨rfl, rfl, rfl, rfl, rfl⟩ := mm_nx_inv ha
    simp only [Nat.sub_self, Nat.add_zero] at kk
    exact lv_l2i hx hb hd rfl (kk H locs arr hW hS hl hn)
  | ladd =>
    have hlen : 1 = len := hlen
    subst hlen
    obtain ⟨x, y, tl, hst, hq9⟩ := mm_l2_inv ha
    clear ha
    subst hst
    have ha := hq9
    obtain ⟨rfl, rfl, rfl, rfl, rfl⟩ := mm_nx_inv ha
    simp only [Nat.sub_self, Nat.add_zero] at kk
    exact lv_ladd hx hb hd (kk H locs arr hW hS hl hn)
  | lmul =>
    have hlen : 1 = len := hlen
    subst hlen
    obtain ⟨x, y, tl, hst, hq9⟩ := mm_l2_inv ha
    clear ha
    subst hst
    have ha := hq9
    obtain ⟨rfl, rfl, rfl, rfl, rfl⟩ := mm_nx_inv ha
    simp only [Nat.sub_self, Nat.add_zero] at kk
    exact lv_lmul hx hb hd (kk H locs arr hW hS hl hn)
  | land =>
    have hlen : 1 = len := hlen
    subst hlen
    obtain ⟨x, y, tl, hst, hq9⟩ := mm_l2_inv ha
    clear ha
    subst hst
    have ha := hq9
    obtain ⟨rfl, rfl, rfl, rfl, rfl⟩ := mm_nx_inv ha
    simp only [Nat.sub_self, Nat.add_zero] at kk
    exact lv_land hx hb hd (kk H locs arr hW hS hl hn)
  | lrem =>
    have hlen : 1 = len := hlen
    subst hlen
    obtain ⟨x, y, tl, hst, hq9⟩ := mm_l2_inv ha
    clear ha
    subst hst
    have ha := hq9
    obtain ⟨hne, ha⟩ := mm_ifn_inv ha
    obtain ⟨rfl, rfl, rfl, rfl, rfl⟩ := mm_nx_inv ha
    simp only [Nat.sub_self, Nat.add_zero] at kk
    exact lv_lrem hx hb hd hne (kk H locs arr hW hS hl hn)
  | lcmp =>
    have hlen : 1 = len := hlen
    subst hlen
    obtain ⟨x, y, tl, hst, hq9⟩ := mm_l2_inv ha
    clear ha
    subst hst
    have ha := hq9
    obtain ⟨rfl, rfl, rfl, rfl, rfl⟩ := mm_nx_inv ha
    simp only [Nat.sub_self, Nat.add_zero] at kk
    exact W.lcmp hx hb hd (kk H locs arr hW hS hl hn)
  | dup =>
    have hlen : 1 = len := hlen
    subst hlen
    obtain ⟨x, tl, hst, hq9⟩ := mm_v1_inv ha
    clear ha
    subst hst
    have ha := hq9
    obtain ⟨hv, ha⟩ := mm_if_inv ha
    obtain ⟨rfl, rfl, rfl, rfl, rfl⟩ := mm_nx_inv ha
    simp only [Nat.sub_self, Nat.add_zero] at kk
    exact lv_dup hx hb hd hv (kk H locs arr hW hS hl hn)
  | pop =>
    have hlen : 1 = len := hlen
    subst hlen
    obtain ⟨x, tl, hst, hq9⟩ := mm_v1_inv ha
    clear ha
    subst hst
    have ha := hq9
    obtain ⟨hv, ha⟩ := mm_if_inv ha
    obtain ⟨rfl, rfl, rfl, rfl, rfl⟩ := mm_nx_inv ha
    simp only [Nat.sub_self, Nat.add_zero] at kk
    exact lv_pop hx hb hd hv (kk H locs arr hW hS hl hn)
  | dup2 =>
    have hlen : 1 = len := hlen
    subst hlen
    obtain ⟨x, y, tl, hst, hq9⟩ := mm_v2_inv ha
    clear ha
    subst hst
    have ha := hq9
    obtain ⟨hv, ha⟩ := mm_if_inv ha
    obtain ⟨rfl, rfl, rfl, rfl, rfl⟩ := mm_nx_inv ha
    simp only [Nat.sub_self, Nat.add_zero] at kk
    exact lv_dup2_11 hx hb hd hv.2 hv.1 (kk H locs arr hW hS hl hn)
  | goto off =>
    have hlen : 3 = len := hlen
    subst hlen
    obtain ⟨ht, rfl, rfl, rfl, rfl⟩ := mm_jp_inv ha
    simp only [Nat.sub_self, Nat.add_zero] at kk
    exact lv_goto hx hb hd ht (kk H locs arr hW hS hl hn)
  | if_icmp cd off =>
    have hlen : 3 = len := hlen
    subst hlen
    obtain ⟨x, y, tl, hst, hq9⟩ := mm_i2_inv ha
    clear ha
    subst hst
    have ha := hq9
    obtain ⟨hge, ha⟩ := mm_if_inv ha
    have ht : (pc : Int) + off = ((((pc : Int) + off).toNat : Nat) : Int) := (Int.toNat_of_nonneg hge).symm
    cases hq : mm_cmp cd x y with
    | true =>
      rw [hq, if_pos rfl] at ha
      obtain ⟨rfl, rfl, rfl, rfl, rfl⟩ := mm_nx_inv ha
      simp only [Nat.sub_self, Nat.add_zero] at kk
      cases cd with
      | eq => exact lv_icmp_eq hx hb hd ht (fun _ => kk H locs arr hW hS hl hn) (fun hf => absurd (of_decide_eq_true hq) hf)
      | ne => exact lv_icmp_ne hx hb hd ht (fun _ => kk H locs arr hW hS hl hn) (fun hf => absurd (of_decide_eq_true hq) (fun h => h hf))
      | lt => exact lv_icmp_lt hx hb hd ht (fun _ => kk H locs arr hW hS hl hn) (fun hf => absurd (of_decide_eq_true hq) hf)
      | ge => exact lv_icmp_ge hx hb hd ht (fun _ => kk H locs arr hW hS hl hn) (fun hf => absurd (of_decide_eq_true hq) hf)
      | gt => exact lv_icmp_gt hx hb hd ht (fun _ => kk H locs arr hW hS hl hn) (fun hf => absurd (of_decide_eq_true hq) hf)
      | le => exact lv_icmp_le hx hb hd ht (fun _ => kk H locs arr hW hS hl hn) (fun hf => absurd (of_decide_eq_true hq) hf)
    | false =>
      rw [hq, if_neg (by decide)] at ha
      obtain ⟨rfl, rfl, rfl, rfl, rfl⟩ := mm_nx_inv ha
      simp only [Nat.sub_self, Nat.add_zero] at kk
      cases cd with
      | eq => exact lv_icmp_eq hx hb hd ht (fun hf => absurd hf (of_decide_eq_false hq)) (fun _ => kk H locs arr hW hS hl hn)
      | ne => exact lv_icmp_ne hx hb hd ht (fun hf => absurd hf (of_decide_eq_false hq)) (fun _ => kk H locs arr hW hS hl hn)
      | lt => exact lv_icmp_lt hx hb hd ht (fun hf => absurd hf (of_decide_eq_false hq)) (fun _ => kk H locs arr hW hS hl hn)
      | ge => exact lv_icmp_ge hx hb hd ht (fun hf => absurd hf (of_decide_eq_false hq)) (fun _ => kk H locs arr hW hS hl hn)
      | gt => exact lv_icmp_gt hx hb hd ht (fun hf => absurd hf (of_decide_eq_false hq)) (fun _ => kk H locs arr hW hS hl hn)
      | le => exact lv_icmp_le hx hb hd ht (fun hf => absurd hf (of_decide_eq_false hq)) (fun _ => kk H locs arr hW hS hl hn)
  | ifCond cd off =>
    have hlen : 3 = len := hlen
    subst hlen
    obtain ⟨x, tl, hst, hq9⟩ := mm_i1_inv ha
    clear ha
    subst hst
    have ha := hq9
    obtain ⟨hge, ha⟩ := mm_if_inv ha
    have ht : (pc : Int) + off = ((((pc : Int) + off).toNat : Nat) : Int) := (Int.toNat_of_nonneg hge).symm
    cases hq : mm_cmp cd x 0 with
    | true =>
      rw [hq, if_pos rfl] at ha
      obtain ⟨rfl, rfl, rfl, rfl, rfl⟩ := mm_nx_inv ha
      simp only [Nat.sub_self, Nat.add_zero] at kk
      cases cd with
      | eq => exact lv_if_eq hx hb hd ht (fun _ => kk H locs arr hW hS hl hn) (fun hf => absurd (of_decide_eq_true hq) hf)
      | ne => exact lv_if_ne hx hb hd ht (fun _ => kk H locs arr hW hS hl hn) (fun hf => absurd (of_decide_eq_true hq) (fun h => h hf))
      | lt => exact lv_if_lt hx hb hd ht (fun _ => kk H locs arr hW hS hl hn) (fun hf => absurd (of_decide_eq_true hq) hf)
      | ge => exact lv_if_ge hx hb hd ht (fun _ => kk H locs arr hW hS hl hn) (fun hf => absurd (of_decide_eq_true hq) hf)
      | gt => exact lv_if_gt hx hb hd ht (fun _ => kk H locs arr hW hS hl hn) (fun hf => absurd (of_decide_eq_true hq) hf)
      | le => exact lv_if_le hx hb hd ht (fun _ => kk H locs arr hW hS hl hn) (fun hf => absurd (of_decide_eq_true hq) hf)
    | false =>
      rw [hq, if_neg (by decide)] at ha
      obtain ⟨rfl, rfl, rfl, rfl, rfl⟩ := mm_nx_inv ha
      simp only [Nat.sub_self, Nat.add_zero] at kk
      cases cd with
      | eq => exact lv_if_eq hx hb hd ht (fun hf => absurd hf (of_decide_eq_false hq)) (fun _ => kk H locs arr hW hS hl hn)
      | ne => exact lv_if_ne hx hb hd ht (fun hf => absurd hf (of_decide_eq_false hq)) (fun _ => kk H locs arr hW hS hl hn)
      | lt => exact lv_if_lt hx hb hd ht (fun hf => absurd hf (of_decide_eq_false hq)) (fun _ => kk H locs arr hW hS hl hn)
      | ge => exact lv_if_ge hx hb hd ht (fun hf => absurd hf (of_decide_eq_false hq)) (fun _ => kk H locs arr hW hS hl hn)
      | gt => exact lv_if_gt hx hb hd ht (fun hf => absurd hf (of_decide_eq_false hq)) (fun _ => kk H locs arr hW hS hl hn)
      | le => exact lv_if_le hx hb hd ht (fun hf => absurd hf (of_decide_eq_false hq)) (fun _ => kk H locs arr hW hS hl hn)
  | tableswitch d lo hi offs =>
    obtain ⟨x, tl, hst, hq9⟩ := mm_i1_inv ha
    clear ha
    subst hst
    have ha := hq9
    unfold mm_ts at ha
    by_cases hq : x.toInt < lo ∨ hi < x.toInt
    · rw [if_pos hq] at ha
      obtain ⟨ht, rfl, rfl, rfl, rfl⟩ := mm_jp_inv ha
      simp only [Nat.sub_self, Nat.add_zero] at kk
      exact lv_tableOut hx hb hd hq ht (kk H locs arr hW hS hl hn)
    · rw [if_neg hq] at ha
      cases ho : offs[(x.toInt - lo).toNat]? with
      | none => rw [ho] at ha; cases ha
      | some off =>
        rw [ho] at ha
        obtain ⟨ht, rfl, rfl, rfl, rfl⟩ := mm_jp_inv ha
        simp only [Nat.sub_self, Nat.add_zero] at kk
        exact lv_tableIn hx hb hd (fun h => hq (Or.inl h)) (fun h => hq (Or.inr h)) ho ht (kk H locs arr hW hS hl hn)
  | lookupswitch d ps =>
    obtain ⟨x, tl, hst, hq9⟩ := mm_i1_inv ha
    clear ha
    subst hst
    have ha := hq9
    obtain ⟨hp, ha⟩ := mm_if_inv ha
    obtain ⟨ht, rfl, rfl, rfl, rfl⟩ := mm_jp_inv ha
    simp only [Nat.sub_self, Nat.add_zero] at kk
    exact lv_lookup hx hb hd hp rfl ht (kk H locs arr hW hS hl hn)
  | getfield k =>
    have hlen : 3 = len := hlen
    subst hlen
    simp only [mm_act, mm_gf] at ha
    cases hf : mm_f (mm_o j) k with
    | none => rw [hf] at ha; cases ha
    | some q =>
      obtain ⟨ci, k2⟩ := q
      rw [hf] at ha
      obtain ⟨a, tl, hst, hq9⟩ := mm_a1_inv ha
      clear ha
      subst hst
      have ha := hq9
      obtain ⟨hsh, ha⟩ := mm_if_inv ha
      obtain ⟨rfl, rfl, rfl, rfl, rfl⟩ := mm_nx_inv ha
      simp only [Nat.sub_self, Nat.add_zero] at kk
      obtain ⟨f1, f2, f3⟩ := mm_f_ok hf
      exact va_get (D := D) (ci := ci) (C := mm_Rn ci) (T := mm_Tn ci) (N := mm_N ci) hx hb hts (mm_uw f2) hown hK hW.2.1 (a - b) (hW.ob hsh) (mm_vw f2) k2 f3 (hts _ f1) (fun _ h9 => h9) (mm_fs_at I r a f3) hd (kk H locs arr hW hS hl hn)
  | putfield k =>
    have hlen : 3 = len := hlen
    subst hlen
    simp only [mm_act, mm_pf] at ha
    cases hf : mm_f (mm_o j) k with
    | none => rw [hf] at ha; cases ha
    | some q =>
      obtain ⟨ci, k2⟩ := q
      rw [hf] at ha
      obtain ⟨f1, f2, f3⟩ := mm_f_ok hf
      rcases mm_pt_inv ha with ⟨a, x, tl, hst, hq9⟩ | ⟨a, x, tl, hst, hq9⟩
      · clear ha
        subst hst
        have ha := hq9
        obtain ⟨⟨hsh, hik, hfin, hbo⟩, ha⟩ := mm_if_inv ha
        obtain ⟨rfl, rfl, rfl, rfl, rfl⟩ := mm_nx_inv ha
        simp only [Nat.sub_self, Nat.add_zero] at kk
        have hne : (mm_S r a).1 ≠ 0 := by rw [hsh]; simp
        have hty : narrow (mm_tyn ci k2) (.int x) = .int x ∧ fits (mm_tyn ci k2) (.int x) = true := mm_nf hik hbo
        refine va_put (D := D) (ci := ci) (v := .int x) (ty := mm_tyn ci k2) (C := mm_Rn ci) (T := mm_Tn ci) (N := mm_N ci) hx hb hts (mm_uw f2) (mm_tyn ci) (mm_tyok f2) (mm_nmok f2) hown hK hW.2.1 (mm_D cA b I r) hS (a - b) (hW.ob hsh) (mm_vw f2) k2 f3 (hts _ f1) (fun _ h9 => h9) hfin (mm_tyok f2 k2 f3) hty.1 hty.2 (by rw [mm_fs_len]; exact f3) hd (fun H1 locs1 hP1 hD1 hS1 => ?_)
        refine kk H1 locs1 arr (hW.putI hne ?_ hP1) hS1 hl hn
        rw [mm_fs_setI I r a x hik f3]
        simp [mm_cell, hsh]
      · clear ha
        subst hst
        have ha := hq9
        obtain ⟨⟨hsh, hik, hfin, hk2, hoc⟩, ha⟩ := mm_if_inv ha
        obtain ⟨rfl, rfl, rfl, rfl, rfl⟩ := mm_nx_inv ha
        have e1 : mm_t (mm_uP r a k2 (some x)) - mm_t r = 0 := Nat.sub_self _
        have e2 : mm_n (mm_uP r a k2 (some x)) - mm_n r = 0 := Nat.sub_self _
        rw [e1, e2, Nat.add_zero, Nat.add_zero] at kk
        have hne : (mm_S r a).1 ≠ 0 := by rw [hsh]; simp
        have hty : narrow (mm_tyn ci k2) (.ref x) = .ref x ∧ fits (mm_tyn ci k2) (.ref x) = true := mm_nr (mm_kin f2 k2 f3) hik
        refine va_putF (D := D) (ci := ci) (v := .ref x) (ty := mm_tyn ci k2) (C := mm_Rn ci) (T := mm_Tn ci) (N := mm_N ci) hx hb hts (mm_uw f2) (mm_tyn ci) (mm_tyok f2) (mm_nmok f2) hown hK hW.2.1 (mm_D cA b I r) hS (a - b) (hW.ob hsh) (mm_vw f2) k2 f3 (hts _ f1) (fun _ h9 => h9) hfin (hin hk2) (by rw [hoc]; exact mm_dcl f2 k2 f3) (mm_tyok f2 k2 f3) hty.1 hty.2 (by rw [mm_fs_len]; exact f3) hd (fun H1 locs1 hP1 hD1 hS1 => ?_)
        refine kk H1 locs1 arr (hW.putP hne ?_ hP1) hS1 hl hn
        rw [mm_fs_setP I r a x hik f3]
        have hsh2 : mm_S (mm_uP r a k2 (some x)) a = (1, ci) := hsh
        simp [mm_cell, hsh2]
  | iaload =>
    have hlen : 1 = len := hlen
    subst hlen
    obtain ⟨a, x, tl, hst, hq9⟩ := mm_ia_inv ha
    clear ha
    subst hst
    have ha := hq9
    obtain ⟨⟨hsh, hv⟩, ha⟩ := mm_if_inv ha
    obtain ⟨rfl, rfl, rfl, rfl, rfl⟩ := mm_nx_inv ha
    simp only [Nat.sub_self, Nat.add_zero] at kk
    exact va_iald (D := D) hx hb hK hW.2.1 (a - b) 0 (hW.iw hsh) rfl hv hd (kk H locs arr hW hS hl hn)
  | laload =>
    have hlen : 1 = len := hlen
    subst hlen
    obtain ⟨a, x, tl, hst, hq9⟩ := mm_ia_inv ha
    clear ha
    subst hst
    have ha := hq9
    obtain ⟨⟨hsh, hv⟩, ha⟩ := mm_if_inv ha
    obtain ⟨rfl, rfl, rfl, rfl, rfl⟩ := mm_nx_inv ha
    simp only [Nat.sub_self, Nat.add_zero] at kk
    exact va_lald (D := D) hx hb hK hW.2.1 (a - b) 1 (hW.lw hsh) rfl hv hd (kk H locs arr hW hS hl hn)
  | iastore =>
    have hlen : 1 = len := hlen
    subst hlen
    obtain ⟨a, i, x, tl, hst, hq9⟩ := mm_iia_inv ha
    clear ha
    subst hst
    have ha := hq9
    obtain ⟨⟨hsh, hv⟩, ha⟩ := mm_if_inv ha
    obtain ⟨rfl, rfl, rfl, rfl, rfl⟩ := mm_nx_inv ha
    simp only [Nat.sub_self, Nat.add_zero] at kk
    have hne : (mm_S r a).1 ≠ 0 := by rw [hsh]; simp
    refine va_iast (D := D) hx hb hK hW.2.1 (mm_D cA b I r) hS (a - b) 0 (hW.iw hsh) rfl hv hd (fun H1 locs1 hP1 hD1 hS1 => ?_)
    refine kk H1 locs1 arr (hW.putI hne ?_ hP1) hS1 hl hn
    simp [mm_cell, hsh, mm_uI]
  | lastore =>
    have hlen : 1 = len := hlen
    subst hlen
    obtain ⟨a, i, x, tl, hst, hq9⟩ := mm_lia_inv ha
    clear ha
    subst hst
    have ha := hq9
    obtain ⟨⟨hsh, hv⟩, ha⟩ := mm_if_inv ha
    obtain ⟨rfl, rfl, rfl, rfl, rfl⟩ := mm_nx_inv ha
    have e1 : mm_t (mm_uG r a i.toNatClampNeg x) - mm_t r = 0 := Nat.sub_self _
    have e2 : mm_n (mm_uG r a i.toNatClampNeg x) - mm_n r = 0 := Nat.sub_self _
    rw [e1, e2, Nat.add_zero, Nat.add_zero] at kk
    have hne : (mm_S r a).1 ≠ 0 := by rw [hsh]; simp
    refine va_last (D := D) hx hb hK hW.2.1 (mm_D cA b I r) hS (a - b) 1 (hW.lw hsh) rfl hv hd (fun H1 locs1 hP1 hD1 hS1 => ?_)
    refine kk H1 locs1 arr (hW.putG hne ?_ hP1) hS1 hl hn
    have hsh2 : (mm_S (mm_uG r a i.toNatClampNeg x) a).1 = 3 := hsh
    simp only [mm_cell, hsh2]
    simp [mm_uG, mm_G, mm_S]
  | aaload =>
    have hlen : 1 = len := hlen
    subst hlen
    obtain ⟨a, x, tl, hst, hq9⟩ := mm_ia_inv ha
    clear ha
    subst hst
    have ha := hq9
    obtain ⟨⟨hsh, hv⟩, ha⟩ := mm_if_inv ha
    obtain ⟨rfl, rfl, rfl, rfl, rfl⟩ := mm_nx_inv ha
    simp only [Nat.sub_self, Nat.add_zero] at kk
    rcases hsh with hsh | hsh
    · exact va_aldq (D := D) hx hb hK hW.2.1 (a - b) 2 (hW.r4 hsh) rfl hv hd (kk H locs arr hW hS hl hn)
    · exact va_aldq (D := D) hx hb hK hW.2.1 (a - b) 3 (hW.r5 hsh) rfl hv hd (kk H locs arr hW hS hl hn)
  | aastore =>
    have hlen : 1 = len := hlen
    subst hlen
    obtain ⟨a, i, x, tl, hst, hq9⟩ := mm_aia_inv ha
    clear ha
    subst hst
    have ha := hq9
    obtain ⟨⟨hsh, hv⟩, ha⟩ := mm_if_inv ha
    obtain ⟨rfl, rfl, rfl, rfl, rfl⟩ := mm_nx_inv ha
    have e1 : mm_t (mm_uP r a i.toNatClampNeg (some x)) - mm_t r = 0 := Nat.sub_self _
    have e2 : mm_n (mm_uP r a i.toNatClampNeg (some x)) - mm_n r = 0 := Nat.sub_self _
    rw [e1, e2, Nat.add_zero, Nat.add_zero] at kk
    rcases hsh with hsh | hsh
    · have hne : (mm_S r a).1 ≠ 0 := by rw [hsh.1]; simp
      refine va_astq (D := D) hx hb hK hW.2.1 (mm_D cA b I r) hS (a - b) 2 (x - b) 0 (hW.r4 hsh.1) rfl (hW.ob hsh.2) (mm_vw (by decide)) hv hd (fun H1 locs1 hP1 hD1 hS1 => ?_)
      refine kk H1 locs1 arr (hW.putP hne ?_ hP1) hS1 hl hn
      have hsh2 : (mm_S (mm_uP r a i.toNatClampNeg (some x)) a).1 = 4 := hsh.1
      simp only [mm_cell, hsh2]
      simp [mm_uP, mm_P, mm_S]
    · have hne : (mm_S r a).1 ≠ 0 := by rw [hsh.1]; simp
      refine va_astq (D := D) hx hb hK hW.2.1 (mm_D cA b I r) hS (a - b) 3 (x - b) 3 (hW.r5 hsh.1) rfl (hW.ob hsh.2) (mm_vw (by decide)) hv hd (fun H1 locs1 hP1 hD1 hS1 => ?_)
      refine kk H1 locs1 arr (hW.putP hne ?_ hP1) hS1 hl hn
      have hsh2 : (mm_S (mm_uP r a i.toNatClampNeg (some x)) a).1 = 5 := hsh.1
      simp only [mm_cell, hsh2]
      simp [mm_uP, mm_P, mm_S]
  | newarray at2 =>
    have hlen : 2 = len := hlen
    subst hlen
    cases at2 with
    | int =>
      obtain ⟨x, tl, hst, hq9⟩ := mm_i1_inv ha
      clear ha
      subst hst
      have ha := hq9
      obtain ⟨⟨hx0, hx1⟩, ha⟩ := mm_if_inv ha
      obtain ⟨rfl, rfl, rfl, rfl, rfl⟩ := mm_nx_inv ha
      have e1 : mm_t (mm_nR r (2, x.toNatClampNeg) x.toNatClampNeg) - mm_t r = 1 := by show mm_t r + 1 - mm_t r = 1; omega
      have e2 : mm_n (mm_nR r (2, x.toNatClampNeg) x.toNatClampNeg) - mm_n r = x.toNatClampNeg := by show mm_n r + x.toNatClampNeg - mm_n r = x.toNatClampNeg; omega
      rw [e1] at kk hc
      rw [e2] at kk hs
      refine va_newa (D := D) (atype := .int) (ty := .int) (N' := x.toNatClampNeg) (a0 := (x.toNatClampNeg, .inl (fun _ => 0))) hx hb (hts _ mw_41) rfl hK hW.2.1 (mm_D cA b I r) hS (fun q h => Nat.le_trans hbs h) (fun cA2 => rfl) hx0 rfl (by show x.toNatClampNeg * 4 ≤ 536870912; omega) hc hs hd (fun q cN H1 hK1 hP1 hD1 hS1 => ?_)
      have hcN : cN = cA 0 := mm_sameA hK hK1 0 rfl rfl rfl
      subst hcN
      refine mm_sz (fun hsz => ?_)
      have hq : q = mm_t r := mm_fresh hW hD1 hP1 (by omega)
      subst hq
      exact kk H1 locs arr (hW.new (by simp [mm_cell, mm_nR, mm_nI, mm_S, mm_G, mm_P]) hP1) hS1 hl hn
    | long =>
      obtain ⟨x, tl, hst, hq9⟩ := mm_i1_inv ha
      clear ha
      subst hst
      have ha := hq9
      obtain ⟨⟨hx0, hx1⟩, ha⟩ := mm_if_inv ha
      obtain ⟨rfl, rfl, rfl, rfl, rfl⟩ := mm_nx_inv ha
      have e1 : mm_t (mm_nR r (3, x.toNatClampNeg) x.toNatClampNeg) - mm_t r = 1 := by show mm_t r + 1 - mm_t r = 1; omega
      have e2 : mm_n (mm_nR r (3, x.toNatClampNeg) x.toNatClampNeg) - mm_n r = x.toNatClampNeg := by show mm_n r + x.toNatClampNeg - mm_n r = x.toNatClampNeg; omega
      rw [e1] at kk hc
      rw [e2] at kk hs
      refine va_newa (D := D) (atype := .long) (ty := .long) (N' := x.toNatClampNeg) (a0 := (x.toNatClampNeg, .inr (.inl (fun _ => 0)))) hx hb (hts _ mw_77) rfl hK hW.2.1 (mm_D cA b I r) hS (fun q h => Nat.le_trans hbs h) (fun cA2 => rfl) hx0 rfl (by show x.toNatClampNeg * 8 ≤ 536870912; omega) hc hs hd (fun q cN H1 hK1 hP1 hD1 hS1 => ?_)
      have hcN : cN = cA 1 := mm_sameA hK hK1 1 rfl rfl rfl
      subst hcN
      refine mm_sz (fun hsz => ?_)
      have hq : q = mm_t r := mm_fresh hW hD1 hP1 (by omega)
      subst hq
      exact kk H1 locs arr (hW.new (by simp [mm_cell, mm_nR, mm_nI, mm_S, mm_G, mm_P]) hP1) hS1 hl hn
    | _ => exact absurd (show (none : Option mm_O) = some _ from ha) (fun h => by cases h)
  | anewarray k =>
    have hlen : 3 = len := hlen
    subst hlen
    simp only [mm_act] at ha
    split at ha
    case h_1 hf =>
      · obtain ⟨x, tl, hst, hq9⟩ := mm_i1_inv ha
        clear ha
        subst hst
        have ha := hq9
        obtain ⟨⟨hx0, hx1⟩, ha⟩ := mm_if_inv ha
        obtain ⟨rfl, rfl, rfl, rfl, rfl⟩ := mm_nx_inv ha
        have e1 : mm_t (mm_nR r (4, x.toNatClampNeg) x.toNatClampNeg) - mm_t r = 1 := by show mm_t r + 1 - mm_t r = 1; omega
        have e2 : mm_n (mm_nR r (4, x.toNatClampNeg) x.toNatClampNeg) - mm_n r = x.toNatClampNeg := by show mm_n r + x.toNatClampNeg - mm_n r = x.toNatClampNeg; omega
        rw [e1] at kk hc
        rw [e2] at kk hs
        refine va_newq (D := D) (N' := x.toNatClampNeg) hx hb hown (hts _ (mm_kk_ok hf).1) hA0 hK hW.2.1 (mm_D cA b I r) hS (fun q h => Nat.le_trans hbs h) hx0 rfl (by omega) hc hs hd (fun q cN H1 hK1 hP1 hD1 hS1 => ?_)
        have hcN : cN = cA 2 := mm_sameR hK hK1 2 rfl rfl
        subst hcN
        refine mm_sz (fun hsz => ?_)
        have hq : q = mm_t r := mm_fresh hW hD1 hP1 (by omega)
        subst hq
        exact kk H1 locs arr (hW.new (by simp [mm_cell, mm_nR, mm_nI, mm_S, mm_G, mm_P]) hP1) hS1 hl hn
    case h_2 hf =>
      · obtain ⟨x, tl, hst, hq9⟩ := mm_i1_inv ha
        clear ha
        subst hst
        have ha := hq9
        obtain ⟨⟨hx0, hx1⟩, ha⟩ := mm_if_inv ha
        obtain ⟨rfl, rfl, rfl, rfl, rfl⟩ := mm_nx_inv ha
        have e1 : mm_t (mm_nR r (5, x.toNatClampNeg) x.toNatClampNeg) - mm_t r = 1 := by show mm_t r + 1 - mm_t r = 1; omega
        have e2 : mm_n (mm_nR r (5, x.toNatClampNeg) x.toNatClampNeg) - mm_n r = x.toNatClampNeg := by show mm_n r + x.toNatClampNeg - mm_n r = x.toNatClampNeg; omega
        rw [e1] at kk hc
        rw [e2] at kk hs
        refine va_newq (D := D) (N' := x.toNatClampNeg) hx hb hown (hts _ (mm_kk_ok hf).1) hA3 hK hW.2.1 (mm_D cA b I r) hS (fun q h => Nat.le_trans hbs h) hx0 rfl (by omega) hc hs hd (fun q cN H1 hK1 hP1 hD1 hS1 => ?_)
        have hcN : cN = cA 3 := mm_sameR hK hK1 3 rfl rfl
        subst hcN
        refine mm_sz (fun hsz => ?_)
        have hq : q = mm_t r := mm_fresh hW hD1 hP1 (by omega)
        subst hq
        exact kk H1 locs arr (hW.new (by simp [mm_cell, mm_nR, mm_nI, mm_S, mm_G, mm_P]) hP1) hS1 hl hn
    case h_3 => cases ha
  | new k =>
    have hlen : 3 = len := hlen
    subst hlen
    simp only [mm_act] at ha
    cases hf : mm_kk (mm_o j) k with
    | none => rw [hf] at ha; cases ha
    | some ci =>
      rw [hf] at ha
      obtain ⟨rfl, rfl, rfl, rfl, rfl⟩ := mm_nx_inv ha
      have e1 : mm_t (mm_nR r (1, ci) (mm_N ci)) - mm_t r = 1 := by show mm_t r + 1 - mm_t r = 1; omega
      have e2 : mm_n (mm_nR r (1, ci) (mm_N ci)) - mm_n r = (mm_N ci) := by show mm_n r + (mm_N ci) - mm_n r = (mm_N ci); omega
      rw [e1] at kk hc
      rw [e2] at kk hs
      obtain ⟨f1, f2⟩ := mm_kk_ok hf
      refine va_new (D := D) (ci := ci) (fs := mm_fs ci (mm_nI I r) (mm_nR r (1, ci) (mm_N ci)) (mm_t r)) (C := mm_Rn ci) (T := mm_Tn ci) (N := mm_N ci) hx hb hts (mm_uw f2) (mm_tyn ci) (mm_tyok f2) hown (hts _ f1) (hts _ (mm_inst f2).1) (hts _ (mm_inst f2).2) hK hW.2.1 (mm_D cA b I r) hS (fun q h => Nat.le_trans hbs h) (mm_vw f2) (fun i hi => mm_dflt f2 i hi I r) hc hs hd (fun q H1 hP1 hD1 hS1 => ?_)
      refine mm_sz (fun hsz => ?_)
      have hq : q = mm_t r := mm_fresh hW hD1 hP1 (by omega)
      subst hq
      exact kk H1 locs arr (hW.new (by simp [mm_cell, mm_nR, mm_S]) hP1) hS1 hl hn
  | invokevirtual k =>
    simp only [mm_act] at ha
    split at ha
    · unfold mm_vc at ha
      split at ha
      · have := (mm_if_inv ha).2; cases this
      · cases ha
    · cases ha
  | invokestatic k =>
    have hlen : 3 = len := hlen
    subst hlen
    simp only [mm_act] at ha
    split at ha
    · unfold mm_sc at ha
      have := (mm_if_inv ha).2; cases this
    · obtain ⟨hcn, ha⟩ := mm_if_inv ha
      obtain ⟨b2, sp, a, dp, n, tl, hst, hq9⟩ := mm_cp_inv ha
      clear ha
      subst hst
      have ha := hq9
      obtain ⟨⟨⟨h0, hw8⟩, hs1, hs2, h1, h2, h3, h4, h5⟩, ha⟩ := mm_if_inv ha
      obtain ⟨rfl, rfl, rfl, rfl, rfl⟩ := mm_nx_inv ha
      have e1 : mm_t (mm_cG r a b2 sp.toNatClampNeg dp.toNatClampNeg n.toNatClampNeg) - mm_t r = 0 := Nat.sub_self _
      have e2 : mm_n (mm_cG r a b2 sp.toNatClampNeg dp.toNatClampNeg n.toNatClampNeg) - mm_n r = 0 := Nat.sub_self _
      rw [e1, e2, Nat.add_zero, Nat.add_zero] at kk
      have hlk2 := mm_nT_ok _ (List.contains_iff_mem.mp hcn)
      have hw : (tl.map fun v => v.category).sum ≤ 8 := of_decide_eq_true hw8
      have hne : (mm_S r a).1 ≠ 0 := by rw [hs2]; simp
      refine va_copyl (D := D) (ty := .long) hx hb (by rw [hml, ← hn, hl.1]) hown (hts _ hlk2) (hts _ mw_769) (hts _ mw_770) (hts _ mw_771) hK hW.2.1 (mm_D cA b I r) hS (b2 - b) (a - b) 1 1 (hW.lw hs1) (hW.lw hs2) rfl rfl rfl h1 h2 h3 h4 h5 (fun _ _ => rfl) (by omega) (by show _ + (7 + 11) ≤ _; omega) hd (fun H1 locs1 hP1 hD1 hS1 => ?_)
      refine kk H1 locs1 arr (hW.putC hne ?_ hP1) hS1 hl hn
      have hsh2 : (mm_S (mm_cG r a b2 sp.toNatClampNeg dp.toNatClampNeg n.toNatClampNeg) a).1 = 3 := hs2
      simp only [mm_cell, hsh2]
      simp [mm_cG, mm_G, mm_S]
  | invokespecial k =>
    have hlen : 3 = len := hlen
    subst hlen
    simp only [mm_act] at ha
    split at ha
    · unfold mm_xc at ha
      split at ha
      · have := (mm_if_inv ha).2; cases this
      · cases ha
    · obtain ⟨hcn, ha⟩ := mm_if_inv ha
      obtain ⟨a, tl, hst, hq9⟩ := mm_a1_inv ha
      clear ha
      subst hst
      have ha := hq9
      obtain ⟨⟨h0, hw8⟩, ha⟩ := mm_if_inv ha
      obtain ⟨rfl, rfl, rfl, rfl, rfl⟩ := mm_nx_inv ha
      simp only [Nat.sub_self, Nat.add_zero] at kk
      have hlk2 := mm_oT_ok _ (List.contains_iff_mem.mp hcn)
      have hw : (tl.map fun v => v.category).sum ≤ 8 := of_decide_eq_true hw8
      exact W.objInit hx hb hown (hts _ hlk2) (hts _ mw_11) (hts _ mw_12) rfl (by rw [hml, ← hn]; exact hl.1) rfl hd (by omega) (by show 2 * 0 + _ + 12 ≤ _; omega) (kk H locs arr hW hS hl hn)
  | ireturn =>
    obtain ⟨x, tl, hst, hq9⟩ := mm_i1_inv ha
    clear ha
    subst hst
    have ha := hq9
    have := (mm_if_inv ha).2; cases this
  | lreturn =>
    obtain ⟨x, tl, hst, hq9⟩ := mm_l1_inv ha
    clear ha
    subst hst
    have ha := hq9
    have := (mm_if_inv ha).2; cases this
  | return_ =>
    have := (mm_if_inv ha).2; cases this
  | _ =>
    exact absurd (show (none : Option mm_O) = some _ from ha) (fun h => by cases h)
end
