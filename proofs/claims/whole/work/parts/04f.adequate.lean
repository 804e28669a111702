theorem mm_sl_lg (av : List Value) : mm_sl av = (lg_sl av).map (fun x => match x with
  | .val v => some v
  | _ => none) := by
  induction av with
  | nil => rfl
  | cons v t ih =>
    unfold mm_sl lg_sl at ih ⊢
    rw [List.flatMap_cons, List.flatMap_cons, List.map_append, ← ih]
    congr 1
    by_cases h : v.category = 2
    · rw [if_pos h, if_pos h]; rfl
    · rw [if_neg h, if_neg h]; rfl
theorem mm_en_lv {av : List Value} {j : Nat} (h : (mm_sl av).length ≤ mm_x j) : mm_lv ((lg_sl av ++ List.replicate (mm_x j - (lg_sl av).length) Slot.unset).toArray) (mm_en j av) ∧ (mm_en j av).length = mm_x j := by
  have hlen : (mm_sl av).length = (lg_sl av).length := by rw [mm_sl_lg, List.length_map]
  have h1 := lv_entry av (n := mm_x j) (by rw [← hlen]; exact h)
  have h2 : (mm_en j av).length = mm_x j := by unfold mm_en; simp; omega
  refine ⟨⟨by rw [h2]; exact h1.1, h1.2.1, fun i v hv => ?_⟩, h2⟩
  unfold mm_ld mm_en at hv
  rw [List.getElem?_toArray]
  by_cases hi : i < (mm_sl av).length
  · rw [List.getElem?_append_left hi] at hv
    rw [List.getElem?_append_left (by rw [← hlen]; exact hi)]
    rw [mm_sl_lg, List.getElem?_map] at hv
    cases hq : (lg_sl av)[i]? with
    | none => rw [hq] at hv; cases hv
    | some x =>
      rw [hq] at hv
      cases x with
      | val w => cases hv; rfl
      | _ => cases hv
  · rw [List.getElem?_append_right (by omega)] at hv
    rw [List.getElem?_replicate] at hv
    split at hv
    · cases hv
    · cases hv
theorem mm_goodU {j2 : Nat} (h : mm_ok j2) : GoodIn mm_U (mm_w j2) := by
  intro w hw
  rcases List.mem_cons.mp hw with rfl | hw
  · exact ⟨h.1, mm_U_good _ h.1⟩
  · exact ⟨hw, mm_U_good _ hw⟩
section
variable {p : Program} {l : Launch} {e : Env} {R : Room} {s : State} {m : MethodId} {args : Array Value} {below : List Frame} {meth : Method} {c : Code} {H : Heap} {locs : List Loc} {cells slots : Nat} {Q : State → Prop}
variable {D : va_G} {cA : Nat → ClassId} {b j : Nat} {I : mm_I} {r : mm_R}
theorem mm_act_c {j pc : Nat} {i : Instr} {ls : mm_L} {st : List Value} {I : mm_I} {r : mm_R} {j2 pc' : Nat} {av st' : List Value} (hi : mm_iC i = true) (ha : mm_act j pc i ls st I r = some (.inr (.inr (j2, av, pc', st')))) : (j2 < 164 ∧ (mm_sl av).length ≤ mm_x j2 ∧ mm_x j2 ≤ 15 ∧ mm_h j2 < mm_h j ∧ mm_w8 st' = true ∧ pc' = pc + 3) ∧
    ((∃ k a As, i = .invokevirtual k ∧ Cond.methodLink (mm_Rn (mm_o j)) k (mm_y j2) ∈ mm_U ∧ av = .ref a :: As ∧ As.length = mm_a j2 ∧ st = As.reverse ++ .ref a :: st' ∧ mm_k j2 = 0 ∧ mm_S r a = (1, mm_o j2)) ∨
     (∃ k, i = .invokestatic k ∧ Cond.methodLink (mm_Rn (mm_o j)) k (mm_y j2) ∈ mm_U ∧ av.length = mm_a j2 ∧ st = av.reverse ++ st' ∧ mm_k j2 = 1) ∨
     (∃ k a As, i = .invokespecial k ∧ Cond.methodLink (mm_Rn (mm_o j)) k (mm_y j2) ∈ mm_U ∧ av = .ref a :: As ∧ As.length = mm_a j2 ∧ st = As.reverse ++ .ref a :: st' ∧ mm_k j2 = 2)) := by
  cases i with
  | invokevirtual k =>
    simp only [mm_act] at ha
    cases hf : mm_m (mm_o j) k with
    | none => rw [hf] at ha; cases ha
    | some j3 =>
      rw [hf] at ha
      dsimp only at ha
      unfold mm_vc at ha
      split at ha
      · rename_i a tl hdrop
        obtain ⟨⟨c1, c2, c3, c4, c5, c6, c7⟩, h⟩ := mm_if_inv ha
        cases h
        obtain ⟨f1, f2⟩ := mm_m_ok hf
        refine ⟨⟨f2, c7, c6, c3, c4, rfl⟩, Or.inl ⟨k, a, _, rfl, f1, rfl, by rw [List.length_reverse]; exact c1, ?_, c2, c5⟩⟩
        rw [List.reverse_reverse, ← hdrop, List.take_append_drop]
      · cases ha
  | invokestatic k =>
    simp only [mm_act] at ha
    cases hf : mm_m (mm_o j) k with
    | none =>
      rw [hf] at ha
      dsimp only at ha
      obtain ⟨-, ha⟩ := mm_if_inv ha
      obtain ⟨_, _, _, _, _, _, -, ha⟩ := mm_cp_inv ha
      have := (mm_if_inv ha).2
      cases this
    | some j3 =>
      rw [hf] at ha
      dsimp only at ha
      unfold mm_sc at ha
      obtain ⟨⟨c1, c2, c3, c4, c6, c7⟩, h⟩ := mm_if_inv ha
      cases h
      obtain ⟨f1, f2⟩ := mm_m_ok hf
      refine ⟨⟨f2, c7, c6, c3, c4, rfl⟩, Or.inr (Or.inl ⟨k, rfl, f1, by rw [List.length_reverse]; exact c1, ?_, c2⟩)⟩
      rw [List.reverse_reverse, List.take_append_drop]
  | invokespecial k =>
    simp only [mm_act] at ha
    cases hf : mm_m (mm_o j) k with
    | none =>
      rw [hf] at ha
      dsimp only at ha
      obtain ⟨-, ha⟩ := mm_if_inv ha
      obtain ⟨_, _, -, ha⟩ := mm_a1_inv ha
      have := (mm_if_inv ha).2
      cases this
    | some j3 =>
      rw [hf] at ha
      dsimp only at ha
      unfold mm_xc at ha
      split at ha
      · rename_i a tl hdrop
        obtain ⟨⟨c1, c2, c3, c4, c6, c7⟩, h⟩ := mm_if_inv ha
        cases h
        obtain ⟨f1, f2⟩ := mm_m_ok hf
        refine ⟨⟨f2, c7, c6, c3, c4, rfl⟩, Or.inr (Or.inr ⟨k, a, _, rfl, f1, rfl, by rw [List.length_reverse]; exact c1, ?_, c2⟩)⟩
        rw [List.reverse_reverse, ← hdrop, List.take_append_drop]
      · cases ha
  | _ => cases hi
theorem mm_cal (X : mm_Cx D cA b j p R s m args meth c) {pc len : Nat} {i : Instr} (hd : decode (mm_c j) pc = .ok (i, len)) (hlen : (mm_len i).getD len = len) {ls : mm_L} {st : List Value} {j2 pc' : Nat} {av st' : List Value} (hi : mm_iC i = true) (ha : mm_act j pc i ls st I r = some (.inr (.inr (j2, av, pc', st'))))
    {v : Option Value} {I1 : mm_I} {r1 : mm_R} (hM : mm_Met l D cA b j2 av I r v I1 r1)
    {arr : Array Slot} (hW : mm_Wd D cA b I r H) (hS : va_S (mm_A b) s.heap H locs) (hl : mm_lv arr ls) (hn : ls.length = mm_x j) (hz : s.heap.size + cells = mm_t r) (hc : cells + (mm_t r1 - mm_t r) ≤ R.cells) (hs : slots + (mm_n r1 - mm_n r) ≤ R.slots)
    (kk : mm_KK p l e R s m args below meth c Q D cA b j (cells + (mm_t r1 - mm_t r)) (slots + (mm_n r1 - mm_n r)) pc' ls (v.toList ++ st') I1 r1) : W p l e R s m args below meth c H locs cells slots Q (F0 m pc arr st) := by
  obtain ⟨⟨f2, hsl, hx15, hh, hw8, rfl⟩, hcase⟩ := mm_act_c hi ha
  clear ha
  obtain ⟨hx, hb, hml, hr, hlk, hin, hown, hts, hK, hA0, hA3, hbs, hfr, hlo⟩ := X
  refine mm_sz (fun hsz => ?_)
  have hge := hW.ge hS hbs
  have heq : H.size = mm_t r := by omega
  obtain ⟨o1, o2, ⟨o3, o4, o5, o6, o7⟩, o8, o9, o10⟩ := mm_ok_all j2 f2
  have hok : mm_ok j2 := ⟨o1, o2, ⟨o3, o4, o5, o6, o7⟩, o8, o9, o10⟩
  have hw : (st'.map fun v => v.category).sum ≤ 8 := of_decide_eq_true hw8
  have hB : ∀ U : State, U.heap = H → s.WarmedH U.vm → mm_B D cA b I r U := fun U hU hW2 => ⟨by rw [hU]; omega, by rw [hU]; exact heq, by rw [hU]; exact hW, va_K.moved hW2.alike hK, va_AO.moved hW2.alike hA0, va_AO.moved hW2.alike hA3⟩
  have hR : ({ frames := mm_h j2, cells := mm_t r1 - mm_t r, slots := mm_n r1 - mm_n r, locals := 34 * mm_h j2 } : Room).frames + 1 ≤ R.frames ∧ 8 + (mm_x j2 + 11) + ({ frames := mm_h j2, cells := mm_t r1 - mm_t r, slots := mm_n r1 - mm_n r, locals := 34 * mm_h j2 } : Room).locals ≤ R.locals := by
    show mm_h j2 + 1 ≤ R.frames ∧ 8 + (mm_x j2 + 11) + 34 * mm_h j2 ≤ R.locals
    omega
  have hini : (Cond.initialized (mm_y j2).cls).before args s = true := by rw [o3]; exact hts _ o2
  rcases hcase with ⟨k, a, As, rfl, hlink, rfl, hAs, hst, hk, hsh⟩ | ⟨k, rfl, hlink, hAs, hst, hk⟩ | ⟨k, a, As, rfl, hlink, rfl, hAs, hst, hk⟩
  · have hlen : 3 = len := hlen
    subst hlen
    obtain ⟨q1, q2⟩ := o8 hk
    have hG : GoodIn mm_U (wsV (mm_Rn (mm_o j)) k (mm_Rn (mm_o j2)) (mm_y j2) (mm_w j2)) := by
      intro w hw
      rcases List.mem_append.mp hw with hw | hw
      · have : w ∈ mm_U := by
          simp only [List.mem_cons, List.not_mem_nil, or_false] at hw
          rcases hw with rfl | rfl | rfl | rfl
          · exact hlink
          · exact q1
          · exact q2
          · exact o2
        exact ⟨this, mm_U_good _ this⟩
      · exact mm_goodU hok w hw
    have ho7 : mm_o j2 < 7 := by
      rcases Nat.lt_or_ge (mm_o j2) 7 with q | q
      · exact q
      · obtain ⟨rq, h1, -⟩ := hW.2.1 _ _ (hW.ob hsh)
        have h2 := (List.getElem?_eq_some_iff.mp h1).1
        have h3 : mm_o j2 < 7 := h2
        exact h3
    refine mm_goon (va_runV (g := F0 m pc arr st) (As := As) (rest := st') (b := a) ⟨hx, hb, hml, hown, hts⟩ hM (cwV (mm_a j2) hts hG rfl rfl rfl ⟨o3, o5, o6, o7⟩ hR) ⟨mm_blind, va_recv hK hW.2.1 (mm_vw ho7) (hW.ob hsh), fun U hU hW2 => ⟨rfl, hB U hU hW2⟩⟩ rfl hAs (hl.1.trans hn) hst (lv_room hw) hd ⟨hc, hs⟩) hS (fun H1 locs1 hW1 hS1 => ?_)
    exact kk H1 locs1 arr hW1 hS1 hl hn
  · have hlen : 3 = len := hlen
    subst hlen
    have q1 := o9 hk
    refine mm_goon (va_runS (g := F0 m pc arr st) (As := av) (rest := st') ⟨hx, hb, hml, hown, hts⟩ hM ⟨callB_of (mm_a j2) hts (mm_goodU hok) rfl rfl rfl hini (hts _ hlink) ⟨o5, o6, o7⟩ hR, hts _ q1⟩ ⟨mm_blind, fun U hU hW2 => ⟨rfl, hB U hU hW2⟩⟩ rfl hAs (hl.1.trans hn) hst (lv_room hw) hd ⟨hc, hs⟩) hS (fun H1 locs1 hW1 hS1 => ?_)
    exact kk H1 locs1 arr hW1 hS1 hl hn
  · have hlen : 3 = len := hlen
    subst hlen
    obtain ⟨q1, q2, q3⟩ := o10 hk
    have hw0 : mm_w j2 = Cond.code (mm_y j2) (mm_c j2) (mm_x j2) none :: mm_U := by unfold mm_w; rw [q3]
    refine mm_goon (va_runI (g := F0 m pc arr st) (As := As) (rest := st') (b := a) ⟨hx, hb, hml, hown, hts⟩ hM ⟨callB_of (mm_a j2) hts (mm_goodU hok) hw0 rfl rfl hini (hts _ hlink) ⟨o5, o6, o7⟩ hR, q1, hts _ q2⟩ ⟨mm_blind, fun U hU hW2 => ⟨rfl, hB U hU hW2⟩⟩ rfl hAs (hl.1.trans hn) hst (lv_room hw) hd ⟨hc, hs⟩) hS (fun H1 locs1 hW1 hS1 => ?_)
    exact kk H1 locs1 arr hW1 hS1 hl hn
end
def mm_AD (l : Launch) (D : va_G) (cA : Nat → ClassId) (b n : Nat) : Prop := ∀ (j pc : Nat) (ls : mm_L) (st : List Value) (I : mm_I) (r : mm_R) (u : Option Value × mm_I × mm_R), j < 164 → mm_run n j pc ls st I r = some u →
  ∀ (p : Program) (e : Env) (R : Room) (s : State) (m : MethodId) (args : Array Value) (below : List Frame) (meth : Method) (c : Code) (H : Heap) (locs : List Loc) (cells slots : Nat) (arr : Array Slot), mm_Cx D cA b j p R s m args meth c → mm_Wd D cA b I r H → va_S (mm_A b) s.heap H locs → mm_lv arr ls → ls.length = mm_x j → s.heap.size + cells = mm_t r → cells + (mm_t u.2.2 - mm_t r) ≤ R.cells → slots + (mm_n u.2.2 - mm_n r) ≤ R.slots →
    W p l e R s m args below meth c H locs cells slots (MQ below (mm_Q D cA b u.1 u.2.1 u.2.2) args s (cells + (mm_t u.2.2 - mm_t r)) (slots + (mm_n u.2.2 - mm_n r)) (mm_A b)) (F0 m pc arr st)
theorem mm_AD.met {l : Launch} {D : va_G} {cA : Nat → ClassId} {b n : Nat} (h : mm_AD l D cA b n) {j : Nat} {av : List Value} {I : mm_I} {r : mm_R} {u : Option Value × mm_I × mm_R} (hj : j < 164) (hsl : (mm_sl av).length ≤ mm_x j) (hr : mm_run n j 0 (mm_en j av) [] I r = some u) : mm_Met l D cA b j av I r u.1 u.2.1 u.2.2 := by
  obtain ⟨o1, o2, ⟨o3, o4, o5, o6, o7⟩, o8, o9, o10⟩ := mm_ok_all j hj
  refine Met.ofW (cc := mm_c j) (maxL := mm_x j) (ret := mm_r j) o4 rfl ?_
  intro p e s m args below meth c s₁ B hml hv
  obtain ⟨rfl, hb0, hsz, hW, hK, hA0, hA3⟩ := hv
  have hts := atoms_spec (ws := mm_w j) B.pre
  have hown : s.vm.findClass (mm_y j).cls = some m.cls := findClass_of_methodNamed B.named
  rw [o3] at hown
  have hin : mm_k j = 2 → meth.name = "<init>" := fun hk => (name_of_methodNamed B.named B.method).1.trans (o10 hk).1
  obtain ⟨hlv, hen⟩ := mm_en_lv hsl
  rw [lg_entry_eq]
  have key := h j 0 (mm_en j av) [] I r u hj hr p e (headSpec (mm_w j) { frames := mm_h j, cells := mm_t u.2.2 - mm_t r, slots := mm_n u.2.2 - mm_n r, locals := 34 * mm_h j }).room s m av.toArray below meth c s.heap [] 0 0 _ ⟨B.exec, B.bytes, hml, B.returns, B.notSynchronized, hin, hown, fun w hw => hts w (List.mem_cons_of_mem _ hw), hK, hA0, hA3, hb0, Nat.le_refl _, Nat.le_refl _⟩ hW va_S.rf hlv hen (by rw [Nat.add_zero]; exact hsz) (by rw [Nat.zero_add]; exact Nat.le_refl _) (by rw [Nat.zero_add]; exact Nat.le_refl _)
  rw [Nat.zero_add, Nat.zero_add] at key
  exact key
theorem mm_ad (l : Launch) (D : va_G) (cA : Nat → ClassId) (b : Nat) : ∀ n, mm_AD l D cA b n := by
  intro n
  induction n with
  | zero => intro j pc ls st I r u hj h; simp [mm_run] at h
  | succ n ih =>
    intro j pc ls st I r u hj h p e R s m args below meth c H locs cells slots arr X hW hS hl hn hz hc hs
    rw [mm_run] at h
    cases hsp : mm_stp j pc ls st I r with
    | none => rw [hsp] at h; cases h
    | some o =>
      rw [hsp] at h
      obtain ⟨i, len, hd, hlen, hf⟩ := mm_stp_inv hsp
      rcases o with q | v | q
      · obtain ⟨pc', ls', st', I', r'⟩ := q
        dsimp only at h
        have h1 := mm_mt (mm_flt_l hf)
        have h2 := mm_run_mt _ _ _ _ _ _ _ _ h
        refine mm_one X hd hlen (mm_flt_l hf) hW hS hl hn hz (by omega) (by omega) ?_
        intro H1 locs1 arr1 hW1 hS1 hl1 hn1
        have key := ih _ _ _ _ _ _ _ hj h p e R s m args below meth c H1 locs1 (cells + (mm_t r' - mm_t r)) (slots + (mm_n r' - mm_n r)) arr1 X hW1 hS1 hl1 hn1 (by omega) (by omega) (by omega)
        rw [show cells + (mm_t r' - mm_t r) + (mm_t u.2.2 - mm_t r') = cells + (mm_t u.2.2 - mm_t r) by omega, show slots + (mm_n r' - mm_n r) + (mm_n u.2.2 - mm_n r') = slots + (mm_n u.2.2 - mm_n r) by omega] at key
        exact key
      · cases h
        obtain ⟨hi, ha⟩ := mm_flt_r hf
        have key := mm_ret (l := l) (e := e) (below := below) (slots := slots) (arr := arr) X hd hlen hi ha hW hS hz
        simp only [Nat.sub_self, Nat.add_zero]
        exact key
      · obtain ⟨j2, av, pc', st'⟩ := q
        dsimp only at h
        obtain ⟨hi, ha⟩ := mm_flt_c hf
        obtain ⟨⟨f2, hsl, -⟩, -⟩ := mm_act_c hi ha
        cases hr : mm_run n j2 0 (mm_en j2 av) [] I r with
        | none => rw [hr] at h; cases h
        | some w =>
          rw [hr] at h
          have h1 := mm_run_mt _ _ _ _ _ _ _ _ hr
          have h2 := mm_run_mt _ _ _ _ _ _ _ _ h
          refine mm_cal X hd hlen hi ha (ih.met f2 hsl hr) hW hS hl hn hz (by omega) (by omega) ?_
          intro H1 locs1 arr1 hW1 hS1 hl1 hn1
          have key := ih _ _ _ _ _ _ _ hj h p e R s m args below meth c H1 locs1 (cells + (mm_t w.2.2 - mm_t r)) (slots + (mm_n w.2.2 - mm_n r)) arr1 X hW1 hS1 hl1 hn1 (by omega) (by omega) (by omega)
          rw [show cells + (mm_t w.2.2 - mm_t r) + (mm_t u.2.2 - mm_t w.2.2) = cells + (mm_t u.2.2 - mm_t r) by omega, show slots + (mm_n w.2.2 - mm_n r) + (mm_n u.2.2 - mm_n w.2.2) = slots + (mm_n u.2.2 - mm_n r) by omega] at key
          exact key
/-- THE ROW THAT COUNTS: what the small machine answers, the method answers -/
theorem mm_met (l : Launch) (D : va_G) (cA : Nat → ClassId) (b : Nat) {j : Nat} {av : List Value} {I : mm_I} {r : mm_R} {Q : Option Value → mm_I → mm_R → Prop} (hj : j < 164) (hsl : (mm_sl av).length ≤ mm_x j) (h : mm_E j 0 (mm_en j av) [] I r Q) : ∃ v I1 r1, Q v I1 r1 ∧ mm_t r ≤ mm_t r1 ∧ mm_n r ≤ mm_n r1 ∧ mm_Met l D cA b j av I r v I1 r1 := by
  obtain ⟨n, u, hn, hq⟩ := h
  have h2 := mm_run_mt _ _ _ _ _ _ _ _ hn
  exact ⟨u.1, u.2.1, u.2.2, hq, h2.1, h2.2, (mm_ad l D cA b n).met hj hsl hn⟩
