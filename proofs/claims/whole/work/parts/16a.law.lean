/-! the law's own frame over the small machine's memory -/
set_option maxHeartbeats 4000000 in
theorem mm_ms {j pc : Nat} {i : Instr} {ls : mm_L} {st : List Value} {I : mm_I} {r : mm_R} {pc' : Nat} {ls' : mm_L} {st' : List Value} {I' : mm_I} {r' : mm_R} (ha : mm_act j pc i ls st I r = some (.inl (pc', ls', st', I', r'))) : ∀ q, q < mm_t r → mm_S r' q = mm_S r q := by
  have key : ∀ (sh : Nat × Nat) (w q : Nat), q < mm_t r → mm_S (mm_nR r sh w) q = mm_S r q := fun sh w q hq => by rw [nr_S, if_neg (by omega)]
  cases i <;> simp only [mm_act, mm_li, mm_ll, mm_la, mm_s1, mm_i1, mm_i2, mm_l1, mm_l2, mm_a1, mm_ia, mm_iia, mm_lia, mm_aia, mm_v1, mm_v2, mm_pt, mm_cp, mm_jp, mm_go, mm_ts, mm_gf, mm_pf, mm_vc, mm_xc, mm_sc, mm_ocp, mm_rti, mm_rtl, mm_nx] at ha <;> (repeat' split at ha) <;> (cases ha <;> first | exact fun _ _ => rfl | exact fun q hq => key _ _ q hq)
theorem mm_run_ms : ∀ (n j pc : Nat) (ls : mm_L) (st : List Value) (I : mm_I) (r : mm_R) (u : Option Value × mm_I × mm_R), mm_run n j pc ls st I r = some u → ∀ q, q < mm_t r → mm_S u.2.2 q = mm_S r q := by
  intro n
  induction n with
  | zero => intro j pc ls st I r u h; simp [mm_run] at h
  | succ n ih =>
    intro j pc ls st I r u h
    rw [mm_run] at h
    cases hs : mm_stp j pc ls st I r with
    | none => rw [hs] at h; cases h
    | some o =>
      rw [hs] at h
      obtain ⟨i, len, hd, hlen, hf⟩ := mm_stp_inv hs
      rcases o with q | v | q
      · obtain ⟨pc', ls', st', I', r'⟩ := q
        have h0 := mm_mt (mm_flt_l hf)
        have h1 := mm_ms (mm_flt_l hf)
        have h2 := ih _ _ _ _ _ _ _ h
        exact fun q hq => (h2 q (Nat.lt_of_lt_of_le hq h0.1)).trans (h1 q hq)
      · cases h
        exact fun _ _ => rfl
      · dsimp only at h
        cases hr : mm_run n q.1 0 (mm_en q.1 q.2.1) [] I r with
        | none => rw [hr] at h; cases h
        | some w =>
          rw [hr] at h
          have h0 := mm_run_mt _ _ _ _ _ _ _ _ hr
          have h1 := ih _ _ _ _ _ _ _ hr
          have h2 := ih _ _ _ _ _ _ _ h
          exact fun q hq => (h2 q (Nat.lt_of_lt_of_le hq h0.1)).trans (h1 q hq)
theorem mm_meS (l : Launch) (D : va_G) (cA : Nat → ClassId) (b : Nat) {j : Nat} {av : List Value} {I : mm_I} {r : mm_R} {Q : Option Value → mm_I → mm_R → Prop} (hj : j < 164) (hsl : (mm_sl av).length ≤ mm_x j) (h : mm_E j 0 (mm_en j av) [] I r Q) : ∃ v I1 r1, Q v I1 r1 ∧ mm_t r ≤ mm_t r1 ∧ mm_n r ≤ mm_n r1 ∧ (∀ q, q < mm_t r → mm_S r1 q = mm_S r q) ∧ mm_Met l D cA b j av I r v I1 r1 := by
  obtain ⟨n, u, hn, hq⟩ := h
  have h2 := mm_run_mt _ _ _ _ _ _ _ _ hn
  exact ⟨u.1, u.2.1, u.2.2, hq, h2.1, h2.2, mm_run_ms _ _ _ _ _ _ _ _ hn, (mm_ad l D cA b n).met hj hsl hn⟩
def lw_Cx (D : va_G) (cA : Nat → ClassId) (p : Program) (s : State) (m : MethodId) (args : Array Value) (c : Code) : Prop := p.tables.exec = Jvm.exec ∧ c.code = code ∧ c.maxLocals = 4 ∧ s.vm.findClass RL = some m.cls ∧ (∀ w ∈ mm_U, w.before args s = true) ∧ va_K D vwCl (mm_tys cA) s ∧ va_AO RX0 s ∧ va_AO RX3 s
theorem mm_h9 : ∀ j, j < 164 → mm_h j ≤ 8 ∧ mm_x j ≤ 60 := by decide +kernel
section
variable {p : Program} {l : Launch} {e : Env} {s : State} {m : MethodId} {args : Array Value} {below : List Frame} {meth : Method} {c : Code} {H : Heap} {locs : List Loc} {cells slots : Nat} {Q : State → Prop}
variable {D : va_G} {cA : Nat → ClassId} {I : mm_I} {r : mm_R}
theorem lw_cal (X : lw_Cx D cA p s m args c) {pc k j2 a : Nat} (hd : decode code pc = .ok (.invokevirtual k, 3)) (hj : j2 < 164) (hlink : Cond.methodLink RL k (mm_y j2) ∈ mm_U) (hk : mm_k j2 = 0) (hx15 : mm_x j2 ≤ 15) {As st0 st' : List Value} (hAs : As.length = mm_a j2) (hst : st0 = As.reverse ++ .ref a :: st') (hw : (st'.map fun v => v.category).sum ≤ 8) (hsh : mm_S r a = (1, mm_o j2))
    {v : Option Value} {I1 : mm_I} {r1 : mm_R} (hM : mm_Met l D cA s.heap.size j2 (.ref a :: As) I r v I1 r1) {arr : Array Slot} (hn : arr.size = 4) (hW : mm_Wd D cA s.heap.size I r H) (hS : va_S (mm_A s.heap.size) s.heap H locs) (hz : s.heap.size + cells = mm_t r) (hc : cells + (mm_t r1 - mm_t r) ≤ 600000) (hs : slots + (mm_n r1 - mm_n r) ≤ 7302250)
    (kk : ∀ (H1 : Heap) (locs1 : List Loc), mm_Wd D cA s.heap.size I1 r1 H1 → va_S (mm_A s.heap.size) s.heap H1 locs1 → W p l e room_1 s m args below meth c H1 locs1 (cells + (mm_t r1 - mm_t r)) (slots + (mm_n r1 - mm_n r)) Q (F0 m (pc + 3) arr (v.toList ++ st'))) : W p l e room_1 s m args below meth c H locs cells slots Q (F0 m pc arr st0) := by
  obtain ⟨hx, hb, hml, hown, hts, hK, hA0, hA3⟩ := X
  refine mm_sz (fun hsz => ?_)
  have hge := hW.ge hS (Nat.le_refl _)
  have heq : H.size = mm_t r := by omega
  obtain ⟨o1, o2, ⟨o3, o4, o5, o6, o7⟩, o8, o9, o10⟩ := mm_ok_all j2 hj
  have hok : mm_ok j2 := ⟨o1, o2, ⟨o3, o4, o5, o6, o7⟩, o8, o9, o10⟩
  have h9 := (mm_h9 j2 hj).1
  have hB : ∀ U : State, U.heap = H → s.WarmedH U.vm → mm_B D cA s.heap.size I r U := fun U hU hW2 => ⟨by rw [hU]; omega, by rw [hU]; exact heq, by rw [hU]; exact hW, va_K.moved hW2.alike hK, va_AO.moved hW2.alike hA0, va_AO.moved hW2.alike hA3⟩
  have hR : ({ frames := mm_h j2, cells := mm_t r1 - mm_t r, slots := mm_n r1 - mm_n r, locals := 34 * mm_h j2 } : Room).frames + 1 ≤ room_1.frames ∧ 8 + (mm_x j2 + 11) + ({ frames := mm_h j2, cells := mm_t r1 - mm_t r, slots := mm_n r1 - mm_n r, locals := 34 * mm_h j2 } : Room).locals ≤ room_1.locals := by
    show mm_h j2 + 1 ≤ 9 ∧ 8 + (mm_x j2 + 11) + 34 * mm_h j2 ≤ 362
    omega
  obtain ⟨q1, q2⟩ := o8 hk
  have hG : GoodIn mm_U (wsV RL k (mm_Rn (mm_o j2)) (mm_y j2) (mm_w j2)) := by
    intro w hw
    rcases List.mem_append.mp hw with hw | hw
    · have : w ∈ mm_U := by
        simp only [List.mem_cons, List.not_mem_nil, or_false] at hw
        rcases hw with rfl | rfl | rfl | rfl
        · exact hlink
        · exact q1
        · exact q2
        · exact o2
      exact ⟨this, mm_U_good _ this⟩
    · exact mm_goodU hok w hw
  have ho7 : mm_o j2 < 7 := by
    rcases Nat.lt_or_ge (mm_o j2) 7 with q | q
    · exact q
    · obtain ⟨rq, h1, -⟩ := hW.2.1 _ _ (hW.ob hsh)
      have h2 := (List.getElem?_eq_some_iff.mp h1).1
      have h3 : mm_o j2 < 7 := h2
      exact h3
  refine mm_goon (va_runV (g := F0 m pc arr st0) (As := As) (rest := st') (b := a) ⟨hx, hb, hml, hown, hts⟩ hM (cwV (mm_a j2) hts hG rfl rfl rfl ⟨o3, o5, o6, o7⟩ hR) ⟨mm_blind, va_recv hK hW.2.1 (mm_vw ho7) (hW.ob hsh), fun U hU hW2 => ⟨rfl, hB U hU hW2⟩⟩ rfl hAs hn hst (lv_room hw) hd ⟨hc, hs⟩) hS kk
theorem lw_ini (X : lw_Cx D cA p s m args c) {pc k j2 a : Nat} (hd : decode code pc = .ok (.invokespecial k, 3)) (hj : j2 < 164) (hlink : Cond.methodLink RL k (mm_y j2) ∈ mm_U) (hk : mm_k j2 = 2) (hx15 : mm_x j2 ≤ 15) {As st0 st' : List Value} (hAs : As.length = mm_a j2) (hst : st0 = As.reverse ++ .ref a :: st') (hw : (st'.map fun v => v.category).sum ≤ 8)
    {v : Option Value} {I1 : mm_I} {r1 : mm_R} (hM : mm_Met l D cA s.heap.size j2 (.ref a :: As) I r v I1 r1) {arr : Array Slot} (hn : arr.size = 4) (hW : mm_Wd D cA s.heap.size I r H) (hS : va_S (mm_A s.heap.size) s.heap H locs) (hz : s.heap.size + cells = mm_t r) (hc : cells + (mm_t r1 - mm_t r) ≤ 600000) (hs : slots + (mm_n r1 - mm_n r) ≤ 7302250)
    (kk : ∀ (H1 : Heap) (locs1 : List Loc), mm_Wd D cA s.heap.size I1 r1 H1 → va_S (mm_A s.heap.size) s.heap H1 locs1 → W p l e room_1 s m args below meth c H1 locs1 (cells + (mm_t r1 - mm_t r)) (slots + (mm_n r1 - mm_n r)) Q (F0 m (pc + 3) arr (v.toList ++ st'))) : W p l e room_1 s m args below meth c H locs cells slots Q (F0 m pc arr st0) := by
  obtain ⟨hx, hb, hml, hown, hts, hK, hA0, hA3⟩ := X
  refine mm_sz (fun hsz => ?_)
  have hge := hW.ge hS (Nat.le_refl _)
  have heq : H.size = mm_t r := by omega
  obtain ⟨o1, o2, ⟨o3, o4, o5, o6, o7⟩, o8, o9, o10⟩ := mm_ok_all j2 hj
  have hok : mm_ok j2 := ⟨o1, o2, ⟨o3, o4, o5, o6, o7⟩, o8, o9, o10⟩
  have h9 := (mm_h9 j2 hj).1
  have hB : ∀ U : State, U.heap = H → s.WarmedH U.vm → mm_B D cA s.heap.size I r U := fun U hU hW2 => ⟨by rw [hU]; omega, by rw [hU]; exact heq, by rw [hU]; exact hW, va_K.moved hW2.alike hK, va_AO.moved hW2.alike hA0, va_AO.moved hW2.alike hA3⟩
  have hR : ({ frames := mm_h j2, cells := mm_t r1 - mm_t r, slots := mm_n r1 - mm_n r, locals := 34 * mm_h j2 } : Room).frames + 1 ≤ room_1.frames ∧ 8 + (mm_x j2 + 11) + ({ frames := mm_h j2, cells := mm_t r1 - mm_t r, slots := mm_n r1 - mm_n r, locals := 34 * mm_h j2 } : Room).locals ≤ room_1.locals := by
    show mm_h j2 + 1 ≤ 9 ∧ 8 + (mm_x j2 + 11) + 34 * mm_h j2 ≤ 362
    omega
  have hini : (Cond.initialized (mm_y j2).cls).before args s = true := by rw [o3]; exact hts _ o2
  obtain ⟨q1, q2, q3⟩ := o10 hk
  have hw0 : mm_w j2 = Cond.code (mm_y j2) (mm_c j2) (mm_x j2) none :: mm_U := by unfold mm_w; rw [q3]
  refine mm_goon (va_runI (g := F0 m pc arr st0) (As := As) (rest := st') (b := a) ⟨hx, hb, hml, hown, hts⟩ hM ⟨callB_of (mm_a j2) hts (mm_goodU hok) hw0 rfl rfl hini (hts _ hlink) ⟨o5, o6, o7⟩ hR, q1, hts _ q2⟩ ⟨mm_blind, fun U hU hW2 => ⟨rfl, hB U hU hW2⟩⟩ rfl hAs hn hst (lv_room hw) hd ⟨hc, hs⟩) hS kk
theorem lw_new (X : lw_Cx D cA p s m args c) {pc k ci : Nat} (hd : decode code pc = .ok (.new k, 3)) (f2 : ci < 7) (hl : Cond.classLink RL k (mm_Rn ci) ∈ mm_U) {st : List Value} {arr : Array Slot} (hW : mm_Wd D cA s.heap.size I r H) (hS : va_S (mm_A s.heap.size) s.heap H locs) (hz : s.heap.size + cells = mm_t r) (hc : cells + 1 ≤ 600000) (hs : slots + mm_N ci ≤ 7302250)
    (kk : ∀ (H1 : Heap), mm_Wd D cA s.heap.size (mm_nI I r) (mm_nR r (1, ci) (mm_N ci)) H1 → va_S (mm_A s.heap.size) s.heap H1 locs → W p l e room_1 s m args below meth c H1 locs (cells + 1) (slots + mm_N ci) Q (F0 m (pc + 3) arr (.ref (mm_t r) :: st))) : W p l e room_1 s m args below meth c H locs cells slots Q (F0 m pc arr st) := by
  obtain ⟨hx, hb, hml, hown, hts, hK, hA0, hA3⟩ := X
  refine va_new (D := D) (ci := ci) (fs := mm_fs ci (mm_nI I r) (mm_nR r (1, ci) (mm_N ci)) (mm_t r)) (C := mm_Rn ci) (T := mm_Tn ci) (N := mm_N ci) hx hb hts (mm_uw f2) (mm_tyn ci) (mm_tyok f2) hown (hts _ hl) (hts _ (mm_inst f2).1) (hts _ (mm_inst f2).2) hK hW.2.1 (mm_D cA s.heap.size I r) hS (fun q h => h) (mm_vw f2) (fun i hi => mm_dflt f2 i hi I r) hc hs hd (fun q H1 hP1 hD1 hS1 => ?_)
  refine mm_sz (fun hsz => ?_)
  have hq : q = mm_t r := mm_fresh hW hD1 hP1 (by omega)
  subst hq
  exact kk H1 (hW.new (by simp [mm_cell, mm_nR, mm_S]) hP1) hS1
end
theorem lw_setup {args : Array Value} {s : State} (hts : ∀ w ∈ lw_tbl, w.before args s = true) (h0 : Cond.arrayOver (.object RX0) ∈ lw_tbl) (h3 : Cond.arrayOver (.object RX3) ∈ lw_tbl) : ∃ (D : va_G) (cA : Nat → ClassId), va_K D vwCl (mm_tys cA) s ∧ va_AO RX0 s ∧ va_AO RX3 s := by
  have htU : ∀ w ∈ mm_U, w.before args s = true := fun w h => hts w (mm_U_in w h)
  have hk : ∀ ci, ∃ q : ClassId × (Nat → Nat), ci < 7 → u_Kn s (mm_Rn ci) (mm_Tn ci) (mm_N ci) q.1 q.2 := fun ci => by
    by_cases h : ci < 7
    · obtain ⟨cC, iS, hKn⟩ := u_known (C := mm_Rn ci) (T := mm_Tn ci) (N := mm_N ci) (n := mm_N ci) htU (mm_uw h) (htU _ (mm_inst h).1)
      exact ⟨(cC, iS), fun _ => hKn⟩
    · exact ⟨(0, fun _ => 0), fun h2 => absurd h2 h⟩
  obtain ⟨cI, kI, pI, i1, i2, i3⟩ := Cond.arrayClass_spec (htU _ mw_41)
  obtain ⟨cJ, kJ, pJ, j1, j2, j3⟩ := Cond.arrayClass_spec (htU _ mw_77)
  obtain ⟨p0, c0, k0, a1, a2, a3, a4, a5⟩ := Cond.arrayOver_spec (hts _ h0)
  obtain ⟨p3, c3, k3, b1, b2, b3, b4, b5⟩ := Cond.arrayOver_spec (hts _ h3)
  refine ⟨(fun ci => (Classical.choose (hk ci)).1, fun ci => (Classical.choose (hk ci)).2), fun k => if k = 0 then cI else if k = 1 then cJ else if k = 2 then c0 else c3, ⟨fun k q hq => ?_, fun k q hq => ?_⟩, va_AO.of (hts _ h0), va_AO.of (hts _ h3)⟩
  · have h7 : k < 7 := by
      have := (List.getElem?_eq_some_iff.mp hq).1
      exact this
    rw [mm_vw h7] at hq
    cases hq
    exact Classical.choose_spec (hk k) h7
  · match k, hq with
    | 0, hq => cases hq; exact ⟨fun N z => ⟨(fun k h => by cases h), kI, i2, pI, i3⟩, i1⟩
    | 1, hq => cases hq; exact ⟨fun N z => ⟨(fun k h => by cases h), kJ, j2, pJ, j3⟩, j1⟩
    | 2, hq => cases hq; exact ⟨fun N z => ⟨(fun k h => by cases h), k0, a3, p0, a4⟩, k0, p0, a3, a4, a1, a5⟩
    | 3, hq => cases hq; exact ⟨fun N z => ⟨(fun k h => by cases h), k3, b3, p3, b4⟩, k3, p3, b3, b4, b1, b5⟩
    | k + 4, hq => simp [mm_tys] at hq
