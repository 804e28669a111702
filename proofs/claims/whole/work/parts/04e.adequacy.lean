set_option maxHeartbeats 4000000 in
theorem mm_mt {j pc : Nat} {i : Instr} {ls : mm_L} {st : List Value} {I : mm_I} {r : mm_R} {pc' : Nat} {ls' : mm_L} {st' : List Value} {I' : mm_I} {r' : mm_R} (ha : mm_act j pc i ls st I r = some (.inl (pc', ls', st', I', r'))) : mm_t r ≤ mm_t r' ∧ mm_n r ≤ mm_n r' := by
  cases i <;> simp only [mm_act, mm_li, mm_ll, mm_la, mm_s1, mm_i1, mm_i2, mm_l1, mm_l2, mm_a1, mm_ia, mm_iia, mm_lia, mm_aia, mm_v1, mm_v2, mm_pt, mm_cp, mm_jp, mm_go, mm_ts, mm_gf, mm_pf, mm_vc, mm_xc, mm_sc, mm_ocp, mm_rti, mm_rtl, mm_nx] at ha <;> (repeat' split at ha) <;> (cases ha <;> first | exact ⟨Nat.le_refl _, Nat.le_refl _⟩ | exact ⟨Nat.le_succ _, Nat.le_add_right _ _⟩)
theorem mm_flt_l {i : Instr} {o : Option mm_O} {q : mm_C} (h : mm_flt i o = some (.inl q)) : o = some (.inl q) := by
  unfold mm_flt at h
  split at h
  · cases h; rfl
  · have := (mm_if_inv h).2; cases this
  · have := (mm_if_inv h).2; cases this
  · cases h
theorem mm_flt_r {i : Instr} {o : Option mm_O} {v : Option Value} (h : mm_flt i o = some (.inr (.inl v))) : mm_iR i = true ∧ o = some (.inr (.inl v)) := by
  unfold mm_flt at h
  split at h
  · cases h
  · obtain ⟨h1, h2⟩ := mm_if_inv h
    cases h2
    exact ⟨h1, rfl⟩
  · have := (mm_if_inv h).2; cases this
  · cases h
theorem mm_flt_c {i : Instr} {o : Option mm_O} {q : Nat × List Value × Nat × List Value} (h : mm_flt i o = some (.inr (.inr q))) : mm_iC i = true ∧ o = some (.inr (.inr q)) := by
  unfold mm_flt at h
  split at h
  · cases h
  · have := (mm_if_inv h).2; cases this
  · obtain ⟨h1, h2⟩ := mm_if_inv h
    cases h2
    exact ⟨h1, rfl⟩
  · cases h
theorem mm_stp_inv {j pc : Nat} {ls : mm_L} {st : List Value} {I : mm_I} {r : mm_R} {o : mm_O} (h : mm_stp j pc ls st I r = some o) : ∃ i len, decode (mm_c j) pc = .ok (i, len) ∧ (mm_len i).getD len = len ∧ mm_flt i (mm_act j pc i ls st I r) = some o := by
  unfold mm_stp at h
  split at h
  · rename_i q hq
    obtain ⟨h1, h2⟩ := mm_if_inv h
    exact ⟨q.1, q.2, hq, h1, h2⟩
  · cases h
theorem mm_run_mt : ∀ (n j pc : Nat) (ls : mm_L) (st : List Value) (I : mm_I) (r : mm_R) (u : Option Value × mm_I × mm_R), mm_run n j pc ls st I r = some u → mm_t r ≤ mm_t u.2.2 ∧ mm_n r ≤ mm_n u.2.2 := by
  intro n
  induction n with
  | zero => intro j pc ls st I r u h; simp [mm_run] at h
  | succ n ih =>
    intro j pc ls st I r u h
    rw [mm_run] at h
    cases hs : mm_stp j pc ls st I r with
    | none => rw [hs] at h; cases h
    | some o =>
      rw [hs] at h
      obtain ⟨i, len, hd, hlen, hf⟩ := mm_stp_inv hs
      rcases o with q | v | q
      · obtain ⟨pc', ls', st', I', r'⟩ := q
        have h1 := mm_mt (mm_flt_l hf)
        have h2 := ih _ _ _ _ _ _ _ h
        exact ⟨Nat.le_trans h1.1 h2.1, Nat.le_trans h1.2 h2.2⟩
      · cases h
        exact ⟨Nat.le_refl _, Nat.le_refl _⟩
      · dsimp only at h
        cases hr : mm_run n q.1 0 (mm_en q.1 q.2.1) [] I r with
        | none => rw [hr] at h; cases h
        | some w =>
          rw [hr] at h
          have h1 := ih _ _ _ _ _ _ _ hr
          have h2 := ih _ _ _ _ _ _ _ h
          exact ⟨Nat.le_trans h1.1 h2.1, Nat.le_trans h1.2 h2.2⟩
def mm_Q (D : va_G) (cA : Nat → ClassId) (b : Nat) (v : Option Value) (I : mm_I) (r : mm_R) : Array Value → State → Outcome → State → Prop := fun _ st oc t => oc = .returned v ∧ mm_Wd D cA b I r t.heap ∧ t.heap.size = mm_t r ∧ va_F (mm_A b) st t
def mm_w (j : Nat) : List Cond := Cond.code (mm_y j) (mm_c j) (mm_x j) (mm_r j) :: mm_U
def mm_B (D : va_G) (cA : Nat → ClassId) (b : Nat) (I : mm_I) (r : mm_R) (U : State) : Prop := b ≤ U.heap.size ∧ U.heap.size = mm_t r ∧ mm_Wd D cA b I r U.heap ∧ va_K D vwCl (mm_tys cA) U ∧ va_AO RX0 U ∧ va_AO RX3 U
def mm_Met (l : Launch) (D : va_G) (cA : Nat → ClassId) (b j : Nat) (av : List Value) (I : mm_I) (r : mm_R) (v : Option Value) (I1 : mm_I) (r1 : mm_R) : Prop := Met l (mm_y j) (mm_w j) { frames := mm_h j, cells := mm_t r1 - mm_t r, slots := mm_n r1 - mm_n r, locals := 34 * mm_h j } (va_Pc av (mm_B D cA b I r)) (mm_Q D cA b v I1 r1) (mm_t r1 - mm_t r) (mm_n r1 - mm_n r) (mm_A b)
theorem mm_B.moved {D : va_G} {cA : Nat → ClassId} {b : Nat} {I : mm_I} {r : mm_R} {u U : State} (hvm : u.vm.Alike U.vm) (hh : U.heap = u.heap) (h : mm_B D cA b I r u) : mm_B D cA b I r U := ⟨by rw [hh]; exact h.1, by rw [hh]; exact h.2.1, by rw [hh]; exact h.2.2.1, va_K.moved hvm h.2.2.2.1, va_AO.moved hvm h.2.2.2.2.1, va_AO.moved hvm h.2.2.2.2.2⟩
theorem mm_blind {D : va_G} {cA : Nat → ClassId} {b : Nat} {I : mm_I} {r : mm_R} {av : List Value} : FrameBlind (va_Pc av (mm_B D cA b I r)) := fun a U g mk h => ⟨h.1, mm_B.moved (u := U) (U := U.calling g mk a) (Vm.Alike.refl U.vm) rfl h.2⟩
theorem mm_good (j : Nat) {j2 : Nat} (h : mm_ok j2) : GoodIn (mm_w j) (mm_w j2) := by
  intro w hw
  rcases List.mem_cons.mp hw with rfl | hw
  · exact ⟨List.mem_cons_of_mem _ h.1, mm_U_good _ h.1⟩
  · exact ⟨List.mem_cons_of_mem _ hw, mm_U_good _ hw⟩
section
variable {p : Program} {l : Launch} {e : Env} {R : Room} {s : State} {m : MethodId} {args : Array Value} {below : List Frame} {meth : Method} {c : Code} {H : Heap} {locs : List Loc} {cells slots : Nat} {Q : State → Prop}
variable {D : va_G} {cA : Nat → ClassId} {b j : Nat} {I : mm_I} {r : mm_R}
theorem mm_ret (X : mm_Cx D cA b j p R s m args meth c) {pc len : Nat} {i : Instr} (hd : decode (mm_c j) pc = .ok (i, len)) (hlen : (mm_len i).getD len = len) {ls : mm_L} {st : List Value} {v : Option Value} (hi : mm_iR i = true) (ha : mm_act j pc i ls st I r = some (.inr (.inl v)))
    {arr : Array Slot} (hW : mm_Wd D cA b I r H) (hS : va_S (mm_A b) s.heap H locs) (hz : s.heap.size + cells = mm_t r) : W p l e R s m args below meth c H locs cells slots (MQ below (mm_Q D cA b v I r) args s cells slots (mm_A b)) (F0 m pc arr st) := by
  obtain ⟨hx, hb, hml, hr, hlk, hin, hown, hts, hK, hA0, hA3, hbs, hfr, hlo⟩ := X
  refine mm_sz (fun hsz => ?_)
  have hge := hW.ge hS hbs
  have heq : H.size = mm_t r := by omega
  cases i with
  | ireturn =>
    have hlen : 1 = len := hlen
    subst hlen
    obtain ⟨x, tl, hst, ha1⟩ := mm_i1_inv ha
    clear ha
    subst hst
    obtain ⟨⟨htl, ht⟩, ha2⟩ := mm_if_inv ha1
    subst htl
    cases ha2
    rcases ht with ht | ⟨ht, hx01⟩
    · exact W.iret hx hb (hr.trans ht) (fun t ht2 hW2 => ⟨rfl, by rw [ht2]; exact hW, by rw [ht2]; exact heq, hS.F ht2⟩) hS.2.2 hd hlk
    · exact W.zret hx hb (hr.trans ht) (by rcases hx01 with rfl | rfl <;> rfl) (fun t ht2 hW2 => ⟨rfl, by rw [ht2]; exact hW, by rw [ht2]; exact heq, hS.F ht2⟩) hS.2.2 hd hlk
  | lreturn =>
    have hlen : 1 = len := hlen
    subst hlen
    obtain ⟨x, tl, hst, ha1⟩ := mm_l1_inv ha
    clear ha
    subst hst
    obtain ⟨⟨htl, ht⟩, ha2⟩ := mm_if_inv ha1
    subst htl
    cases ha2
    exact W.lret hx hb (hr.trans ht) (fun t ht2 hW2 => ⟨rfl, by rw [ht2]; exact hW, by rw [ht2]; exact heq, hS.F ht2⟩) hS.2.2 hd hlk
  | return_ =>
    have hlen : 1 = len := hlen
    subst hlen
    obtain ⟨⟨htl, ht⟩, ha2⟩ := mm_if_inv ha
    clear ha
    subst htl
    cases ha2
    exact W.vret hx hb (hr.trans ht) (fun t ht2 hW2 => ⟨rfl, by rw [ht2]; exact hW, by rw [ht2]; exact heq, hS.F ht2⟩) hS.2.2 hd hlk
  | _ => cases hi
theorem mm_goon {pc : Nat} {ls : Array Slot} {rest st0 : List Value} {a : Array Value} {mc ms : Nat} {v : Option Value} {I1 : mm_I} {r1 : mm_R} (hr : va_Run p l e R s m args below meth c H locs cells slots mc ms (F0 m pc ls st0) rest (mm_Q D cA b v I1 r1 a) (mm_A b)) (hS : va_S (mm_A b) s.heap H locs)
    (kk : ∀ (H1 : Heap) (locs1 : List Loc), mm_Wd D cA b I1 r1 H1 → va_S (mm_A b) s.heap H1 locs1 → W p l e R s m args below meth c H1 locs1 (cells + mc) (slots + ms) Q (F0 m (pc + 3) ls (v.toList ++ rest))) : W p l e R s m args below meth c H locs cells slots Q (F0 m pc ls st0) := by
  intro T hT X
  obtain ⟨v2, st₀, t, T', L, h0, X', hL, e1, e2, ⟨hv, hW1, hz1, hz, hk⟩, st⟩ := hr T hT X
  cases hv
  rw [h0] at hz hk
  obtain ⟨t2, a1, b1⟩ := kk T'.heap (locs ++ L) (by rw [e1]; exact hW1)
    ⟨Nat.le_trans hS.1 (by rw [e1]; exact hz), fun q h1 h2 => by rw [e1, hk q (Nat.lt_of_lt_of_le h1 hS.1) h2]; exact hS.2.1 q h1 h2, fun q hq => by
      rcases List.mem_append.mp hq with h | h
      · exact hS.2.2 q h
      · exact hL q h⟩ T' rfl X'
  exact ⟨t2, st t2 a1, b1⟩
end
