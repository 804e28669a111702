theorem lw_ao0 : Cond.arrayOver (.object RX0) ∈ lw_tbl := by decide +kernel
theorem lw_ao3 : Cond.arrayOver (.object RX3) ∈ lw_tbl := by decide +kernel
theorem whole_start {p : Program} {e : Env} {s : State} {m : MethodId} {below : List Frame} {meth : Method} {c : Code} (l : Launch) {b L : Nat} {xs : Nat → Int32} (hL : L ≤ 512) (C0 : lw_At p s m meth c b L xs) : W p l e room_1 s m #[Value.ref b] below meth c s.heap [] 0 0 (lw_Z below #[Value.ref b] s) (entryFrame m ([Value.ref b] : List Value).toArray 4) := by
  obtain ⟨hx, hb, hr, hml, hown, hts, hX, hbl, hlocks, hgv⟩ := id C0
  obtain ⟨D, cA, hK, hA0, hA3⟩ := lw_setup hts lw_ao0 lw_ao3
  have X : lw_Cx D cA p s m #[Value.ref b] c := ⟨hx, hb, hml, hown, fun w h => hts w (mm_U_in w h), hK, hA0, hA3⟩
  have hl := lv_entry ([.ref b]) (n := 4) (Nat.le_of_ble_eq_true rfl)
  rw [lg_entry_eq]
  generalize (lg_sl ([.ref b]) ++ List.replicate (4 - (lg_sl ([.ref b])).length) Slot.unset).toArray = ls at hl ⊢
  have hl : lv_has ls 4 [(0, .ref b)] := hl
  obtain ⟨I0, r0, ht0, hW0⟩ : ∃ (I0 : mm_I) (r0 : mm_R), mm_t r0 = s.heap.size ∧ mm_Wd D cA s.heap.size I0 r0 s.heap := ⟨fun _ _ => 0, (fun _ _ => 0, fun _ _ => none, fun _ => (0, 0), s.heap.size, 0), rfl, Nat.le_refl _, fun k q h => by simp [mm_ws, mm_t] at h, fun a h => absurd rfl h⟩
  have hS0 : va_S (mm_A s.heap.size) s.heap s.heap [] := va_S.rf
  refine lw_new (ci := 5) X dL_law_0 (by decide) mw_0 hW0 hS0 (by omega) (Nat.le_of_ble_eq_true rfl) (Nat.le_of_ble_eq_true rfl) (fun H1 hW1 hS1 => ?_)
  rw [ht0]
  have N5 : mm_N 5 = 9 := rfl
  have N6 : mm_N 6 = 16 := rfl
  have e1 : mm_t (mm_nR r0 (1, 5) (mm_N 5)) = s.heap.size + 1 := by rw [nr_t, ht0]
  refine lv_dup hx hb dL_law_3 rfl ?_
  have hE1 : mm_E 49 0 (mm_en 49 [.ref s.heap.size]) [] (mm_nI I0 r0) (mm_nR r0 (1, 5) (mm_N 5)) (fun v J t => v = none ∧ mm_t t = s.heap.size + 199 ∧ mm_n t ≤ mm_n (mm_nR r0 (1, 5) (mm_N 5)) + 5000 ∧ HX t s.heap.size ∧ HI J t s.heap.size) :=
    t_initHog (x := s.heap.size) (by rw [nr_S, if_pos ht0.symm]) e1 (fun i => by rw [nr_I, if_pos ht0.symm]) (fun J t _ h2 h3 h4 h5 => ⟨rfl, h2, h3, h4, h5⟩)
  obtain ⟨v, I2, r2, ⟨rfl, e2, n2, hx2, hi2⟩, m1, m2, m3, hM⟩ := mm_meS l D cA s.heap.size (j := 49) (av := [.ref s.heap.size]) (by decide) (Nat.le_of_ble_eq_true rfl) hE1
  refine lw_ini (j2 := 49) (As := []) (st' := [.ref s.heap.size]) X dL_law_4 (by decide) mw_7 (by decide +kernel) (by decide +kernel) rfl rfl (Nat.le_of_ble_eq_true rfl) hM hl.1 hW1 hS1 (by omega) (by omega) (by omega) (fun H2 locs2 hW2 hS2 => ?_)
  refine W.widen (k := 199) (n := 6000) (by omega) (by omega) ?_
  refine lv_astore_n (lv' := [(1, .ref s.heap.size), (0, .ref b)]) hx hb dL_law_7 rfl hl (by decide) rfl (fun ls hl => ?_)
  refine lw_new (ci := 6) X dL_law_8 (by decide) mw_3 hW2 hS2 (by omega) (Nat.le_of_ble_eq_true rfl) (Nat.le_of_ble_eq_true rfl) (fun H3 hW3 hS3 => ?_)
  have e3 : mm_t (mm_nR r2 (1, 6) (mm_N 6)) = s.heap.size + 199 + 1 := by rw [nr_t, e2]
  rw [e2]
  refine lv_dup hx hb dL_law_11 rfl ?_
  have hE2 : mm_E 92 0 (mm_en 92 [.ref (s.heap.size + 199)]) [] (mm_nI I2 r2) (mm_nR r2 (1, 6) (mm_N 6)) (fun v J t => v = none ∧ ef 0 (s.heap.size + 199) (mm_nI I2 r2) J (mm_nR r2 (1, 6) (mm_N 6)) t ∧ mm_t t = s.heap.size + 199 + 13 ∧ mm_n t ≤ mm_n (mm_nR r2 (1, 6) (mm_N 6)) + 5000 ∧ ml_S t (s.heap.size + 199) ∧ MI J t (s.heap.size + 199)) :=
    t_initModel (m := s.heap.size + 199) (by rw [nr_S, if_pos e2.symm]) e3 (fun i => by rw [nr_I, if_pos e2.symm]) (fun J t h1 h2 h3 h4 h5 => ⟨rfl, h1, h2, h3, h4, h5⟩)
  obtain ⟨v, I4, r4, ⟨rfl, f4, e4, n4, hx4, hi4⟩, m4, m5, m6, hM2⟩ := mm_meS l D cA s.heap.size (j := 92) (av := [.ref (s.heap.size + 199)]) (by decide) (Nat.le_of_ble_eq_true rfl) hE2
  have f4 := nw_tr e2 f4
  have hA : ALL I4 r4 s.heap.size (s.heap.size + 199) := ALL_new rfl (HX_e f4 (Nat.le_refl _) hx2) (HI_e f4 (Nat.le_refl _) hi2) hx4 hi4
  refine lw_ini (j2 := 92) (As := []) (st' := [.ref (s.heap.size + 199)]) X dL_law_12 (by decide) mw_79 (by decide +kernel) (by decide +kernel) rfl rfl (Nat.le_of_ble_eq_true rfl) hM2 hl.1 hW3 hS3 (by omega) (by omega) (by omega) (fun H4 locs4 hW4 hS4 => ?_)
  refine W.widen (k := 212) (n := 12000) (by omega) (by omega) ?_
  refine lv_astore_n (lv' := [(2, .ref (s.heap.size + 199)), (1, .ref s.heap.size), (0, .ref b)]) hx hb dL_law_15 rfl hl (by decide) rfl (fun ls hl => ?_)
  refine lv_iconst (v := 0) hx hb dL_law_16 (by decide) ?_
  refine lv_istore_n (lv' := [(3, .int 0), (2, .ref (s.heap.size + 199)), (1, .ref s.heap.size), (0, .ref b)]) hx hb dL_law_17 rfl hl (by decide) rfl (fun ls hl => ?_)
  exact law_loop hL C0 X (Nat.le_of_ble_eq_true rfl) (Nat.le_of_ble_eq_true rfl) (L + 1) 0 (Nat.zero_le L) (by omega) I4 r4 H4 locs4 hA (by omega) hW4 hS4 ls (lv_sub hl [3, 2, 1, 0] rfl)
