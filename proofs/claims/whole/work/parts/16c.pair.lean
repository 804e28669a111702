def lw_KK (p : Program) (l : Launch) (e : Env) (s : State) (m : MethodId) (args : Array Value) (below : List Frame) (meth : Method) (c : Code) (Q : State → Prop) (D : va_G) (cA : Nat → ClassId) (x y : Nat) (arr : Array Slot) (cells slots : Nat) : Prop :=
  ∀ (I : mm_I) (r : mm_R) (H : Heap) (locs : List Loc), ALL I r x y → s.heap.size + cells = mm_t r → mm_Wd D cA s.heap.size I r H → va_S (mm_A s.heap.size) s.heap H locs → W p l e room_1 s m args below meth c H locs cells slots Q (F0 m 1387 arr [])
section
variable {p : Program} {l : Launch} {e : Env} {s : State} {m : MethodId} {args : Array Value} {below : List Frame} {meth : Method} {c : Code} {H : Heap} {locs : List Loc} {cells slots : Nat} {Q : State → Prop}
variable {D : va_G} {cA : Nat → ClassId} {I : mm_I} {r : mm_R} {b L i x y : Nat} {xs : Nat → Int32} {arr : Array Slot} {rest : List Value} {lv : List (Nat × Value)}
theorem lw_arg {k pc : Nat} {n : Int} (X : lw_Cx D cA p s m args c) (hX : va_X b L xs s s.heap) (hbl : b < s.heap.size) (hS : va_S (mm_A s.heap.size) s.heap H locs) (hl : lv_has arr 4 ((0, .ref b) :: (1, .ref x) :: (2, .ref y) :: (3, .int (nI i)) :: lv)) (hk : i + k < L ∧ L ≤ 512) (hn : Int32.ofInt n = nI k) (d0 : decode code pc = .ok (.aload_n 0, 1)) (d1 : decode code (pc + 1) = .ok (.iload_n 3, 1)) (d2 : decode code (pc + 2) = .ok (.iconst n, 1)) (d3 : decode code (pc + 3) = .ok (.iadd, 1)) (d4 : decode code (pc + 4) = .ok (.iaload, 1))
    (kk : W p l e room_1 s m args below meth c H locs cells slots Q (F0 m (pc + 5) arr (.int (xs (i + k)) :: rest))) : W p l e room_1 s m args below meth c H locs cells slots Q (F0 m pc arr rest) := by
  refine lv_aload_n X.1 X.2.1 d0 rfl (lv_at hl 0 rfl) ?_
  refine lv_iload_n X.1 X.2.1 d1 rfl (lv_at hl 3 rfl) ?_
  refine lv_iconst (v := nI k) X.1 X.2.1 d2 hn ?_
  refine lv_iadd X.1 X.2.1 d3 ?_
  rw [nI_add]
  refine va_sld (A := mm_A s.heap.size) X.1 X.2.1 hX hbl (Nat.not_le.mpr hbl) hS (vp_in_nI hk.1 (by omega)) d4 ?_
  rw [nI_clamp (by omega)]
  exact kk
theorem lw_arg2 {k pc : Nat} {n : Int} (X : lw_Cx D cA p s m args c) (hX : va_X b L xs s s.heap) (hbl : b < s.heap.size) (hS : va_S (mm_A s.heap.size) s.heap H locs) (hl : lv_has arr 4 ((0, .ref b) :: (1, .ref x) :: (2, .ref y) :: (3, .int (nI i)) :: lv)) (hk : i + k < L ∧ L ≤ 512) (hn : (Int8.ofInt n).toInt32 = nI k) (d0 : decode code pc = .ok (.aload_n 0, 1)) (d1 : decode code (pc + 1) = .ok (.iload_n 3, 1)) (d2 : decode code (pc + 2) = .ok (.bipush n, 2)) (d3 : decode code (pc + 4) = .ok (.iadd, 1)) (d4 : decode code (pc + 5) = .ok (.iaload, 1))
    (kk : W p l e room_1 s m args below meth c H locs cells slots Q (F0 m (pc + 6) arr (.int (xs (i + k)) :: rest))) : W p l e room_1 s m args below meth c H locs cells slots Q (F0 m pc arr rest) := by
  refine lv_aload_n X.1 X.2.1 d0 rfl (lv_at hl 0 rfl) ?_
  refine lv_iload_n X.1 X.2.1 d1 rfl (lv_at hl 3 rfl) ?_
  refine lv_bipush (v := nI k) X.1 X.2.1 d2 hn ?_
  refine lv_iadd X.1 X.2.1 d3 ?_
  rw [nI_add]
  refine va_sld (A := mm_A s.heap.size) X.1 X.2.1 hX hbl (Nat.not_le.mpr hbl) hS (vp_in_nI hk.1 (by omega)) d4 ?_
  rw [nI_clamp (by omega)]
  exact kk
/-- both calls of a case, and their answers held against each other -/
theorem lw_pair {jx jm pc1 pc2 k1 k2 : Nat} {off : Int} {As st1 : List Value} {lx lm : mm_L} (X : lw_Cx D cA p s m args c) (hp : pr jx jm lx lm I r x y) (hA : ALL I r x y) (d1 : decode code pc1 = .ok (.invokevirtual k1, 3)) (d2 : decode code pc2 = .ok (.invokevirtual k2, 3)) (d3 : decode code (pc2 + 3) = .ok (.if_icmp .eq off, 3)) (ht : ((pc2 + 3 : Nat) : Int) + off = ((1387 : Nat) : Int)) (hj : jx < 164 ∧ jm < 164) (hkk : mm_k jx = 0 ∧ mm_k jm = 0) (hxx : mm_x jx ≤ 15 ∧ mm_x jm ≤ 15) (hoo : mm_o jx = 5 ∧ mm_o jm = 6) (haa : mm_a jx = As.length ∧ mm_a jm = As.length) (hl1 : Cond.methodLink RL k1 (mm_y jx) ∈ mm_U) (hl2 : Cond.methodLink RL k2 (mm_y jm) ∈ mm_U)
    (hsx : (mm_sl (.ref x :: As)).length ≤ mm_x jx) (hsm : (mm_sl (.ref y :: As)).length ≤ mm_x jm) (hex : mm_en jx (.ref x :: As) = lx) (hem : mm_en jm (.ref y :: As) = lm) (hst : st1 = As.reverse ++ .ref x :: [])
    (hn : arr.size = 4) (hW : mm_Wd D cA s.heap.size I r H) (hS : va_S (mm_A s.heap.size) s.heap H locs) (hz : s.heap.size + cells = mm_t r) (hc : cells ≤ 600000) (hs : slots ≤ 7302250)
    (mid : ∀ (v : Int32) (H1 : Heap) (locs1 : List Loc), va_S (mm_A s.heap.size) s.heap H1 locs1 → W p l e room_1 s m args below meth c H1 locs1 cells slots Q (F0 m pc2 arr (As.reverse ++ .ref y :: [.int v])) → W p l e room_1 s m args below meth c H1 locs1 cells slots Q (F0 m (pc1 + 3) arr [.int v]))
    (kk : lw_KK p l e s m args below meth c Q D cA x y arr cells slots) : W p l e room_1 s m args below meth c H locs cells slots Q (F0 m pc1 arr st1) := by
  unfold pr at hp
  rw [← hex, ← hem] at hp
  obtain ⟨v, I1, r1, hp1, m1, m2, m3, hM1⟩ := mm_meS l D cA s.heap.size hj.1 hsx hp
  obtain ⟨v2, I2, r2, hf, m4, m5, m6, hM2⟩ := mm_meS l D cA s.heap.size hj.2 hsm hp1
  obtain ⟨⟨z, rfl, rfl⟩, hA2, ht2, hn2⟩ := hf
  have e1 : mm_t r1 = mm_t r := by omega
  have e2 : mm_n r1 = mm_n r := by omega
  have hxs : mm_S r x = (1, 5) := hA.1.2.1.1
  have hys : mm_S r y = (1, 6) := hA.1.2.2.2.2.2.2.2.s0
  have hym : y < mm_t r := (hW.lt (a := y) (by rw [hys]; simp)).2
  refine lw_cal X d1 hj.1 hl1 hkk.1 hxx.1 haa.1.symm hst (Nat.zero_le _) (by rw [hoo.1]; exact hxs) hM1 hn hW hS hz (by omega) (by omega) (fun H1 locs1 hW1 hS1 => ?_)
  rw [e1, e2, Nat.sub_self, Nat.sub_self, Nat.add_zero, Nat.add_zero]
  refine mid z H1 locs1 hS1 ?_
  refine lw_cal X d2 hj.2 hl2 hkk.2 hxx.2 haa.2.symm rfl (Nat.le_of_ble_eq_true rfl) (by rw [hoo.2, m3 y hym]; exact hys) hM2 hn hW1 hS1 (by omega) (by omega) (by omega) (fun H2 locs2 hW2 hS2 => ?_)
  rw [ht2, hn2, e1, e2, Nat.sub_self, Nat.sub_self, Nat.add_zero, Nat.add_zero]
  refine lv_icmp_eq (tgt := 1387) X.1 X.2.1 d3 ht (fun _ => ?_) (fun h => absurd rfl h)
  exact kk I2 r2 H2 locs2 hA2 (by omega) hW2 hS2
end
