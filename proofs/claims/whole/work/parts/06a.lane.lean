def bI (b : Bool) : Int32 := if b = true then 1 else 0
theorem bI_z (b : Bool) : (bI b = 0) = (b = false) := by cases b <;> simp [bI]
theorem bI_t (b : Bool) : (bI b = 1) = (b = true) := by cases b <;> simp [bI]
theorem bI_nz (b : Bool) : (b = false ∨ b = true) = True := by cases b <;> simp
theorem bI_01 : ((1 : Int32) = 0) = False := by decide
theorem bI_1 (P : Prop) (d : Decidable P) (h : P) : bI (decide P) = 1 := by simp [bI, h]
theorem bI_0 (P : Prop) (d : Decidable P) (h : ¬ P) : bI (decide P) = 0 := by simp [bI, h]
def wd (k : Nat) : Nat := if k = 4 ∨ k = 5 ∨ k = 6 then 5 else 6
def vc (I : mm_I) (a : Nat) : mm_I := fun k i => if k < 9 ∧ i < wd k then I (a + k) i else 0
def ln_S (r : mm_R) (a : Nat) : Prop := mm_S r a = (1, 0) ∧ (mm_P r a 6 = some (a + 1) ∧ mm_P r a 7 = some (a + 2) ∧ mm_P r a 8 = some (a + 3) ∧ mm_P r a 9 = some (a + 4) ∧ mm_P r a 10 = some (a + 5) ∧ mm_P r a 11 = some (a + 6) ∧ mm_P r a 12 = some (a + 7) ∧ mm_P r a 13 = some (a + 8)) ∧ (mm_S r (a + 1) = (2, 6) ∧ mm_S r (a + 2) = (2, 6) ∧ mm_S r (a + 3) = (2, 6) ∧ mm_S r (a + 4) = (2, 5) ∧ mm_S r (a + 5) = (2, 5) ∧ mm_S r (a + 6) = (2, 5) ∧ mm_S r (a + 7) = (2, 6) ∧ mm_S r (a + 8) = (2, 6))
def ln_F (a : Nat) (I J : mm_I) : Prop := ∀ q, (q < a ∨ a + 9 ≤ q) → J q = I q
section
variable {r : mm_R} {a : Nat} {I : mm_I}
theorem ln_S.s0 (h : ln_S r a) : mm_S r a = (1, 0) := h.1
theorem ln_S.p6 (h : ln_S r a) : mm_P r a 6 = some (a + 1) := h.2.1.1
theorem ln_S.p7 (h : ln_S r a) : mm_P r a 7 = some (a + 2) := h.2.1.2.1
theorem ln_S.p8 (h : ln_S r a) : mm_P r a 8 = some (a + 3) := h.2.1.2.2.1
theorem ln_S.p9 (h : ln_S r a) : mm_P r a 9 = some (a + 4) := h.2.1.2.2.2.1
theorem ln_S.p10 (h : ln_S r a) : mm_P r a 10 = some (a + 5) := h.2.1.2.2.2.2.1
theorem ln_S.p11 (h : ln_S r a) : mm_P r a 11 = some (a + 6) := h.2.1.2.2.2.2.2.1
theorem ln_S.p12 (h : ln_S r a) : mm_P r a 12 = some (a + 7) := h.2.1.2.2.2.2.2.2.1
theorem ln_S.p13 (h : ln_S r a) : mm_P r a 13 = some (a + 8) := h.2.1.2.2.2.2.2.2.2
theorem mm_ixs {c n : Nat} {x : Int32} (h : mm_S r a = (c, n)) : mm_ix r a c x = vp_in x n := by unfold mm_ix; rw [h]; simp
theorem ln_S.i1 (h : ln_S r a) (x : Int32) : mm_ix r (a + 1) 2 x = vp_in x 6 := mm_ixs h.2.2.1
theorem ln_S.i2 (h : ln_S r a) (x : Int32) : mm_ix r (a + 2) 2 x = vp_in x 6 := mm_ixs h.2.2.2.1
theorem ln_S.i3 (h : ln_S r a) (x : Int32) : mm_ix r (a + 3) 2 x = vp_in x 6 := mm_ixs h.2.2.2.2.1
theorem ln_S.i4 (h : ln_S r a) (x : Int32) : mm_ix r (a + 4) 2 x = vp_in x 5 := mm_ixs h.2.2.2.2.2.1
theorem ln_S.i5 (h : ln_S r a) (x : Int32) : mm_ix r (a + 5) 2 x = vp_in x 5 := mm_ixs h.2.2.2.2.2.2.1
theorem ln_S.i6 (h : ln_S r a) (x : Int32) : mm_ix r (a + 6) 2 x = vp_in x 5 := mm_ixs h.2.2.2.2.2.2.2.1
theorem ln_S.i7 (h : ln_S r a) (x : Int32) : mm_ix r (a + 7) 2 x = vp_in x 6 := mm_ixs h.2.2.2.2.2.2.2.2.1
theorem ln_S.i8 (h : ln_S r a) (x : Int32) : mm_ix r (a + 8) 2 x = vp_in x 6 := mm_ixs h.2.2.2.2.2.2.2.2.2
theorem rd_k {k i : Nat} (hk : k < 9 ∧ i < wd k) : mm_rd I (a + k) i = vc I a k i := by unfold mm_rd vc; rw [if_pos hk]
theorem rd_0 {i : Nat} (hi : i < 6) : mm_rd I a i = vc I a 0 i := rd_k (k := 0) ⟨by decide, hi⟩
theorem vc_u {k i : Nat} {x : Int32} (hk : k < 9 ∧ i < wd k) : vc (mm_uI I (a + k) i x) a = mm_uI (vc I a) k i x := by
  funext k2 i2
  unfold vc mm_uI upd
  by_cases h : k2 = k
  · subst h
    by_cases h2 : i2 = i
    · subst h2; simp [hk]
    · simp [h2]
  · have : ¬ a + k2 = a + k := by omega
    simp [h, this]
theorem vc_u0 {i : Nat} {x : Int32} (hi : i < 6) : vc (mm_uI I a i x) a = mm_uI (vc I a) 0 i x := vc_u (k := 0) ⟨by decide, hi⟩
theorem ln_F.rf : ln_F a I I := fun _ _ => rfl
theorem ln_F.tr {J K : mm_I} (h1 : ln_F a I J) (h2 : ln_F a J K) : ln_F a I K := fun q hq => (h2 q hq).trans (h1 q hq)
theorem ln_F.u {J : mm_I} {k i : Nat} {x : Int32} (h : ln_F a I J) (hk : k < 9) : ln_F a I (mm_uI J (a + k) i x) := fun q hq => by
  have : ¬ q = a + k := by omega
  unfold mm_uI
  rw [if_neg this]
  exact h q hq
theorem ln_F.u0 {J : mm_I} {i : Nat} {x : Int32} (h : ln_F a I J) : ln_F a I (mm_uI J a i x) := ln_F.u (k := 0) h (by decide)
end
theorem cl_nI {k : Nat} (h : k < 6) : (nI k).toNatClampNeg = k := nI_clamp (by omega)
theorem in6 {k : Nat} (h : k < 6) : vp_in (nI k) 6 := vp_in_nI h (by decide)
theorem in5 {k : Nat} (h : k < 5) : vp_in (nI k) 5 := vp_in_nI h (by decide)
section
variable {r : mm_R} {a : Nat} {I : mm_I} {Q : Option Value → mm_I → mm_R → Prop}
theorem t_hasHouse (h : ln_S r a) (x : Int32) : mm_E 3 0 [some (.ref a), some (.int x)] [] I r Q ↔ Q (some (.int (bI (decide (0 ≤ x ∧ x < vc I a 0 0))))) I r := by
  simp only [e3_0, e3_1, e3_4, e3_5, e3_6, e3_9, e3_12, e3_13, e3_16, e3_17, mm_pu_n, mm_pu_s, va_rf_s, mm_w8_0, mm_w8_1, mm_w8_2, mm_w8_3, mm_w8_4, mm_c1_n, mm_c1_i, mm_c1_a, mm_ct_a, mm_ct_i, true_and, and_true, and_self, eq_self, if_true, if_false, ite_true, ite_false, bI_t, bI_z, bI_nz, bI_01, true_or, or_true, reduceCtorEq, false_or, or_false, decide_eq_false_iff_not, decide_eq_true_eq, ite_not, h.s0, rd_0 (a := a) (I := I) (i := 0) (by decide)]
  by_cases h1 : x < 0
  · rw [if_pos h1, bI_0 _ _ (fun q => Int32.not_lt.mpr q.1 h1)]
  · rw [if_neg h1]
    by_cases h2 : vc I a 0 0 ≤ x
    · rw [if_pos h2, bI_0 _ _ (fun q => Int32.not_lt.mpr h2 q.2)]
    · rw [if_neg h2, bI_1 _ _ ⟨Int32.not_lt.mp h1, Int32.not_le.mp h2⟩]
theorem t_hasHog (h : ln_S r a) (x : Int32) : mm_E 4 0 [some (.ref a), some (.int x)] [] I r Q ↔ Q (some (.int (bI (decide (0 ≤ x ∧ x < vc I a 0 1))))) I r := by
  simp only [e4_0, e4_1, e4_4, e4_5, e4_6, e4_9, e4_12, e4_13, e4_16, e4_17, mm_pu_n, mm_pu_s, va_rf_s, mm_w8_0, mm_w8_1, mm_w8_2, mm_w8_3, mm_w8_4, mm_c1_n, mm_c1_i, mm_c1_a, mm_ct_a, mm_ct_i, true_and, and_true, and_self, eq_self, if_true, if_false, ite_true, ite_false, bI_t, bI_z, bI_nz, bI_01, true_or, or_true, reduceCtorEq, false_or, or_false, decide_eq_false_iff_not, decide_eq_true_eq, ite_not, h.s0, rd_0 (a := a) (I := I) (i := 1) (by decide)]
  by_cases h1 : x < 0
  · rw [if_pos h1, bI_0 _ _ (fun q => Int32.not_lt.mpr q.1 h1)]
  · rw [if_neg h1]
    by_cases h2 : vc I a 0 1 ≤ x
    · rw [if_pos h2, bI_0 _ _ (fun q => Int32.not_lt.mpr h2 q.2)]
    · rw [if_neg h2, bI_1 _ _ ⟨Int32.not_lt.mp h1, Int32.not_le.mp h2⟩]
theorem t_isLost (h : ln_S r a) {k : Nat} (hk : k < 6) : mm_E 7 0 [some (.ref a), some (.int (nI k))] [] I r Q ↔ Q (some (.int (bI (decide (3 ≤ vc I a 3 k))))) I r := by
  simp only [e7_0, e7_1, e7_4, e7_5, e7_6, e7_7, e7_10, e7_11, e7_14, e7_15, mm_pu_n, mm_pu_s, va_rf_s, mm_w8_0, mm_w8_1, mm_w8_2, mm_w8_3, mm_w8_4, mm_c1_n, mm_c1_i, mm_c1_a, mm_ct_a, mm_ct_i, true_and, and_true, and_self, eq_self, if_true, if_false, ite_true, ite_false, bI_t, bI_z, bI_nz, bI_01, true_or, or_true, reduceCtorEq, false_or, or_false, decide_eq_false_iff_not, decide_eq_true_eq, ite_not, h.s0, h.p6, h.p7, h.p8, h.p9, h.p10, h.p11, h.p12, h.p13, h.i1, h.i2, h.i3, h.i4, h.i5, h.i6, h.i7, h.i8, in6 hk, cl_nI hk, rd_k (a := a) (I := I) (k := 3) ⟨by decide, hk⟩]
  by_cases h1 : vc I a 3 k < 3
  · rw [if_pos h1, bI_0 _ _ (fun q => Int32.not_lt.mpr q h1)]
  · rw [if_neg h1, bI_1 _ _ (Int32.not_lt.mp h1)]
theorem t_isWinter (h : ln_S r a) : mm_E 8 0 [some (.ref a)] [] I r Q ↔ Q (some (.int (bI (decide (15 ≤ vc I a 0 3 - vc I a 0 3 / 20 * 20))))) I r := by
  simp only [e8_0, e8_1, e8_4, e8_6, e8_7, e8_9, e8_12, e8_13, e8_16, e8_17, mm_pu_n, mm_pu_s, va_rf_s, mm_w8_0, mm_w8_1, mm_w8_2, mm_w8_3, mm_w8_4, mm_c1_n, mm_c1_i, mm_c1_a, mm_ct_a, mm_ct_i, true_and, and_true, and_self, eq_self, if_true, if_false, ite_true, ite_false, bI_t, bI_z, bI_nz, bI_01, true_or, or_true, reduceCtorEq, false_or, or_false, decide_eq_false_iff_not, decide_eq_true_eq, ite_not, h.s0, rd_0 (a := a) (I := I) (i := 3) (by decide), show ¬ ((20 : Int32) = 0) by decide, not_false_eq_true]
  by_cases h1 : vc I a 0 3 - vc I a 0 3 / 20 * 20 < 15
  · rw [if_pos h1, bI_0 _ _ (fun q => Int32.not_lt.mpr q h1)]
  · rw [if_neg h1, bI_1 _ _ (Int32.not_lt.mp h1)]
end
