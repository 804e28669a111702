theorem pa_S_e {a b T : Nat} {sg : Nat → Nat} {I J : mm_I} {r s : mm_R} (h : ef b T I J r s) (h1 : b ≤ a) (h2 : a + 74 ≤ T) (hl : pa_S r a sg) : pa_S s a sg := by
  obtain ⟨a1, a2, a3, a4, a5, a6⟩ := hl
  refine ⟨by rw [(h a h1 (by omega)).2.2.2]; exact a1, by rw [(h a h1 (by omega)).2.2.1]; exact a2, by rw [(h (a + 1) (by omega) (by omega)).2.2.2]; exact a3, fun k hk => ln_S_e h (by omega) (by omega) (a4 k hk), fun k hk => by rw [(h (a + 1) (by omega) (by omega)).2.2.1]; exact a5 k hk, a6⟩
theorem nw_tr {T : Nat} {I J : mm_I} {r s : mm_R} {sh : Nat × Nat} {w : Nat} (ht : mm_t r = T) (h : ef 0 T (mm_nI I r) J (mm_nR r sh w) s) : ef 0 T I J r s := by
  subst ht
  exact ef.nw.tr h
def sx_1 (J : mm_I) (s : mm_R) (x k : Nat) : Prop := (mm_P s (x + 107) k = some (x + 108 + 2 * k) ∧ mm_S s (x + 108 + 2 * k) = (1, 3) ∧ mm_P s (x + 108 + 2 * k) 3 = some (x + 109 + 2 * k) ∧ mm_S s (x + 109 + 2 * k) = (3, 24)) ∧ (∀ i, J (x + 108 + 2 * k) i = 0) ∧ ∀ i, mm_G s (x + 109 + 2 * k) i = 0
section
variable {r : mm_R} {I : mm_I} {x : Nat} {Q : Option Value → mm_I → mm_R → Prop}
theorem t_sheets (hS : mm_S r x = (1, 5)) (hP : mm_P r x 5 = some (x + 107)) (hR : mm_S r (x + 107) = (5, 4)) (ht : mm_t r = x + 108) (hq : ∀ J s, ef 0 (x + 107) I J r s → mm_t s = x + 116 → mm_n s = mm_n r + 112 → mm_S s (x + 107) = (5, 4) → (∀ k, k < 4 → sx_1 J s x k) → mm_E 49 93 [some (.ref x), some (.int (nI 4))] [] J s Q) : mm_E 49 69 [some (.ref x), some (.int (nI 0))] [] I r Q := by
  have loop : ∀ d k J s, k + d = 4 → ef 0 (x + 107) I J r s → mm_t s = x + 108 + 2 * k → mm_n s = mm_n r + 28 * k → mm_S s (x + 107) = (5, 4) → (∀ i, i < k → sx_1 J s x i) → mm_E 49 69 [some (.ref x), some (.int (nI k))] [] J s Q := by
    intro d
    induction d with
    | zero =>
      intro k J s hk hF h1 h2 h3 h4
      have : k = 4 := by omega
      subst this
      rw [e49_69]
      simp only [e49_70, e49_71, mm_pu_n, mm_pu_s, va_rf_s, mm_w8_0, mm_w8_1, mm_w8_2, mm_w8_3, mm_w8_4, mm_c1_n, mm_c1_i, mm_c1_a, mm_ct_a, mm_ct_i, true_and, and_true, and_self, eq_self, if_true, if_false, ite_true, ite_false, bI_t, bI_z, bI_nz, bI_01, true_or, or_true, reduceCtorEq, false_or, or_false, decide_eq_false_iff_not, decide_eq_true_eq, ite_not, show ((4 : Int32) ≤ nI 4) = True from eq_true (by decide)]
      exact hq J s hF (by omega) (by omega) h3 h4
    | succ d ih =>
      intro k J s hk hF h1 h2 h3 h4
      have h8 : ¬ ((4 : Int32) ≤ nI k) := by
        rw [show (4 : Int32) = nI 4 from rfl]
        exact nI_ge (by omega) (by decide)
      have kx := hF x (Nat.zero_le _) (by omega)
      rw [e49_69]
      simp only [e49_70, e49_71, e49_74, e49_75, e49_78, e49_79, e49_82, e49_83, mm_pu_n, mm_pu_s, va_rf_s, mm_w8_0, mm_w8_1, mm_w8_2, mm_w8_3, mm_w8_4, mm_c1_n, mm_c1_i, mm_c1_a, mm_ct_a, mm_ct_i, true_and, and_true, and_self, eq_self, if_true, if_false, ite_true, ite_false, bI_t, bI_z, bI_nz, bI_01, true_or, or_true, reduceCtorEq, false_or, or_false, decide_eq_false_iff_not, decide_eq_true_eq, ite_not, h8, kx.2.2.2, kx.2.2.1, hS, hP]
      rw [h1]
      refine t_initSheet (a := x + 108 + 2 * k) ?_ ?_ ?_ (fun J2 s2 w1 w2 w3 w4 w5 w6 w7 w8 => ?_)
      · rw [nr_S, if_pos h1.symm]
      · rw [nr_t, h1]
      · intro i; rw [nr_I, if_pos h1.symm]
      have hE := nw_tr h1 w1
      have k107 := hE (x + 107) (Nat.zero_le _) (by omega)
      have e1 : x + 108 + 2 * k + 1 = x + 109 + 2 * k := by omega
      rw [e1] at w5 w6 w8
      simp only [mm_pu_n, e49_86, e49_87, e49_90, mm_pu_n, mm_pu_s, va_rf_s, mm_w8_0, mm_w8_1, mm_w8_2, mm_w8_3, mm_w8_4, mm_c1_n, mm_c1_i, mm_c1_a, mm_ct_a, mm_ct_i, true_and, and_true, and_self, eq_self, if_true, if_false, ite_true, ite_false, bI_t, bI_z, bI_nz, bI_01, true_or, or_true, reduceCtorEq, false_or, or_false, decide_eq_false_iff_not, decide_eq_true_eq, ite_not, k107.2.2.2, h3, w4, vp_in_nI (show k < 4 by omega) (by decide), cl2 (show k < 248 by omega), nI_1]
      refine ih (k + 1) _ _ (by omega) (fun q _ hqa => ?_) (by rw [up_t, w2]; omega) (by rw [up_n, w3, nr_n]; omega) (by rw [up_S, k107.2.2.2]; exact h3) (fun i hi => ?_)
      · have k1 := hF q (Nat.zero_le _) hqa
        have k2 := hE q (Nat.zero_le _) (by omega)
        rw [up_G, up_P, up_S, if_neg (by omega), k2.1, k2.2.1, k2.2.2.1, k2.2.2.2]
        exact k1
      · by_cases c : i = k
        · subst c
          refine ⟨⟨by rw [up_P, if_pos rfl, va_up_s], by rw [up_S]; exact w4, by rw [up_P, if_neg (by omega)]; exact w5, by rw [up_S]; exact w6⟩, w7, fun j => by rw [up_G]; exact w8 j⟩
        · obtain ⟨⟨b1, b2, b3, b4⟩, b5, b6⟩ := h4 i (by omega)
          have y1 := hE (x + 108 + 2 * i) (Nat.zero_le _) (by omega)
          have y2 := hE (x + 109 + 2 * i) (Nat.zero_le _) (by omega)
          refine ⟨⟨by rw [up_P, if_pos rfl, va_up_n _ _ _ _ c, k107.2.2.1]; exact b1, by rw [up_S, y1.2.2.2]; exact b2, by rw [up_P, if_neg (by omega), y1.2.2.1]; exact b3, by rw [up_S, y2.2.2.2]; exact b4⟩, fun j => by rw [y1.1]; exact b5 j, fun j => by rw [up_G, y2.2.1]; exact b6 j⟩
  exact loop 4 0 I r (by omega) ef.rf (by omega) (by omega) hR (fun i hi => absurd hi (by omega))
def HX (s : mm_R) (x : Nat) : Prop := hs_0 s x ∧ hs_l s x ∧ pa_S s (x + 19) idn ∧ pa_S s (x + 125) idn ∧ hs_p s x ∧ hs_t s x ∧ hs_s s x
def HI (J : mm_I) (s : mm_R) (x : Nat) : Prop := LI J (x + 1) ∧ J (x + 19) 1 = 0 ∧ J (x + 96) 0 = 0 ∧ J x 8 = 0 ∧ ∀ k, k < 4 → (∀ i, J (x + 108 + 2 * k) i = 0) ∧ ∀ i, mm_G s (x + 109 + 2 * k) i = 0
set_option maxHeartbeats 4000000 in
theorem t_initHog (hS : mm_S r x = (1, 5)) (ht : mm_t r = x + 1) (h0 : ∀ i, I x i = 0) (hq : ∀ J s, ef 0 x I J r s → mm_t s = x + 199 → mm_n s ≤ mm_n r + 5000 → HX s x → HI J s x → Q none J s) : mm_E 49 0 [some (.ref x), none] [] I r Q := by
  simp only [e49_0, e49_1, e49_4, e49_5, e49_8, e49_9, mm_pu_n, mm_pu_s, va_rf_s, mm_w8_0, mm_w8_1, mm_w8_2, mm_w8_3, mm_w8_4, mm_c1_n, mm_c1_i, mm_c1_a, mm_ct_a, mm_ct_i, true_and, and_true, and_self, eq_self, if_true, if_false, ite_true, ite_false, bI_t, bI_z, bI_nz, bI_01, true_or, or_true, reduceCtorEq, false_or, or_false, decide_eq_false_iff_not, decide_eq_true_eq, ite_not, hS, ht]
  refine t_initLane (a := x + 1) ?_ ?_ ?_ (fun J1 s1 a1_1 a2_1 a3_1 a4_1 a5_1 => ?_)
  · rw [nr_S]; first | rw [if_pos (by rw [ht])] | (rw [if_pos]; simp [up_t, *])
  · rw [nr_t]; simp [up_t, *]
  · intro i; rw [nr_I]; simp [up_t, *]
  replace a2_1 : mm_t s1 = x + 10 := a2_1
  have E1 := nw_tr ht a1_1
  have x1 := E1 x (Nat.zero_le _) (by omega)
  have xS1 : mm_S s1 x = (1, 5) := by rw [x1.2.2.2]; exact hS
  simp only [mm_pu_n, e49_12, e49_15, e49_16, e49_19, e49_20, mm_pu_n, mm_pu_s, va_rf_s, mm_w8_0, mm_w8_1, mm_w8_2, mm_w8_3, mm_w8_4, mm_c1_n, mm_c1_i, mm_c1_a, mm_ct_a, mm_ct_i, true_and, and_true, and_self, eq_self, if_true, if_false, ite_true, ite_false, bI_t, bI_z, bI_nz, bI_01, true_or, or_true, reduceCtorEq, false_or, or_false, decide_eq_false_iff_not, decide_eq_true_eq, ite_not, xS1, up_t, up_S, nr_S, nr_t, a2_1, show ¬ (4 : Int32) < 0 by decide, show (4 : Int32).toNatClampNeg = 4 by decide, show 4 ≤ 1000 by decide, not_false_eq_true, show (x = x + 107) = False from eq_false (by omega)]
  refine t_initLane (a := x + 10) ?_ ?_ ?_ (fun J2 s2 a1_2 a2_2 a3_2 a4_2 a5_2 => ?_)
  · rw [nr_S]; first | rw [if_pos (by rw [ht])] | (rw [if_pos]; simp [up_t, *])
  · rw [nr_t]; simp [up_t, *]
  · intro i; rw [nr_I]; simp [up_t, *]
  replace a2_2 : mm_t s2 = x + 19 := a2_2
  have E2 := nw_tr (T := x + 10) (by rw [up_t]; exact a2_1) a1_2
  have x2 := E2 x (Nat.zero_le _) (by omega)
  rw [up_P, if_pos rfl] at x2
  have xS2 : mm_S s2 x = (1, 5) := by rw [x2.2.2.2]; exact xS1
  simp only [mm_pu_n, e49_23, e49_26, e49_27, e49_30, e49_31, mm_pu_n, mm_pu_s, va_rf_s, mm_w8_0, mm_w8_1, mm_w8_2, mm_w8_3, mm_w8_4, mm_c1_n, mm_c1_i, mm_c1_a, mm_ct_a, mm_ct_i, true_and, and_true, and_self, eq_self, if_true, if_false, ite_true, ite_false, bI_t, bI_z, bI_nz, bI_01, true_or, or_true, reduceCtorEq, false_or, or_false, decide_eq_false_iff_not, decide_eq_true_eq, ite_not, xS2, up_t, up_S, nr_S, nr_t, a2_2, show ¬ (4 : Int32) < 0 by decide, show (4 : Int32).toNatClampNeg = 4 by decide, show 4 ≤ 1000 by decide, not_false_eq_true, show (x = x + 107) = False from eq_false (by omega)]
  refine t_initPast (a := x + 19) ?_ ?_ ?_ (fun J3 s3 a1_3 a2_3 a3_3 a4_3 a5_3 => ?_)
  · rw [nr_S]; first | rw [if_pos (by rw [ht])] | (rw [if_pos]; simp [up_t, *])
  · rw [nr_t]; simp [up_t, *]
  · intro i; rw [nr_I]; simp [up_t, *]
  replace a2_3 : mm_t s3 = x + 93 := a2_3
  have E3 := nw_tr (T := x + 19) (by rw [up_t]; exact a2_2) a1_3
  have x3 := E3 x (Nat.zero_le _) (by omega)
  rw [up_P, if_pos rfl] at x3
  have xS3 : mm_S s3 x = (1, 5) := by rw [x3.2.2.2]; exact xS2
  simp only [mm_pu_n, e49_34, e49_37, e49_38, e49_41, e49_42, mm_pu_n, mm_pu_s, va_rf_s, mm_w8_0, mm_w8_1, mm_w8_2, mm_w8_3, mm_w8_4, mm_c1_n, mm_c1_i, mm_c1_a, mm_ct_a, mm_ct_i, true_and, and_true, and_self, eq_self, if_true, if_false, ite_true, ite_false, bI_t, bI_z, bI_nz, bI_01, true_or, or_true, reduceCtorEq, false_or, or_false, decide_eq_false_iff_not, decide_eq_true_eq, ite_not, xS3, up_t, up_S, nr_S, nr_t, a2_3, show ¬ (4 : Int32) < 0 by decide, show (4 : Int32).toNatClampNeg = 4 by decide, show 4 ≤ 1000 by decide, not_false_eq_true, show (x = x + 107) = False from eq_false (by omega)]
  refine t_initParting (a := x + 93) ?_ ?_ (fun J4 s4 a1_4 a2_4 a3_4 a4_4 => ?_)
  · rw [nr_S]; first | rw [if_pos (by rw [ht])] | (rw [if_pos]; simp [up_t, *])
  · rw [nr_t]; simp [up_t, *]
  replace a2_4 : mm_t s4 = x + 96 := a2_4
  have E4 := nw_tr (T := x + 93) (by rw [up_t]; exact a2_3) a1_4
  have x4 := E4 x (Nat.zero_le _) (by omega)
  rw [up_P, if_pos rfl] at x4
  have xS4 : mm_S s4 x = (1, 5) := by rw [x4.2.2.2]; exact xS3
  simp only [mm_pu_n, e49_45, e49_48, e49_49, e49_52, e49_53, mm_pu_n, mm_pu_s, va_rf_s, mm_w8_0, mm_w8_1, mm_w8_2, mm_w8_3, mm_w8_4, mm_c1_n, mm_c1_i, mm_c1_a, mm_ct_a, mm_ct_i, true_and, and_true, and_self, eq_self, if_true, if_false, ite_true, ite_false, bI_t, bI_z, bI_nz, bI_01, true_or, or_true, reduceCtorEq, false_or, or_false, decide_eq_false_iff_not, decide_eq_true_eq, ite_not, xS4, up_t, up_S, nr_S, nr_t, a2_4, show ¬ (4 : Int32) < 0 by decide, show (4 : Int32).toNatClampNeg = 4 by decide, show 4 ≤ 1000 by decide, not_false_eq_true, show (x = x + 107) = False from eq_false (by omega)]
  refine t_initTape (a := x + 96) ?_ ?_ ?_ (fun J5 s5 a1_5 a2_5 a3_5 a4_5 a5_5 a6_5 => ?_)
  · rw [nr_S]; first | rw [if_pos (by rw [ht])] | (rw [if_pos]; simp [up_t, *])
  · rw [nr_t]; simp [up_t, *]
  · intro i; rw [nr_I]; simp [up_t, *]
  replace a2_5 : mm_t s5 = x + 107 := a2_5
  have E5 := nw_tr (T := x + 96) (by rw [up_t]; exact a2_4) a1_5
  have x5 := E5 x (Nat.zero_le _) (by omega)
  rw [up_P, if_pos rfl] at x5
  have xS5 : mm_S s5 x = (1, 5) := by rw [x5.2.2.2]; exact xS4
  simp only [mm_pu_n, e49_56, e49_59, e49_60, e49_61, e49_64, mm_pu_n, mm_pu_s, va_rf_s, mm_w8_0, mm_w8_1, mm_w8_2, mm_w8_3, mm_w8_4, mm_c1_n, mm_c1_i, mm_c1_a, mm_ct_a, mm_ct_i, true_and, and_true, and_self, eq_self, if_true, if_false, ite_true, ite_false, bI_t, bI_z, bI_nz, bI_01, true_or, or_true, reduceCtorEq, false_or, or_false, decide_eq_false_iff_not, decide_eq_true_eq, ite_not, xS5, up_t, up_S, nr_S, nr_t, a2_5, show ¬ (4 : Int32) < 0 by decide, show (4 : Int32).toNatClampNeg = 4 by decide, show 4 ≤ 1000 by decide, not_false_eq_true, show (x = x + 107) = False from eq_false (by omega)]
  simp only [e49_67, e49_68, mm_pu_n, mm_pu_s, va_rf_s, mm_w8_0, mm_w8_1, mm_w8_2, mm_w8_3, mm_w8_4, mm_c1_n, mm_c1_i, mm_c1_a, mm_ct_a, mm_ct_i, true_and, and_true, and_self, eq_self, if_true, if_false, ite_true, ite_false, bI_t, bI_z, bI_nz, bI_01, true_or, or_true, reduceCtorEq, false_or, or_false, decide_eq_false_iff_not, decide_eq_true_eq, ite_not]
  rw [show (some (Value.int 0) : Option Value) = some (.int (nI 0)) from rfl]
  refine t_sheets ?_ ?_ ?_ ?_ (fun J6 s6 a1_6 a2_6 a3_6 a4_6 a5_6 => ?_)
  · simp [up_S, nr_S, up_t, a2_5, xS5]
  · simp [up_P, va_up]
  · simp [up_S, nr_S, up_t, a2_5]
  · simp [up_t, nr_t, a2_5]
  have E6 : ef 0 (x + 107) J5 J6 (mm_uP (mm_uP s5 x 4 (some (x + 96))) x 5 (some (x + 107))) s6 := by
    refine ef.tr (fun q _ hqa => ?_) a1_6
    have y1 : (q = x + 107) = False := eq_false (by omega)
    have y2 : (x = x + 107) = False := eq_false (by omega)
    simp [nr_I, nr_G, nr_P, nr_S, up_S, up_G, up_P, up_t, a2_5, y1]
  have x6 := E6 x (Nat.zero_le _) (by omega)
  rw [up_P, if_pos rfl, up_P, if_pos rfl] at x6
  have xS6 : mm_S s6 x = (1, 5) := by rw [x6.2.2.2]; exact xS5
  simp only [e49_93, e49_94, e49_97, e49_98, mm_pu_n, mm_pu_s, va_rf_s, mm_w8_0, mm_w8_1, mm_w8_2, mm_w8_3, mm_w8_4, mm_c1_n, mm_c1_i, mm_c1_a, mm_ct_a, mm_ct_i, true_and, and_true, and_self, eq_self, if_true, if_false, ite_true, ite_false, bI_t, bI_z, bI_nz, bI_01, true_or, or_true, reduceCtorEq, false_or, or_false, decide_eq_false_iff_not, decide_eq_true_eq, ite_not, a2_6]
  refine t_initLane (a := x + 116) ?_ ?_ ?_ (fun J7 s7 a1_7 a2_7 a3_7 a4_7 a5_7 => ?_)
  · rw [nr_S]; rw [if_pos (by rw [a2_6])]
  · rw [nr_t]; simp [up_t, *]
  · intro i; rw [nr_I]; simp [up_t, *]
  replace a2_7 : mm_t s7 = x + 125 := a2_7
  have E7 := nw_tr a2_6 a1_7
  have x7 := E7 x (Nat.zero_le _) (by omega)
  have xS7 : mm_S s7 x = (1, 5) := by rw [x7.2.2.2]; exact xS6
  simp only [mm_pu_n, e49_101, e49_104, e49_105, e49_108, e49_109, mm_pu_n, mm_pu_s, va_rf_s, mm_w8_0, mm_w8_1, mm_w8_2, mm_w8_3, mm_w8_4, mm_c1_n, mm_c1_i, mm_c1_a, mm_ct_a, mm_ct_i, true_and, and_true, and_self, eq_self, if_true, if_false, ite_true, ite_false, bI_t, bI_z, bI_nz, bI_01, true_or, or_true, reduceCtorEq, false_or, or_false, decide_eq_false_iff_not, decide_eq_true_eq, ite_not, xS7, up_t, up_S, nr_S, nr_t, a2_7]
  refine t_initPast (a := x + 125) ?_ ?_ ?_ (fun J8 s8 a1_8 a2_8 a3_8 a4_8 a5_8 => ?_)
  · rw [nr_S]; first | rw [if_pos (by rw [ht])] | (rw [if_pos]; simp [up_t, *])
  · rw [nr_t]; simp [up_t, *]
  · intro i; rw [nr_I]; simp [up_t, *]
  replace a2_8 : mm_t s8 = x + 199 := a2_8
  have E8 := nw_tr (T := x + 125) (by rw [up_t]; exact a2_7) a1_8
  have x8 := E8 x (Nat.zero_le _) (by omega)
  rw [up_P, if_pos rfl] at x8
  have xS8 : mm_S s8 x = (1, 5) := by rw [x8.2.2.2]; exact xS7
  simp only [mm_pu_n, e49_112, e49_115, e49_116, e49_117, e49_120, mm_pu_n, mm_pu_s, va_rf_s, mm_w8_0, mm_w8_1, mm_w8_2, mm_w8_3, mm_w8_4, mm_c1_n, mm_c1_i, mm_c1_a, mm_ct_a, mm_ct_i, true_and, and_true, and_self, eq_self, if_true, if_false, ite_true, ite_false, bI_t, bI_z, bI_nz, bI_01, true_or, or_true, reduceCtorEq, false_or, or_false, decide_eq_false_iff_not, decide_eq_true_eq, ite_not, xS8, up_S]
  -- frames behind x
  have F8 : ef (x + 1) (x + 199) J8 (mm_uI J8 x 8 0) s8 (mm_uP s8 x 7 (some (x + 125))) := fun q z1 z2 => by
    rw [mu_n (by omega), up_P, if_neg (by omega)]
    exact ⟨rfl, rfl, rfl, rfl⟩
  have F7 : ef (x + 1) (x + 125) J7 (mm_uI J8 x 8 0) s7 (mm_uP s8 x 7 (some (x + 125))) := (((ef.pt (a := x + 1) (T := x + 125) (by omega)).tr (E8.mono (Nat.zero_le _) (Nat.le_refl _))).tr (F8.mono (Nat.le_refl _) (by omega)))
  have F6 : ef (x + 1) (x + 116) J6 (mm_uI J8 x 8 0) s6 (mm_uP s8 x 7 (some (x + 125))) := (E7.mono (Nat.zero_le _) (Nat.le_refl _)).tr (F7.mono (Nat.le_refl _) (by omega))
  have F5 : ef (x + 1) (x + 107) J5 (mm_uI J8 x 8 0) s5 (mm_uP s8 x 7 (some (x + 125))) := (((ef.pt (a := x + 1) (T := x + 107) (by omega)).tr (ef.pt (a := x + 1) (T := x + 107) (by omega))).tr (E6.mono (Nat.zero_le _) (Nat.le_refl _))).tr (F6.mono (Nat.le_refl _) (by omega))
  have F4 : ef (x + 1) (x + 96) J4 (mm_uI J8 x 8 0) s4 (mm_uP s8 x 7 (some (x + 125))) := ((ef.pt (a := x + 1) (T := x + 96) (by omega)).tr (E5.mono (Nat.zero_le _) (Nat.le_refl _))).tr (F5.mono (Nat.le_refl _) (by omega))
  have F3 : ef (x + 1) (x + 93) J3 (mm_uI J8 x 8 0) s3 (mm_uP s8 x 7 (some (x + 125))) := ((ef.pt (a := x + 1) (T := x + 93) (by omega)).tr (E4.mono (Nat.zero_le _) (Nat.le_refl _))).tr (F4.mono (Nat.le_refl _) (by omega))
  have F2 : ef (x + 1) (x + 19) J2 (mm_uI J8 x 8 0) s2 (mm_uP s8 x 7 (some (x + 125))) := ((ef.pt (a := x + 1) (T := x + 19) (by omega)).tr (E3.mono (Nat.zero_le _) (Nat.le_refl _))).tr (F3.mono (Nat.le_refl _) (by omega))
  have F1 : ef (x + 1) (x + 10) J1 (mm_uI J8 x 8 0) s1 (mm_uP s8 x 7 (some (x + 125))) := ((ef.pt (a := x + 1) (T := x + 10) (by omega)).tr (E2.mono (Nat.zero_le _) (Nat.le_refl _))).tr (F2.mono (Nat.le_refl _) (by omega))
  have f93 := F4 (x + 93) (by omega) (by omega)
  have f94 := F4 (x + 94) (by omega) (by omega)
  have f95 := F4 (x + 95) (by omega) (by omega)
  have f96 := F5 (x + 96) (by omega) (by omega)
  have f97 := F5 (x + 97) (by omega) (by omega)
  have f107 := F6 (x + 107) (by omega) (by omega)
  refine hq _ _ (fun q _ hqa => ?_) (by rw [up_t, a2_8]) ?_ ⟨⟨?_, ?_, ?_, ?_, ?_, ?_, ?_, ?_, ?_⟩, ⟨?_, ?_, ?_, ?_⟩, ?_, ?_, ?_, ?_, ?_⟩ ⟨?_, ?_, ?_, ?_, ?_⟩
  · have y : ∀ n, (q = x + n) = False := fun n => eq_false (by omega)
    have y0 : (q = x) = False := eq_false (by omega)
    have u1 := E1 q (Nat.zero_le _) (by omega)
    have u2 := E2 q (Nat.zero_le _) (by omega)
    have u3 := E3 q (Nat.zero_le _) (by omega)
    have u4 := E4 q (Nat.zero_le _) (by omega)
    have u5 := E5 q (Nat.zero_le _) (by omega)
    have u6 := E6 q (Nat.zero_le _) (by omega)
    have u7 := E7 q (Nat.zero_le _) (by omega)
    have u8 := E8 q (Nat.zero_le _) (by omega)
    simp only [up_S, up_G, up_P, y0, if_false] at u1 u2 u3 u4 u5 u6 u7 u8 ⊢
    rw [mu_n (show q ≠ x by omega), u8.1, u7.1, u6.1, u5.1, u4.1, u3.1, u2.1, u1.1, u8.2.1, u7.2.1, u6.2.1, u5.2.1, u4.2.1, u3.2.1, u2.2.1, u1.2.1, u8.2.2.1, u7.2.2.1, u6.2.2.1, u5.2.2.1, u4.2.2.1, u3.2.2.1, u2.2.2.1, u1.2.2.1, u8.2.2.2, u7.2.2.2, u6.2.2.2, u5.2.2.2, u4.2.2.2, u3.2.2.2, u2.2.2.2, u1.2.2.2]
    exact ⟨rfl, rfl, rfl, rfl⟩
  · rw [up_n, a3_8, nr_n, up_n, a3_7, nr_n, a3_6, up_n, nr_n, up_n, a3_5, nr_n, up_n, a3_4, nr_n, up_n, a3_3, nr_n, up_n, a3_2, nr_n, up_n, a3_1, nr_n]; omega
  · rw [up_S]; exact xS8
  · simp [up_P, x8.2.2.1, x7.2.2.1, x6.2.2.1, x5.2.2.1, x4.2.2.1, x3.2.2.1, x2.2.2.1, x1.2.2.1, va_up]
  · simp [up_P, x8.2.2.1, x7.2.2.1, x6.2.2.1, x5.2.2.1, x4.2.2.1, x3.2.2.1, x2.2.2.1, x1.2.2.1, va_up]
  · simp [up_P, x8.2.2.1, x7.2.2.1, x6.2.2.1, x5.2.2.1, x4.2.2.1, x3.2.2.1, x2.2.2.1, x1.2.2.1, va_up]
  · simp [up_P, x8.2.2.1, x7.2.2.1, x6.2.2.1, x5.2.2.1, x4.2.2.1, x3.2.2.1, x2.2.2.1, x1.2.2.1, va_up]
  · simp [up_P, x8.2.2.1, x7.2.2.1, x6.2.2.1, x5.2.2.1, x4.2.2.1, x3.2.2.1, x2.2.2.1, x1.2.2.1, va_up]
  · simp [up_P, x8.2.2.1, x7.2.2.1, x6.2.2.1, x5.2.2.1, x4.2.2.1, x3.2.2.1, x2.2.2.1, x1.2.2.1, va_up]
  · simp [up_P, x8.2.2.1, x7.2.2.1, x6.2.2.1, x5.2.2.1, x4.2.2.1, x3.2.2.1, x2.2.2.1, x1.2.2.1, va_up]
  · simp [up_P, x8.2.2.1, x7.2.2.1, x6.2.2.1, x5.2.2.1, x4.2.2.1, x3.2.2.1, x2.2.2.1, x1.2.2.1, va_up]
  · exact ln_S_e F1 (by omega) (by omega) a4_1
  · exact ln_S_e F2 (by omega) (by omega) a4_2
  · exact ln_S_e F5 (by omega) (by omega) a5_5
  · exact ln_S_e F7 (by omega) (by omega) a4_7
  · exact pa_S_e F3 (by omega) (by omega) a4_3
  · exact pa_S_e F8 (by omega) (by omega) a4_8
  · exact ⟨by rw [f93.2.2.2]; exact a4_4.1, by rw [f93.2.2.1]; exact a4_4.2.1, by rw [f93.2.2.1]; exact a4_4.2.2.1, by rw [f94.2.2.2]; exact a4_4.2.2.2.1, by rw [f95.2.2.2]; exact a4_4.2.2.2.2⟩
  · exact ⟨by rw [f96.2.2.2]; exact a4_5.1, by rw [f96.2.2.1]; exact a4_5.2.1, by rw [f96.2.2.1]; exact a4_5.2.2.1, by rw [f97.2.2.2]; exact a4_5.2.2.2⟩
  · refine ⟨by rw [f107.2.2.2]; exact a4_6, fun k hk => ?_⟩
    obtain ⟨⟨b1, b2, b3, b4⟩, -, -⟩ := a5_6 k hk
    exact ⟨by rw [f107.2.2.1]; exact b1, by rw [(F6 (x + 108 + 2 * k) (by omega) (by omega)).2.2.2]; exact b2, by rw [(F6 (x + 108 + 2 * k) (by omega) (by omega)).2.2.1]; exact b3, by rw [(F6 (x + 109 + 2 * k) (by omega) (by omega)).2.2.2]; exact b4⟩
  · unfold LI; rw [(F1 (x + 1) (by omega) (by omega)).1]; exact a5_1
  · rw [(F3 (x + 19) (by omega) (by omega)).1]; exact a5_3
  · rw [f96.1]; exact a6_5 0
  · exact mu_s
  · intro k hk
    obtain ⟨-, b5, b6⟩ := a5_6 k hk
    exact ⟨fun i => by rw [(F6 (x + 108 + 2 * k) (by omega) (by omega)).1]; exact b5 i, fun i => by rw [(F6 (x + 109 + 2 * k) (by omega) (by omega)).2.1]; exact b6 i⟩
end
