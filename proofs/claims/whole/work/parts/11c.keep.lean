section
variable {r : mm_R} {I : mm_I} {x m : Nat} {Q : Option Value → mm_I → mm_R → Prop}
theorem c_keep {L : mm_I} {n ng p t : Nat} (hS : HS r x m) (hc : CX I x L) (hLL : dl L = L) (hp : p < 6) (hg : gl L n ng) (ht : t ≤ 40) : ∀ d k J, k + d = 21 → fc I J x → (∀ K, fc I K x → Q (some (.int (p_ff (k_keep L n ng p t) d k))) K r) → mm_E 71 25 [some (.ref x), some (.int (nI p)), some (.int (nI t)), some (.int (nI k))] [] J r Q := by
  obtain ⟨x0, x1, x2, -⟩ := id hS.2.1
  have l2 := hS.2.2.1.2.1
  intro d
  induction d with
  | zero =>
    intro k J hk hF hq
    have : k = 21 := by omega
    subst this
    rw [e71_25]
    simp only [e71_26, e71_28, e71_79, e71_81, mm_pu_n, mm_pu_s, va_rf_s, mm_w8_0, mm_w8_1, mm_w8_2, mm_w8_3, mm_w8_4, mm_c1_n, mm_c1_i, mm_c1_a, mm_ct_a, mm_ct_i, true_and, and_true, and_self, eq_self, if_true, if_false, ite_true, ite_false, bI_t, bI_z, bI_nz, bI_01, true_or, or_true, reduceCtorEq, false_or, or_false, decide_eq_false_iff_not, decide_eq_true_eq, ite_not, show ((20 : Int32) < nI 21) = True from eq_true (by decide)]
    exact hq J hF
  | succ d ih =>
    intro k J hk hF hq
    have hgk : gl (mm_uI L 2 p (nI k)) n ng := gl_h hg (Or.inr (Or.inl ⟨rfl, k, by omega, rfl⟩))
    rw [e71_25]
    simp only [e71_26, e71_28, e71_31, e71_32, e71_35, e71_36, e71_39, mm_pu_n, mm_pu_s, va_rf_s, mm_w8_0, mm_w8_1, mm_w8_2, mm_w8_3, mm_w8_4, mm_c1_n, mm_c1_i, mm_c1_a, mm_ct_a, mm_ct_i, true_and, and_true, and_self, eq_self, if_true, if_false, ite_true, ite_false, bI_t, bI_z, bI_nz, bI_01, true_or, or_true, reduceCtorEq, false_or, or_false, decide_eq_false_iff_not, decide_eq_true_eq, ite_not, x0, x1, x2, l2.s0, z20 (show k ≤ 20 by omega)]
    refine f_take n hS (CX.k hc hF) hLL (fun J2 hJ2 hF2 => ?_)
    simp only [mm_pu_n, e71_42, e71_43, e71_46, e71_49, e71_50, e71_51, e71_52, e71_53, e71_56, e71_57, mm_pu_n, mm_pu_s, va_rf_s, mm_w8_0, mm_w8_1, mm_w8_2, mm_w8_3, mm_w8_4, mm_c1_n, mm_c1_i, mm_c1_a, mm_ct_a, mm_ct_i, true_and, and_true, and_self, eq_self, if_true, if_false, ite_true, ite_false, bI_t, bI_z, bI_nz, bI_01, true_or, or_true, reduceCtorEq, false_or, or_false, decide_eq_false_iff_not, decide_eq_true_eq, ite_not, x0, x1, x2, l2.s0, l2.p6, l2.p7, l2.p8, l2.p9, l2.p10, l2.p11, l2.p12, l2.p13, l2.i1, l2.i2, l2.i3, l2.i4, l2.i5, l2.i6, l2.i7, l2.i8, in6 hp, cl_nI hp]
    refine f_nights (M := mm_uI L 2 p (nI k)) hS ?_ hgk.1 (by omega) (fun K hK hFK => ?_)
    · have e : vc (mm_uI J2 (x + 10 + 2) p (nI k)) (x + 10) = mm_uI (vc J2 (x + 10)) 2 p (nI k) := vc_u ⟨by decide, hp⟩
      rw [e]
      exact ag6_u hJ2
    have hFK2 : fc I K x := (hF.tr hF2).tr (fun q hq => by rw [hFK q hq, mu_n (by omega)])
    simp only [mm_pu_n, e71_60, e71_61, e71_64, e71_65, e71_68, e71_71, e71_72, mm_pu_n, mm_pu_s, va_rf_s, mm_w8_0, mm_w8_1, mm_w8_2, mm_w8_3, mm_w8_4, mm_c1_n, mm_c1_i, mm_c1_a, mm_ct_a, mm_ct_i, true_and, and_true, and_self, eq_self, if_true, if_false, ite_true, ite_false, bI_t, bI_z, bI_nz, bI_01, true_or, or_true, reduceCtorEq, false_or, or_false, decide_eq_false_iff_not, decide_eq_true_eq, ite_not, x0, x1, x2, l2.s0, l2.p6, l2.p7, l2.p8, l2.p9, l2.p10, l2.p11, l2.p12, l2.p13, l2.i1, l2.i2, l2.i3, l2.i4, l2.i5, l2.i6, l2.i7, l2.i8, t_isLost l2 hp, hK 3 p (Or.inl (by decide))]
    by_cases c : k_keep L n ng p t k = true
    · rw [if_neg (of_decide_eq_true c)]
      rw [p_ff_t c] at hq
      exact hq K hFK2
    · rw [if_pos (Decidable.byContradiction fun z => c (decide_eq_true z))]
      simp only [e71_73, e71_76, mm_pu_n, mm_pu_s, va_rf_s, mm_w8_0, mm_w8_1, mm_w8_2, mm_w8_3, mm_w8_4, mm_c1_n, mm_c1_i, mm_c1_a, mm_ct_a, mm_ct_i, true_and, and_true, and_self, eq_self, if_true, if_false, ite_true, ite_false, bI_t, bI_z, bI_nz, bI_01, true_or, or_true, reduceCtorEq, false_or, or_false, decide_eq_false_iff_not, decide_eq_true_eq, ite_not, nI_1]
      rw [p_ff_f c] at hq
      exact ih (k + 1) K (by omega) hFK2 hq
theorem m_keep {L : mm_I} {n ng p t : Nat} (hml : ml_S r m) (hc : MX I m L) (hLL : dl L = L) (hp : p < n) (hg : gl L n ng) (ht : t ≤ 40) : ∀ d k J, k + d = 21 → fm I J m → (∀ K, fm I K m → Q (some (.int (p_ff (k_keep L n ng p t) d k))) K r) → mm_E 143 22 [some (.ref m), some (.int (nI p)), some (.int (nI t)), some (.int (nI k))] [] J r Q := by
  have hn := hg.1.1.1
  have hp6 : p < 6 := by omega
  intro d
  induction d with
  | zero =>
    intro k J hk hF hq
    have : k = 21 := by omega
    subst this
    rw [e143_22]
    simp only [e143_23, e143_25, e143_66, e143_68, mm_pu_n, mm_pu_s, va_rf_s, mm_w8_0, mm_w8_1, mm_w8_2, mm_w8_3, mm_w8_4, mm_c1_n, mm_c1_i, mm_c1_a, mm_ct_a, mm_ct_i, true_and, and_true, and_self, eq_self, if_true, if_false, ite_true, ite_false, bI_t, bI_z, bI_nz, bI_01, true_or, or_true, reduceCtorEq, false_or, or_false, decide_eq_false_iff_not, decide_eq_true_eq, ite_not, show ((20 : Int32) < nI 21) = True from eq_true (by decide)]
    exact hq J hF
  | succ d ih =>
    intro k J hk hF hq
    have hgk : gl (mm_uI L 2 p (nI k)) n ng := gl_h hg (Or.inr (Or.inl ⟨rfl, k, by omega, rfl⟩))
    rw [e143_22]
    simp only [e143_23, e143_25, e143_28, e143_29, mm_pu_n, mm_pu_s, va_rf_s, mm_w8_0, mm_w8_1, mm_w8_2, mm_w8_3, mm_w8_4, mm_c1_n, mm_c1_i, mm_c1_a, mm_ct_a, mm_ct_i, true_and, and_true, and_self, eq_self, if_true, if_false, ite_true, ite_false, bI_t, bI_z, bI_nz, bI_01, true_or, or_true, reduceCtorEq, false_or, or_false, decide_eq_false_iff_not, decide_eq_true_eq, ite_not, hml.s0, hml.p7, hml.i5, z20 (show k ≤ 20 by omega)]
    refine g_begin n hn hml (MX.k hc (hF _ (by omega) (by omega) (by omega))) hLL (fun J2 hJ2 hF2 => ?_)
    simp only [mm_pu_n, e143_32, e143_33, e143_36, e143_38, e143_39, e143_40, e143_41, e143_42, e143_43, e143_44, mm_pu_n, mm_pu_s, va_rf_s, mm_w8_0, mm_w8_1, mm_w8_2, mm_w8_3, mm_w8_4, mm_c1_n, mm_c1_i, mm_c1_a, mm_ct_a, mm_ct_i, true_and, and_true, and_self, eq_self, if_true, if_false, ite_true, ite_false, bI_t, bI_z, bI_nz, bI_01, true_or, or_true, reduceCtorEq, false_or, or_false, decide_eq_false_iff_not, decide_eq_true_eq, ite_not, hml.s0, hml.p7, hml.i5, hml.p8, hml.i6, k9, in2 (show 9 + p < 248 by omega), cl2 (show 9 + p < 248 by omega)]
    refine g_goOn (M := mm_uI L 2 p (nI k)) hml ?_ hgk.1 hgk.2.1 (by omega) (fun K hK hFK => ?_)
    · have e : vr (mm_uI J2 (m + 6) (9 + p) (nI k)) (m + 6) m = mm_uI (vr J2 (m + 6) m) 2 p (nI k) := vr_u (k := 2) ⟨by omega, by omega⟩ ⟨by decide, hp6⟩
      rw [e]
      exact ag6_u hJ2
    have hFK2 : fm I K m := (hF.tr hF2).tr (fun q a b c => by rw [hFK q a b c, mu_n a])
    simp only [mm_pu_n, e143_47, e143_48, e143_51, e143_52, e143_55, e143_58, e143_59, mm_pu_n, mm_pu_s, va_rf_s, mm_w8_0, mm_w8_1, mm_w8_2, mm_w8_3, mm_w8_4, mm_c1_n, mm_c1_i, mm_c1_a, mm_ct_a, mm_ct_i, true_and, and_true, and_self, eq_self, if_true, if_false, ite_true, ite_false, bI_t, bI_z, bI_nz, bI_01, true_or, or_true, reduceCtorEq, false_or, or_false, decide_eq_false_iff_not, decide_eq_true_eq, ite_not, hml.s0, hml.p7, hml.i5, hml.p8, hml.i6, u_isLost m hml.i6 hp6, hK 3 p (Or.inl (by decide)), (pn_R hgk.1 hgk.2.1 t).lk hp]
    by_cases c : k_keep L n ng p t k = true
    · rw [if_neg (of_decide_eq_true c)]
      rw [p_ff_t c] at hq
      exact hq K hFK2
    · rw [if_pos (Decidable.byContradiction fun z => c (decide_eq_true z))]
      simp only [e143_60, e143_63, mm_pu_n, mm_pu_s, va_rf_s, mm_w8_0, mm_w8_1, mm_w8_2, mm_w8_3, mm_w8_4, mm_c1_n, mm_c1_i, mm_c1_a, mm_ct_a, mm_ct_i, true_and, and_true, and_self, eq_self, if_true, if_false, ite_true, ite_false, bI_t, bI_z, bI_nz, bI_01, true_or, or_true, reduceCtorEq, false_or, or_false, decide_eq_false_iff_not, decide_eq_true_eq, ite_not, nI_1]
      rw [p_ff_f c] at hq
      exact ih (k + 1) K (by omega) hFK2 hq
theorem c_solvent {L : mm_I} {n ng p t : Nat} (hS : HS r x m) (hc : CX I x L) (hLL : dl L = L) (hp : p < 6) (hg : gl L n ng) (ht : t ≤ 40) : ∀ d J (y : Int32), d ≤ 21 → y = nI d + -1 → fc I J x → (∀ K, fc I K x → Q (some (.int (p_fd (k_solv L n ng p t) d))) K r) → mm_E 75 26 [some (.ref x), some (.int (nI p)), some (.int (nI t)), some (.int y)] [] J r Q := by
  obtain ⟨x0, x1, x2, -⟩ := id hS.2.1
  have l1 := hS.2.2.1.1
  have l2 := hS.2.2.1.2.1
  intro d
  induction d with
  | zero =>
    intro J y hk hy hF hq
    have : y = -1 := by rw [hy]; decide
    subst this
    rw [e75_26]
    simp only [e75_27, e75_86, e75_88, mm_pu_n, mm_pu_s, va_rf_s, mm_w8_0, mm_w8_1, mm_w8_2, mm_w8_3, mm_w8_4, mm_c1_n, mm_c1_i, mm_c1_a, mm_ct_a, mm_ct_i, true_and, and_true, and_self, eq_self, if_true, if_false, ite_true, ite_false, bI_t, bI_z, bI_nz, bI_01, true_or, or_true, reduceCtorEq, false_or, or_false, decide_eq_false_iff_not, decide_eq_true_eq, ite_not, show ((-1 : Int32) < 0) = True from eq_true (by decide)]
    exact hq J hF
  | succ k ih =>
    intro J y hk hy hF hq
    rw [nI_m1] at hy
    subst hy
    have hgk : gl (mm_uI L 0 2 (nI k)) n ng := gl_0 hg (Or.inl rfl) (fun _ => ⟨k, by omega, rfl⟩) (fun z => absurd z (by decide))
    rw [e75_26]
    simp only [e75_27, e75_30, e75_31, e75_34, e75_35, e75_38, mm_pu_n, mm_pu_s, va_rf_s, mm_w8_0, mm_w8_1, mm_w8_2, mm_w8_3, mm_w8_4, mm_c1_n, mm_c1_i, mm_c1_a, mm_ct_a, mm_ct_i, true_and, and_true, and_self, eq_self, if_true, if_false, ite_true, ite_false, bI_t, bI_z, bI_nz, bI_01, true_or, or_true, reduceCtorEq, false_or, or_false, decide_eq_false_iff_not, decide_eq_true_eq, ite_not, x0, x1, x2, l2.s0, nI_nn (show k < 2 ^ 31 by omega)]
    refine f_take n hS (CX.k hc hF) hLL (fun J2 hJ2 hF2 => ?_)
    simp only [mm_pu_n, e75_41, e75_42, e75_45, e75_46, e75_49, e75_50, e75_53, e75_54, mm_pu_n, mm_pu_s, va_rf_s, mm_w8_0, mm_w8_1, mm_w8_2, mm_w8_3, mm_w8_4, mm_c1_n, mm_c1_i, mm_c1_a, mm_ct_a, mm_ct_i, true_and, and_true, and_self, eq_self, if_true, if_false, ite_true, ite_false, bI_t, bI_z, bI_nz, bI_01, true_or, or_true, reduceCtorEq, false_or, or_false, decide_eq_false_iff_not, decide_eq_true_eq, ite_not, x0, x1, x2, l2.s0, l2.p6, l2.p7, l2.p8, l2.p9, l2.p10, l2.p11, l2.p12, l2.p13, l2.i1, l2.i2, l2.i3, l2.i4, l2.i5, l2.i6, l2.i7, l2.i8]
    refine f_nights (M := mm_uI L 0 2 (nI k)) hS ?_ hgk.1 (by omega) (fun K hK hFK => ?_)
    · have e : vc (mm_uI J2 (x + 10) 2 (nI k)) (x + 10) = mm_uI (vc J2 (x + 10)) 0 2 (nI k) := vc_u0 (by decide)
      rw [e]
      exact ag6_u hJ2
    have hFK2 : fc I K x := (hF.tr hF2).tr (fun q hq => by rw [hFK q hq, mu_n (by omega)])
    have hcK := CX.k hc hFK2
    simp only [mm_pu_n, e75_57, e75_58, e75_61, e75_64, e75_65, e75_66, e75_67, e75_70, e75_73, e75_74, e75_75, e75_78, e75_79, mm_pu_n, mm_pu_s, va_rf_s, mm_w8_0, mm_w8_1, mm_w8_2, mm_w8_3, mm_w8_4, mm_c1_n, mm_c1_i, mm_c1_a, mm_ct_a, mm_ct_i, true_and, and_true, and_self, eq_self, if_true, if_false, ite_true, ite_false, bI_t, bI_z, bI_nz, bI_01, true_or, or_true, reduceCtorEq, false_or, or_false, decide_eq_false_iff_not, decide_eq_true_eq, ite_not, x0, x1, x2, l2.s0, l2.p6, l2.p7, l2.p8, l2.p9, l2.p10, l2.p11, l2.p12, l2.p13, l2.i1, l2.i2, l2.i3, l2.i4, l2.i5, l2.i6, l2.i7, l2.i8, l1.s0, l1.p6, l1.p7, l1.p8, l1.p9, l1.p10, l1.p11, l1.p12, l1.p13, l1.i1, l1.i2, l1.i3, l1.i4, l1.i5, l1.i6, l1.i7, l1.i8, in6 hp, cl_nI hp, rd_k (a := x + 10) (k := 1) ⟨by decide, hp⟩, rd_k (a := x + 1) (k := 1) ⟨by decide, hp⟩, hK 1 p (Or.inl (by decide)), hcK 1 p (by decide)]
    by_cases c : k_solv L n ng p t k = true
    · rw [if_neg (Int32.not_lt.mpr (of_decide_eq_true c))]
      rw [p_fd_t c] at hq
      exact hq K hFK2
    · rw [if_pos (Decidable.byContradiction fun z => c (decide_eq_true (Int32.not_lt.mp z)))]
      simp only [e75_80, e75_83, mm_pu_n, mm_pu_s, va_rf_s, mm_w8_0, mm_w8_1, mm_w8_2, mm_w8_3, mm_w8_4, mm_c1_n, mm_c1_i, mm_c1_a, mm_ct_a, mm_ct_i, true_and, and_true, and_self, eq_self, if_true, if_false, ite_true, ite_false, bI_t, bI_z, bI_nz, bI_01, true_or, or_true, reduceCtorEq, false_or, or_false, decide_eq_false_iff_not, decide_eq_true_eq, ite_not]
      rw [p_fd_f c] at hq
      exact ih K _ (by omega) rfl hFK2 hq
theorem m_solvent {L : mm_I} {n ng p t : Nat} (hml : ml_S r m) (hc : MX I m L) (hLL : dl L = L) (hp : p < n) (hg : gl L n ng) (ht : t ≤ 40) : ∀ d J (y : Int32), d ≤ 21 → y = nI d + -1 → fm I J m → (∀ K, fm I K m → Q (some (.int (p_fd (k_solv L n ng p t) d))) K r) → mm_E 148 23 [some (.ref m), some (.int (nI p)), some (.int (nI t)), some (.int y)] [] J r Q := by
  have hn := hg.1.1.1
  have hp6 : p < 6 := by omega
  intro d
  induction d with
  | zero =>
    intro J y hk hy hF hq
    have : y = -1 := by rw [hy]; decide
    subst this
    rw [e148_23]
    simp only [e148_24, e148_71, e148_73, mm_pu_n, mm_pu_s, va_rf_s, mm_w8_0, mm_w8_1, mm_w8_2, mm_w8_3, mm_w8_4, mm_c1_n, mm_c1_i, mm_c1_a, mm_ct_a, mm_ct_i, true_and, and_true, and_self, eq_self, if_true, if_false, ite_true, ite_false, bI_t, bI_z, bI_nz, bI_01, true_or, or_true, reduceCtorEq, false_or, or_false, decide_eq_false_iff_not, decide_eq_true_eq, ite_not, show ((-1 : Int32) < 0) = True from eq_true (by decide)]
    exact hq J hF
  | succ k ih =>
    intro J y hk hy hF hq
    rw [nI_m1] at hy
    subst hy
    have hgk : gl (mm_uI L 0 2 (nI k)) n ng := gl_0 hg (Or.inl rfl) (fun _ => ⟨k, by omega, rfl⟩) (fun z => absurd z (by decide))
    rw [e148_23]
    simp only [e148_24, e148_27, e148_28, mm_pu_n, mm_pu_s, va_rf_s, mm_w8_0, mm_w8_1, mm_w8_2, mm_w8_3, mm_w8_4, mm_c1_n, mm_c1_i, mm_c1_a, mm_ct_a, mm_ct_i, true_and, and_true, and_self, eq_self, if_true, if_false, ite_true, ite_false, bI_t, bI_z, bI_nz, bI_01, true_or, or_true, reduceCtorEq, false_or, or_false, decide_eq_false_iff_not, decide_eq_true_eq, ite_not, hml.s0, hml.p7, hml.i5, nI_nn (show k < 2 ^ 31 by omega)]
    refine g_begin n hn hml (MX.k hc (hF _ (by omega) (by omega) (by omega))) hLL (fun J2 hJ2 hF2 => ?_)
    simp only [mm_pu_n, e148_31, e148_32, e148_35, e148_37, e148_38, e148_39, e148_40, e148_41, mm_pu_n, mm_pu_s, va_rf_s, mm_w8_0, mm_w8_1, mm_w8_2, mm_w8_3, mm_w8_4, mm_c1_n, mm_c1_i, mm_c1_a, mm_ct_a, mm_ct_i, true_and, and_true, and_self, eq_self, if_true, if_false, ite_true, ite_false, bI_t, bI_z, bI_nz, bI_01, true_or, or_true, reduceCtorEq, false_or, or_false, decide_eq_false_iff_not, decide_eq_true_eq, ite_not, hml.s0, hml.p7, hml.i5, hml.p8, hml.i6, c27.2.2.1, d27.2.2.1]
    refine g_goOn (M := mm_uI L 0 2 (nI k)) hml ?_ hgk.1 hgk.2.1 (by omega) (fun K hK hFK => ?_)
    · have e : vr (mm_uI J2 (m + 6) 26 (nI k)) (m + 6) m = mm_uI (vr J2 (m + 6) m) 0 2 (nI k) := vr_u (k := 0) (i := 2) ⟨by omega, by omega⟩ ⟨by decide, by decide⟩
      rw [e]
      exact ag6_u hJ2
    have hFK2 : fm I K m := (hF.tr hF2).tr (fun q a b c => by rw [hFK q a b c, mu_n a])
    have hcK := MX.k hc (hFK2 _ (by omega) (by omega) (by omega))
    simp only [mm_pu_n, e148_44, e148_45, e148_48, e148_49, e148_50, e148_51, e148_52, e148_53, e148_56, e148_57, e148_58, e148_59, e148_60, e148_63, e148_64, mm_pu_n, mm_pu_s, va_rf_s, mm_w8_0, mm_w8_1, mm_w8_2, mm_w8_3, mm_w8_4, mm_c1_n, mm_c1_i, mm_c1_a, mm_ct_a, mm_ct_i, true_and, and_true, and_self, eq_self, if_true, if_false, ite_true, ite_false, bI_t, bI_z, bI_nz, bI_01, true_or, or_true, reduceCtorEq, false_or, or_false, decide_eq_false_iff_not, decide_eq_true_eq, ite_not, hml.s0, hml.p7, hml.i5, hml.p8, hml.i6, k3, in2 (show 3 + p < 248 by omega), cl2 (show 3 + p < 248 by omega), r3 m hp6, hK 1 p (Or.inl (by decide)), hcK 1 p (by decide)]
    by_cases c : k_solv L n ng p t k = true
    · rw [if_neg (Int32.not_lt.mpr (of_decide_eq_true c))]
      rw [p_fd_t c] at hq
      exact hq K hFK2
    · rw [if_pos (Decidable.byContradiction fun z => c (decide_eq_true (Int32.not_lt.mp z)))]
      simp only [e148_65, e148_68, mm_pu_n, mm_pu_s, va_rf_s, mm_w8_0, mm_w8_1, mm_w8_2, mm_w8_3, mm_w8_4, mm_c1_n, mm_c1_i, mm_c1_a, mm_ct_a, mm_ct_i, true_and, and_true, and_self, eq_self, if_true, if_false, ite_true, ite_false, bI_t, bI_z, bI_nz, bI_01, true_or, or_true, reduceCtorEq, false_or, or_false, decide_eq_false_iff_not, decide_eq_true_eq, ite_not]
      rw [p_fd_f c] at hq
      exact ih K _ (by omega) rfl hFK2 hq
theorem a_keep (h : ALL I r x m) (p t : Int32) : pr 71 143 [some (.ref x), some (.int p), some (.int t), none] [some (.ref m), some (.int p), some (.int t), none] I r x m := by
  obtain ⟨hS, ⟨sg, L, bn, B, n, ng, Lr, Br, hg⟩, hG2, hG3, hG4⟩ := id h
  obtain ⟨hm, hx, ⟨l1, l2, l3, l4⟩, hip, hpt, htp, hsh, hml⟩ := id hS
  obtain ⟨x0, x1, x2, x3, x4, x5, x6, x7, x8⟩ := id hx
  obtain ⟨⟨hps, hL, hpv⟩, ⟨hR, hB⟩, ⟨⟨⟨hG, hRR, hdr, hnt⟩, hbk⟩, ⟨⟨hG', hRR', hdr', hnt'⟩, hbk'⟩, hsm, hsB⟩⟩ := id hg
  have hLL : dl L = L := by rw [← hL]; exact dl_dl _
  have hLr : dl Lr = Lr := by rw [← hR]; exact dl_dl _
  have hs6 := s_6 hsm hLL hLr
  have vL : ∀ q i, q < 7 → vc I (x + 1) q i = L q i := fun q i hq => by rw [← hL, dl_at hq]
  have vR : ∀ q i, q < 7 → vr I (m + 5) m q i = Lr q i := fun q i hq => by rw [← hR, dl_at hq]
  have vRh : ∀ {k : Nat}, k < n → ∀ q, 1 ≤ q ∧ q ≤ 3 → vr I (m + 5) m q k = L q k := fun hk q hq => (vR q _ (by omega)).trans (hsm q _ (wc_h hq hk)).symm
  have vRg : ∀ {k : Nat}, k < ng → ∀ q, 4 ≤ q ∧ q ≤ 6 → vr I (m + 5) m q k = L q k := fun hk q hq => (vR q _ (by omega)).trans (hsm q _ (wc_g hq hk)).symm
  obtain ⟨⟨hn, e0⟩, ⟨hng, e1⟩, hpl⟩ := id hG
  have f0 : vc I (x + 1) 0 0 = nI n := by rw [vL 0 0 (by decide)]; exact e0
  have f1 : vc I (x + 1) 0 1 = nI ng := by rw [vL 0 1 (by decide)]; exact e1
  have g0 : vr I (m + 5) m 0 0 = nI n := by rw [vR 0 0 (by decide)]; exact hG'.1.2
  have g1 : vr I (m + 5) m 0 1 = nI ng := by rw [vR 0 1 (by decide)]; exact hG'.2.1.2
  unfold pr
  cases hk1 : okh p n with
  | false =>
    simp only [e71_0, e71_1, e71_4, e71_5, e71_8, e71_11, e71_12, e71_13, e71_15, e71_18, e71_21, e71_22, e143_0, e143_1, e143_2, e143_5, e143_8, e143_9, e143_10, e143_12, e143_15, e143_18, e143_19, mm_pu_n, mm_pu_s, va_rf_s, mm_w8_0, mm_w8_1, mm_w8_2, mm_w8_3, mm_w8_4, mm_c1_n, mm_c1_i, mm_c1_a, mm_ct_a, mm_ct_i, true_and, and_true, and_self, eq_self, if_true, if_false, ite_true, ite_false, bI_t, bI_z, bI_nz, bI_01, true_or, or_true, reduceCtorEq, false_or, or_false, decide_eq_false_iff_not, decide_eq_true_eq, ite_not, x0, x1, x2, x3, x4, x5, x6, x7, x8, l1.s0, l1.p6, l1.p7, l1.p8, l1.p9, l1.p10, l1.p11, l1.p12, l1.p13, l1.i1, l1.i2, l1.i3, l1.i4, l1.i5, l1.i6, l1.i7, l1.i8, hml.s0, hml.p7, hml.i5, t_hasH l1 f0, u_isHouse hml hn g0, hk1, Bool.false_eq_true]
    exact fi_i _ h rfl rfl
  | true =>
    cases hk2 : wth t 1 40 with
    | false =>
      simp only [e71_0, e71_1, e71_4, e71_5, e71_8, e71_11, e71_12, e71_13, e71_15, e71_18, e71_21, e71_22, e143_0, e143_1, e143_2, e143_5, e143_8, e143_9, e143_10, e143_12, e143_15, e143_18, e143_19, mm_pu_n, mm_pu_s, va_rf_s, mm_w8_0, mm_w8_1, mm_w8_2, mm_w8_3, mm_w8_4, mm_c1_n, mm_c1_i, mm_c1_a, mm_ct_a, mm_ct_i, true_and, and_true, and_self, eq_self, if_true, if_false, ite_true, ite_false, bI_t, bI_z, bI_nz, bI_01, true_or, or_true, reduceCtorEq, false_or, or_false, decide_eq_false_iff_not, decide_eq_true_eq, ite_not, x0, x1, x2, x3, x4, x5, x6, x7, x8, l1.s0, l1.p6, l1.p7, l1.p8, l1.p9, l1.p10, l1.p11, l1.p12, l1.p13, l1.i1, l1.i2, l1.i3, l1.i4, l1.i5, l1.i6, l1.i7, l1.i8, hml.s0, hml.p7, hml.i5, t_hasH l1 f0, u_isHouse hml hn g0, t_within, u_inw, hk1, hk2, Bool.true_eq_false]
      exact fi_i _ h rfl rfl
    | true =>
      obtain ⟨k, hkn, rfl⟩ := okh_of hk1 hn
      obtain ⟨t', -, ht, rfl⟩ := wth_of hk2 (a := 1) (b := 40) (by decide) (by decide) (by decide) (by decide)
      have hk6 : k < 6 := by omega
      have hgl : gl L n ng := ⟨hG, hRR, hdr, hnt⟩
      have hgl' : gl Lr n ng := ⟨hG', hRR', hdr', hnt'⟩
      simp only [e71_0, e71_1, e71_4, e71_5, e71_8, e71_11, e71_12, e71_13, e71_15, e71_18, e71_21, e71_22, e71_23, e71_24, mm_pu_n, mm_pu_s, va_rf_s, mm_w8_0, mm_w8_1, mm_w8_2, mm_w8_3, mm_w8_4, mm_c1_n, mm_c1_i, mm_c1_a, mm_ct_a, mm_ct_i, true_and, and_true, and_self, eq_self, if_true, if_false, ite_true, ite_false, bI_t, bI_z, bI_nz, bI_01, true_or, or_true, reduceCtorEq, false_or, or_false, decide_eq_false_iff_not, decide_eq_true_eq, ite_not, x0, x1, x2, x3, x4, x5, x6, x7, x8, l1.s0, l1.p6, l1.p7, l1.p8, l1.p9, l1.p10, l1.p11, l1.p12, l1.p13, l1.i1, l1.i2, l1.i3, l1.i4, l1.i5, l1.i6, l1.i7, l1.i8, l2.s0, t_hasH l1 f0, t_within, hk1, hk2, Bool.true_eq_false]
      refine c_keep (I := I) hS vL hLL hk6 hgl ht 21 0 I (by omega) fc.rf (fun K hK => ?_)
      have gJ : vr K (m + 5) m 0 0 = nI n := by rw [vr_q (I := I) (by decide) (fun j _ => by rw [hK _ (by omega)])]; exact g0
      simp only [e143_0, e143_1, e143_2, e143_5, e143_8, e143_9, e143_10, e143_12, e143_15, e143_18, e143_19, e143_20, e143_21, mm_pu_n, mm_pu_s, va_rf_s, mm_w8_0, mm_w8_1, mm_w8_2, mm_w8_3, mm_w8_4, mm_c1_n, mm_c1_i, mm_c1_a, mm_ct_a, mm_ct_i, true_and, and_true, and_self, eq_self, if_true, if_false, ite_true, ite_false, bI_t, bI_z, bI_nz, bI_01, true_or, or_true, reduceCtorEq, false_or, or_false, decide_eq_false_iff_not, decide_eq_true_eq, ite_not, hml.s0, hml.p7, hml.i5, u_isHouse hml hn gJ, u_inw, hk1, hk2, Bool.true_eq_false]
      refine m_keep (I := K) hml (MX.k (I := I) vR (hK _ (by omega))) hLr hkn hgl' ht 21 0 K (by omega) fm.rf (fun K3 hK3 => ?_)
      rw [p_ff_c (s_keep hs6 hgl hkn) 21 0 (by omega)]
      exact fi_i _ (ALL_f h hK hK3) rfl rfl
theorem a_solvent (h : ALL I r x m) (p t : Int32) : pr 75 148 [some (.ref x), some (.int p), some (.int t), none] [some (.ref m), some (.int p), some (.int t), none] I r x m := by
  obtain ⟨hS, ⟨sg, L, bn, B, n, ng, Lr, Br, hg⟩, hG2, hG3, hG4⟩ := id h
  obtain ⟨hm, hx, ⟨l1, l2, l3, l4⟩, hip, hpt, htp, hsh, hml⟩ := id hS
  obtain ⟨x0, x1, x2, x3, x4, x5, x6, x7, x8⟩ := id hx
  obtain ⟨⟨hps, hL, hpv⟩, ⟨hR, hB⟩, ⟨⟨⟨hG, hRR, hdr, hnt⟩, hbk⟩, ⟨⟨hG', hRR', hdr', hnt'⟩, hbk'⟩, hsm, hsB⟩⟩ := id hg
  have hLL : dl L = L := by rw [← hL]; exact dl_dl _
  have hLr : dl Lr = Lr := by rw [← hR]; exact dl_dl _
  have hs6 := s_6 hsm hLL hLr
  have vL : ∀ q i, q < 7 → vc I (x + 1) q i = L q i := fun q i hq => by rw [← hL, dl_at hq]
  have vR : ∀ q i, q < 7 → vr I (m + 5) m q i = Lr q i := fun q i hq => by rw [← hR, dl_at hq]
  have vRh : ∀ {k : Nat}, k < n → ∀ q, 1 ≤ q ∧ q ≤ 3 → vr I (m + 5) m q k = L q k := fun hk q hq => (vR q _ (by omega)).trans (hsm q _ (wc_h hq hk)).symm
  have vRg : ∀ {k : Nat}, k < ng → ∀ q, 4 ≤ q ∧ q ≤ 6 → vr I (m + 5) m q k = L q k := fun hk q hq => (vR q _ (by omega)).trans (hsm q _ (wc_g hq hk)).symm
  obtain ⟨⟨hn, e0⟩, ⟨hng, e1⟩, hpl⟩ := id hG
  have f0 : vc I (x + 1) 0 0 = nI n := by rw [vL 0 0 (by decide)]; exact e0
  have f1 : vc I (x + 1) 0 1 = nI ng := by rw [vL 0 1 (by decide)]; exact e1
  have g0 : vr I (m + 5) m 0 0 = nI n := by rw [vR 0 0 (by decide)]; exact hG'.1.2
  have g1 : vr I (m + 5) m 0 1 = nI ng := by rw [vR 0 1 (by decide)]; exact hG'.2.1.2
  unfold pr
  cases hk1 : okh p n with
  | false =>
    simp only [e75_0, e75_1, e75_4, e75_5, e75_8, e75_11, e75_12, e75_13, e75_15, e75_18, e75_21, e75_22, e148_0, e148_1, e148_2, e148_5, e148_8, e148_9, e148_10, e148_12, e148_15, e148_18, e148_19, mm_pu_n, mm_pu_s, va_rf_s, mm_w8_0, mm_w8_1, mm_w8_2, mm_w8_3, mm_w8_4, mm_c1_n, mm_c1_i, mm_c1_a, mm_ct_a, mm_ct_i, true_and, and_true, and_self, eq_self, if_true, if_false, ite_true, ite_false, bI_t, bI_z, bI_nz, bI_01, true_or, or_true, reduceCtorEq, false_or, or_false, decide_eq_false_iff_not, decide_eq_true_eq, ite_not, x0, x1, x2, x3, x4, x5, x6, x7, x8, l1.s0, l1.p6, l1.p7, l1.p8, l1.p9, l1.p10, l1.p11, l1.p12, l1.p13, l1.i1, l1.i2, l1.i3, l1.i4, l1.i5, l1.i6, l1.i7, l1.i8, hml.s0, hml.p7, hml.i5, t_hasH l1 f0, u_isHouse hml hn g0, hk1, Bool.false_eq_true]
    exact fi_i _ h rfl rfl
  | true =>
    cases hk2 : wth t 1 40 with
    | false =>
      simp only [e75_0, e75_1, e75_4, e75_5, e75_8, e75_11, e75_12, e75_13, e75_15, e75_18, e75_21, e75_22, e148_0, e148_1, e148_2, e148_5, e148_8, e148_9, e148_10, e148_12, e148_15, e148_18, e148_19, mm_pu_n, mm_pu_s, va_rf_s, mm_w8_0, mm_w8_1, mm_w8_2, mm_w8_3, mm_w8_4, mm_c1_n, mm_c1_i, mm_c1_a, mm_ct_a, mm_ct_i, true_and, and_true, and_self, eq_self, if_true, if_false, ite_true, ite_false, bI_t, bI_z, bI_nz, bI_01, true_or, or_true, reduceCtorEq, false_or, or_false, decide_eq_false_iff_not, decide_eq_true_eq, ite_not, x0, x1, x2, x3, x4, x5, x6, x7, x8, l1.s0, l1.p6, l1.p7, l1.p8, l1.p9, l1.p10, l1.p11, l1.p12, l1.p13, l1.i1, l1.i2, l1.i3, l1.i4, l1.i5, l1.i6, l1.i7, l1.i8, hml.s0, hml.p7, hml.i5, t_hasH l1 f0, u_isHouse hml hn g0, t_within, u_inw, hk1, hk2, Bool.true_eq_false]
      exact fi_i _ h rfl rfl
    | true =>
      obtain ⟨k, hkn, rfl⟩ := okh_of hk1 hn
      obtain ⟨t', -, ht, rfl⟩ := wth_of hk2 (a := 1) (b := 40) (by decide) (by decide) (by decide) (by decide)
      have hk6 : k < 6 := by omega
      have hgl : gl L n ng := ⟨hG, hRR, hdr, hnt⟩
      have hgl' : gl Lr n ng := ⟨hG', hRR', hdr', hnt'⟩
      simp only [e75_0, e75_1, e75_4, e75_5, e75_8, e75_11, e75_12, e75_13, e75_15, e75_18, e75_21, e75_22, e75_23, e75_25, mm_pu_n, mm_pu_s, va_rf_s, mm_w8_0, mm_w8_1, mm_w8_2, mm_w8_3, mm_w8_4, mm_c1_n, mm_c1_i, mm_c1_a, mm_ct_a, mm_ct_i, true_and, and_true, and_self, eq_self, if_true, if_false, ite_true, ite_false, bI_t, bI_z, bI_nz, bI_01, true_or, or_true, reduceCtorEq, false_or, or_false, decide_eq_false_iff_not, decide_eq_true_eq, ite_not, x0, x1, x2, x3, x4, x5, x6, x7, x8, l1.s0, l1.p6, l1.p7, l1.p8, l1.p9, l1.p10, l1.p11, l1.p12, l1.p13, l1.i1, l1.i2, l1.i3, l1.i4, l1.i5, l1.i6, l1.i7, l1.i8, l2.s0, t_hasH l1 f0, t_within, hk1, hk2, Bool.true_eq_false]
      refine c_solvent (I := I) hS vL hLL hk6 hgl ht 21 I 20 (by omega) (by decide) fc.rf (fun K hK => ?_)
      have gJ : vr K (m + 5) m 0 0 = nI n := by rw [vr_q (I := I) (by decide) (fun j _ => by rw [hK _ (by omega)])]; exact g0
      simp only [e148_0, e148_1, e148_2, e148_5, e148_8, e148_9, e148_10, e148_12, e148_15, e148_18, e148_19, e148_20, e148_22, mm_pu_n, mm_pu_s, va_rf_s, mm_w8_0, mm_w8_1, mm_w8_2, mm_w8_3, mm_w8_4, mm_c1_n, mm_c1_i, mm_c1_a, mm_ct_a, mm_ct_i, true_and, and_true, and_self, eq_self, if_true, if_false, ite_true, ite_false, bI_t, bI_z, bI_nz, bI_01, true_or, or_true, reduceCtorEq, false_or, or_false, decide_eq_false_iff_not, decide_eq_true_eq, ite_not, hml.s0, hml.p7, hml.i5, u_isHouse hml hn gJ, u_inw, hk1, hk2, Bool.true_eq_false]
      refine m_solvent (I := K) hml (MX.k (I := I) vR (hK _ (by omega))) hLr hkn hgl' ht 21 K 20 (by omega) (by decide) fm.rf (fun K3 hK3 => ?_)
      rw [p_fd_c (s_solv hs6 hgl hkn) 21 (by omega)]
      exact fi_i _ (ALL_f h hK hK3) rfl rfl
end
