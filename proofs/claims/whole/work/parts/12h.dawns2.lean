section
variable {r : mm_R} {I : mm_I} {x m : Nat} {Q : Option Value → mm_I → mm_R → Prop}
theorem c_daw {L : mm_I} {n ng g p s i t R hv : Nat} {l4 w y9 y11 : Int32} (hS : HS r x m) (hc : CX I x L) (hLL : dl L = L) (hg : g < 5) (hp : p < n) (hn : n ≤ 6) (hG : ln_G L n ng) (hs : s < 4) (hi : i + t ≤ 24) (hw : (w = 0 ∧ R = 4) ∨ (¬ w = 0 ∧ R = 5)) (hv9 : hv ≤ 9) : ∀ d v J set, v + d = hv + 1 → fc I J x → (∀ K, fc I K x → Q (some (.int (p_ds (fun v => p_dw (mm_uI L R g (nI v)) n ng p (fun u => mm_G r (x + 109 + 2 * s) (i + u)) t 0) d v set))) K r) → mm_E 79 125 [some (.ref x), some (.int (nI g)), some (.int (nI p)), some (.int (nI s)), some (.int l4), some (.int (nI i)), some (.int (nI t)), some (.int w), some (.ref (x + 108 + 2 * s)), some (.int y9), some (.int set), some (.int y11), some (.int (nI hv)), some (.int (nI v))] [] J r Q := by
  obtain ⟨x0, x1, x2, -⟩ := id hS.2.1
  have l2 := hS.2.2.1.2.1
  intro d
  induction d with
  | zero =>
    intro v J set hk hF hq
    rw [e79_125]
    simp only [e79_127, e79_129, e79_202, e79_204, mm_pu_n, mm_pu_s, va_rf_s, mm_w8_0, mm_w8_1, mm_w8_2, mm_w8_3, mm_w8_4, mm_c1_n, mm_c1_i, mm_c1_a, mm_ct_a, mm_ct_i, true_and, and_true, and_self, eq_self, if_true, if_false, ite_true, ite_false, bI_t, bI_z, bI_nz, bI_01, true_or, or_true, reduceCtorEq, false_or, or_false, decide_eq_false_iff_not, decide_eq_true_eq, ite_not, nI_lt (show hv < v by omega) (show v < 2 ^ 31 by omega)]
    exact hq J hF
  | succ d ih =>
    intro v J set hk hF hq
    have hq' : ∀ K, fc I K x → Q (some (.int (p_ds (fun v => p_dw (mm_uI L R g (nI v)) n ng p (fun u => mm_G r (x + 109 + 2 * s) (i + u)) t 0) d (v + 1) (if p_dw (mm_uI L R g (nI v)) n ng p (fun u => mm_G r (x + 109 + 2 * s) (i + u)) t 0 = true then set ||| (1 <<< (nI v &&& 31)) else set)))) K r := hq
    have hge : ¬ (nI hv < nI v) := fun y => absurd ((nI_ltI (by omega) (by omega)).mp y) (by omega)
    rw [e79_125]
    simp only [e79_127, e79_129, e79_132, e79_133, e79_136, e79_137, e79_140, mm_pu_n, mm_pu_s, va_rf_s, mm_w8_0, mm_w8_1, mm_w8_2, mm_w8_3, mm_w8_4, mm_c1_n, mm_c1_i, mm_c1_a, mm_ct_a, mm_ct_i, true_and, and_true, and_self, eq_self, if_true, if_false, ite_true, ite_false, bI_t, bI_z, bI_nz, bI_01, true_or, or_true, reduceCtorEq, false_or, or_false, decide_eq_false_iff_not, decide_eq_true_eq, ite_not, hge, x0, x1, x2, l2.s0]
    refine f_take n hS (CX.k hc hF) hLL (fun J2 hJ2 hF2 => ?_)
    have go : mm_E 79 173 [some (.ref x), some (.int (nI g)), some (.int (nI p)), some (.int (nI s)), some (.int l4), some (.int (nI i)), some (.int (nI t)), some (.int w), some (.ref (x + 108 + 2 * s)), some (.int y9), some (.int set), some (.int y11), some (.int (nI hv)), some (.int (nI v))] [] (mm_uI J2 (x + 10 + R) g (nI v)) r Q := by
      have hR : R < 9 ∧ g < wd R := by rcases hw with ⟨-, rfl⟩ | ⟨-, rfl⟩ <;> exact ⟨by decide, hg⟩
      have hR45 : R = 4 ∨ R = 5 := by omega
      have e : vc (mm_uI J2 (x + 10 + R) g (nI v)) (x + 10) = mm_uI (vc J2 (x + 10)) R g (nI v) := vc_u hR
      simp only [e79_173, e79_174, e79_175, e79_177, e79_179, e79_181, mm_pu_n, mm_pu_s, va_rf_s, mm_w8_0, mm_w8_1, mm_w8_2, mm_w8_3, mm_w8_4, mm_c1_n, mm_c1_i, mm_c1_a, mm_ct_a, mm_ct_i, true_and, and_true, and_self, eq_self, if_true, if_false, ite_true, ite_false, bI_t, bI_z, bI_nz, bI_01, true_or, or_true, reduceCtorEq, false_or, or_false, decide_eq_false_iff_not, decide_eq_true_eq, ite_not, x0, e91_0, e91_1]
      refine t_dawnsAs (I := mm_uI J2 (x + 10 + R) g (nI v)) (M := mm_uI L R g (nI v)) hS hp hn (lg_45 hG hR45) hs hi t 0 _ (by omega) ?_ fc.rf (fun K hK => ?_)
      · rw [e]
        exact ag6_u hJ2
      have hFK : fc I K x := (hF.tr hF2).tr (fun q hq => by rw [hK q hq, mu_n (by omega)])
      cases hb : p_dw (mm_uI L R g (nI v)) n ng p (fun u => mm_G r (x + 109 + 2 * s) (i + u)) t 0 with
      | false =>
        rw [hb, if_neg (by decide)] at hq'
        simp only [e79_184, mm_pu_n, mm_pu_s, va_rf_s, mm_w8_0, mm_w8_1, mm_w8_2, mm_w8_3, mm_w8_4, mm_c1_n, mm_c1_i, mm_c1_a, mm_ct_a, mm_ct_i, true_and, and_true, and_self, eq_self, if_true, if_false, ite_true, ite_false, bI_t, bI_z, bI_nz, bI_01, true_or, or_true, reduceCtorEq, false_or, or_false, decide_eq_false_iff_not, decide_eq_true_eq, ite_not]
        simp only [e79_196, e79_199, mm_pu_n, mm_pu_s, va_rf_s, mm_w8_0, mm_w8_1, mm_w8_2, mm_w8_3, mm_w8_4, mm_c1_n, mm_c1_i, mm_c1_a, mm_ct_a, mm_ct_i, true_and, and_true, and_self, eq_self, if_true, if_false, ite_true, ite_false, bI_t, bI_z, bI_nz, bI_01, true_or, or_true, reduceCtorEq, false_or, or_false, decide_eq_false_iff_not, decide_eq_true_eq, ite_not, nI_1]
        exact ih (v + 1) K set (by omega) hFK hq'
      | true =>
        rw [hb, if_pos rfl] at hq'
        simp only [e79_184, e79_187, e79_189, e79_190, e79_192, e79_193, e79_194, mm_pu_n, mm_pu_s, va_rf_s, mm_w8_0, mm_w8_1, mm_w8_2, mm_w8_3, mm_w8_4, mm_c1_n, mm_c1_i, mm_c1_a, mm_ct_a, mm_ct_i, true_and, and_true, and_self, eq_self, if_true, if_false, ite_true, ite_false, bI_t, bI_z, bI_nz, bI_01, true_or, or_true, reduceCtorEq, false_or, or_false, decide_eq_false_iff_not, decide_eq_true_eq, ite_not, Bool.true_eq_false]
        simp only [e79_196, e79_199, mm_pu_n, mm_pu_s, va_rf_s, mm_w8_0, mm_w8_1, mm_w8_2, mm_w8_3, mm_w8_4, mm_c1_n, mm_c1_i, mm_c1_a, mm_ct_a, mm_ct_i, true_and, and_true, and_self, eq_self, if_true, if_false, ite_true, ite_false, bI_t, bI_z, bI_nz, bI_01, true_or, or_true, reduceCtorEq, false_or, or_false, decide_eq_false_iff_not, decide_eq_true_eq, ite_not, nI_1]
        exact ih (v + 1) K _ (by omega) hFK hq'
    rcases hw with ⟨hw0, rfl⟩ | ⟨hw0, rfl⟩
    · simp only [mm_pu_n, e79_143, e79_145, e79_148, e79_149, e79_152, e79_155, e79_156, e79_158, e79_159, e79_162, e79_163, e79_166, e79_169, e79_170, e79_172, mm_pu_n, mm_pu_s, va_rf_s, mm_w8_0, mm_w8_1, mm_w8_2, mm_w8_3, mm_w8_4, mm_c1_n, mm_c1_i, mm_c1_a, mm_ct_a, mm_ct_i, true_and, and_true, and_self, eq_self, if_true, if_false, ite_true, ite_false, bI_t, bI_z, bI_nz, bI_01, true_or, or_true, reduceCtorEq, false_or, or_false, decide_eq_false_iff_not, decide_eq_true_eq, ite_not, hw0, x0, x2, l2.s0, l2.p6, l2.p7, l2.p8, l2.p9, l2.p10, l2.p11, l2.p12, l2.p13, l2.i1, l2.i2, l2.i3, l2.i4, l2.i5, l2.i6, l2.i7, l2.i8, in5 hg, cl_nI (show g < 6 by omega)]
      rw [hw0] at go
      exact go
    · simp only [mm_pu_n, e79_143, e79_145, e79_148, e79_149, e79_152, e79_155, e79_156, e79_158, e79_159, e79_162, e79_163, e79_166, e79_169, e79_170, e79_172, mm_pu_n, mm_pu_s, va_rf_s, mm_w8_0, mm_w8_1, mm_w8_2, mm_w8_3, mm_w8_4, mm_c1_n, mm_c1_i, mm_c1_a, mm_ct_a, mm_ct_i, true_and, and_true, and_self, eq_self, if_true, if_false, ite_true, ite_false, bI_t, bI_z, bI_nz, bI_01, true_or, or_true, reduceCtorEq, false_or, or_false, decide_eq_false_iff_not, decide_eq_true_eq, ite_not, hw0, x0, x2, l2.s0, l2.p6, l2.p7, l2.p8, l2.p9, l2.p10, l2.p11, l2.p12, l2.p13, l2.i1, l2.i2, l2.i3, l2.i4, l2.i5, l2.i6, l2.i7, l2.i8, in5 hg, cl_nI (show g < 6 by omega)]
      exact go
theorem m_daw {L : mm_I} {n ng g p s i t R hv : Nat} {l4 w y8 : Int32} (hml : ml_S r m) (hc : MX I m L) (hLL : dl L = L) (hg : g < 5) (hp : p < n) (hn : n ≤ 6) (hG : ln_G L n ng) (hR : ln_R L n ng) (hs : s < 4) (hi : i + t ≤ 24) (hw : (w = 0 ∧ R = 4 ∧ hv = 4) ∨ (¬ w = 0 ∧ R = 5 ∧ hv = 9)) : ∀ d v J set, v + d = hv + 1 → fm I J m → (∀ K, fm I K m → Q (some (.int (p_ds (fun v => p_dw (mm_uI L R g (nI v)) n ng p (fun u => mm_G r (m + 3) (24 * s + i + u)) t 0) d v set))) K r) → mm_E 156 84 [some (.ref m), some (.int (nI g)), some (.int (nI p)), some (.int (nI s)), some (.int l4), some (.int (nI i)), some (.int (nI t)), some (.int w), some (.int y8), some (.int set), some (.int (nI v))] [] J r Q := by
  intro d
  induction d with
  | zero =>
    intro v J set hk hF hq
    rw [e156_84]
    rcases hw with ⟨rfl, -, rfl⟩ | ⟨hw0, -, rfl⟩
    · have : v = 5 := by omega
      subst this
      simp only [e156_86, e156_88, e156_91, e156_92, e156_95, e156_97, e156_157, e156_159, mm_pu_n, mm_pu_s, va_rf_s, mm_w8_0, mm_w8_1, mm_w8_2, mm_w8_3, mm_w8_4, mm_c1_n, mm_c1_i, mm_c1_a, mm_ct_a, mm_ct_i, true_and, and_true, and_self, eq_self, if_true, if_false, ite_true, ite_false, bI_t, bI_z, bI_nz, bI_01, true_or, or_true, reduceCtorEq, false_or, or_false, decide_eq_false_iff_not, decide_eq_true_eq, ite_not, show ((4 : Int32) < nI 5) = True from eq_true (by decide)]
      exact hq J hF
    · have : v = 10 := by omega
      subst this
      simp only [e156_86, e156_88, e156_91, e156_92, e156_95, e156_97, e156_157, e156_159, mm_pu_n, mm_pu_s, va_rf_s, mm_w8_0, mm_w8_1, mm_w8_2, mm_w8_3, mm_w8_4, mm_c1_n, mm_c1_i, mm_c1_a, mm_ct_a, mm_ct_i, true_and, and_true, and_self, eq_self, if_true, if_false, ite_true, ite_false, bI_t, bI_z, bI_nz, bI_01, true_or, or_true, reduceCtorEq, false_or, or_false, decide_eq_false_iff_not, decide_eq_true_eq, ite_not, hw0, show ((9 : Int32) < nI 10) = True from eq_true (by decide)]
      exact hq J hF
  | succ d ih =>
    intro v J set hk hF hq
    have hq' : ∀ K, fm I K m → Q (some (.int (p_ds (fun v => p_dw (mm_uI L R g (nI v)) n ng p (fun u => mm_G r (m + 3) (24 * s + i + u)) t 0) d (v + 1) (if p_dw (mm_uI L R g (nI v)) n ng p (fun u => mm_G r (m + 3) (24 * s + i + u)) t 0 = true then set ||| (1 <<< (nI v &&& 31)) else set)))) K r := hq
    have hcJ := MX.k hc (hF _ (by omega) (by omega) (by omega))
    have tail : ∀ J2, ag (w6 n True) (vr J2 (m + 6) m) (mm_uI L R g (nI v)) → fm I J2 m → ((R = 4 ∧ v ≤ 4) ∨ (R = 5 ∧ v ≤ 9)) → mm_E 156 125 [some (.ref m), some (.int (nI g)), some (.int (nI p)), some (.int (nI s)), some (.int l4), some (.int (nI i)), some (.int (nI t)), some (.int w), some (.int y8), some (.int set), some (.int (nI v))] [] J2 r Q := by
      intro J2 hJ2 hF2 hRv
      simp only [e156_125, e156_127, e156_128, e156_129, e156_130, e156_132, e156_134, mm_pu_n, mm_pu_s, va_rf_s, mm_w8_0, mm_w8_1, mm_w8_2, mm_w8_3, mm_w8_4, mm_c1_n, mm_c1_i, mm_c1_a, mm_ct_a, mm_ct_i, true_and, and_true, and_self, eq_self, if_true, if_false, ite_true, ite_false, bI_t, bI_z, bI_nz, bI_01, true_or, or_true, reduceCtorEq, false_or, or_false, decide_eq_false_iff_not, decide_eq_true_eq, ite_not, hml.s0, e155_0, e155_1, e155_3, e155_4]
      refine u_isLeft (I := J2) (M := mm_uI L R g (nI v)) hml hp hn (lg_45 hG (by omega)) (lr_45 hR hRv) hs hi t 0 _ (by omega) hJ2 fm.rf (fun K hK => ?_)
      cases hb : p_dw (mm_uI L R g (nI v)) n ng p (fun u => mm_G r (m + 3) (24 * s + i + u)) t 0 with
      | false =>
        rw [hb, if_neg (by decide)] at hq'
        simp only [e156_137, e156_140, e156_141, e156_143, e156_144, e156_147, mm_pu_n, mm_pu_s, va_rf_s, mm_w8_0, mm_w8_1, mm_w8_2, mm_w8_3, mm_w8_4, mm_c1_n, mm_c1_i, mm_c1_a, mm_ct_a, mm_ct_i, true_and, and_true, and_self, eq_self, if_true, if_false, ite_true, ite_false, bI_t, bI_z, bI_nz, bI_01, true_or, or_true, reduceCtorEq, false_or, or_false, decide_eq_false_iff_not, decide_eq_true_eq, ite_not]
        simp only [e156_148, e156_149, e156_151, e156_154, mm_pu_n, mm_pu_s, va_rf_s, mm_w8_0, mm_w8_1, mm_w8_2, mm_w8_3, mm_w8_4, mm_c1_n, mm_c1_i, mm_c1_a, mm_ct_a, mm_ct_i, true_and, and_true, and_self, eq_self, if_true, if_false, ite_true, ite_false, bI_t, bI_z, bI_nz, bI_01, true_or, or_true, reduceCtorEq, false_or, or_false, decide_eq_false_iff_not, decide_eq_true_eq, ite_not, nI_1, Int32.or_zero]
        exact ih (v + 1) K set (by omega) (hF2.tr hK) hq'
      | true =>
        rw [hb, if_pos rfl] at hq'
        simp only [e156_137, e156_140, e156_141, e156_143, e156_144, e156_147, mm_pu_n, mm_pu_s, va_rf_s, mm_w8_0, mm_w8_1, mm_w8_2, mm_w8_3, mm_w8_4, mm_c1_n, mm_c1_i, mm_c1_a, mm_ct_a, mm_ct_i, true_and, and_true, and_self, eq_self, if_true, if_false, ite_true, ite_false, bI_t, bI_z, bI_nz, bI_01, true_or, or_true, reduceCtorEq, false_or, or_false, decide_eq_false_iff_not, decide_eq_true_eq, ite_not, Bool.true_eq_false]
        simp only [e156_148, e156_149, e156_151, e156_154, mm_pu_n, mm_pu_s, va_rf_s, mm_w8_0, mm_w8_1, mm_w8_2, mm_w8_3, mm_w8_4, mm_c1_n, mm_c1_i, mm_c1_a, mm_ct_a, mm_ct_i, true_and, and_true, and_self, eq_self, if_true, if_false, ite_true, ite_false, bI_t, bI_z, bI_nz, bI_01, true_or, or_true, reduceCtorEq, false_or, or_false, decide_eq_false_iff_not, decide_eq_true_eq, ite_not, nI_1]
        exact ih (v + 1) K _ (by omega) (hF2.tr hK) hq'
    rw [e156_84]
    rcases hw with ⟨rfl, rfl, rfl⟩ | ⟨hw0, rfl, rfl⟩
    · have hge : ¬ ((4 : Int32) < nI v) := by
        rw [show (4 : Int32) = nI 4 from rfl]
        exact fun y => absurd ((nI_ltI (by decide) (by omega)).mp y) (by omega)
      simp only [e156_86, e156_88, e156_91, e156_92, e156_95, e156_97, e156_100, e156_101, mm_pu_n, mm_pu_s, va_rf_s, mm_w8_0, mm_w8_1, mm_w8_2, mm_w8_3, mm_w8_4, mm_c1_n, mm_c1_i, mm_c1_a, mm_ct_a, mm_ct_i, true_and, and_true, and_self, eq_self, if_true, if_false, ite_true, ite_false, bI_t, bI_z, bI_nz, bI_01, true_or, or_true, reduceCtorEq, false_or, or_false, decide_eq_false_iff_not, decide_eq_true_eq, ite_not, hge, hml.s0]
      refine g_begin n hn hml hcJ hLL (fun J1 hJ1 hF1 => ?_)
      simp only [mm_pu_n, e156_104, e156_105, e156_108, e156_110, e156_113, e156_115, e156_118, e156_120, e156_121, e156_122, e156_124, mm_pu_n, mm_pu_s, va_rf_s, mm_w8_0, mm_w8_1, mm_w8_2, mm_w8_3, mm_w8_4, mm_c1_n, mm_c1_i, mm_c1_a, mm_ct_a, mm_ct_i, true_and, and_true, and_self, eq_self, if_true, if_false, ite_true, ite_false, bI_t, bI_z, bI_nz, bI_01, true_or, or_true, reduceCtorEq, false_or, or_false, decide_eq_false_iff_not, decide_eq_true_eq, ite_not, hml.s0, hml.p8, hml.i6, k29, in2 (show 29 + g < 248 by omega), cl2 (show 29 + g < 248 by omega)]
      have e : vr (mm_uI J1 (m + 6) (29 + g) (nI v)) (m + 6) m = mm_uI (vr J1 (m + 6) m) 4 g (nI v) := vr_u (k := 4) ⟨by omega, by omega⟩ ⟨by decide, hg⟩
      exact tail _ (by rw [e]; exact ag6_u hJ1) ((hF.tr hF1).tr (fun q a _ _ => mu_n a)) (Or.inl ⟨rfl, by omega⟩)
    · have hge : ¬ ((9 : Int32) < nI v) := by
        rw [show (9 : Int32) = nI 9 from rfl]
        exact fun y => absurd ((nI_ltI (by decide) (by omega)).mp y) (by omega)
      simp only [e156_86, e156_88, e156_91, e156_92, e156_95, e156_97, e156_100, e156_101, mm_pu_n, mm_pu_s, va_rf_s, mm_w8_0, mm_w8_1, mm_w8_2, mm_w8_3, mm_w8_4, mm_c1_n, mm_c1_i, mm_c1_a, mm_ct_a, mm_ct_i, true_and, and_true, and_self, eq_self, if_true, if_false, ite_true, ite_false, bI_t, bI_z, bI_nz, bI_01, true_or, or_true, reduceCtorEq, false_or, or_false, decide_eq_false_iff_not, decide_eq_true_eq, ite_not, hw0, hge, hml.s0]
      refine g_begin n hn hml hcJ hLL (fun J1 hJ1 hF1 => ?_)
      simp only [mm_pu_n, e156_104, e156_105, e156_108, e156_110, e156_113, e156_115, e156_118, e156_120, e156_121, e156_122, e156_124, mm_pu_n, mm_pu_s, va_rf_s, mm_w8_0, mm_w8_1, mm_w8_2, mm_w8_3, mm_w8_4, mm_c1_n, mm_c1_i, mm_c1_a, mm_ct_a, mm_ct_i, true_and, and_true, and_self, eq_self, if_true, if_false, ite_true, ite_false, bI_t, bI_z, bI_nz, bI_01, true_or, or_true, reduceCtorEq, false_or, or_false, decide_eq_false_iff_not, decide_eq_true_eq, ite_not, hw0, hml.s0, hml.p8, hml.i6, k34, in2 (show 34 + g < 248 by omega), cl2 (show 34 + g < 248 by omega)]
      have e : vr (mm_uI J1 (m + 6) (34 + g) (nI v)) (m + 6) m = mm_uI (vr J1 (m + 6) m) 5 g (nI v) := vr_u (k := 5) ⟨by omega, by omega⟩ ⟨by decide, hg⟩
      exact tail _ (by rw [e]; exact ag6_u hJ1) ((hF.tr hF1).tr (fun q a _ _ => mu_n a)) (Or.inr ⟨rfl, by omega⟩)
theorem a_dawns (h : ALL I r x m) (g p s l i t w : Int32) : pr 79 156 [some (.ref x), some (.int g), some (.int p), some (.int s), some (.int l), some (.int i), some (.int t), some (.int w), none, none, none, none, none, none] [some (.ref m), some (.int g), some (.int p), some (.int s), some (.int l), some (.int i), some (.int t), some (.int w), none, none, none] I r x m := by
  obtain ⟨hS, ⟨sg, L, bn, B, n, ng, Lr, Br, hg⟩, hG2, hG3, hG4⟩ := id h
  obtain ⟨hm, hx, ⟨l1, l2, l3, l4⟩, hip, hpt, htp, hsh, hml⟩ := id hS
  obtain ⟨x0, x1, x2, x3, x4, x5, x6, x7, x8⟩ := id hx
  obtain ⟨⟨hps, hL, hpv⟩, ⟨hR, hB⟩, ⟨⟨⟨hG, hRR, hdr, hnt⟩, hbk⟩, ⟨⟨hG', hRR', hdr', hnt'⟩, hbk'⟩, hsm, hsB⟩⟩ := id hg
  have hLL : dl L = L := by rw [← hL]; exact dl_dl _
  have hLr : dl Lr = Lr := by rw [← hR]; exact dl_dl _
  have hs6 := s_6 hsm hLL hLr
  have vL : ∀ q i, q < 7 → vc I (x + 1) q i = L q i := fun q i hq => by rw [← hL, dl_at hq]
  have vR : ∀ q i, q < 7 → vr I (m + 5) m q i = Lr q i := fun q i hq => by rw [← hR, dl_at hq]
  have vRh : ∀ {k : Nat}, k < n → ∀ q, 1 ≤ q ∧ q ≤ 3 → vr I (m + 5) m q k = L q k := fun hk q hq => (vR q _ (by omega)).trans (hsm q _ (wc_h hq hk)).symm
  have vRg : ∀ {k : Nat}, k < ng → ∀ q, 4 ≤ q ∧ q ≤ 6 → vr I (m + 5) m q k = L q k := fun hk q hq => (vR q _ (by omega)).trans (hsm q _ (wc_g hq hk)).symm
  obtain ⟨⟨hn, e0⟩, ⟨hng, e1⟩, hpl⟩ := id hG
  have f0 : vc I (x + 1) 0 0 = nI n := by rw [vL 0 0 (by decide)]; exact e0
  have f1 : vc I (x + 1) 0 1 = nI ng := by rw [vL 0 1 (by decide)]; exact e1
  have g0 : vr I (m + 5) m 0 0 = nI n := by rw [vR 0 0 (by decide)]; exact hG'.1.2
  have g1 : vr I (m + 5) m 0 1 = nI ng := by rw [vR 0 1 (by decide)]; exact hG'.2.1.2
  unfold pr
  cases ha : okh g ng with
  | false =>
    simp only [e79_0, e79_1, e79_4, e79_5, e79_8, e79_11, e79_12, e79_15, e79_16, e79_19, e79_22, e79_23, e79_24, e79_25, e79_28, e79_31, e79_33, e79_34, e79_35, e79_38, e79_41, e79_43, e79_44, e79_46, e79_49, e79_52, e79_54, e79_55, e79_56, e79_59, e79_62, e79_63, e156_0, e156_1, e156_2, e156_5, e156_8, e156_9, e156_10, e156_13, e156_16, e156_17, e156_20, e156_23, e156_25, e156_26, e156_27, e156_30, e156_33, e156_35, e156_36, e156_38, e156_41, e156_44, e156_46, e156_47, e156_48, e156_51, e156_54, e156_55, mm_pu_n, mm_pu_s, va_rf_s, mm_w8_0, mm_w8_1, mm_w8_2, mm_w8_3, mm_w8_4, mm_c1_n, mm_c1_i, mm_c1_a, mm_ct_a, mm_ct_i, true_and, and_true, and_self, eq_self, if_true, if_false, ite_true, ite_false, bI_t, bI_z, bI_nz, bI_01, true_or, or_true, reduceCtorEq, false_or, or_false, decide_eq_false_iff_not, decide_eq_true_eq, ite_not, x0, x1, x2, x3, x4, x5, x6, x7, x8, l1.s0, l1.p6, l1.p7, l1.p8, l1.p9, l1.p10, l1.p11, l1.p12, l1.p13, l1.i1, l1.i2, l1.i3, l1.i4, l1.i5, l1.i6, l1.i7, l1.i8, hml.s0, hml.p7, hml.i5, t_hasH l1 f0, t_hasG l1 f1, u_isHouse hml hn g0, u_isHog hml (show ng ≤ 6 by omega) g1, t_within, u_inw, u_isSheet, ha, Bool.true_eq_false, Bool.false_eq_true]
    exact fi_i _ h rfl rfl
  | true =>
  cases hk0 : okh p n with
  | false =>
    simp only [e79_0, e79_1, e79_4, e79_5, e79_8, e79_11, e79_12, e79_15, e79_16, e79_19, e79_22, e79_23, e79_24, e79_25, e79_28, e79_31, e79_33, e79_34, e79_35, e79_38, e79_41, e79_43, e79_44, e79_46, e79_49, e79_52, e79_54, e79_55, e79_56, e79_59, e79_62, e79_63, e156_0, e156_1, e156_2, e156_5, e156_8, e156_9, e156_10, e156_13, e156_16, e156_17, e156_20, e156_23, e156_25, e156_26, e156_27, e156_30, e156_33, e156_35, e156_36, e156_38, e156_41, e156_44, e156_46, e156_47, e156_48, e156_51, e156_54, e156_55, mm_pu_n, mm_pu_s, va_rf_s, mm_w8_0, mm_w8_1, mm_w8_2, mm_w8_3, mm_w8_4, mm_c1_n, mm_c1_i, mm_c1_a, mm_ct_a, mm_ct_i, true_and, and_true, and_self, eq_self, if_true, if_false, ite_true, ite_false, bI_t, bI_z, bI_nz, bI_01, true_or, or_true, reduceCtorEq, false_or, or_false, decide_eq_false_iff_not, decide_eq_true_eq, ite_not, x0, x1, x2, x3, x4, x5, x6, x7, x8, l1.s0, l1.p6, l1.p7, l1.p8, l1.p9, l1.p10, l1.p11, l1.p12, l1.p13, l1.i1, l1.i2, l1.i3, l1.i4, l1.i5, l1.i6, l1.i7, l1.i8, hml.s0, hml.p7, hml.i5, t_hasH l1 f0, t_hasG l1 f1, u_isHouse hml hn g0, u_isHog hml (show ng ≤ 6 by omega) g1, t_within, u_inw, u_isSheet, ha, hk0, Bool.true_eq_false]
    exact fi_i _ h rfl rfl
  | true =>
  cases hk1 : wth s 0 3 with
  | false =>
    simp only [e79_0, e79_1, e79_4, e79_5, e79_8, e79_11, e79_12, e79_15, e79_16, e79_19, e79_22, e79_23, e79_24, e79_25, e79_28, e79_31, e79_33, e79_34, e79_35, e79_38, e79_41, e79_43, e79_44, e79_46, e79_49, e79_52, e79_54, e79_55, e79_56, e79_59, e79_62, e79_63, e156_0, e156_1, e156_2, e156_5, e156_8, e156_9, e156_10, e156_13, e156_16, e156_17, e156_20, e156_23, e156_25, e156_26, e156_27, e156_30, e156_33, e156_35, e156_36, e156_38, e156_41, e156_44, e156_46, e156_47, e156_48, e156_51, e156_54, e156_55, mm_pu_n, mm_pu_s, va_rf_s, mm_w8_0, mm_w8_1, mm_w8_2, mm_w8_3, mm_w8_4, mm_c1_n, mm_c1_i, mm_c1_a, mm_ct_a, mm_ct_i, true_and, and_true, and_self, eq_self, if_true, if_false, ite_true, ite_false, bI_t, bI_z, bI_nz, bI_01, true_or, or_true, reduceCtorEq, false_or, or_false, decide_eq_false_iff_not, decide_eq_true_eq, ite_not, x0, x1, x2, x3, x4, x5, x6, x7, x8, l1.s0, l1.p6, l1.p7, l1.p8, l1.p9, l1.p10, l1.p11, l1.p12, l1.p13, l1.i1, l1.i2, l1.i3, l1.i4, l1.i5, l1.i6, l1.i7, l1.i8, hml.s0, hml.p7, hml.i5, t_hasH l1 f0, t_hasG l1 f1, u_isHouse hml hn g0, u_isHog hml (show ng ≤ 6 by omega) g1, t_within, u_inw, u_isSheet, ha, hk0, hk1, Bool.true_eq_false]
    exact fi_i _ h rfl rfl
  | true =>
  cases hk2 : wth l 0 3 with
  | false =>
    simp only [e79_0, e79_1, e79_4, e79_5, e79_8, e79_11, e79_12, e79_15, e79_16, e79_19, e79_22, e79_23, e79_24, e79_25, e79_28, e79_31, e79_33, e79_34, e79_35, e79_38, e79_41, e79_43, e79_44, e79_46, e79_49, e79_52, e79_54, e79_55, e79_56, e79_59, e79_62, e79_63, e156_0, e156_1, e156_2, e156_5, e156_8, e156_9, e156_10, e156_13, e156_16, e156_17, e156_20, e156_23, e156_25, e156_26, e156_27, e156_30, e156_33, e156_35, e156_36, e156_38, e156_41, e156_44, e156_46, e156_47, e156_48, e156_51, e156_54, e156_55, mm_pu_n, mm_pu_s, va_rf_s, mm_w8_0, mm_w8_1, mm_w8_2, mm_w8_3, mm_w8_4, mm_c1_n, mm_c1_i, mm_c1_a, mm_ct_a, mm_ct_i, true_and, and_true, and_self, eq_self, if_true, if_false, ite_true, ite_false, bI_t, bI_z, bI_nz, bI_01, true_or, or_true, reduceCtorEq, false_or, or_false, decide_eq_false_iff_not, decide_eq_true_eq, ite_not, x0, x1, x2, x3, x4, x5, x6, x7, x8, l1.s0, l1.p6, l1.p7, l1.p8, l1.p9, l1.p10, l1.p11, l1.p12, l1.p13, l1.i1, l1.i2, l1.i3, l1.i4, l1.i5, l1.i6, l1.i7, l1.i8, hml.s0, hml.p7, hml.i5, t_hasH l1 f0, t_hasG l1 f1, u_isHouse hml hn g0, u_isHog hml (show ng ≤ 6 by omega) g1, t_within, u_inw, u_isSheet, ha, hk0, hk1, hk2, Bool.true_eq_false]
    exact fi_i _ h rfl rfl
  | true =>
  cases hk3 : wth t 1 8 with
  | false =>
    simp only [e79_0, e79_1, e79_4, e79_5, e79_8, e79_11, e79_12, e79_15, e79_16, e79_19, e79_22, e79_23, e79_24, e79_25, e79_28, e79_31, e79_33, e79_34, e79_35, e79_38, e79_41, e79_43, e79_44, e79_46, e79_49, e79_52, e79_54, e79_55, e79_56, e79_59, e79_62, e79_63, e156_0, e156_1, e156_2, e156_5, e156_8, e156_9, e156_10, e156_13, e156_16, e156_17, e156_20, e156_23, e156_25, e156_26, e156_27, e156_30, e156_33, e156_35, e156_36, e156_38, e156_41, e156_44, e156_46, e156_47, e156_48, e156_51, e156_54, e156_55, mm_pu_n, mm_pu_s, va_rf_s, mm_w8_0, mm_w8_1, mm_w8_2, mm_w8_3, mm_w8_4, mm_c1_n, mm_c1_i, mm_c1_a, mm_ct_a, mm_ct_i, true_and, and_true, and_self, eq_self, if_true, if_false, ite_true, ite_false, bI_t, bI_z, bI_nz, bI_01, true_or, or_true, reduceCtorEq, false_or, or_false, decide_eq_false_iff_not, decide_eq_true_eq, ite_not, x0, x1, x2, x3, x4, x5, x6, x7, x8, l1.s0, l1.p6, l1.p7, l1.p8, l1.p9, l1.p10, l1.p11, l1.p12, l1.p13, l1.i1, l1.i2, l1.i3, l1.i4, l1.i5, l1.i6, l1.i7, l1.i8, hml.s0, hml.p7, hml.i5, t_hasH l1 f0, t_hasG l1 f1, u_isHouse hml hn g0, u_isHog hml (show ng ≤ 6 by omega) g1, t_within, u_inw, u_isSheet, ha, hk0, hk1, hk2, hk3, Bool.true_eq_false]
    exact fi_i _ h rfl rfl
  | true =>
  cases hk4 : wth w 0 1 with
  | false =>
    simp only [e79_0, e79_1, e79_4, e79_5, e79_8, e79_11, e79_12, e79_15, e79_16, e79_19, e79_22, e79_23, e79_24, e79_25, e79_28, e79_31, e79_33, e79_34, e79_35, e79_38, e79_41, e79_43, e79_44, e79_46, e79_49, e79_52, e79_54, e79_55, e79_56, e79_59, e79_62, e79_63, e156_0, e156_1, e156_2, e156_5, e156_8, e156_9, e156_10, e156_13, e156_16, e156_17, e156_20, e156_23, e156_25, e156_26, e156_27, e156_30, e156_33, e156_35, e156_36, e156_38, e156_41, e156_44, e156_46, e156_47, e156_48, e156_51, e156_54, e156_55, mm_pu_n, mm_pu_s, va_rf_s, mm_w8_0, mm_w8_1, mm_w8_2, mm_w8_3, mm_w8_4, mm_c1_n, mm_c1_i, mm_c1_a, mm_ct_a, mm_ct_i, true_and, and_true, and_self, eq_self, if_true, if_false, ite_true, ite_false, bI_t, bI_z, bI_nz, bI_01, true_or, or_true, reduceCtorEq, false_or, or_false, decide_eq_false_iff_not, decide_eq_true_eq, ite_not, x0, x1, x2, x3, x4, x5, x6, x7, x8, l1.s0, l1.p6, l1.p7, l1.p8, l1.p9, l1.p10, l1.p11, l1.p12, l1.p13, l1.i1, l1.i2, l1.i3, l1.i4, l1.i5, l1.i6, l1.i7, l1.i8, hml.s0, hml.p7, hml.i5, t_hasH l1 f0, t_hasG l1 f1, u_isHouse hml hn g0, u_isHog hml (show ng ≤ 6 by omega) g1, t_within, u_inw, u_isSheet, ha, hk0, hk1, hk2, hk3, hk4, Bool.true_eq_false]
    exact fi_i _ h rfl rfl
  | true =>
    obtain ⟨k, -, hk, rfl⟩ := wth_of hk1 (a := 0) (b := 3) (by decide) (by decide) (by decide) (by decide)
    obtain ⟨p', hp, rfl⟩ := okh_of hk0 hn
    obtain ⟨g', hg', rfl⟩ := okh_of ha (by omega)
    obtain ⟨t', ht1, ht, rfl⟩ := wth_of hk3 (a := 1) (b := 8) (by decide) (by decide) (by decide) (by decide)
    obtain ⟨w', -, hw1, rfl⟩ := wth_of hk4 (a := 0) (b := 1) (by decide) (by decide) (by decide) (by decide)
    obtain ⟨hb, l', z, hsk⟩ := G4_sk hG4 (show k < 4 by omega)
    obtain ⟨⟨s1, s2, s3⟩, ⟨s4, s5⟩, hl, hz⟩ := id hsk
    obtain ⟨p1, p2, p3, p4⟩ := hsh.2 k (by omega)
    simp only [e79_0, e79_1, e79_4, e79_5, e79_8, e79_11, e79_12, e79_15, e79_16, e79_19, e79_22, e79_23, e79_24, e79_25, e79_28, e79_31, e79_33, e79_34, e79_35, e79_38, e79_41, e79_43, e79_44, e79_46, e79_49, e79_52, e79_54, e79_55, e79_56, e79_59, e79_62, e79_63, e79_64, e79_65, e79_68, e79_69, e79_70, e79_72, e79_74, e79_76, e79_78, e79_80, e79_83, e79_85, e79_87, mm_pu_n, mm_pu_s, va_rf_s, mm_w8_0, mm_w8_1, mm_w8_2, mm_w8_3, mm_w8_4, mm_c1_n, mm_c1_i, mm_c1_a, mm_ct_a, mm_ct_i, true_and, and_true, and_self, eq_self, if_true, if_false, ite_true, ite_false, bI_t, bI_z, bI_nz, bI_01, true_or, or_true, reduceCtorEq, false_or, or_false, decide_eq_false_iff_not, decide_eq_true_eq, ite_not, x0, x1, x2, x3, x4, x5, x6, x7, x8, l1.s0, l1.p6, l1.p7, l1.p8, l1.p9, l1.p10, l1.p11, l1.p12, l1.p13, l1.i1, l1.i2, l1.i3, l1.i4, l1.i5, l1.i6, l1.i7, l1.i8, t_hasH l1 f0, t_hasG l1 f1, t_within, ha, hk0, hk1, hk2, hk3, hk4, Bool.true_eq_false, hsh.1, in4 (show k < 4 by omega), cl2 (show k < 248 by omega), p1, p2, t_refusal p2 s1 s2 s3 hz]
    by_cases hw : v_why hb l' z l i (nI t') = 0
    · rw [if_pos hw]
      obtain ⟨y1, rfl, y2⟩ := why_0 hw
      subst y1
      obtain ⟨j, n1, rfl, e1, hj⟩ := hit_of y2 hz
      have hn1 : t' = n1 := (nI_eq (by omega) (by omega)).mp e1
      subst hn1
      have eW : (fun u => mm_G r (m + 3) (24 * k + j + u)) = fun u => mm_G r (m + 3) (24 * k + (j + u)) := funext fun u => by rw [Nat.add_assoc]
      have eF : ∀ (R : Nat), R = 4 ∨ R = 5 → ∀ v, p_dw (mm_uI L R g' (nI v)) n ng p' (fun u => mm_G r (x + 109 + 2 * k) (j + u)) t' 0 = p_dw (mm_uI Lr R g' (nI v)) n ng p' (fun u => mm_G r (m + 3) (24 * k + j + u)) t' 0 := by
        intro R hR45 v
        have gen : ∀ d q, q + d ≤ t' → p_dw (mm_uI L R g' (nI v)) n ng p' (fun u => mm_G r (x + 109 + 2 * k) (j + u)) d q = p_dw (mm_uI Lr R g' (nI v)) n ng p' (fun u => mm_G r (m + 3) (24 * k + j + u)) d q := by
          intro d
          induction d with
          | zero => intro q _; rfl
          | succ d ih =>
            intro q hq
            have e := (hG4 k (by omega)).2.2.2 (j + q) (by omega)
            have e7 : p_nights (mm_uI L R g' (nI v)) n ng (q + 1) 7 p' = p_nights (mm_uI Lr R g' (nI v)) n ng (q + 1) 7 p' := s_night (s_nights (hs6.u R g' rfl) (lg_45 hG hR45) q) 0 (p_nights_G (lg_45 hG hR45) q) 7 p' (Or.inr ⟨by decide, by decide, hp⟩)
            show (if mm_G r (x + 109 + 2 * k) (j + q) = (p_nights (mm_uI L R g' (nI v)) n ng (q + 1) 7 p').toInt64 then p_dw _ n ng p' _ d (q + 1) else false) = (if mm_G r (m + 3) (24 * k + j + q) = (p_nights (mm_uI Lr R g' (nI v)) n ng (q + 1) 7 p').toInt64 then p_dw _ n ng p' _ d (q + 1) else false)
            rw [ih (q + 1) (by omega), e, e7, Nat.add_assoc]
        exact gen t' 0 (by omega)
      have main : ∀ (w : Int32) (R hv lo : Nat), (w = 0 ∧ R = 4 ∧ hv = 4 ∧ lo = 0) ∨ (w = 1 ∧ R = 5 ∧ hv = 9 ∧ lo = 1) → wth w 0 1 = true → mm_E 79 93 [some (.ref x), some (.int (nI g')), some (.int (nI p')), some (.int (nI k)), some (.int (nI l')), some (.int (nI j)), some (.int (nI t')), some (.int w), some (.ref (x + 108 + 2 * k)), some (.int (v_why true l' z (nI l') (nI j) (nI t'))), none, none, none, none] [] I r (fun v I1 r1 => mm_E 156 0 [some (.ref m), some (.int (nI g')), some (.int (nI p')), some (.int (nI k)), some (.int (nI l')), some (.int (nI j)), some (.int (nI t')), some (.int w), none, none, none] [] I1 r1 (fun v2 I2 r2 => fi r x m v v2 I2 r2)) := by
        intro w R hv lo hwR hk4
        have cc : mm_E 79 125 [some (.ref x), some (.int (nI g')), some (.int (nI p')), some (.int (nI k)), some (.int (nI l')), some (.int (nI j)), some (.int (nI t')), some (.int w), some (.ref (x + 108 + 2 * k)), some (.int (v_why true l' z (nI l') (nI j) (nI t'))), some (.int 0), some (.int (nI lo)), some (.int (nI hv)), some (.int (nI lo))] [] I r (fun v I1 r1 => mm_E 156 0 [some (.ref m), some (.int (nI g')), some (.int (nI p')), some (.int (nI k)), some (.int (nI l')), some (.int (nI j)), some (.int (nI t')), some (.int w), none, none, none] [] I1 r1 (fun v2 I2 r2 => fi r x m v v2 I2 r2)) := by
          refine c_daw (I := I) (R := R) (hv := hv) hS vL hLL (show g' < 5 by omega) hp hn hG (show k < 4 by omega) (show j + t' ≤ 24 by omega) ?_ (by omega) (hv + 1 - lo) lo I 0 (by omega) fc.rf (fun K hFK => ?_)
          · rcases hwR with ⟨a, b, -, -⟩ | ⟨a, b, -, -⟩
            · exact Or.inl ⟨a, b⟩
            · exact Or.inr ⟨by rw [a]; decide, b⟩
          have gK : vr K (m + 5) m 0 0 = nI n := by rw [vr_q (I := I) (by decide) (fun j _ => by rw [hFK _ (by omega)])]; exact g0
          have gK1 : vr K (m + 5) m 0 1 = nI ng := by rw [vr_q (I := I) (by decide) (fun j _ => by rw [hFK _ (by omega)])]; exact g1
          have s4' : mm_rd K (m + 1) k = nI l' := by rw [rd_F (hFK _ (by omega))]; exact s4
          have s5' : mm_rd K (m + 2) k = nI z := by rw [rd_F (hFK _ (by omega))]; exact s5
          simp only [e156_0, e156_1, e156_2, e156_5, e156_8, e156_9, e156_10, e156_13, e156_16, e156_17, e156_20, e156_23, e156_25, e156_26, e156_27, e156_30, e156_33, e156_35, e156_36, e156_38, e156_41, e156_44, e156_46, e156_47, e156_48, e156_51, e156_54, e156_55, e156_56, e156_57, e156_58, e156_60, e156_62, e156_64, e156_67, e156_69, e156_71, e156_74, e156_76, e156_77, e156_78, e156_80, e156_82, mm_pu_n, mm_pu_s, va_rf_s, mm_w8_0, mm_w8_1, mm_w8_2, mm_w8_3, mm_w8_4, mm_c1_n, mm_c1_i, mm_c1_a, mm_ct_a, mm_ct_i, true_and, and_true, and_self, eq_self, if_true, if_false, ite_true, ite_false, bI_t, bI_z, bI_nz, bI_01, true_or, or_true, reduceCtorEq, false_or, or_false, decide_eq_false_iff_not, decide_eq_true_eq, ite_not, hml.s0, hml.p7, hml.i5, u_isHouse hml hn gK, u_isHog hml (show ng ≤ 6 by omega) gK1, u_inw, u_isSheet, ha, hk0, hk1, hk2, hk3, hk4, Bool.true_eq_false, u_wrong (hb := true) hml (show k < 4 by omega) s4' hl s5' hz, hw]
          have ew : w = nI lo := by rcases hwR with ⟨a, -, -, b⟩ | ⟨a, -, -, b⟩ <;> rw [a, b] <;> rfl
          have hwR2 : (w = 0 ∧ R = 4 ∧ hv = 4) ∨ (¬ w = 0 ∧ R = 5 ∧ hv = 9) := by
            rcases hwR with ⟨a, b, c, -⟩ | ⟨a, b, c, -⟩
            · exact Or.inl ⟨a, b, c⟩
            · exact Or.inr ⟨by rw [a]; decide, b, c⟩
          have mm := m_daw (I := K) (r := r) (L := Lr) (l4 := nI l') (w := w) (y8 := 0) (Q := fun v2 I2 r2 => fi r x m (some (.int (p_ds (fun v => p_dw (mm_uI L R g' (nI v)) n ng p' (fun u => mm_G r (x + 109 + 2 * k) (j + u)) t' 0) (hv + 1 - lo) lo 0))) v2 I2 r2) hml (MX.k (I := I) vR (hFK _ (by omega))) hLr (show g' < 5 by omega) hp hn hG' hRR' (show k < 4 by omega) (show j + t' ≤ 24 by omega) hwR2 (hv + 1 - lo) lo K 0 (by omega) fm.rf (fun K2 hK2 => ?_)
          · rw [← ew] at mm
            exact mm
          rw [show (fun v => p_dw (mm_uI L R g' (nI v)) n ng p' (fun u => mm_G r (x + 109 + 2 * k) (j + u)) t' 0) = (fun v => p_dw (mm_uI Lr R g' (nI v)) n ng p' (fun u => mm_G r (m + 3) (24 * k + j + u)) t' 0) from funext (eF R (by omega))]
          exact fi_i _ (ALL_f h hFK hK2) rfl rfl
        rcases hwR with ⟨rfl, rfl, rfl, rfl⟩ | ⟨rfl, rfl, rfl, rfl⟩
        · simp only [e79_93, e79_94, e79_96, e79_98, e79_101, e79_102, e79_105, e79_106, e79_108, e79_110, e79_113, e79_114, e79_117, e79_119, e79_121, e79_123, mm_pu_n, mm_pu_s, va_rf_s, mm_w8_0, mm_w8_1, mm_w8_2, mm_w8_3, mm_w8_4, mm_c1_n, mm_c1_i, mm_c1_a, mm_ct_a, mm_ct_i, true_and, and_true, and_self, eq_self, if_true, if_false, ite_true, ite_false, bI_t, bI_z, bI_nz, bI_01, true_or, or_true, reduceCtorEq, false_or, or_false, decide_eq_false_iff_not, decide_eq_true_eq, ite_not]
          exact cc
        · simp only [e79_93, e79_94, e79_96, e79_98, e79_101, e79_102, e79_105, e79_106, e79_108, e79_110, e79_113, e79_114, e79_117, e79_119, e79_121, e79_123, mm_pu_n, mm_pu_s, va_rf_s, mm_w8_0, mm_w8_1, mm_w8_2, mm_w8_3, mm_w8_4, mm_c1_n, mm_c1_i, mm_c1_a, mm_ct_a, mm_ct_i, true_and, and_true, and_self, eq_self, if_true, if_false, ite_true, ite_false, bI_t, bI_z, bI_nz, bI_01, true_or, or_true, reduceCtorEq, false_or, or_false, decide_eq_false_iff_not, decide_eq_true_eq, ite_not]
          exact cc
      rcases (show w' = 0 ∨ w' = 1 by omega) with c | c
      · subst c
        exact main 0 4 4 0 (Or.inl ⟨rfl, rfl, rfl, rfl⟩) hk4
      · subst c
        exact main 1 5 9 1 (Or.inr ⟨rfl, rfl, rfl, rfl⟩) hk4
    · rw [if_neg hw]
      simp only [e79_90, e79_92, mm_pu_n, mm_pu_s, va_rf_s, mm_w8_0, mm_w8_1, mm_w8_2, mm_w8_3, mm_w8_4, mm_c1_n, mm_c1_i, mm_c1_a, mm_ct_a, mm_ct_i, true_and, and_true, and_self, eq_self, if_true, if_false, ite_true, ite_false, bI_t, bI_z, bI_nz, bI_01, true_or, or_true, reduceCtorEq, false_or, or_false, decide_eq_false_iff_not, decide_eq_true_eq, ite_not]
      simp only [e156_0, e156_1, e156_2, e156_5, e156_8, e156_9, e156_10, e156_13, e156_16, e156_17, e156_20, e156_23, e156_25, e156_26, e156_27, e156_30, e156_33, e156_35, e156_36, e156_38, e156_41, e156_44, e156_46, e156_47, e156_48, e156_51, e156_54, e156_55, e156_56, e156_57, e156_58, e156_60, e156_62, e156_64, e156_67, e156_69, e156_71, e156_74, e156_76, mm_pu_n, mm_pu_s, va_rf_s, mm_w8_0, mm_w8_1, mm_w8_2, mm_w8_3, mm_w8_4, mm_c1_n, mm_c1_i, mm_c1_a, mm_ct_a, mm_ct_i, true_and, and_true, and_self, eq_self, if_true, if_false, ite_true, ite_false, bI_t, bI_z, bI_nz, bI_01, true_or, or_true, reduceCtorEq, false_or, or_false, decide_eq_false_iff_not, decide_eq_true_eq, ite_not, hml.s0, hml.p7, hml.i5, u_isHouse hml hn g0, u_isHog hml (show ng ≤ 6 by omega) g1, u_inw, u_isSheet, ha, hk0, hk1, hk2, hk3, hk4, Bool.true_eq_false, u_wrong hml (show k < 4 by omega) s4 hl s5 hz, hw]
      exact fi_i _ h rfl rfl
end
