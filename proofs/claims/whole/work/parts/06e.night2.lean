section
variable {r : mm_R} {a : Nat} {I : mm_I} {Q : Option Value → mm_I → mm_R → Prop}
theorem t_addInterest (h : ln_S r a) {n : Nat} (hn : n ≤ 6) (h0 : vc I a 0 0 = nI n) (hq : ∀ J, vc J a = p_int (vc I a) n → ln_F a I J → Q none J r) : mm_E 20 0 [some (.ref a), none, none] [] I r Q := by
  have loop : ∀ d k J l2, k + d = n → vc J a = p_int (vc I a) k → ln_F a I J → mm_E 20 2 [some (.ref a), some (.int (nI k)), l2] [] J r Q := by
    intro d
    induction d with
    | zero =>
      intro k J l2 hk hJ hF
      have : k = n := by omega
      subst this
      have hJ0 : vc J a 0 0 = nI k := by rw [hJ, p_int_keep _ _ _ (by decide)]; exact h0
      rw [e20_2]
      simp only [e20_0, e20_1, e20_3, e20_4, e20_7, e20_10, e20_11, e20_12, e20_15, e20_18, e20_19, e20_22, e20_23, e20_24, e20_25, e20_28, e20_29, e20_30, e20_31, e20_34, e20_35, e20_37, e20_38, e20_39, e20_40, e20_41, e20_44, e20_45, e20_46, e20_49, e20_52, e20_53, e20_56, e20_59, e20_60, e20_63, e20_66, mm_pu_n, mm_pu_s, va_rf_s, mm_w8_0, mm_w8_1, mm_w8_2, mm_w8_3, mm_w8_4, mm_c1_n, mm_c1_i, mm_c1_a, mm_ct_a, mm_ct_i, true_and, and_true, and_self, eq_self, if_true, if_false, ite_true, ite_false, bI_t, bI_z, bI_nz, bI_01, true_or, or_true, reduceCtorEq, false_or, or_false, decide_eq_false_iff_not, decide_eq_true_eq, ite_not, h.s0, rd_0 (a := a) (i := 0) (by decide), hJ0, Int32.le_refl]
      exact hq J hJ hF
    | succ d ih =>
      intro k J l2 hk hJ hF
      have hk6 : k < 6 := by omega
      have hJ0 : vc J a 0 0 = nI n := by rw [hJ, p_int_keep _ _ _ (by decide)]; exact h0
      rw [e20_2]
      simp only [e20_3, e20_4, e20_7, e20_10, e20_11, e20_12, e20_15, e20_18, e20_19, e20_22, e20_23, e20_24, e20_25, e20_28, e20_29, e20_30, e20_31, e20_34, e20_35, e20_37, e20_38, e20_39, e20_40, e20_41, e20_44, e20_45, e20_46, e20_49, e20_52, e20_53, e20_56, e20_60, e20_63, mm_pu_n, mm_pu_s, va_rf_s, mm_w8_0, mm_w8_1, mm_w8_2, mm_w8_3, mm_w8_4, mm_c1_n, mm_c1_i, mm_c1_a, mm_ct_a, mm_ct_i, true_and, and_true, and_self, eq_self, if_true, if_false, ite_true, ite_false, bI_t, bI_z, bI_nz, bI_01, true_or, or_true, reduceCtorEq, false_or, or_false, decide_eq_false_iff_not, decide_eq_true_eq, ite_not, h.s0, h.p6, h.p7, h.p8, h.p9, h.p10, h.p11, h.p12, h.p13, h.i1, h.i2, h.i3, h.i4, h.i5, h.i6, h.i7, h.i8, rd_0 (a := a) (i := 0) (by decide), rd_0 (a := a) (i := 2) (by decide), in6 hk6, cl_nI hk6, rd_k (a := a) (k := 1) ⟨by decide, hk6⟩, hJ0, nle6 (show k < n by omega) hn, t_isLost h hk6, nI_1, show ¬ ((100 : Int32) = 0) by decide, not_false_eq_true, it_i]
      by_cases c : 3 ≤ vc J a 3 k
      · rw [if_pos c]
        refine ih (k + 1) J l2 (by omega) ?_ hF
        unfold p_int
        rw [← hJ, if_pos c]
      · rw [if_neg c]
        simp only [e20_59, e20_60, e20_63, mm_pu_n, mm_pu_s, va_rf_s, mm_w8_0, mm_w8_1, mm_w8_2, mm_w8_3, mm_w8_4, mm_c1_n, mm_c1_i, mm_c1_a, mm_ct_a, mm_ct_i, true_and, and_true, and_self, eq_self, if_true, if_false, ite_true, ite_false, bI_t, bI_z, bI_nz, bI_01, true_or, or_true, reduceCtorEq, false_or, or_false, decide_eq_false_iff_not, decide_eq_true_eq, ite_not, h.s0, h.p6, h.p7, h.p8, h.p9, h.p10, h.p11, h.p12, h.p13, h.i1, h.i2, h.i3, h.i4, h.i5, h.i6, h.i7, h.i8, in6 hk6, cl_nI hk6, nI_1]
        refine ih (k + 1) _ _ (by omega) ?_ (hF.u (by decide))
        rw [vc_u ⟨by decide, hk6⟩]
        rw [p_int, ← hJ, if_neg c]
        rfl
  simp only [e20_0, e20_1, mm_pu_n, mm_pu_s, va_rf_s, mm_w8_0, mm_w8_1, mm_w8_2, mm_w8_3, mm_w8_4, mm_c1_n, mm_c1_i, mm_c1_a, mm_ct_a, mm_ct_i, true_and, and_true, and_self, eq_self, if_true, if_false, ite_true, ite_false, bI_t, bI_z, bI_nz, bI_01, true_or, or_true, reduceCtorEq, false_or, or_false, decide_eq_false_iff_not, decide_eq_true_eq, ite_not]
  exact loop n 0 I none (by omega) rfl ln_F.rf
theorem t_passNight (h : ln_S r a) {n ng : Nat} (hG : ln_G (vc I a) n ng) (s : Int32) (hq : ∀ J, vc J a = p_night (vc I a) n ng s → ln_F a I J → Q none J r) : mm_E 16 0 [some (.ref a), some (.int s), none, none] [] I r Q := by
  obtain ⟨⟨hn, h0⟩, ⟨hng, h1⟩, -⟩ := id hG
  have fin : ∀ (M : mm_I) (w l3 : Option Value), vc M a = (if p_win (vc I a) = true then p_fill (vc I a) true n else p_int (p_hogs (p_fill (vc I a) false n) n ng s ng) n) → ln_F a I M → mm_E 16 86 [some (.ref a), some (.int s), w, l3] [] M r Q := by
    intro M w l3 hM hF
    simp only [e16_86, e16_87, e16_88, e16_91, e16_92, e16_93, e16_96, mm_pu_n, mm_pu_s, va_rf_s, mm_w8_0, mm_w8_1, mm_w8_2, mm_w8_3, mm_w8_4, mm_c1_n, mm_c1_i, mm_c1_a, mm_ct_a, mm_ct_i, true_and, and_true, and_self, eq_self, if_true, if_false, ite_true, ite_false, bI_t, bI_z, bI_nz, bI_01, true_or, or_true, reduceCtorEq, false_or, or_false, decide_eq_false_iff_not, decide_eq_true_eq, ite_not, h.s0, rd_0 (a := a) (i := 3) (by decide)]
    refine hq _ ?_ hF.u0
    rw [vc_u0 (by decide), hM]
    rfl
  have loop2 : ∀ d g J w, g + d = ng → vc J a = p_hogs (p_fill (vc I a) false n) n ng s g → p_win (vc I a) = false → ln_F a I J → mm_c1 w → mm_E 16 55 [some (.ref a), some (.int s), w, some (.int (nI g))] [] J r Q := by
    intro d
    induction d with
    | zero =>
      intro g J w hg hJ hw hF hc
      have : g = ng := by omega
      subst this
      have hGJ : ln_G (vc J a) n g := by
        rw [hJ]
        exact p_hogs_G s (ln_G_keep hG (by rw [p_fill_keep _ _ _ _ (by decide)]) (by rw [p_fill_keep _ _ _ _ (by decide)]) (p_fill_keep _ _ _ _ (by decide))) g (Nat.le_refl _)
      rw [e16_55]
      simp only [e16_56, e16_57, e16_60, e16_63, e16_64, e16_65, e16_66, e16_67, e16_68, e16_71, e16_72, e16_73, e16_76, e16_79, e16_82, e16_83, mm_pu_n, mm_pu_s, va_rf_s, mm_w8_0, mm_w8_1, mm_w8_2, mm_w8_3, mm_w8_4, mm_c1_n, mm_c1_i, mm_c1_a, mm_ct_a, mm_ct_i, true_and, and_true, and_self, eq_self, if_true, if_false, ite_true, ite_false, bI_t, bI_z, bI_nz, bI_01, true_or, or_true, reduceCtorEq, false_or, or_false, decide_eq_false_iff_not, decide_eq_true_eq, ite_not, h.s0, rd_0 (a := a) (i := 1) (by decide), hGJ.2.1.2, Int32.le_refl]
      refine t_addInterest h hn hGJ.1.2 (fun K hK hFK => ?_)
      rw [mm_pu_n]
      refine fin K _ _ ?_ (hF.tr hFK)
      rw [hw, if_neg (by decide), hK, hJ]
    | succ d ih =>
      intro g J w hg hJ hw hF hc
      have hg6 : g < 6 := by omega
      have hGJ : ln_G (vc J a) n ng := by
        rw [hJ]
        exact p_hogs_G s (ln_G_keep hG (by rw [p_fill_keep _ _ _ _ (by decide)]) (by rw [p_fill_keep _ _ _ _ (by decide)]) (p_fill_keep _ _ _ _ (by decide))) g (by omega)
      rw [e16_55]
      simp only [e16_56, e16_57, e16_60, e16_63, e16_64, e16_65, e16_66, e16_67, e16_68, e16_71, e16_72, e16_73, mm_pu_n, mm_pu_s, va_rf_s, mm_w8_0, mm_w8_1, mm_w8_2, mm_w8_3, mm_w8_4, mm_c1_n, mm_c1_i, mm_c1_a, mm_ct_a, mm_ct_i, true_and, and_true, and_self, eq_self, if_true, if_false, ite_true, ite_false, bI_t, bI_z, bI_nz, bI_01, true_or, or_true, reduceCtorEq, false_or, or_false, decide_eq_false_iff_not, decide_eq_true_eq, ite_not, h.s0, rd_0 (a := a) (i := 1) (by decide), hGJ.2.1.2, nle6 (show g < ng by omega) (show ng ≤ 6 by omega)]
      by_cases c : (s >>> (nI g &&& 31)) &&& 1 = 0
      · rw [if_pos c]
        obtain ⟨p, hp, hpl⟩ := hGJ.2.2 g (by omega)
        refine t_visit h hGJ (by omega) hp hpl (fun K hK hFK => ?_)
        simp only [mm_pu_n, e16_76, e16_79, hc, true_and, nI_1]
        refine ih (g + 1) K w (by omega) ?_ hw (hF.tr hFK) hc
        rw [p_hogs, if_pos c, hK, ← hJ, hpl, cl_nI (by omega)]
      · rw [if_neg c]
        simp only [e16_76, e16_79, hc, true_and, nI_1]
        refine ih (g + 1) J w (by omega) ?_ hw hF hc
        rw [p_hogs, if_neg c, hJ]
  have loop1 : ∀ d k J, k + d = n → vc J a = p_fill (vc I a) (p_win (vc I a)) k → ln_F a I J → mm_E 16 7 [some (.ref a), some (.int s), some (.int (bI (p_win (vc I a)))), some (.int (nI k))] [] J r Q := by
    intro d
    induction d with
    | zero =>
      intro k J hk hJ hF
      have : k = n := by omega
      subst this
      have hJ0 : vc J a 0 0 = nI k := by rw [hJ, p_fill_keep _ _ _ _ (by decide)]; exact h0
      rw [e16_7]
      simp only [e16_8, e16_9, e16_12, e16_15, e16_16, e16_19, e16_20, e16_21, e16_24, e16_25, e16_26, e16_29, e16_32, e16_33, e16_36, e16_37, e16_40, e16_41, e16_42, e16_43, e16_46, e16_49, e16_50, e16_53, e16_54, mm_pu_n, mm_pu_s, va_rf_s, mm_w8_0, mm_w8_1, mm_w8_2, mm_w8_3, mm_w8_4, mm_c1_n, mm_c1_i, mm_c1_a, mm_ct_a, mm_ct_i, true_and, and_true, and_self, eq_self, if_true, if_false, ite_true, ite_false, bI_t, bI_z, bI_nz, bI_01, true_or, or_true, reduceCtorEq, false_or, or_false, decide_eq_false_iff_not, decide_eq_true_eq, ite_not, h.s0, rd_0 (a := a) (i := 0) (by decide), hJ0, Int32.le_refl]
      cases hw : p_win (vc I a) with
      | false =>
        rw [hw] at hJ
        rw [if_pos rfl]
        exact loop2 ng 0 J _ (by omega) hJ hw hF (mm_c1_i _)
      | true =>
        rw [hw] at hJ
        rw [if_neg (by decide)]
        refine fin J _ _ ?_ hF
        rw [hw, if_pos rfl]
        exact hJ
    | succ d ih =>
      intro k J hk hJ hF
      have hk6 : k < 6 := by omega
      have hJ0 : vc J a 0 0 = nI n := by rw [hJ, p_fill_keep _ _ _ _ (by decide)]; exact h0
      rw [e16_7]
      simp only [e16_8, e16_9, e16_12, e16_15, e16_16, e16_19, e16_20, e16_21, e16_24, e16_25, e16_26, e16_29, e16_32, e16_33, e16_36, e16_37, e16_40, e16_41, mm_pu_n, mm_pu_s, va_rf_s, mm_w8_0, mm_w8_1, mm_w8_2, mm_w8_3, mm_w8_4, mm_c1_n, mm_c1_i, mm_c1_a, mm_ct_a, mm_ct_i, true_and, and_true, and_self, eq_self, if_true, if_false, ite_true, ite_false, bI_t, bI_z, bI_nz, bI_01, true_or, or_true, reduceCtorEq, false_or, or_false, decide_eq_false_iff_not, decide_eq_true_eq, ite_not, h.s0, h.p6, h.p7, h.p8, h.p9, h.p10, h.p11, h.p12, h.p13, h.i1, h.i2, h.i3, h.i4, h.i5, h.i6, h.i7, h.i8, rd_0 (a := a) (i := 0) (by decide), hJ0, nle6 (show k < n by omega) hn, t_isLost h hk6, in6 hk6, cl_nI hk6, rd_k (a := a) (k := 2) ⟨by decide, hk6⟩, it_i]
      simp only [e16_42, e16_43, e16_46, mm_pu_n, mm_pu_s, va_rf_s, mm_w8_0, mm_w8_1, mm_w8_2, mm_w8_3, mm_w8_4, mm_c1_n, mm_c1_i, mm_c1_a, mm_ct_a, mm_ct_i, true_and, and_true, and_self, eq_self, if_true, if_false, ite_true, ite_false, bI_t, bI_z, bI_nz, bI_01, true_or, or_true, reduceCtorEq, false_or, or_false, decide_eq_false_iff_not, decide_eq_true_eq, ite_not, h.s0, h.p6, h.p7, h.p8, h.p9, h.p10, h.p11, h.p12, h.p13, h.i1, h.i2, h.i3, h.i4, h.i5, h.i6, h.i7, h.i8, in6 hk6, cl_nI hk6, nI_1]
      refine ih (k + 1) _ (by omega) ?_ (hF.u (by decide))
      rw [vc_u ⟨by decide, hk6⟩, p_fill, ← hJ]
      congr 1
      cases hw : p_win (vc I a) with
      | false => simp
      | true => simp
  simp only [e16_0, e16_1, e16_4, e16_5, e16_6, mm_pu_n, mm_pu_s, va_rf_s, mm_w8_0, mm_w8_1, mm_w8_2, mm_w8_3, mm_w8_4, mm_c1_n, mm_c1_i, mm_c1_a, mm_ct_a, mm_ct_i, true_and, and_true, and_self, eq_self, if_true, if_false, ite_true, ite_false, bI_t, bI_z, bI_nz, bI_01, true_or, or_true, reduceCtorEq, false_or, or_false, decide_eq_false_iff_not, decide_eq_true_eq, ite_not, h.s0, t_isWinter h]
  exact loop1 n 0 I (by omega) rfl ln_F.rf
def p_nights (L : mm_I) (n ng : Nat) : Nat → mm_I
  | 0 => L
  | k + 1 => p_night (p_nights L n ng k) n ng 0
theorem p_nights_G {L : mm_I} {n ng : Nat} (h : ln_G L n ng) : ∀ k, ln_G (p_nights L n ng k) n ng := by
  intro k
  induction k with
  | zero => exact h
  | succ k ih => exact p_night_G 0 ih
theorem t_passNights (h : ln_S r a) {n ng : Nat} (hG : ln_G (vc I a) n ng) {t : Nat} (ht : t ≤ 1000) (hq : ∀ J, vc J a = p_nights (vc I a) n ng t → ln_F a I J → Q none J r) : mm_E 15 0 [some (.ref a), some (.int (nI t)), none] [] I r Q := by
  have loop : ∀ d k J, k + d = t → vc J a = p_nights (vc I a) n ng k → ln_F a I J → mm_E 15 2 [some (.ref a), some (.int (nI t)), some (.int (nI k))] [] J r Q := by
    intro d
    induction d with
    | zero =>
      intro k J hk hJ hF
      have : k = t := by omega
      subst this
      rw [e15_2]
      simp only [e15_3, e15_4, e15_7, e15_8, e15_9, e15_12, e15_15, e15_18, mm_pu_n, mm_pu_s, va_rf_s, mm_w8_0, mm_w8_1, mm_w8_2, mm_w8_3, mm_w8_4, mm_c1_n, mm_c1_i, mm_c1_a, mm_ct_a, mm_ct_i, true_and, and_true, and_self, eq_self, if_true, if_false, ite_true, ite_false, bI_t, bI_z, bI_nz, bI_01, true_or, or_true, reduceCtorEq, false_or, or_false, decide_eq_false_iff_not, decide_eq_true_eq, ite_not, Int32.le_refl]
      exact hq J hJ hF
    | succ d ih =>
      intro k J hk hJ hF
      have hGJ : ln_G (vc J a) n ng := by rw [hJ]; exact p_nights_G hG k
      rw [e15_2]
      simp only [e15_3, e15_4, e15_7, e15_8, e15_9, mm_pu_n, mm_pu_s, va_rf_s, mm_w8_0, mm_w8_1, mm_w8_2, mm_w8_3, mm_w8_4, mm_c1_n, mm_c1_i, mm_c1_a, mm_ct_a, mm_ct_i, true_and, and_true, and_self, eq_self, if_true, if_false, ite_true, ite_false, bI_t, bI_z, bI_nz, bI_01, true_or, or_true, reduceCtorEq, false_or, or_false, decide_eq_false_iff_not, decide_eq_true_eq, ite_not, h.s0, nI_ge (show k < t by omega) (show t < 2 ^ 31 by omega)]
      refine t_passNight h hGJ 0 (fun K hK hFK => ?_)
      simp only [mm_pu_n, e15_12, e15_15, mm_c1_i, true_and, nI_1]
      exact ih (k + 1) K (by omega) (by rw [p_nights, hK, hJ]) (hF.tr hFK)
  simp only [e15_0, e15_1, mm_pu_n, mm_pu_s, va_rf_s, mm_w8_0, mm_w8_1, mm_w8_2, mm_w8_3, mm_w8_4, mm_c1_n, mm_c1_i, mm_c1_a, mm_ct_a, mm_ct_i, true_and, and_true, and_self, eq_self, if_true, if_false, ite_true, ite_false, bI_t, bI_z, bI_nz, bI_01, true_or, or_true, reduceCtorEq, false_or, or_false, decide_eq_false_iff_not, decide_eq_true_eq, ite_not]
  exact loop t 0 I (by omega) rfl ln_F.rf
end
