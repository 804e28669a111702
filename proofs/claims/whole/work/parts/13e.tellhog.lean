theorem y_int {ch : Nat → Nat} {t q : Nat} {e : Int32} (hc : okc ch t) (he : -1 ≤ e.toInt ∧ e.toInt ≤ 0) : (cc ch t e q - 48).toInt = if q < t then (ch q : Int) - 48 else e.toInt - 48 := by
  unfold cc
  by_cases c : q < t
  · have := hc.2 q c
    rw [if_pos c, if_pos c, Int32.toInt_sub, nI_toInt (by omega), show (48 : Int32).toInt = 48 from rfl]
    exact Int.bmod_eq_of_le (by omega) (by omega)
  · rw [if_neg c, if_neg c, Int32.toInt_sub, show (48 : Int32).toInt = 48 from rfl]
    exact Int.bmod_eq_of_le (by omega) (by omega)
theorem dr2_y {ch : Nat → Nat} {t p lo hi : Nat} {e : Int32} (hc : okc ch t) (he : -1 ≤ e.toInt ∧ e.toInt ≤ 0) : dr2 ch t lo hi p = decide ((lo : Int) ≤ (cc ch t e (sp ch t p) - 48).toInt ∧ (cc ch t e (sp ch t p) - 48).toInt < (hi : Int)) := by
  rw [y_int hc he]
  unfold dr2
  by_cases c : sp ch t p < t
  · rw [if_pos c]
    exact decide_eq_decide.mpr ⟨fun z => by omega, fun z => by omega⟩
  · rw [if_neg c]
    rw [decide_eq_false (fun z => c z.1), decide_eq_false (fun z => by omega)]
theorem dr2_v {ch : Nat → Nat} {t p lo hi : Nat} {e : Int32} (h : dr2 ch t lo hi p = true) (hc : okc ch t) : cc ch t e (sp ch t p) - 48 = nI (ch (sp ch t p) - 48) := by
  obtain ⟨h1, h2, h3⟩ := of_decide_eq_true h
  have := hc.2 _ h1
  unfold cc
  rw [if_pos h1, show (48 : Int32) = nI 48 from rfl, n_sub (by omega) (by omega)]
theorem em1 : -1 ≤ (-1 : Int32).toInt ∧ (-1 : Int32).toInt ≤ 0 := by decide
theorem em0 : -1 ≤ (0 : Int32).toInt ∧ (0 : Int32).toInt ≤ 0 := by decide
section
variable {r : mm_R} {J : mm_I} {a t p : Nat} {ch : Nat → Nat} {Q : Option Value → mm_I → mm_R → Prop}
theorem t_kindOf (y : Int32) : mm_E 43 0 [some (.int y)] [] J r Q ↔ Q (some (.int (kI y))) J r := by
  rw [← kI_o]
  simp only [e43_0, e43_1, e43_52, e43_53, e43_54, e43_55, e43_56, e43_57, e43_58, e43_59, e43_60, e43_61, e43_62, e43_63, mm_pu_n, mm_pu_s, va_rf_s, mm_w8_0, mm_w8_1, mm_w8_2, mm_w8_3, mm_w8_4, mm_c1_n, mm_c1_i, mm_c1_a, mm_ct_a, mm_ct_i, true_and, and_true, and_self, eq_self, if_true, if_false, ite_true, ite_false, bI_t, bI_z, bI_nz, bI_01, true_or, or_true, reduceCtorEq, false_or, or_false, decide_eq_false_iff_not, decide_eq_true_eq, ite_not]
  by_cases c1 : y = 102
  · rw [if_pos c1, if_pos c1]
  rw [if_neg c1, if_neg c1]
  by_cases c2 : y = 103
  · rw [if_pos c2, if_pos c2]
  rw [if_neg c2, if_neg c2]
  by_cases c3 : y = 112
  · rw [if_pos c3, if_pos c3]
  rw [if_neg c3, if_neg c3]
  by_cases c4 : y = 115
  · rw [if_pos c4, if_pos c4]
  rw [if_neg c4, if_neg c4]
  by_cases c5 : y = 121
  · rw [if_pos c5, if_pos c5]
  rw [if_neg c5, if_neg c5]
theorem t_tellHog {n ng : Nat} (hs : ts r a) (hl : ln_S r (a + 2)) (hc : okc ch t) (h : tc J a t ch p) (hn6 : n ≤ 6) (hn5 : ng < 5) (h0 : vc J (a + 2) 0 0 = nI n) (h1 : vc J (a + 2) 0 1 = nI ng) (hq1 : gok ch t n p = true → ∀ K, ft a J K → tc K a t ch (ge' ch t p) → vc K (a + 2) = gM ch t p (vc J (a + 2)) ng → Q (some (.int 1)) K r) (hq0 : gok ch t n p = false → ∀ K, ft a J K → mm_rd K a 1 = -20 - nI (gf ch t p) → Q (some (.int 0)) K r) : mm_E 42 0 [some (.ref a), none, none, none] [] J r Q := by
  have wv : ∀ (I : mm_I) (k : Nat) (y : Int32), vc (mm_uI I a k y) (a + 2) = vc I (a + 2) := fun I k y => vc_p (by omega)
  have hle := sp_le (ch := ch) h.2.1
  unfold gok at hq1 hq0
  unfold gf at hq0
  simp only [e42_0, e42_1, mm_pu_n, mm_pu_s, va_rf_s, mm_w8_0, mm_w8_1, mm_w8_2, mm_w8_3, mm_w8_4, mm_c1_n, mm_c1_i, mm_c1_a, mm_ct_a, mm_ct_i, true_and, and_true, and_self, eq_self, if_true, if_false, ite_true, ite_false, bI_t, bI_z, bI_nz, bI_01, true_or, or_true, reduceCtorEq, false_or, or_false, decide_eq_false_iff_not, decide_eq_true_eq, ite_not, hs.1]
  refine t_look hs hc h ?_
  have t1 := tc_u h hle.2
  simp only [mm_pu_s, e42_4, e42_7, e42_8, e42_9, mm_pu_n, mm_pu_s, va_rf_s, mm_w8_0, mm_w8_1, mm_w8_2, mm_w8_3, mm_w8_4, mm_c1_n, mm_c1_i, mm_c1_a, mm_ct_a, mm_ct_i, true_and, and_true, and_self, eq_self, if_true, if_false, ite_true, ite_false, bI_t, bI_z, bI_nz, bI_01, true_or, or_true, reduceCtorEq, false_or, or_false, decide_eq_false_iff_not, decide_eq_true_eq, ite_not, t_kindOf, kk_c]
  by_cases c1 : 0 ≤ kk ch t p
  · have hk := kk_lt c1
    rw [if_pos c1]
    have t2 := tc_u h (show sp ch t p + 1 ≤ t by omega)
    simp only [e42_21, e42_22, e42_23, e42_26, e42_27, e42_28, e42_31, e42_32, mm_pu_n, mm_pu_s, va_rf_s, mm_w8_0, mm_w8_1, mm_w8_2, mm_w8_3, mm_w8_4, mm_c1_n, mm_c1_i, mm_c1_a, mm_ct_a, mm_ct_i, true_and, and_true, and_self, eq_self, if_true, if_false, ite_true, ite_false, bI_t, bI_z, bI_nz, bI_01, true_or, or_true, reduceCtorEq, false_or, or_false, decide_eq_false_iff_not, decide_eq_true_eq, ite_not, hs.1, t1.1.2, nI_1, mu_uu]
    refine t_look hs hc t2 ?_
    have hle2 := sp_le (ch := ch) t2.2.1
    have t3 := tc_u t2 hle2.2
    rw [mu_uu] at t3 ⊢
    have ey := dr2_y (p := q1' ch t p) (lo := 1) (hi := 10) hc em1
    rw [decide_eq_true c1] at hq1 hq0
    cases c2 : dr2 ch t 1 10 (q1' ch t p) with
    | false =>
      rw [c2] at hq0 ey
      have ey' := of_decide_eq_false ey.symm
      have bad : mm_E 42 50 [some (.ref a), some (.int (kk ch t p)), some (.int (cc ch t (-1) (sp ch t (sp ch t p + 1)) - 48)), none] [] (mm_uI J a 4 (nI (sp ch t (sp ch t p + 1)))) r Q := by
        simp only [e42_50, e42_51, e42_52, e42_55, e42_58, mm_pu_n, mm_pu_s, va_rf_s, mm_w8_0, mm_w8_1, mm_w8_2, mm_w8_3, mm_w8_4, mm_c1_n, mm_c1_i, mm_c1_a, mm_ct_a, mm_ct_i, true_and, and_true, and_self, eq_self, if_true, if_false, ite_true, ite_false, bI_t, bI_z, bI_nz, bI_01, true_or, or_true, reduceCtorEq, false_or, or_false, decide_eq_false_iff_not, decide_eq_true_eq, ite_not, hs.1, t3.1.2, t_faultAt hs]
        refine hq0 rfl _ (ft.u.tr ft.u) ?_
        rw [if_neg (by decide), if_pos rfl]
        exact rd_u
      simp only [mm_pu_s, e42_35, e42_37, e42_38, e42_39, e42_40, e42_41, e42_44, e42_45, e42_47, mm_pu_n, mm_pu_s, va_rf_s, mm_w8_0, mm_w8_1, mm_w8_2, mm_w8_3, mm_w8_4, mm_c1_n, mm_c1_i, mm_c1_a, mm_ct_a, mm_ct_i, true_and, and_true, and_self, eq_self, if_true, if_false, ite_true, ite_false, bI_t, bI_z, bI_nz, bI_01, true_or, or_true, reduceCtorEq, false_or, or_false, decide_eq_false_iff_not, decide_eq_true_eq, ite_not]
      by_cases c3 : cc ch t (-1) (sp ch t (sp ch t p + 1)) - 48 < 1
      · rw [if_pos c3]; exact bad
      · rw [if_neg c3, if_neg (fun c4 => ey' ⟨by rw [Int32.lt_iff_toInt_lt] at c3; change ¬ (_ < (1 : Int)) at c3; unfold q1'; omega, by rw [Int32.le_iff_toInt_le] at c4; change _ ≤ (9 : Int) at c4; unfold q1'; omega⟩)]
        exact bad
    | true =>
      rw [c2] at hq1 hq0
      have vy := dr2_v (e := -1) c2 hc
      obtain ⟨z1, z2, z3⟩ := of_decide_eq_true c2
      have vy2 : cc ch t (-1) (sp ch t (sp ch t p + 1)) - 48 = nI (ch (sp ch t (q1' ch t p)) - 48) := vy
      have n1 : ¬ (nI (ch (sp ch t (q1' ch t p)) - 48) < 1) := by
        rw [show (1 : Int32) = nI 1 from rfl]
        exact fun z => absurd ((nI_ltI (by omega) (by decide)).mp z) (by omega)
      have n9 : nI (ch (sp ch t (q1' ch t p)) - 48) ≤ 9 := nI_le (b := 9) (by omega) (by decide)
      have t4 : tc (mm_uI J a 4 (nI (q2' ch t p))) a t ch (q2' ch t p) := tc_u h (by unfold q2'; omega)
      simp only [mm_pu_s, e42_35, e42_37, e42_38, e42_39, e42_40, e42_41, e42_44, e42_45, e42_47, e42_50, e42_51, e42_52, e42_55, e42_58, e42_59, e42_60, e42_61, e42_64, e42_65, e42_66, e42_69, e42_70, e42_71, e42_72, e42_74, mm_pu_n, mm_pu_s, va_rf_s, mm_w8_0, mm_w8_1, mm_w8_2, mm_w8_3, mm_w8_4, mm_c1_n, mm_c1_i, mm_c1_a, mm_ct_a, mm_ct_i, true_and, and_true, and_self, eq_self, if_true, if_false, ite_true, ite_false, bI_t, bI_z, bI_nz, bI_01, true_or, or_true, reduceCtorEq, false_or, or_false, decide_eq_false_iff_not, decide_eq_true_eq, ite_not, hs.1, vy2, n1, n9, t3.1.2, nI_1, mu_uu]
      rw [show (64 : Int32) = nI 64 from rfl]
      refine t_takes hs hc (show tc (mm_uI J a 4 (nI (sp ch t (sp ch t p + 1) + 1))) a t ch (q2' ch t p) from t4) (by decide) ?_
      rw [mu_uu]
      have hle5 := se_le (ch := ch) (c := 64) t4.2.1
      have t5 : tc (mm_uI J a 4 (nI (q3' ch t p))) a t ch (q3' ch t p) := tc_u h hle5.2
      have fin : ∀ (e pl : Nat), e ≤ t → ge' ch t p = e → gp ch t p = pl → gok ch t n p = true → mm_E 42 118 [some (.ref a), some (.int (kk ch t p)), some (.int (nI (ch (sp ch t (q1' ch t p)) - 48))), some (.int (nI pl))] [] (mm_uI J a 4 (nI e)) r Q := by
        intro e pl he ee ep hg
        simp only [e42_118, e42_119, e42_122, e42_123, e42_124, e42_125, mm_pu_n, mm_pu_s, va_rf_s, mm_w8_0, mm_w8_1, mm_w8_2, mm_w8_3, mm_w8_4, mm_c1_n, mm_c1_i, mm_c1_a, mm_ct_a, mm_ct_i, true_and, and_true, and_self, eq_self, if_true, if_false, ite_true, ite_false, bI_t, bI_z, bI_nz, bI_01, true_or, or_true, reduceCtorEq, false_or, or_false, decide_eq_false_iff_not, decide_eq_true_eq, ite_not, hs.1, hs.2.1, hl.s0]
        refine t_addHog hl hn5 (by rw [wv]; exact h1) _ _ _ (fun K hK hF => ?_)
        simp only [mm_pu_s, e42_128, e42_129, e42_130, mm_pu_n, mm_pu_s, va_rf_s, mm_w8_0, mm_w8_1, mm_w8_2, mm_w8_3, mm_w8_4, mm_c1_n, mm_c1_i, mm_c1_a, mm_ct_a, mm_ct_i, true_and, and_true, and_self, eq_self, if_true, if_false, ite_true, ite_false, bI_t, bI_z, bI_nz, bI_01, true_or, or_true, reduceCtorEq, false_or, or_false, decide_eq_false_iff_not, decide_eq_true_eq, ite_not]
        unfold gok at hg
        rw [decide_eq_true c1, c2] at hg
        refine hq1 hg K (fun q z1 z2 => by rw [hF q (by omega), mu_n z1]) ?_ ?_
        · rw [ee]; exact tc_F (tc_u h he) (hF a (by omega)) (hF (a + 1) (by omega))
        · rw [hK, wv]; unfold gM; rw [ep]
      cases c3 : so ch t 64 (q2' ch t p) with
      | false =>
        simp only [mm_pu_s, e42_77, mm_pu_n, mm_pu_s, va_rf_s, mm_w8_0, mm_w8_1, mm_w8_2, mm_w8_3, mm_w8_4, mm_c1_n, mm_c1_i, mm_c1_a, mm_ct_a, mm_ct_i, true_and, and_true, and_self, eq_self, if_true, if_false, ite_true, ite_false, bI_t, bI_z, bI_nz, bI_01, true_or, or_true, reduceCtorEq, false_or, or_false, decide_eq_false_iff_not, decide_eq_true_eq, ite_not]
        exact fin (q3' ch t p) 0 hle5.2 (by unfold ge'; rw [c3]; rfl) (by unfold gp; rw [c3]; rfl) (by unfold gok; rw [decide_eq_true c1, c2, c3]; rfl)
      | true =>
        rw [c3] at hq0
        simp only [mm_pu_s, e42_77, e42_80, e42_81, mm_pu_n, mm_pu_s, va_rf_s, mm_w8_0, mm_w8_1, mm_w8_2, mm_w8_3, mm_w8_4, mm_c1_n, mm_c1_i, mm_c1_a, mm_ct_a, mm_ct_i, true_and, and_true, and_self, eq_self, if_true, if_false, ite_true, ite_false, bI_t, bI_z, bI_nz, bI_01, true_or, or_true, reduceCtorEq, false_or, or_false, decide_eq_false_iff_not, decide_eq_true_eq, ite_not, Bool.true_eq_false, hs.1]
        refine t_look hs hc (show tc (mm_uI J a 4 (nI (se ch t 64 (q2' ch t p)))) a t ch (q3' ch t p) from t5) ?_
        have hle6 := sp_le (ch := ch) t5.2.1
        have t6 : tc (mm_uI J a 4 (nI (sp ch t (q3' ch t p)))) a t ch (sp ch t (q3' ch t p)) := tc_u h hle6.2
        rw [mu_uu]
        have ey3 := dr2_y (p := q3' ch t p) (lo := 0) (hi := n) hc em1
        have eo : okh (cc ch t (-1) (sp ch t (q3' ch t p)) - 48) n = dr2 ch t 0 n (q3' ch t p) := by
          rw [ey3]
          unfold okh
          refine decide_eq_decide.mpr ?_
          rw [Int32.le_iff_toInt_le, Int32.lt_iff_toInt_lt, nI_toInt (by omega)]
          exact Iff.rfl
        have h0' : vc (mm_uI J a 4 (nI (sp ch t (q3' ch t p)))) (a + 2) 0 0 = nI n := by rw [wv]; exact h0
        simp only [mm_pu_s, e42_84, e42_86, e42_87, e42_88, e42_89, e42_92, e42_93, e42_96, mm_pu_n, mm_pu_s, va_rf_s, mm_w8_0, mm_w8_1, mm_w8_2, mm_w8_3, mm_w8_4, mm_c1_n, mm_c1_i, mm_c1_a, mm_ct_a, mm_ct_i, true_and, and_true, and_self, eq_self, if_true, if_false, ite_true, ite_false, bI_t, bI_z, bI_nz, bI_01, true_or, or_true, reduceCtorEq, false_or, or_false, decide_eq_false_iff_not, decide_eq_true_eq, ite_not, hs.1, hs.2.1, hl.s0, t_hasH hl h0', eo]
        cases c4 : dr2 ch t 0 n (q3' ch t p) with
        | false =>
          rw [c4] at hq0
          simp only [e42_99, e42_100, e42_101, e42_104, e42_107, mm_pu_n, mm_pu_s, va_rf_s, mm_w8_0, mm_w8_1, mm_w8_2, mm_w8_3, mm_w8_4, mm_c1_n, mm_c1_i, mm_c1_a, mm_ct_a, mm_ct_i, true_and, and_true, and_self, eq_self, if_true, if_false, ite_true, ite_false, bI_t, bI_z, bI_nz, bI_01, true_or, or_true, reduceCtorEq, false_or, or_false, decide_eq_false_iff_not, decide_eq_true_eq, ite_not, hs.1, t6.1.2, t_faultAt hs]
          refine hq0 rfl _ (ft.u.tr ft.u) ?_
          rw [if_neg (by decide), if_neg (by decide)]
          exact rd_u
        | true =>
          obtain ⟨y1, y2, y3⟩ := of_decide_eq_true c4
          simp only [e42_108, e42_109, e42_110, e42_113, e42_114, e42_115, mm_pu_n, mm_pu_s, va_rf_s, mm_w8_0, mm_w8_1, mm_w8_2, mm_w8_3, mm_w8_4, mm_c1_n, mm_c1_i, mm_c1_a, mm_ct_a, mm_ct_i, true_and, and_true, and_self, eq_self, if_true, if_false, ite_true, ite_false, bI_t, bI_z, bI_nz, bI_01, true_or, or_true, reduceCtorEq, false_or, or_false, decide_eq_false_iff_not, decide_eq_true_eq, ite_not, Bool.true_eq_false, hs.1, t6.1.2, nI_1, mu_uu, dr2_v (e := -1) c4 hc]
          exact fin _ _ (by omega) (by unfold ge'; rw [c3]; rfl) (by unfold gp; rw [c3]; rfl) (by unfold gok; rw [decide_eq_true c1, c2, c3, c4]; rfl)
  · rw [if_neg c1]
    simp only [e42_12, e42_13, e42_14, e42_17, e42_20, mm_pu_n, mm_pu_s, va_rf_s, mm_w8_0, mm_w8_1, mm_w8_2, mm_w8_3, mm_w8_4, mm_c1_n, mm_c1_i, mm_c1_a, mm_ct_a, mm_ct_i, true_and, and_true, and_self, eq_self, if_true, if_false, ite_true, ite_false, bI_t, bI_z, bI_nz, bI_01, true_or, or_true, reduceCtorEq, false_or, or_false, decide_eq_false_iff_not, decide_eq_true_eq, ite_not, hs.1, t1.1.2, t_faultAt hs]
    rw [decide_eq_false c1] at hq0
    refine hq0 (by rw [Bool.false_and, Bool.false_and]) _ (ft.u.tr ft.u) ?_
    rw [if_pos rfl]
    exact rd_u
end
