def nv (ch : Nat → Nat) (t p : Nat) : Nat := if dg ch t (sp ch t p + 1) = true then 10 * (ch (sp ch t p) - 48) + (ch (sp ch t p + 1) - 48) else ch (sp ch t p) - 48
def ne (ch : Nat → Nat) (t p : Nat) : Nat := if dg ch t (sp ch t p + 1) = true then sp ch t p + 2 else sp ch t p + 1
def nok (ch : Nat → Nat) (t most p : Nat) : Bool := dg ch t (sp ch t p) && decide (nv ch t p ≤ most)
theorem dg_of {ch : Nat → Nat} {t p : Nat} (h : dg ch t p = true) : p < t ∧ 48 ≤ ch p ∧ ch p ≤ 57 := of_decide_eq_true h
theorem nok_1 {ch : Nat → Nat} {t most p : Nat} (h : nok ch t most p = true) : dg ch t (sp ch t p) = true ∧ nv ch t p ≤ most := by
  unfold nok at h
  rw [Bool.and_eq_true, decide_eq_true_eq] at h
  exact h
theorem nok_0 {ch : Nat → Nat} {t most p : Nat} (h1 : dg ch t (sp ch t p) = true) (h2 : ¬ nv ch t p ≤ most) : nok ch t most p = false := by
  unfold nok
  rw [h1, decide_eq_false h2]
  rfl
theorem nok_t {ch : Nat → Nat} {t most p : Nat} (h1 : dg ch t (sp ch t p) = true) (h2 : nv ch t p ≤ most) : nok ch t most p = true := by
  unfold nok
  rw [h1, decide_eq_true h2]
  rfl
theorem nok_f {ch : Nat → Nat} {t most p : Nat} (h1 : dg ch t (sp ch t p) = false) : nok ch t most p = false := by
  unfold nok
  rw [h1]
  rfl
theorem ne_le {ch : Nat → Nat} {t p : Nat} (h : dg ch t (sp ch t p) = true) : ne ch t p ≤ t := by
  have h1 := dg_of h
  unfold ne
  by_cases c : dg ch t (sp ch t p + 1) = true
  · rw [if_pos c]
    have := dg_of c
    omega
  · rw [if_neg c]; omega
theorem nv_le {ch : Nat → Nat} {t p : Nat} (h : dg ch t (sp ch t p) = true) : nv ch t p ≤ 99 := by
  have h1 := dg_of h
  unfold nv
  by_cases c : dg ch t (sp ch t p + 1) = true
  · rw [if_pos c]
    have := dg_of c
    omega
  · rw [if_neg c]; omega
theorem dv1 {c : Nat} (h1 : 48 ≤ c) (h2 : c ≤ 126) : (10 : Int32) * 0 + nI c - 48 = nI (c - 48) := by
  rw [show (10 : Int32) * 0 = nI 0 from by decide, nI_add, show (48 : Int32) = nI 48 from rfl, n_sub (by omega) (by omega), Nat.zero_add]
theorem dv2 {v c : Nat} (h0 : v ≤ 1000) (h1 : 48 ≤ c) (h2 : c ≤ 126) : (10 : Int32) * nI v + nI c - 48 = nI (10 * v + (c - 48)) := by
  rw [show (10 : Int32) = nI 10 from rfl, pk_mul, nI_add, show (48 : Int32) = nI 48 from rfl, n_sub (by omega) (by omega)]
  congr 1
  omega
theorem dg_nI {c : Nat} (h : c < 2 ^ 31) : decide ((48 : Int32) ≤ nI c ∧ nI c ≤ 57) = decide (48 ≤ c ∧ c ≤ 57) := by
  rw [show (48 : Int32) = nI 48 from rfl, show (57 : Int32) = nI 57 from rfl]
  simp only [nI_leI (show 48 < 2 ^ 31 by decide) h, nI_leI h (show 57 < 2 ^ 31 by decide)]
theorem dg_at {ch : Nat → Nat} {t q : Nat} (hc : okc ch t) (h : q < t) : decide ((48 : Int32) ≤ nI (ch q) ∧ nI (ch q) ≤ 57) = dg ch t q := by
  have := hc.2 q h
  rw [dg_nI (by omega)]
  unfold dg
  simp only [h, true_and]
theorem dg_cc {ch : Nat → Nat} {t q : Nat} {e : Int32} (hc : okc ch t) (he : ¬ (48 : Int32) ≤ e) : decide ((48 : Int32) ≤ cc ch t e q ∧ cc ch t e q ≤ 57) = dg ch t q := by
  unfold cc
  by_cases h : q < t
  · rw [if_pos h, dg_at hc h]
  · rw [if_neg h]
    unfold dg
    rw [decide_eq_false (fun z => he z.1), decide_eq_false (fun z => h z.1)]
section
variable {r : mm_R} {J : mm_I} {a t p : Nat} {ch : Nat → Nat} {Q : Option Value → mm_I → mm_R → Prop}
theorem t_isDigit (y : Int32) : mm_E 45 0 [some (.int y)] [] J r Q ↔ Q (some (.int (bI (decide ((48 : Int32) ≤ y ∧ y ≤ 57))))) J r := by
  simp only [e45_0, e45_1, e45_3, e45_6, e45_7, e45_9, e45_12, e45_13, e45_16, e45_17, mm_pu_n, mm_pu_s, va_rf_s, mm_w8_0, mm_w8_1, mm_w8_2, mm_w8_3, mm_w8_4, mm_c1_n, mm_c1_i, mm_c1_a, mm_ct_a, mm_ct_i, true_and, and_true, and_self, eq_self, if_true, if_false, ite_true, ite_false, bI_t, bI_z, bI_nz, bI_01, true_or, or_true, reduceCtorEq, false_or, or_false, decide_eq_false_iff_not, decide_eq_true_eq, ite_not]
  by_cases h1 : y < 48
  · rw [if_pos h1, bI_0 _ _ (fun q => Int32.not_lt.mpr q.1 h1)]
  · rw [if_neg h1]
    by_cases h2 : 57 < y
    · rw [if_pos h2, bI_0 _ _ (fun q => Int32.not_lt.mpr q.2 h2)]
    · rw [if_neg h2, bI_1 _ _ ⟨Int32.not_lt.mp h1, Int32.not_lt.mp h2⟩]
theorem t_number {most : Nat} (hs : ts r a) (hc : okc ch t) (h : tc J a t ch p) (hm : most < 1000) (hq1 : nok ch t most p = true → Q (some (.int (nI (nv ch t p)))) (mm_uI J a 4 (nI (ne ch t p))) r) (hq0 : nok ch t most p = false → ∀ K, (∀ q, q ≠ a → K q = J q) → mm_rd K a 1 = -20 - nI (sp ch t p) → Q (some (.int (-1))) K r) : mm_E 44 0 [some (.ref a), some (.int (nI most)), none, none, none] [] J r Q := by
  have hle := sp_le (ch := ch) h.2.1
  have ht80 := hc.1
  have hi : ∀ y, mm_ix r (a + 1) 2 y = vp_in y 80 := fun y => mm_ixs hs.2.2.2
  simp only [e44_0, e44_1, mm_pu_n, mm_pu_s, va_rf_s, mm_w8_0, mm_w8_1, mm_w8_2, mm_w8_3, mm_w8_4, mm_c1_n, mm_c1_i, mm_c1_a, mm_ct_a, mm_ct_i, true_and, and_true, and_self, eq_self, if_true, if_false, ite_true, ite_false, bI_t, bI_z, bI_nz, bI_01, true_or, or_true, reduceCtorEq, false_or, or_false, decide_eq_false_iff_not, decide_eq_true_eq, ite_not, hs.1]
  refine t_look hs hc h ?_
  have h1 := tc_u h hle.2
  generalize hJ1 : mm_uI J a 4 (nI (sp ch t p)) = J1 at h1
  simp only [mm_pu_s, e44_4, e44_7, mm_pu_n, mm_pu_s, va_rf_s, mm_w8_0, mm_w8_1, mm_w8_2, mm_w8_3, mm_w8_4, mm_c1_n, mm_c1_i, mm_c1_a, mm_ct_a, mm_ct_i, true_and, and_true, and_self, eq_self, if_true, if_false, ite_true, ite_false, bI_t, bI_z, bI_nz, bI_01, true_or, or_true, reduceCtorEq, false_or, or_false, decide_eq_false_iff_not, decide_eq_true_eq, ite_not, t_isDigit, dg_cc hc (show ¬ (48 : Int32) ≤ -1 by decide)]
  cases hd : dg ch t (sp ch t p) with
  | false =>
    simp only [e44_10, e44_11, e44_12, e44_15, e44_18, e44_19, e44_20, mm_pu_n, mm_pu_s, va_rf_s, mm_w8_0, mm_w8_1, mm_w8_2, mm_w8_3, mm_w8_4, mm_c1_n, mm_c1_i, mm_c1_a, mm_ct_a, mm_ct_i, true_and, and_true, and_self, eq_self, if_true, if_false, ite_true, ite_false, bI_t, bI_z, bI_nz, bI_01, true_or, or_true, reduceCtorEq, false_or, or_false, decide_eq_false_iff_not, decide_eq_true_eq, ite_not, hs.1, h1.1.2, t_faultAt hs]
    refine hq0 (nok_f hd) _ (fun q hq => by rw [mu_n hq, ← hJ1, mu_n hq]) rd_u
  | true =>
    have d1 := dg_of hd
    simp only [Bool.true_eq_false, e44_21, e44_22, e44_25, e44_26, e44_27, e44_28, e44_29, mm_pu_n, mm_pu_s, va_rf_s, mm_w8_0, mm_w8_1, mm_w8_2, mm_w8_3, mm_w8_4, mm_c1_n, mm_c1_i, mm_c1_a, mm_ct_a, mm_ct_i, true_and, and_true, and_self, eq_self, if_true, if_false, ite_true, ite_false, bI_t, bI_z, bI_nz, bI_01, true_or, or_true, reduceCtorEq, false_or, or_false, decide_eq_false_iff_not, decide_eq_true_eq, ite_not, hs.1, h1.1.2]
    rw [e44_31]
    simp only [e44_33, e44_34, e44_37, e44_38, e44_41, e44_42, e44_45, e44_48, e44_49, e44_52, e44_53, e44_56, e44_57, e44_60, e44_63, e44_65, e44_66, e44_67, e44_68, e44_71, e44_72, e44_75, e44_76, e44_77, e44_79, e44_80, e44_81, e44_82, e44_83, e44_86, e44_87, e44_88, e44_91, e44_94, mm_pu_n, mm_pu_s, va_rf_s, mm_w8_0, mm_w8_1, mm_w8_2, mm_w8_3, mm_w8_4, mm_c1_n, mm_c1_i, mm_c1_a, mm_ct_a, mm_ct_i, true_and, and_true, and_self, eq_self, if_true, if_false, ite_true, ite_false, bI_t, bI_z, bI_nz, bI_01, true_or, or_true, reduceCtorEq, false_or, or_false, decide_eq_false_iff_not, decide_eq_true_eq, ite_not, hs.1, hs.2.2.1, h1.1.1, h1.1.2, show ((2 : Int32) ≤ 0) = False from eq_false (by decide), nI_ge d1.1 (show t < 2 ^ 31 by omega), hi, in80 (show sp ch t p < 80 by omega), cl2 (show sp ch t p < 248 by omega), h1.2.2 _ d1.1, t_isDigit, dg_at hc d1.1, hd, Bool.true_eq_false, dv1 d1.2.1 (show ch (sp ch t p) ≤ 126 by omega), nI_1]
    have h2 := tc_u h1 (show sp ch t p + 1 ≤ t by omega)
    have hJ2 : mm_uI J1 a 4 (nI (sp ch t p + 1)) = mm_uI J a 4 (nI (sp ch t p + 1)) := by rw [← hJ1, mu_uu]
    rw [hJ2] at h2 ⊢
    rw [e44_31]
    have tail : ∀ (v e : Nat) (l : Option Value), v ≤ 99 → nv ch t p = v → ne ch t p = e → e ≤ t → mm_E 44 97 [some (.ref a), some (.int (nI most)), some (.int (nI (sp ch t p))), some (.int (nI v)), l] [] (mm_uI J a 4 (nI e)) r Q := by
      intro v e l hv99 hv he het
      by_cases z : v ≤ most
      · have hz := hq1 (nok_t hd (by omega))
        rw [hv, he] at hz
        simp only [e44_97, e44_98, e44_99, e44_110, e44_111, mm_pu_n, mm_pu_s, va_rf_s, mm_w8_0, mm_w8_1, mm_w8_2, mm_w8_3, mm_w8_4, mm_c1_n, mm_c1_i, mm_c1_a, mm_ct_a, mm_ct_i, true_and, and_true, and_self, eq_self, if_true, if_false, ite_true, ite_false, bI_t, bI_z, bI_nz, bI_01, true_or, or_true, reduceCtorEq, false_or, or_false, decide_eq_false_iff_not, decide_eq_true_eq, ite_not, nI_le z (show most < 2 ^ 31 by omega)]
        exact hz
      · have hnz : ¬ nI v ≤ nI most := nI_ge (by omega) (by omega)
        simp only [e44_97, e44_98, e44_99, e44_102, e44_103, e44_104, e44_107, e44_108, e44_109, mm_pu_n, mm_pu_s, va_rf_s, mm_w8_0, mm_w8_1, mm_w8_2, mm_w8_3, mm_w8_4, mm_c1_n, mm_c1_i, mm_c1_a, mm_ct_a, mm_ct_i, true_and, and_true, and_self, eq_self, if_true, if_false, ite_true, ite_false, bI_t, bI_z, bI_nz, bI_01, true_or, or_true, reduceCtorEq, false_or, or_false, decide_eq_false_iff_not, decide_eq_true_eq, ite_not, hnz, hs.1, t_faultAt hs]
        exact hq0 (nok_0 hd (by omega)) _ (fun q hq => by rw [mu_n hq, mu_n hq]) rd_u
    by_cases c2 : sp ch t p + 1 < t
    · have b2 := hc.2 _ c2
      cases hd2 : dg ch t (sp ch t p + 1) with
      | false =>
        simp only [e44_33, e44_34, e44_37, e44_38, e44_41, e44_42, e44_45, e44_48, e44_49, e44_52, e44_53, e44_56, e44_57, e44_60, mm_pu_n, mm_pu_s, va_rf_s, mm_w8_0, mm_w8_1, mm_w8_2, mm_w8_3, mm_w8_4, mm_c1_n, mm_c1_i, mm_c1_a, mm_ct_a, mm_ct_i, true_and, and_true, and_self, eq_self, if_true, if_false, ite_true, ite_false, bI_t, bI_z, bI_nz, bI_01, true_or, or_true, reduceCtorEq, false_or, or_false, decide_eq_false_iff_not, decide_eq_true_eq, ite_not, hs.1, hs.2.2.1, h2.1.1, h2.1.2, show ((2 : Int32) ≤ 0 + 1) = False from eq_false (by decide), nI_ge c2 (show t < 2 ^ 31 by omega), hi, in80 (show sp ch t p + 1 < 80 by omega), cl2 (show sp ch t p + 1 < 248 by omega), h2.2.2 _ c2, t_isDigit, dg_at hc c2, hd2]
        exact tail _ _ _ (by omega) (by unfold nv; rw [hd2]; rfl) (by unfold ne; rw [hd2]; rfl) (by omega)
      | true =>
        have d2 := dg_of hd2
        simp only [e44_33, e44_34, e44_37, e44_38, e44_41, e44_42, e44_45, e44_48, e44_49, e44_52, e44_53, e44_56, e44_57, e44_60, e44_63, e44_65, e44_66, e44_67, e44_68, e44_71, e44_72, e44_75, e44_76, e44_77, e44_79, e44_80, e44_81, e44_82, e44_83, e44_86, e44_87, e44_88, e44_91, e44_94, mm_pu_n, mm_pu_s, va_rf_s, mm_w8_0, mm_w8_1, mm_w8_2, mm_w8_3, mm_w8_4, mm_c1_n, mm_c1_i, mm_c1_a, mm_ct_a, mm_ct_i, true_and, and_true, and_self, eq_self, if_true, if_false, ite_true, ite_false, bI_t, bI_z, bI_nz, bI_01, true_or, or_true, reduceCtorEq, false_or, or_false, decide_eq_false_iff_not, decide_eq_true_eq, ite_not, hs.1, hs.2.2.1, h2.1.1, h2.1.2, show ((2 : Int32) ≤ 0 + 1) = False from eq_false (by decide), nI_ge c2 (show t < 2 ^ 31 by omega), hi, in80 (show sp ch t p + 1 < 80 by omega), cl2 (show sp ch t p + 1 < 248 by omega), h2.2.2 _ c2, t_isDigit, dg_at hc c2, hd2, Bool.true_eq_false, dv2 (show ch (sp ch t p) - 48 ≤ 1000 by omega) d2.2.1 b2.2, nI_1, mu_uu]
        rw [e44_31]
        simp only [e44_33, e44_34, mm_pu_n, mm_pu_s, va_rf_s, mm_w8_0, mm_w8_1, mm_w8_2, mm_w8_3, mm_w8_4, mm_c1_n, mm_c1_i, mm_c1_a, mm_ct_a, mm_ct_i, true_and, and_true, and_self, eq_self, if_true, if_false, ite_true, ite_false, bI_t, bI_z, bI_nz, bI_01, true_or, or_true, reduceCtorEq, false_or, or_false, decide_eq_false_iff_not, decide_eq_true_eq, ite_not, show ((2 : Int32) ≤ 0 + 1 + 1) = True from eq_true (by decide)]
        exact tail _ _ _ (by omega) (by unfold nv; rw [hd2]; rfl) (by unfold ne; rw [hd2]; rfl) (by omega)
    · have e2 : sp ch t p + 1 = t := by omega
      have hd2 : dg ch t (sp ch t p + 1) = false := decide_eq_false (fun z => c2 z.1)
      simp only [e44_33, e44_34, e44_37, e44_38, e44_41, e44_42, e44_45, mm_pu_n, mm_pu_s, va_rf_s, mm_w8_0, mm_w8_1, mm_w8_2, mm_w8_3, mm_w8_4, mm_c1_n, mm_c1_i, mm_c1_a, mm_ct_a, mm_ct_i, true_and, and_true, and_self, eq_self, if_true, if_false, ite_true, ite_false, bI_t, bI_z, bI_nz, bI_01, true_or, or_true, reduceCtorEq, false_or, or_false, decide_eq_false_iff_not, decide_eq_true_eq, ite_not, hs.1, hs.2.2.1, h2.1.1, h2.1.2, show ((2 : Int32) ≤ 0 + 1) = False from eq_false (by decide), show (nI t ≤ nI (sp ch t p + 1)) = True from eq_true (by rw [e2]; exact Int32.le_refl _)]
      exact tail _ _ _ (by omega) (by unfold nv; rw [hd2]; rfl) (by unfold ne; rw [hd2]; rfl) (by omega)
end
