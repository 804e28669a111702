def p_dw (M : mm_I) (n ng p : Nat) (W : Nat → Int64) : Nat → Nat → Bool
  | 0, _ => true
  | d + 1, k => if W k = (p_nights M n ng (k + 1) 7 p).toInt64 then p_dw M n ng p W d (k + 1) else false
def p_ds (F : Nat → Bool) : Nat → Nat → Int32 → Int32
  | 0, _, s => s
  | d + 1, v, s => p_ds F d (v + 1) (if F v = true then s ||| (1 <<< (nI v &&& 31)) else s)
theorem lr_45 {L : mm_I} {n ng R g v : Nat} (h : ln_R L n ng) (hv : (R = 4 ∧ v ≤ 4) ∨ (R = 5 ∧ v ≤ 9)) : ln_R (mm_uI L R g (nI v)) n ng := by
  obtain ⟨b1, b2, b3⟩ := h
  refine ⟨fun q hq => ?_, fun q hq => ?_, ?_⟩
  · rw [mu_n (by omega), mu_n (by omega), mu_n (by omega)]; exact b1 q hq
  · obtain ⟨u, kd, z1, z2, z3, z4⟩ := b2 q hq
    rcases hv with ⟨rfl, hv⟩ | ⟨rfl, hv⟩
    · by_cases c : q = g
      · subst c
        exact ⟨u, v, z1, hv, by rw [mu_n (by decide)]; exact z3, mu_s⟩
      · exact ⟨u, kd, z1, z2, by rw [mu_n (by decide)]; exact z3, by rw [mu_j c]; exact z4⟩
    · by_cases c : q = g
      · subst c
        exact ⟨v, kd, hv, z2, mu_s, by rw [mu_n (by decide)]; exact z4⟩
      · exact ⟨u, kd, z1, z2, by rw [mu_j c]; exact z3, by rw [mu_n (by decide)]; exact z4⟩
  · rw [mu_n (by omega)]; exact b3
theorem lg_45 {L : mm_I} {n ng R g : Nat} {y : Int32} (h : ln_G L n ng) (hv : R = 4 ∨ R = 5) : ln_G (mm_uI L R g y) n ng := ln_G_keep h (by rw [mu_n (by omega)]) (by rw [mu_n (by omega)]) (by rw [mu_n (by omega)])
theorem dw_p (P : Prop) (d : Decidable P) (b : Bool) : (if P then b else false) = (decide P && b) := by cases b <;> simp
section
variable {r : mm_R} {I : mm_I} {x m : Nat} {Q : Option Value → mm_I → mm_R → Prop}
theorem t_dawnsAs {M : mm_I} {n ng p s i t : Nat} (hS : HS r x m) (hp : p < n) (hn : n ≤ 6) (hG : ln_G M n ng) (hs : s < 4) (hi : i + t ≤ 24) : ∀ d k J, k + d = t → ag (w6 n True) (vc J (x + 10)) (p_nights M n ng k) → fc I J x → (∀ K, fc I K x → Q (some (.int (bI (p_dw M n ng p (fun u => mm_G r (x + 109 + 2 * s) (i + u)) d k)))) K r) → mm_E 91 3 [some (.ref x), some (.int (nI p)), some (.ref (x + 108 + 2 * s)), some (.int (nI i)), some (.int (nI t)), some (.int (nI k))] [] J r Q := by
  obtain ⟨x0, x1, x2, -⟩ := id hS.2.1
  have l2 := hS.2.2.1.2.1
  obtain ⟨p1, p2, p3, p4⟩ := hS.2.2.2.2.2.2.1.2 s hs
  have hp6 : p < 6 := by omega
  have hix : ∀ y, mm_ix r (x + 109 + 2 * s) 3 y = vp_in y 24 := fun y => mm_ixs p4
  intro d
  induction d with
  | zero =>
    intro k J hk _ hF hq
    have : k = t := by omega
    subst this
    rw [e91_3]
    simp only [e91_5, e91_7, e91_49, e91_50, mm_pu_n, mm_pu_s, va_rf_s, mm_w8_0, mm_w8_1, mm_w8_2, mm_w8_3, mm_w8_4, mm_c1_n, mm_c1_i, mm_c1_a, mm_ct_a, mm_ct_i, true_and, and_true, and_self, eq_self, if_true, if_false, ite_true, ite_false, bI_t, bI_z, bI_nz, bI_01, true_or, or_true, reduceCtorEq, false_or, or_false, decide_eq_false_iff_not, decide_eq_true_eq, ite_not, Int32.le_refl]
    exact hq J hF
  | succ d ih =>
    intro k J hk hJ hF hq
    rw [e91_3]
    simp only [e91_5, e91_7, e91_10, e91_11, e91_14, e91_15, mm_pu_n, mm_pu_s, va_rf_s, mm_w8_0, mm_w8_1, mm_w8_2, mm_w8_3, mm_w8_4, mm_c1_n, mm_c1_i, mm_c1_a, mm_ct_a, mm_ct_i, true_and, and_true, and_self, eq_self, if_true, if_false, ite_true, ite_false, bI_t, bI_z, bI_nz, bI_01, true_or, or_true, reduceCtorEq, false_or, or_false, decide_eq_false_iff_not, decide_eq_true_eq, ite_not, nI_ge (show k < t by omega) (show t < 2 ^ 31 by omega), x0, x2, l2.s0]
    refine f_night hS hJ (p_nights_G hG k) 0 (fun K hK hFK => ?_)
    simp only [mm_pu_n, e91_18, e91_19, e91_22, e91_23, e91_25, e91_26, e91_27, e91_28, e91_31, e91_34, e91_35, e91_36, e91_37, e91_38, e91_41, e91_42, mm_pu_n, mm_pu_s, va_rf_s, mm_w8_0, mm_w8_1, mm_w8_2, mm_w8_3, mm_w8_4, mm_c1_n, mm_c1_i, mm_c1_a, mm_ct_a, mm_ct_i, true_and, and_true, and_self, eq_self, if_true, if_false, ite_true, ite_false, bI_t, bI_z, bI_nz, bI_01, true_or, or_true, reduceCtorEq, false_or, or_false, decide_eq_false_iff_not, decide_eq_true_eq, ite_not, x0, x2, l2.s0, l2.p6, l2.p7, l2.p8, l2.p9, l2.p10, l2.p11, l2.p12, l2.p13, l2.i1, l2.i2, l2.i3, l2.i4, l2.i5, l2.i6, l2.i7, l2.i8, p2, p3, nI_add, hix, in24 (show i + k < 24 by omega), cl2 (show i + k < 248 by omega), in6 hp6, cl_nI hp6, rd_k (a := x + 10) (k := 7) ⟨by decide, hp6⟩, hK 7 p (Or.inr (Or.inl ⟨rfl, hp⟩)), lg_cmp_eq]
    have hq' : ∀ K, fc I K x → Q (some (.int (bI (if mm_G r (x + 109 + 2 * s) (i + k) = (p_nights M n ng (k + 1) 7 p).toInt64 then p_dw M n ng p (fun u => mm_G r (x + 109 + 2 * s) (i + u)) d (k + 1) else false)))) K r := hq
    by_cases c : mm_G r (x + 109 + 2 * s) (i + k) = (p_nights M n ng (k + 1) 7 p).toInt64
    · rw [if_pos c] at hq'
      have c' : mm_G r (x + 109 + 2 * s) (i + k) = (p_night (p_nights M n ng k) n ng 0 7 p).toInt64 := c
      rw [if_pos c']
      simp only [e91_43, e91_46, mm_pu_n, mm_pu_s, va_rf_s, mm_w8_0, mm_w8_1, mm_w8_2, mm_w8_3, mm_w8_4, mm_c1_n, mm_c1_i, mm_c1_a, mm_ct_a, mm_ct_i, true_and, and_true, and_self, eq_self, if_true, if_false, ite_true, ite_false, bI_t, bI_z, bI_nz, bI_01, true_or, or_true, reduceCtorEq, false_or, or_false, decide_eq_false_iff_not, decide_eq_true_eq, ite_not, nI_1]
      exact ih (k + 1) K (by omega) (w7_w6 hK) (hF.tr hFK) hq'
    · rw [if_neg c] at hq'
      have c' : ¬ mm_G r (x + 109 + 2 * s) (i + k) = (p_night (p_nights M n ng k) n ng 0 7 p).toInt64 := c
      rw [if_neg c']
      exact hq' K (hF.tr hFK)
theorem u_isLeft {M : mm_I} {n ng p s i t : Nat} (hml : ml_S r m) (hp : p < n) (hn : n ≤ 6) (hG : ln_G M n ng) (hR : ln_R M n ng) (hs : s < 4) (hi : i + t ≤ 24) : ∀ d k J, k + d = t → ag (w6 n True) (vr J (m + 6) m) (p_nights M n ng k) → fm I J m → (∀ K, fm I K m → Q (some (.int (bI (p_dw M n ng p (fun u => mm_G r (m + 3) (24 * s + i + u)) d k)))) K r) → mm_E 155 6 [some (.ref m), some (.int (nI p)), some (.int (nI s)), some (.int (nI i)), some (.int (nI t)), some (.int 1), some (.int (nI k))] [] J r Q := by
  have hp6 : p < 6 := by omega
  intro d
  induction d with
  | zero =>
    intro k J hk _ hF hq
    have : k = t := by omega
    subst this
    rw [e155_6]
    simp only [e155_8, e155_10, e155_65, e155_67, mm_pu_n, mm_pu_s, va_rf_s, mm_w8_0, mm_w8_1, mm_w8_2, mm_w8_3, mm_w8_4, mm_c1_n, mm_c1_i, mm_c1_a, mm_ct_a, mm_ct_i, true_and, and_true, and_self, eq_self, if_true, if_false, ite_true, ite_false, bI_t, bI_z, bI_nz, bI_01, true_or, or_true, reduceCtorEq, false_or, or_false, decide_eq_false_iff_not, decide_eq_true_eq, ite_not, Int32.le_refl]
    exact hq J hF
  | succ d ih =>
    intro k J hk hJ hF hq
    rw [e155_6]
    simp only [e155_8, e155_10, e155_13, e155_15, e155_18, e155_19, e155_20, e155_23, e155_24, mm_pu_n, mm_pu_s, va_rf_s, mm_w8_0, mm_w8_1, mm_w8_2, mm_w8_3, mm_w8_4, mm_c1_n, mm_c1_i, mm_c1_a, mm_ct_a, mm_ct_i, true_and, and_true, and_self, eq_self, if_true, if_false, ite_true, ite_false, bI_t, bI_z, bI_nz, bI_01, true_or, or_true, reduceCtorEq, false_or, or_false, decide_eq_false_iff_not, decide_eq_true_eq, ite_not, nI_ge (show k < t by omega) (show t < 2 ^ 31 by omega), hml.s0, hml.p8]
    refine g_night hml hJ (p_nights_G hG k) (pn_R hG hR k) 0 (fun K hK hFK => ?_)
    simp only [mm_pu_n, e155_27, e155_28, e155_31, e155_32, e155_33, e155_34, e155_35, e155_38, e155_40, e155_41, e155_42, e155_43, e155_44, e155_46, e155_47, e155_48, e155_49, mm_pu_n, mm_pu_s, va_rf_s, mm_w8_0, mm_w8_1, mm_w8_2, mm_w8_3, mm_w8_4, mm_c1_n, mm_c1_i, mm_c1_a, mm_ct_a, mm_ct_i, true_and, and_true, and_self, eq_self, if_true, if_false, ite_true, ite_false, bI_t, bI_z, bI_nz, bI_01, true_or, or_true, reduceCtorEq, false_or, or_false, decide_eq_false_iff_not, decide_eq_true_eq, ite_not, hml.s0, hml.p12, hml.i9, hml.p2, hml.i3, k24, nI_add, in96 (show 24 * s + i + k < 96 by omega), cl2 (show 24 * s + i + k < 248 by omega), in6 hp6, cl_nI hp6, rr_7 (s := m + 6) (m := m) hp6, hK 7 p (Or.inr (Or.inl ⟨rfl, hp⟩)), lg_cmp_eq]
    have hq' : ∀ K, fm I K m → Q (some (.int (bI (if mm_G r (m + 3) (24 * s + i + k) = (p_nights M n ng (k + 1) 7 p).toInt64 then p_dw M n ng p (fun u => mm_G r (m + 3) (24 * s + i + u)) d (k + 1) else false)))) K r := hq
    by_cases c : mm_G r (m + 3) (24 * s + i + k) = (p_nights M n ng (k + 1) 7 p).toInt64
    · rw [if_pos c] at hq'
      have c' : (p_night (p_nights M n ng k) n ng 0 7 p).toInt64 = mm_G r (m + 3) (24 * s + i + k) := c.symm
      rw [if_pos c']
      simp only [e155_52, e155_53, e155_56, e155_57, e155_59, e155_62, mm_pu_n, mm_pu_s, va_rf_s, mm_w8_0, mm_w8_1, mm_w8_2, mm_w8_3, mm_w8_4, mm_c1_n, mm_c1_i, mm_c1_a, mm_ct_a, mm_ct_i, true_and, and_true, and_self, eq_self, if_true, if_false, ite_true, ite_false, bI_t, bI_z, bI_nz, bI_01, true_or, or_true, reduceCtorEq, false_or, or_false, decide_eq_false_iff_not, decide_eq_true_eq, ite_not, nI_1]
      exact ih (k + 1) K (by omega) (w7_w6 hK) (hF.tr hFK) hq'
    · rw [if_neg c] at hq'
      have c' : ¬ (p_night (p_nights M n ng k) n ng 0 7 p).toInt64 = mm_G r (m + 3) (24 * s + i + k) := fun y => c y.symm
      rw [if_neg c']
      simp only [e155_56, e155_57, e155_59, e155_62, mm_pu_n, mm_pu_s, va_rf_s, mm_w8_0, mm_w8_1, mm_w8_2, mm_w8_3, mm_w8_4, mm_c1_n, mm_c1_i, mm_c1_a, mm_ct_a, mm_ct_i, true_and, and_true, and_self, eq_self, if_true, if_false, ite_true, ite_false, bI_t, bI_z, bI_nz, bI_01, true_or, or_true, reduceCtorEq, false_or, or_false, decide_eq_false_iff_not, decide_eq_true_eq, ite_not, nI_1]
      have hx := hq' K (hF.tr hFK)
      rw [e155_6]
      simp only [e155_8, e155_10, e155_13, e155_15, e155_65, e155_67, mm_pu_n, mm_pu_s, va_rf_s, mm_w8_0, mm_w8_1, mm_w8_2, mm_w8_3, mm_w8_4, mm_c1_n, mm_c1_i, mm_c1_a, mm_ct_a, mm_ct_i, true_and, and_true, and_self, eq_self, if_true, if_false, ite_true, ite_false, bI_t, bI_z, bI_nz, bI_01, true_or, or_true, reduceCtorEq, false_or, or_false, decide_eq_false_iff_not, decide_eq_true_eq, ite_not, ite_self]
      exact hx
end
