def dj (a b : Nat) : Prop := a + 9 ≤ b ∨ b + 9 ≤ a
theorem vc_o {I : mm_I} {a b k i : Nat} {x : Int32} (hd : dj a b) (hk : k < 9) : vc (mm_uI I (a + k) i x) b = vc I b := by
  funext q j
  unfold vc
  by_cases h : q < 9 ∧ j < wd q
  · rw [if_pos h, if_pos h, mu_n (by unfold dj at hd; omega)]
  · rw [if_neg h, if_neg h]
theorem vc_o0 {I : mm_I} {a b i : Nat} {x : Int32} (hd : dj a b) : vc (mm_uI I a i x) b = vc I b := vc_o (k := 0) hd (by decide)
theorem vc_F {I J : mm_I} {a b : Nat} (hd : dj a b) (h : ln_F a I J) : vc J b = vc I b := by
  funext q j
  unfold vc
  by_cases hq : q < 9 ∧ j < wd q
  · rw [if_pos hq, if_pos hq, h (b + q) (by unfold dj at hd; omega)]
  · rw [if_neg hq, if_neg hq]
theorem vc_out {I : mm_I} {a q i : Nat} (h : ¬ (q < 9 ∧ i < wd q)) : vc I a q i = 0 := by unfold vc; rw [if_neg h]
/-- a lane taken from another: all but what was poured away; nobody has eaten -/
def p_tk (M L : mm_I) : mm_I := fun q i => if q = 7 then M 7 i else if q = 8 then 0 else L q i
def p_tk0 (M L : mm_I) : mm_I := mm_uI (mm_uI (mm_uI (mm_uI (mm_uI (mm_uI M 0 0 (L 0 0)) 0 1 (L 0 1)) 0 2 (L 0 2)) 0 3 (L 0 3)) 0 4 (L 0 4)) 0 5 (L 0 5)
def p_tk1 (M L : mm_I) : Nat → mm_I
  | 0 => M
  | k + 1 => mm_uI (mm_uI (mm_uI (mm_uI (p_tk1 M L k) 1 k (L 1 k)) 2 k (L 2 k)) 3 k (L 3 k)) 8 k 0
def p_tk2 (M L : mm_I) : Nat → mm_I
  | 0 => M
  | k + 1 => mm_uI (mm_uI (mm_uI (p_tk2 M L k) 4 k (L 4 k)) 5 k (L 5 k)) 6 k (L 6 k)
theorem p_tk1_v (M L : mm_I) : ∀ k q i, p_tk1 M L k q i = if i < k then (if q = 1 ∨ q = 2 ∨ q = 3 then L q i else if q = 8 then 0 else M q i) else M q i := by
  intro k
  induction k with
  | zero => intro q i; simp [p_tk1]
  | succ k ih =>
    intro q i
    unfold p_tk1
    have e : p_tk1 M L k q i = _ := ih q i
    unfold mm_uI upd
    by_cases h8 : q = 8
    · subst h8
      by_cases hi : i = k
      · subst hi; simp
      · have : (i < k + 1) = (i < k) := propext (by omega)
        simp [hi, e, this]
    · by_cases h3 : q = 3
      · subst h3
        by_cases hi : i = k
        · subst hi; simp
        · have : (i < k + 1) = (i < k) := propext (by omega)
          simp [hi, e, this]
      · by_cases h2 : q = 2
        · subst h2
          by_cases hi : i = k
          · subst hi; simp
          · have : (i < k + 1) = (i < k) := propext (by omega)
            simp [hi, e, this]
        · by_cases h1 : q = 1
          · subst h1
            by_cases hi : i = k
            · subst hi; simp
            · have : (i < k + 1) = (i < k) := propext (by omega)
              simp [hi, e, this]
          · simp [h8, h3, h2, h1, e]
theorem p_tk2_v (M L : mm_I) : ∀ k q i, p_tk2 M L k q i = if i < k ∧ (q = 4 ∨ q = 5 ∨ q = 6) then L q i else M q i := by
  intro k
  induction k with
  | zero => intro q i; simp [p_tk2]
  | succ k ih =>
    intro q i
    unfold p_tk2
    have e : p_tk2 M L k q i = _ := ih q i
    unfold mm_uI upd
    have : i ≠ k → (i < k + 1) = (i < k) := fun h => propext (by omega)
    by_cases h4 : q = 4
    · subst h4
      by_cases hi : i = k
      · subst hi; simp
      · simp [hi, e, this hi]
    · by_cases h5 : q = 5
      · subst h5
        by_cases hi : i = k
        · subst hi; simp
        · simp [hi, e, this hi]
      · by_cases h6 : q = 6
        · subst h6
          by_cases hi : i = k
          · subst hi; simp
          · simp [hi, e, this hi]
        · simp [h4, h5, h6, e]
theorem p_tk_all {I : mm_I} {a b : Nat} : p_tk2 (p_tk1 (p_tk0 (vc I a) (vc I b)) (vc I b) 6) (vc I b) 5 = p_tk (vc I a) (vc I b) := by
  funext q i
  rw [p_tk2_v]
  unfold p_tk
  by_cases h7 : q = 7
  · subst h7
    rw [if_neg (by omega), p_tk1_v]
    simp [p_tk0, mm_uI]
  · rw [if_neg h7]
    by_cases h8 : q = 8
    · subst h8
      rw [if_neg (by omega), p_tk1_v]
      by_cases hi : i < 6
      · simp [hi]
      · simp [hi, p_tk0, mm_uI, vc_out (I := I) (a := a) (q := 8) (i := i) (by simp [wd]; omega)]
    · rw [if_neg h8]
      by_cases hq : q < 9 ∧ i < wd q
      · by_cases h456 : q = 4 ∨ q = 5 ∨ q = 6
        · have : i < 5 := by have := hq.2; unfold wd at this; rw [if_pos h456] at this; exact this
          rw [if_pos ⟨this, h456⟩]
        · rw [if_neg (fun h => h456 h.2), p_tk1_v]
          have hi : i < 6 := by have := hq.2; unfold wd at this; rw [if_neg h456] at this; exact this
          rw [if_pos hi]
          by_cases h123 : q = 1 ∨ q = 2 ∨ q = 3
          · rw [if_pos h123]
          · rw [if_neg h123, if_neg h8]
            have : q = 0 := by omega
            subst this
            unfold p_tk0 mm_uI upd
            have : i = 0 ∨ i = 1 ∨ i = 2 ∨ i = 3 ∨ i = 4 ∨ i = 5 := by omega
            rcases this with rfl | rfl | rfl | rfl | rfl | rfl <;> simp
      · rw [vc_out hq]
        have e1 : p_tk0 (vc I a) (vc I b) q i = 0 := by
          unfold p_tk0
          by_cases h0 : q = 0
          · subst h0
            have hi : ¬ i < 6 := fun h => hq ⟨by decide, h⟩
            rw [mu_j (by omega), mu_j (by omega), mu_j (by omega), mu_j (by omega), mu_j (by omega), mu_j (by omega), vc_out hq]
          · rw [mu_n h0, mu_n h0, mu_n h0, mu_n h0, mu_n h0, mu_n h0, vc_out hq]
        rw [p_tk1_v, e1, vc_out hq]
        simp
section
variable {r : mm_R} {a b : Nat} {I : mm_I} {Q : Option Value → mm_I → mm_R → Prop}
theorem t_takeFrom (h : ln_S r a) (hb : ln_S r b) (hd : dj a b) (hq : ∀ J, vc J a = p_tk (vc I a) (vc I b) → ln_F a I J → Q none J r) : mm_E 1 0 [some (.ref a), some (.ref b), none] [] I r Q := by
  have loop2 : ∀ d k J, k + d = 5 → vc J a = p_tk2 (p_tk1 (p_tk0 (vc I a) (vc I b)) (vc I b) 6) (vc I b) k → ln_F a I J → mm_E 1 107 [some (.ref a), some (.ref b), some (.int (nI k))] [] J r Q := by
    intro d
    induction d with
    | zero =>
      intro k J hk hJ hF
      have : k = 5 := by omega
      subst this
      rw [e1_107]
      simp only [e1_108, e1_109, e1_112, e1_113, e1_116, e1_117, e1_118, e1_121, e1_122, e1_123, e1_124, e1_125, e1_128, e1_129, e1_130, e1_133, e1_134, e1_135, e1_136, e1_137, e1_140, e1_141, e1_142, e1_145, e1_146, e1_147, e1_148, e1_151, e1_154, mm_pu_n, mm_pu_s, va_rf_s, mm_w8_0, mm_w8_1, mm_w8_2, mm_w8_3, mm_w8_4, mm_c1_n, mm_c1_i, mm_c1_a, mm_ct_a, mm_ct_i, true_and, and_true, and_self, eq_self, if_true, if_false, ite_true, ite_false, bI_t, bI_z, bI_nz, bI_01, true_or, or_true, reduceCtorEq, false_or, or_false, decide_eq_false_iff_not, decide_eq_true_eq, ite_not, show (5 : Int32) ≤ nI 5 by decide]
      exact hq J (by rw [hJ, p_tk_all]) hF
    | succ d ih =>
      intro k J hk hJ hF
      have hk5 : k < 5 := by omega
      have hB : vc J b = vc I b := vc_F hd hF
      rw [e1_107]
      simp only [e1_108, e1_109, e1_112, e1_113, e1_116, e1_117, e1_118, e1_121, e1_122, e1_123, e1_124, e1_125, e1_128, e1_129, e1_130, e1_133, e1_134, e1_135, e1_136, e1_137, e1_140, e1_141, e1_142, e1_145, e1_146, e1_147, e1_148, e1_151, e1_154, mm_pu_n, mm_pu_s, va_rf_s, mm_w8_0, mm_w8_1, mm_w8_2, mm_w8_3, mm_w8_4, mm_c1_n, mm_c1_i, mm_c1_a, mm_ct_a, mm_ct_i, true_and, and_true, and_self, eq_self, if_true, if_false, ite_true, ite_false, bI_t, bI_z, bI_nz, bI_01, true_or, or_true, reduceCtorEq, false_or, or_false, decide_eq_false_iff_not, decide_eq_true_eq, ite_not, h.s0, h.p6, h.p7, h.p8, h.p9, h.p10, h.p11, h.p12, h.p13, h.i1, h.i2, h.i3, h.i4, h.i5, h.i6, h.i7, h.i8, hb.s0, hb.p6, hb.p7, hb.p8, hb.p9, hb.p10, hb.p11, hb.p12, hb.p13, hb.i1, hb.i2, hb.i3, hb.i4, hb.i5, hb.i6, hb.i7, hb.i8, in5 hk5, cl_nI (show k < 6 by omega), rd_k (a := b) (k := 4) ⟨by decide, hk5⟩, rd_k (a := b) (k := 5) ⟨by decide, hk5⟩, rd_k (a := b) (k := 6) ⟨by decide, hk5⟩, vc_o hd (show 4 < 9 by decide), vc_o hd (show 5 < 9 by decide), hB, show ¬ (5 : Int32) ≤ nI k from lt5' k hk5, nI_1]
      refine ih (k + 1) _ (by omega) ?_ (((hF.u (by decide)).u (by decide)).u (by decide))
      rw [vc_u ⟨by decide, hk5⟩, vc_u ⟨by decide, hk5⟩, vc_u ⟨by decide, hk5⟩, hJ]
      rfl
  have loop1 : ∀ d k J, k + d = 6 → vc J a = p_tk1 (p_tk0 (vc I a) (vc I b)) (vc I b) k → ln_F a I J → mm_E 1 50 [some (.ref a), some (.ref b), some (.int (nI k))] [] J r Q := by
    intro d
    induction d with
    | zero =>
      intro k J hk hJ hF
      have : k = 6 := by omega
      subst this
      rw [e1_50]
      simp only [e1_51, e1_53, e1_105, e1_106, mm_pu_n, mm_pu_s, va_rf_s, mm_w8_0, mm_w8_1, mm_w8_2, mm_w8_3, mm_w8_4, mm_c1_n, mm_c1_i, mm_c1_a, mm_ct_a, mm_ct_i, true_and, and_true, and_self, eq_self, if_true, if_false, ite_true, ite_false, bI_t, bI_z, bI_nz, bI_01, true_or, or_true, reduceCtorEq, false_or, or_false, decide_eq_false_iff_not, decide_eq_true_eq, ite_not, show (6 : Int32) ≤ nI 6 by decide]
      exact loop2 5 0 J (by omega) hJ hF
    | succ d ih =>
      intro k J hk hJ hF
      have hk6 : k < 6 := by omega
      have hB : vc J b = vc I b := vc_F hd hF
      rw [e1_50]
      simp only [e1_51, e1_53, e1_56, e1_57, e1_60, e1_61, e1_62, e1_65, e1_66, e1_67, e1_68, e1_69, e1_72, e1_73, e1_74, e1_77, e1_78, e1_79, e1_80, e1_81, e1_84, e1_85, e1_86, e1_89, e1_90, e1_91, e1_92, e1_93, e1_96, e1_97, e1_98, e1_99, e1_102, mm_pu_n, mm_pu_s, va_rf_s, mm_w8_0, mm_w8_1, mm_w8_2, mm_w8_3, mm_w8_4, mm_c1_n, mm_c1_i, mm_c1_a, mm_ct_a, mm_ct_i, true_and, and_true, and_self, eq_self, if_true, if_false, ite_true, ite_false, bI_t, bI_z, bI_nz, bI_01, true_or, or_true, reduceCtorEq, false_or, or_false, decide_eq_false_iff_not, decide_eq_true_eq, ite_not, h.s0, h.p6, h.p7, h.p8, h.p9, h.p10, h.p11, h.p12, h.p13, h.i1, h.i2, h.i3, h.i4, h.i5, h.i6, h.i7, h.i8, hb.s0, hb.p6, hb.p7, hb.p8, hb.p9, hb.p10, hb.p11, hb.p12, hb.p13, hb.i1, hb.i2, hb.i3, hb.i4, hb.i5, hb.i6, hb.i7, hb.i8, in6 hk6, cl_nI hk6, rd_k (a := b) (k := 1) ⟨by decide, hk6⟩, rd_k (a := b) (k := 2) ⟨by decide, hk6⟩, rd_k (a := b) (k := 3) ⟨by decide, hk6⟩, vc_o hd (show 1 < 9 by decide), vc_o hd (show 2 < 9 by decide), hB, show ¬ (6 : Int32) ≤ nI k from nle6 hk6 (Nat.le_refl 6), nI_1]
      refine ih (k + 1) _ (by omega) ?_ ((((hF.u (by decide)).u (by decide)).u (by decide)).u (by decide))
      rw [vc_u ⟨by decide, hk6⟩, vc_u ⟨by decide, hk6⟩, vc_u ⟨by decide, hk6⟩, vc_u ⟨by decide, hk6⟩, hJ]
      rfl
  simp only [e1_0, e1_1, e1_2, e1_5, e1_8, e1_9, e1_10, e1_13, e1_16, e1_17, e1_18, e1_21, e1_24, e1_25, e1_26, e1_29, e1_32, e1_33, e1_34, e1_37, e1_40, e1_41, e1_42, e1_45, e1_48, e1_49, mm_pu_n, mm_pu_s, va_rf_s, mm_w8_0, mm_w8_1, mm_w8_2, mm_w8_3, mm_w8_4, mm_c1_n, mm_c1_i, mm_c1_a, mm_ct_a, mm_ct_i, true_and, and_true, and_self, eq_self, if_true, if_false, ite_true, ite_false, bI_t, bI_z, bI_nz, bI_01, true_or, or_true, reduceCtorEq, false_or, or_false, decide_eq_false_iff_not, decide_eq_true_eq, ite_not, h.s0, hb.s0, rd_0 (a := b) (i := 0) (by decide), rd_0 (a := b) (i := 1) (by decide), rd_0 (a := b) (i := 2) (by decide), rd_0 (a := b) (i := 3) (by decide), rd_0 (a := b) (i := 4) (by decide), rd_0 (a := b) (i := 5) (by decide), vc_o0 hd]
  refine loop1 6 0 _ (by omega) ?_ (ln_F.rf.u0.u0.u0.u0.u0.u0)
  rw [vc_u0 (by decide), vc_u0 (by decide), vc_u0 (by decide), vc_u0 (by decide), vc_u0 (by decide), vc_u0 (by decide)]
  rfl
def p_adh (L : mm_I) (n : Nat) (o s k : Int32) : mm_I := mm_uI (mm_uI (mm_uI (mm_uI L 1 n o) 2 n s) 3 n k) 0 0 (nI (n + 1))
def p_adg (L : mm_I) (n : Nat) (k g h : Int32) : mm_I := mm_uI (mm_uI (mm_uI (mm_uI L 4 n k) 5 n g) 6 n h) 0 1 (nI (n + 1))
theorem t_addHouse (h : ln_S r a) {n : Nat} (hn : n < 6) (h0 : vc I a 0 0 = nI n) (o s k : Int32) (hq : ∀ J, vc J a = p_adh (vc I a) n o s k → ln_F a I J → Q (some (.int (nI n))) J r) : mm_E 5 0 [some (.ref a), some (.int o), some (.int s), some (.int k), none] [] I r Q := by
  simp only [e5_0, e5_1, e5_4, e5_6, e5_8, e5_10, e5_13, e5_15, e5_16, e5_17, e5_20, e5_22, e5_23, e5_24, e5_25, e5_28, e5_30, e5_31, e5_32, e5_33, e5_36, e5_38, e5_39, e5_40, e5_41, e5_43, e5_44, e5_45, e5_48, e5_50, mm_pu_n, mm_pu_s, va_rf_s, mm_w8_0, mm_w8_1, mm_w8_2, mm_w8_3, mm_w8_4, mm_c1_n, mm_c1_i, mm_c1_a, mm_ct_a, mm_ct_i, true_and, and_true, and_self, eq_self, if_true, if_false, ite_true, ite_false, bI_t, bI_z, bI_nz, bI_01, true_or, or_true, reduceCtorEq, false_or, or_false, decide_eq_false_iff_not, decide_eq_true_eq, ite_not, h.s0, h.p6, h.p7, h.p8, h.p9, h.p10, h.p11, h.p12, h.p13, h.i1, h.i2, h.i3, h.i4, h.i5, h.i6, h.i7, h.i8, rd_0 (a := a) (i := 0) (by decide), h0, in6 hn, cl_nI hn, show nI n < 6 from nI_lt hn (by decide), nI_1]
  refine hq _ ?_ ((((ln_F.rf.u (by decide)).u (by decide)).u (by decide)).u0)
  rw [vc_u0 (by decide), vc_u ⟨by decide, hn⟩, vc_u ⟨by decide, hn⟩, vc_u ⟨by decide, hn⟩]
  rfl
theorem t_addHog (h : ln_S r a) {n : Nat} (hn : n < 5) (h0 : vc I a 0 1 = nI n) (k g x : Int32) (hq : ∀ J, vc J a = p_adg (vc I a) n k g x → ln_F a I J → Q (some (.int (nI n))) J r) : mm_E 6 0 [some (.ref a), some (.int k), some (.int g), some (.int x), none] [] I r Q := by
  simp only [e6_0, e6_1, e6_4, e6_6, e6_8, e6_9, e6_12, e6_14, e6_15, e6_16, e6_19, e6_21, e6_22, e6_23, e6_24, e6_27, e6_29, e6_30, e6_31, e6_32, e6_35, e6_37, e6_38, e6_39, e6_40, e6_42, e6_43, e6_44, e6_47, e6_49, mm_pu_n, mm_pu_s, va_rf_s, mm_w8_0, mm_w8_1, mm_w8_2, mm_w8_3, mm_w8_4, mm_c1_n, mm_c1_i, mm_c1_a, mm_ct_a, mm_ct_i, true_and, and_true, and_self, eq_self, if_true, if_false, ite_true, ite_false, bI_t, bI_z, bI_nz, bI_01, true_or, or_true, reduceCtorEq, false_or, or_false, decide_eq_false_iff_not, decide_eq_true_eq, ite_not, h.s0, h.p6, h.p7, h.p8, h.p9, h.p10, h.p11, h.p12, h.p13, h.i1, h.i2, h.i3, h.i4, h.i5, h.i6, h.i7, h.i8, rd_0 (a := a) (i := 1) (by decide), h0, in5 hn, cl_nI (show n < 6 by omega), show nI n < 5 from nI_lt hn (by decide), nI_1]
  refine hq _ ?_ ((((ln_F.rf.u (by decide)).u (by decide)).u (by decide)).u0)
  rw [vc_u0 (by decide), vc_u ⟨by decide, hn⟩, vc_u ⟨by decide, hn⟩, vc_u ⟨by decide, hn⟩]
  rfl
def p_anew (L : mm_I) : mm_I := mm_uI (mm_uI (mm_uI (mm_uI L 0 0 0) 0 1 0) 0 3 0) 0 4 0
theorem t_beginAnew (h : ln_S r a) (hq : ∀ J, vc J a = p_anew (vc I a) → ln_F a I J → Q none J r) : mm_E 2 0 [some (.ref a)] [] I r Q := by
  simp only [e2_0, e2_1, e2_2, e2_5, e2_6, e2_7, e2_10, e2_11, e2_12, e2_15, e2_16, e2_17, e2_20, mm_pu_n, mm_pu_s, va_rf_s, mm_w8_0, mm_w8_1, mm_w8_2, mm_w8_3, mm_w8_4, mm_c1_n, mm_c1_i, mm_c1_a, mm_ct_a, mm_ct_i, true_and, and_true, and_self, eq_self, if_true, if_false, ite_true, ite_false, bI_t, bI_z, bI_nz, bI_01, true_or, or_true, reduceCtorEq, false_or, or_false, decide_eq_false_iff_not, decide_eq_true_eq, ite_not, h.s0]
  refine hq _ ?_ (ln_F.rf.u0.u0.u0.u0)
  rw [vc_u0 (by decide), vc_u0 (by decide), vc_u0 (by decide), vc_u0 (by decide)]
  rfl
end
