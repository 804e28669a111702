theorem wr_D {r r1 : mm_R} {a i n : Nat} {W : Nat → Int64} (h : wr r r1 a (i + 1) n (fun u => W (u + 1))) {v : Int64} (hv : v = W 0) : wr r (mm_uG r1 a i v) a i (n + 1) W := by
  obtain ⟨h1, h2, h3⟩ := h
  refine ⟨h1, fun q hq => ?_, fun t => ?_⟩
  · show (if q = a then vp_updL (r1.1 a) i v else r1.1 q) = _
    rw [if_neg hq]
    exact h2 q hq
  · show (if a = a then vp_updL (r1.1 a) i v else r1.1 a) t = _
    rw [if_pos rfl]
    unfold vp_updL
    by_cases c : t = i
    · subst c
      rw [if_pos rfl, if_pos (by omega), hv, Nat.sub_self]
    · rw [if_neg c]
      have := h3 t
      unfold mm_G at this
      rw [this]
      by_cases c2 : i + 1 ≤ t ∧ t < i + 1 + n
      · rw [if_pos c2, if_pos (by omega)]
        show W (t - (i + 1) + 1) = W (t - i)
        congr 1
        omega
      · rw [if_neg c2, if_neg (by omega)]; rfl
theorem wr_cp (r : mm_R) (a b i j n : Nat) : wr r (mm_cG r a b i j n) a j n (fun u => mm_G r b (i + u)) := by
  refine ⟨rfl, fun q hq => ?_, fun t => ?_⟩
  · show (if q = a then va_cpy (r.1 b) (r.1 a) i j n else r.1 q) = _
    rw [if_neg hq]; rfl
  · show (if a = a then va_cpy (r.1 b) (r.1 a) i j n else r.1 a) t = _
    rw [if_pos rfl]; rfl
theorem n_sub {a b : Nat} (h : b ≤ a) (ha : a < 2 ^ 31) : nI a - nI b = nI (a - b) := by
  apply Int32.toInt_inj.mp
  rw [Int32.toInt_sub, nI_toInt ha, nI_toInt (by omega), nI_toInt (by omega)]
  rw [Int.bmod_eq_of_le (by omega) (by omega)]
  omega
section
variable {r : mm_R} {I : mm_I} {x m : Nat} {Q : Option Value → mm_I → mm_R → Prop}
theorem u_cpU {f t i j n : Nat} (hf : f < 4) (ht : t < 4) (hi : i + n ≤ 24) (hj : j + n ≤ 24) (hd : f ≠ t ∨ j ≤ i) (hml : ml_S r m) (hq : ∀ r1 l7 l8, wr r r1 (m + 3) (24 * t + j) n (fun u => mm_G r (m + 3) (24 * f + i + u)) → mm_E 162 171 [some (.ref m), some (.int (nI f)), some (.int (nI i)), some (.int (nI t)), some (.int (nI j)), some (.int (nI n)), some (.int 0), l7, l8] [] I r1 Q) : ∀ d k r1 l8, k + d = n → wr r r1 (m + 3) (24 * t + j) k (fun u => mm_G r (m + 3) (24 * f + i + u)) → mm_E 162 110 [some (.ref m), some (.int (nI f)), some (.int (nI i)), some (.int (nI t)), some (.int (nI j)), some (.int (nI n)), some (.int 0), some (.int (nI k)), l8] [] I r1 Q := by
  intro d
  induction d with
  | zero =>
    intro k r1 l8 hk hw
    have : k = n := by omega
    subst this
    rw [e162_110]
    simp only [e162_112, e162_114, mm_pu_n, mm_pu_s, va_rf_s, mm_w8_0, mm_w8_1, mm_w8_2, mm_w8_3, mm_w8_4, mm_c1_n, mm_c1_i, mm_c1_a, mm_ct_a, mm_ct_i, true_and, and_true, and_self, eq_self, if_true, if_false, ite_true, ite_false, bI_t, bI_z, bI_nz, bI_01, true_or, or_true, reduceCtorEq, false_or, or_false, decide_eq_false_iff_not, decide_eq_true_eq, ite_not, Int32.le_refl]
    exact hq r1 _ l8 hw
  | succ d ih =>
    intro k r1 l8 hk hw
    have hm1 := ml_of hw.1 hml
    rw [e162_110]
    simp only [e162_112, e162_114, e162_117, e162_119, e162_122, e162_124, e162_125, e162_126, e162_128, e162_129, e162_132, e162_134, e162_136, e162_137, e162_140, e162_142, e162_143, e162_144, e162_146, e162_147, e162_149, e162_150, e162_151, e162_154, e162_156, e162_157, e162_158, e162_159, e162_160, e162_162, e162_163, e162_164, e162_165, e162_168, mm_pu_n, mm_pu_s, va_rf_s, mm_w8_0, mm_w8_1, mm_w8_2, mm_w8_3, mm_w8_4, mm_c1_n, mm_c1_i, mm_c1_a, mm_ct_a, mm_ct_i, true_and, and_true, and_self, eq_self, if_true, if_false, ite_true, ite_false, bI_t, bI_z, bI_nz, bI_01, true_or, or_true, reduceCtorEq, false_or, or_false, decide_eq_false_iff_not, decide_eq_true_eq, ite_not, nI_ge (show k < n by omega) (show n < 2 ^ 31 by omega), hm1.s0, hm1.p2, hm1.i3, k24, nI_add, in96 (show 24 * t + j + k < 96 by omega), cl2 (show 24 * t + j + k < 248 by omega), in96 (show 24 * f + i + k < 96 by omega), cl2 (show 24 * f + i + k < 248 by omega), nI_1]
    refine ih (k + 1) _ _ (by omega) (wr_S hw ?_)
    rw [hw.2.2, if_neg (by omega)]
theorem u_cpD {f i j n : Nat} (hf : f < 4) (hi : i + n ≤ 24) (hj : j + n ≤ 24) (hd : i < j) (hml : ml_S r m) (hq : ∀ r1 l7 l8, wr r r1 (m + 3) (24 * f + j) n (fun u => mm_G r (m + 3) (24 * f + i + u)) → mm_E 162 171 [some (.ref m), some (.int (nI f)), some (.int (nI i)), some (.int (nI f)), some (.int (nI j)), some (.int (nI n)), some (.int 1), l7, l8] [] I r1 Q) : ∀ d k r1 l8, k + d = n → wr r r1 (m + 3) (24 * f + j + d) k (fun u => mm_G r (m + 3) (24 * f + i + (u + d))) → mm_E 162 110 [some (.ref m), some (.int (nI f)), some (.int (nI i)), some (.int (nI f)), some (.int (nI j)), some (.int (nI n)), some (.int 1), some (.int (nI k)), l8] [] I r1 Q := by
  intro d
  induction d with
  | zero =>
    intro k r1 l8 hk hw
    have : k = n := by omega
    subst this
    rw [e162_110]
    simp only [e162_112, e162_114, mm_pu_n, mm_pu_s, va_rf_s, mm_w8_0, mm_w8_1, mm_w8_2, mm_w8_3, mm_w8_4, mm_c1_n, mm_c1_i, mm_c1_a, mm_ct_a, mm_ct_i, true_and, and_true, and_self, eq_self, if_true, if_false, ite_true, ite_false, bI_t, bI_z, bI_nz, bI_01, true_or, or_true, reduceCtorEq, false_or, or_false, decide_eq_false_iff_not, decide_eq_true_eq, ite_not, Int32.le_refl]
    exact hq r1 _ l8 hw
  | succ d ih =>
    intro k r1 l8 hk hw
    have hm1 := ml_of hw.1 hml
    have e : nI n - 1 - nI k = nI d := by
      rw [show (1 : Int32) = nI 1 from rfl, n_sub (by omega) (by omega), n_sub (by omega) (by omega)]
      congr 1
      omega
    rw [e162_110]
    simp only [e162_112, e162_114, e162_117, e162_119, e162_122, e162_124, e162_125, e162_126, e162_128, e162_129, e162_132, e162_134, e162_136, e162_137, e162_140, e162_142, e162_143, e162_144, e162_146, e162_147, e162_149, e162_150, e162_151, e162_154, e162_156, e162_157, e162_158, e162_159, e162_160, e162_162, e162_163, e162_164, e162_165, e162_168, mm_pu_n, mm_pu_s, va_rf_s, mm_w8_0, mm_w8_1, mm_w8_2, mm_w8_3, mm_w8_4, mm_c1_n, mm_c1_i, mm_c1_a, mm_ct_a, mm_ct_i, true_and, and_true, and_self, eq_self, if_true, if_false, ite_true, ite_false, bI_t, bI_z, bI_nz, bI_01, true_or, or_true, reduceCtorEq, false_or, or_false, decide_eq_false_iff_not, decide_eq_true_eq, ite_not, nI_ge (show k < n by omega) (show n < 2 ^ 31 by omega), hm1.s0, hm1.p2, hm1.i3, e, k24, nI_add, in96 (show 24 * f + j + d < 96 by omega), cl2 (show 24 * f + j + d < 248 by omega), in96 (show 24 * f + i + d < 96 by omega), cl2 (show 24 * f + i + d < 248 by omega), nI_1]
    refine ih (k + 1) _ _ (by omega) (wr_D (i := 24 * f + j + d) (W := fun u => mm_G r (m + 3) (24 * f + i + (u + d))) ?_ ?_)
    · have e2 : (fun u => mm_G r (m + 3) (24 * f + i + (u + (d + 1)))) = (fun u => mm_G r (m + 3) (24 * f + i + (u + 1 + d))) := funext fun u => by congr 1; omega
      rw [e2] at hw
      exact hw
    · rw [hw.2.2, if_neg (by omega)]
      congr 1
      omega
theorem a_copy (h : ALL I r x m) (f i t j n : Int32) : pr 84 162 [some (.ref x), some (.int f), some (.int i), some (.int t), some (.int j), some (.int n), none, none] [some (.ref m), some (.int f), some (.int i), some (.int t), some (.int j), some (.int n), none, none, none] I r x m := by
  obtain ⟨hS, hG1, hG2, hG3, hG4⟩ := id h
  obtain ⟨hm, hx, -, hip, hpt, htp, hsh, hml⟩ := id hS
  obtain ⟨x0, x1, x2, x3, x4, x5, x6, x7, x8⟩ := id hx
  unfold pr
  cases hk1 : wth f 0 3 with
  | false =>
    simp only [e84_0, e84_1, e84_2, e84_3, e84_6, e84_9, e84_10, e84_11, e84_12, e84_15, e84_18, e84_19, e162_0, e162_1, e162_4, e162_7, e162_8, e162_11, e162_14, e162_15, mm_pu_n, mm_pu_s, va_rf_s, mm_w8_0, mm_w8_1, mm_w8_2, mm_w8_3, mm_w8_4, mm_c1_n, mm_c1_i, mm_c1_a, mm_ct_a, mm_ct_i, true_and, and_true, and_self, eq_self, if_true, if_false, ite_true, ite_false, bI_t, bI_z, bI_nz, bI_01, true_or, or_true, reduceCtorEq, false_or, or_false, decide_eq_false_iff_not, decide_eq_true_eq, ite_not, t_within, u_inw, u_isSheet, hk1, Bool.false_eq_true]
    exact fi_i _ h rfl rfl
  | true =>
    cases hk2 : wth t 0 3 with
    | false =>
      simp only [e84_0, e84_1, e84_2, e84_3, e84_6, e84_9, e84_10, e84_11, e84_12, e84_15, e84_18, e84_19, e162_0, e162_1, e162_4, e162_7, e162_8, e162_11, e162_14, e162_15, mm_pu_n, mm_pu_s, va_rf_s, mm_w8_0, mm_w8_1, mm_w8_2, mm_w8_3, mm_w8_4, mm_c1_n, mm_c1_i, mm_c1_a, mm_ct_a, mm_ct_i, true_and, and_true, and_self, eq_self, if_true, if_false, ite_true, ite_false, bI_t, bI_z, bI_nz, bI_01, true_or, or_true, reduceCtorEq, false_or, or_false, decide_eq_false_iff_not, decide_eq_true_eq, ite_not, t_within, u_inw, u_isSheet, hk1, hk2, Bool.true_eq_false]
      exact fi_i _ h rfl rfl
    | true =>
      obtain ⟨f, -, hf, rfl⟩ := wth_of hk1 (a := 0) (b := 3) (by decide) (by decide) (by decide) (by decide)
      obtain ⟨t, -, ht, rfl⟩ := wth_of hk2 (a := 0) (b := 3) (by decide) (by decide) (by decide) (by decide)
      obtain ⟨p1, p2, p3, p4⟩ := hsh.2 f (by omega)
      obtain ⟨q1, q2, q3, q4⟩ := hsh.2 t (by omega)
      obtain ⟨hb, l, z, ⟨s1, s2, s3⟩, ⟨s4, s5⟩, hl, hz⟩ := G4_sk hG4 (show f < 4 by omega)
      obtain ⟨hb', l', z', ⟨s1', s2', s3'⟩, ⟨s4', s5'⟩, hl', hz'⟩ := G4_sk hG4 (show t < 4 by omega)
      have hp : (0 : Int32) ≤ nI l := nI_pos' (by omega)
      have hp' : (0 : Int32) ≤ nI l' := nI_pos' (by omega)
      have nl : ¬ (nI l < 0) := Int32.not_lt.mpr hp
      cases hb with
      | false =>
        simp only [e84_0, e84_1, e84_2, e84_3, e84_6, e84_9, e84_10, e84_11, e84_12, e84_15, e84_18, e84_19, e84_20, e84_21, e84_24, e84_25, e84_26, e84_28, e84_29, e84_32, e84_33, e84_34, e84_36, e84_38, e84_41, e84_44, e84_46, e84_49, e84_52, e84_54, mm_pu_n, mm_pu_s, va_rf_s, mm_w8_0, mm_w8_1, mm_w8_2, mm_w8_3, mm_w8_4, mm_c1_n, mm_c1_i, mm_c1_a, mm_ct_a, mm_ct_i, true_and, and_true, and_self, eq_self, if_true, if_false, ite_true, ite_false, bI_t, bI_z, bI_nz, bI_01, true_or, or_true, reduceCtorEq, false_or, or_false, decide_eq_false_iff_not, decide_eq_true_eq, ite_not, t_within, hk1, hk2, Bool.true_eq_false, x0, x6, hsh.1, in4 (show f < 4 by omega), cl2 (show f < 248 by omega), in4 (show t < 4 by omega), cl2 (show t < 248 by omega), p1, p2, q1, q2, s1]
        simp only [e162_0, e162_1, e162_4, e162_7, e162_8, e162_11, e162_14, e162_15, e162_16, e162_17, e162_20, e162_21, e162_22, e162_25, e162_26, e162_29, e162_30, e162_31, e162_34, e162_36, mm_pu_n, mm_pu_s, va_rf_s, mm_w8_0, mm_w8_1, mm_w8_2, mm_w8_3, mm_w8_4, mm_c1_n, mm_c1_i, mm_c1_a, mm_ct_a, mm_ct_i, true_and, and_true, and_self, eq_self, if_true, if_false, ite_true, ite_false, bI_t, bI_z, bI_nz, bI_01, true_or, or_true, reduceCtorEq, false_or, or_false, decide_eq_false_iff_not, decide_eq_true_eq, ite_not, u_isSheet, hk1, hk2, Bool.true_eq_false, Bool.false_eq_true, hml.s0, hml.p0, hml.i1, in4 (show f < 4 by omega), cl2 (show f < 248 by omega), in4 (show t < 4 by omega), cl2 (show t < 248 by omega), s4, show ((-1 : Int32) < 0) = True from eq_true (by decide)]
        exact fi_i _ h rfl rfl
      | true =>
        rw [if_pos rfl] at s4
        cases hb' with
        | false =>
          simp only [e84_0, e84_1, e84_2, e84_3, e84_6, e84_9, e84_10, e84_11, e84_12, e84_15, e84_18, e84_19, e84_20, e84_21, e84_24, e84_25, e84_26, e84_28, e84_29, e84_32, e84_33, e84_34, e84_36, e84_38, e84_41, e84_44, e84_46, e84_49, e84_52, e84_54, mm_pu_n, mm_pu_s, va_rf_s, mm_w8_0, mm_w8_1, mm_w8_2, mm_w8_3, mm_w8_4, mm_c1_n, mm_c1_i, mm_c1_a, mm_ct_a, mm_ct_i, true_and, and_true, and_self, eq_self, if_true, if_false, ite_true, ite_false, bI_t, bI_z, bI_nz, bI_01, true_or, or_true, reduceCtorEq, false_or, or_false, decide_eq_false_iff_not, decide_eq_true_eq, ite_not, t_within, hk1, hk2, Bool.true_eq_false, x0, x6, hsh.1, in4 (show f < 4 by omega), cl2 (show f < 248 by omega), in4 (show t < 4 by omega), cl2 (show t < 248 by omega), p1, p2, q1, q2, s1, s1']
          simp only [e162_0, e162_1, e162_4, e162_7, e162_8, e162_11, e162_14, e162_15, e162_16, e162_17, e162_20, e162_21, e162_22, e162_25, e162_26, e162_29, e162_30, e162_31, e162_34, e162_36, mm_pu_n, mm_pu_s, va_rf_s, mm_w8_0, mm_w8_1, mm_w8_2, mm_w8_3, mm_w8_4, mm_c1_n, mm_c1_i, mm_c1_a, mm_ct_a, mm_ct_i, true_and, and_true, and_self, eq_self, if_true, if_false, ite_true, ite_false, bI_t, bI_z, bI_nz, bI_01, true_or, or_true, reduceCtorEq, false_or, or_false, decide_eq_false_iff_not, decide_eq_true_eq, ite_not, u_isSheet, hk1, hk2, Bool.true_eq_false, Bool.false_eq_true, hml.s0, hml.p0, hml.i1, in4 (show f < 4 by omega), cl2 (show f < 248 by omega), in4 (show t < 4 by omega), cl2 (show t < 248 by omega), s4, s4', nl, show ((0 : Int32) ≤ -1) = False from eq_false (by decide)]
          exact fi_i _ h rfl rfl
        | true =>
          rw [if_pos rfl] at s4'
          by_cases c1 : nI l = nI l'
          · cases hh1 : hit i n z with
            | false =>
              simp only [e84_0, e84_1, e84_2, e84_3, e84_6, e84_9, e84_10, e84_11, e84_12, e84_15, e84_18, e84_19, e84_20, e84_21, e84_24, e84_25, e84_26, e84_28, e84_29, e84_32, e84_33, e84_34, e84_36, e84_38, e84_41, e84_44, e84_46, e84_49, e84_52, e84_54, e84_55, e84_57, e84_60, e84_62, e84_65, e84_68, e84_70, e84_71, e84_73, e84_74, e84_76, e84_79, e84_82, e84_84, e84_86, e84_88, e84_91, e84_94, e84_96, mm_pu_n, mm_pu_s, va_rf_s, mm_w8_0, mm_w8_1, mm_w8_2, mm_w8_3, mm_w8_4, mm_c1_n, mm_c1_i, mm_c1_a, mm_ct_a, mm_ct_i, true_and, and_true, and_self, eq_self, if_true, if_false, ite_true, ite_false, bI_t, bI_z, bI_nz, bI_01, true_or, or_true, reduceCtorEq, false_or, or_false, decide_eq_false_iff_not, decide_eq_true_eq, ite_not, t_within, hk1, hk2, Bool.true_eq_false, x0, x6, hsh.1, in4 (show f < 4 by omega), cl2 (show f < 248 by omega), in4 (show t < 4 by omega), cl2 (show t < 248 by omega), p1, p2, q1, q2, s1, s1', s2, s2', c1, t_hasItems p2 s3 hz, t_hasItems q2 s3' hz', hh1]
              simp only [e162_0, e162_1, e162_4, e162_7, e162_8, e162_11, e162_14, e162_15, e162_16, e162_17, e162_20, e162_21, e162_22, e162_25, e162_26, e162_29, e162_30, e162_31, e162_34, e162_36, e162_37, e162_38, e162_41, e162_42, e162_43, e162_44, e162_47, e162_48, e162_49, e162_52, e162_54, e162_55, e162_56, e162_58, e162_59, e162_62, e162_63, e162_64, e162_67, e162_70, e162_72, e162_74, e162_75, e162_78, e162_79, e162_80, e162_83, e162_86, e162_88, mm_pu_n, mm_pu_s, va_rf_s, mm_w8_0, mm_w8_1, mm_w8_2, mm_w8_3, mm_w8_4, mm_c1_n, mm_c1_i, mm_c1_a, mm_ct_a, mm_ct_i, true_and, and_true, and_self, eq_self, if_true, if_false, ite_true, ite_false, bI_t, bI_z, bI_nz, bI_01, true_or, or_true, reduceCtorEq, false_or, or_false, decide_eq_false_iff_not, decide_eq_true_eq, ite_not, u_isSheet, hk1, hk2, Bool.true_eq_false, Bool.false_eq_true, hml.s0, hml.p0, hml.p1, hml.i1, hml.i2, in4 (show f < 4 by omega), cl2 (show f < 248 by omega), in4 (show t < 4 by omega), cl2 (show t < 248 by omega), s4, s4', nl, hp', c1, s5, s5', u_isPart hz, u_isPart hz', hh1, Int32.not_lt.mpr hp']
              exact fi_i _ h rfl rfl
            | true =>
              cases hh2 : hit j n z' with
              | false =>
                simp only [e84_0, e84_1, e84_2, e84_3, e84_6, e84_9, e84_10, e84_11, e84_12, e84_15, e84_18, e84_19, e84_20, e84_21, e84_24, e84_25, e84_26, e84_28, e84_29, e84_32, e84_33, e84_34, e84_36, e84_38, e84_41, e84_44, e84_46, e84_49, e84_52, e84_54, e84_55, e84_57, e84_60, e84_62, e84_65, e84_68, e84_70, e84_71, e84_73, e84_74, e84_76, e84_79, e84_82, e84_84, e84_86, e84_88, e84_91, e84_94, e84_96, mm_pu_n, mm_pu_s, va_rf_s, mm_w8_0, mm_w8_1, mm_w8_2, mm_w8_3, mm_w8_4, mm_c1_n, mm_c1_i, mm_c1_a, mm_ct_a, mm_ct_i, true_and, and_true, and_self, eq_self, if_true, if_false, ite_true, ite_false, bI_t, bI_z, bI_nz, bI_01, true_or, or_true, reduceCtorEq, false_or, or_false, decide_eq_false_iff_not, decide_eq_true_eq, ite_not, t_within, hk1, hk2, Bool.true_eq_false, x0, x6, hsh.1, in4 (show f < 4 by omega), cl2 (show f < 248 by omega), in4 (show t < 4 by omega), cl2 (show t < 248 by omega), p1, p2, q1, q2, s1, s1', s2, s2', c1, t_hasItems p2 s3 hz, t_hasItems q2 s3' hz', hh1, hh2]
                simp only [e162_0, e162_1, e162_4, e162_7, e162_8, e162_11, e162_14, e162_15, e162_16, e162_17, e162_20, e162_21, e162_22, e162_25, e162_26, e162_29, e162_30, e162_31, e162_34, e162_36, e162_37, e162_38, e162_41, e162_42, e162_43, e162_44, e162_47, e162_48, e162_49, e162_52, e162_54, e162_55, e162_56, e162_58, e162_59, e162_62, e162_63, e162_64, e162_67, e162_70, e162_72, e162_74, e162_75, e162_78, e162_79, e162_80, e162_83, e162_86, e162_88, mm_pu_n, mm_pu_s, va_rf_s, mm_w8_0, mm_w8_1, mm_w8_2, mm_w8_3, mm_w8_4, mm_c1_n, mm_c1_i, mm_c1_a, mm_ct_a, mm_ct_i, true_and, and_true, and_self, eq_self, if_true, if_false, ite_true, ite_false, bI_t, bI_z, bI_nz, bI_01, true_or, or_true, reduceCtorEq, false_or, or_false, decide_eq_false_iff_not, decide_eq_true_eq, ite_not, u_isSheet, hk1, hk2, Bool.true_eq_false, Bool.false_eq_true, hml.s0, hml.p0, hml.p1, hml.i1, hml.i2, in4 (show f < 4 by omega), cl2 (show f < 248 by omega), in4 (show t < 4 by omega), cl2 (show t < 248 by omega), s4, s4', nl, hp', c1, s5, s5', u_isPart hz, u_isPart hz', hh1, hh2, Int32.not_lt.mpr hp']
                exact fi_i _ h rfl rfl
              | true =>
                obtain ⟨i, n, rfl, rfl, hi⟩ := hit_of hh1 hz
                obtain ⟨j, n2, rfl, en, hj⟩ := hit_of hh2 hz'
                have hn2 : n = n2 := (nI_eq (by omega) (by omega)).mp en
                subst hn2
                simp only [e84_0, e84_1, e84_2, e84_3, e84_6, e84_9, e84_10, e84_11, e84_12, e84_15, e84_18, e84_19, e84_20, e84_21, e84_24, e84_25, e84_26, e84_28, e84_29, e84_32, e84_33, e84_34, e84_36, e84_38, e84_41, e84_44, e84_46, e84_49, e84_52, e84_54, e84_55, e84_57, e84_60, e84_62, e84_65, e84_68, e84_70, e84_71, e84_73, e84_74, e84_76, e84_79, e84_82, e84_84, e84_86, e84_88, e84_91, e84_94, e84_96, e84_97, e84_99, e84_102, e84_103, e84_105, e84_108, e84_110, e84_112, e84_115, e84_117, mm_pu_n, mm_pu_s, va_rf_s, mm_w8_0, mm_w8_1, mm_w8_2, mm_w8_3, mm_w8_4, mm_c1_n, mm_c1_i, mm_c1_a, mm_ct_a, mm_ct_i, true_and, and_true, and_self, eq_self, if_true, if_false, ite_true, ite_false, bI_t, bI_z, bI_nz, bI_01, true_or, or_true, reduceCtorEq, false_or, or_false, decide_eq_false_iff_not, decide_eq_true_eq, ite_not, t_within, hk1, hk2, Bool.true_eq_false, x0, x6, hsh.1, in4 (show f < 4 by omega), cl2 (show f < 248 by omega), in4 (show t < 4 by omega), cl2 (show t < 248 by omega), p1, p2, p3, p4, q1, q2, q3, q4, s1, s1', s2, s2', c1, t_hasItems p2 s3 hz, t_hasItems q2 s3' hz', hh1, hh2, cl2 (show i < 248 by omega), cl2 (show j < 248 by omega), cl2 (show n < 248 by omega), nI_nn (show i < 2 ^ 31 by omega), nI_nn (show j < 2 ^ 31 by omega), nI_nn (show n < 2 ^ 31 by omega), not_false_eq_true, show (i + n ≤ 24) = True from eq_true (by omega), show (j + n ≤ 24) = True from eq_true (by omega)]
                have hw1 := wr_cp r (x + 109 + 2 * t) (x + 109 + 2 * f) i j n
                have hml1 := ml_of hw1.1 hml
                simp only [e162_0, e162_1, e162_4, e162_7, e162_8, e162_11, e162_14, e162_15, e162_16, e162_17, e162_20, e162_21, e162_22, e162_25, e162_26, e162_29, e162_30, e162_31, e162_34, e162_36, e162_37, e162_38, e162_41, e162_42, e162_43, e162_44, e162_47, e162_48, e162_49, e162_52, e162_54, e162_55, e162_56, e162_58, e162_59, e162_62, e162_63, e162_64, e162_67, e162_70, e162_72, e162_74, e162_75, e162_78, e162_79, e162_80, e162_83, e162_86, e162_88, e162_89, e162_90, e162_91, e162_94, e162_96, e162_97, e162_100, e162_101, e162_104, mm_pu_n, mm_pu_s, va_rf_s, mm_w8_0, mm_w8_1, mm_w8_2, mm_w8_3, mm_w8_4, mm_c1_n, mm_c1_i, mm_c1_a, mm_ct_a, mm_ct_i, true_and, and_true, and_self, eq_self, if_true, if_false, ite_true, ite_false, bI_t, bI_z, bI_nz, bI_01, true_or, or_true, reduceCtorEq, false_or, or_false, decide_eq_false_iff_not, decide_eq_true_eq, ite_not, u_isSheet, hk1, hk2, Bool.true_eq_false, Bool.false_eq_true, hml1.s0, hml1.p0, hml1.p1, hml1.i1, hml1.i2, in4 (show f < 4 by omega), cl2 (show f < 248 by omega), in4 (show t < 4 by omega), cl2 (show t < 248 by omega), s4, s4', nl, hp', c1, s5, s5', u_isPart hz, u_isPart hz', hh1, hh2, Int32.not_lt.mpr hp', it_i]
                have fin : ∀ r2, wr (mm_cG r (x + 109 + 2 * t) (x + 109 + 2 * f) i j n) r2 (m + 3) (24 * t + j) n (fun u => mm_G (mm_cG r (x + 109 + 2 * t) (x + 109 + 2 * f) i j n) (m + 3) (24 * f + i + u)) → fi r x m (some (.int (nI n))) (some (.int (nI n))) I r2 := by
                  intro r2 hw2
                  have hw2' : wr (mm_cG r (x + 109 + 2 * t) (x + 109 + 2 * f) i j n) r2 (m + 3) (24 * t + j) n (fun u => mm_G r (x + 109 + 2 * f) (i + u)) := by
                    refine ⟨hw2.1, hw2.2.1, fun u => ?_⟩
                    rw [hw2.2.2 u]
                    by_cases c : 24 * t + j ≤ u ∧ u < 24 * t + j + n
                    · rw [if_pos c, if_pos c, hw1.2.1 _ (by omega)]
                      show mm_G r (m + 3) (24 * f + i + (u - (24 * t + j))) = mm_G r (x + 109 + 2 * f) (i + (u - (24 * t + j)))
                      rw [(hG4 f (by omega)).2.2.2 (i + (u - (24 * t + j))) (by omega), Nat.add_assoc]
                    · rw [if_neg c, if_neg c]
                  exact fi_i _ (ALL_w h (hw2.1.trans hw1.1) (fun q _ => rfl) (G4_of (fun k hk => G4_sk hG4 hk) (G4_W (J := I) hm hG4 (by omega) hw1 hw2' (by omega)))) (by unfold mm_t; rw [hw2.1, hw1.1]) (by unfold mm_n; rw [hw2.1, hw1.1])
                by_cases c2 : f = t ∧ i < j
                · obtain ⟨rfl, c2⟩ := c2
                  rw [if_pos rfl, if_neg (fun y => absurd ((nI_leI (by omega) (by omega)).mp y) (by omega))]
                  simp only [e162_105, e162_107, e162_108, mm_pu_n, mm_pu_s, va_rf_s, mm_w8_0, mm_w8_1, mm_w8_2, mm_w8_3, mm_w8_4, mm_c1_n, mm_c1_i, mm_c1_a, mm_ct_a, mm_ct_i, true_and, and_true, and_self, eq_self, if_true, if_false, ite_true, ite_false, bI_t, bI_z, bI_nz, bI_01, true_or, or_true, reduceCtorEq, false_or, or_false, decide_eq_false_iff_not, decide_eq_true_eq, ite_not]
                  refine u_cpD (show f < 4 by omega) (by omega) (by omega) c2 hml1 (fun r2 l7 l8 hw2 => ?_) n 0 _ _ (by omega) wr_0
                  simp only [e162_171, e162_173, mm_pu_n, mm_pu_s, va_rf_s, mm_w8_0, mm_w8_1, mm_w8_2, mm_w8_3, mm_w8_4, mm_c1_n, mm_c1_i, mm_c1_a, mm_ct_a, mm_ct_i, true_and, and_true, and_self, eq_self, if_true, if_false, ite_true, ite_false, bI_t, bI_z, bI_nz, bI_01, true_or, or_true, reduceCtorEq, false_or, or_false, decide_eq_false_iff_not, decide_eq_true_eq, ite_not]
                  exact fin r2 hw2
                · have e0 : (if nI f = nI t then (if nI j ≤ nI i then (0 : Int32) else 1) else 0) = 0 := by
                    by_cases c3 : f = t
                    · subst c3
                      rw [if_pos rfl, if_pos ((nI_leI (by omega) (by omega)).mpr (by omega))]
                    · rw [if_neg (fun y => c3 ((nI_eq (by omega) (by omega)).mp y))]
                  rw [e0]
                  simp only [e162_105, e162_107, e162_108, mm_pu_n, mm_pu_s, va_rf_s, mm_w8_0, mm_w8_1, mm_w8_2, mm_w8_3, mm_w8_4, mm_c1_n, mm_c1_i, mm_c1_a, mm_ct_a, mm_ct_i, true_and, and_true, and_self, eq_self, if_true, if_false, ite_true, ite_false, bI_t, bI_z, bI_nz, bI_01, true_or, or_true, reduceCtorEq, false_or, or_false, decide_eq_false_iff_not, decide_eq_true_eq, ite_not]
                  refine u_cpU (show f < 4 by omega) (show t < 4 by omega) (by omega) (by omega) (by omega) hml1 (fun r2 l7 l8 hw2 => ?_) n 0 _ _ (by omega) wr_0
                  simp only [e162_171, e162_173, mm_pu_n, mm_pu_s, va_rf_s, mm_w8_0, mm_w8_1, mm_w8_2, mm_w8_3, mm_w8_4, mm_c1_n, mm_c1_i, mm_c1_a, mm_ct_a, mm_ct_i, true_and, and_true, and_self, eq_self, if_true, if_false, ite_true, ite_false, bI_t, bI_z, bI_nz, bI_01, true_or, or_true, reduceCtorEq, false_or, or_false, decide_eq_false_iff_not, decide_eq_true_eq, ite_not]
                  exact fin r2 hw2
          · simp only [e84_0, e84_1, e84_2, e84_3, e84_6, e84_9, e84_10, e84_11, e84_12, e84_15, e84_18, e84_19, e84_20, e84_21, e84_24, e84_25, e84_26, e84_28, e84_29, e84_32, e84_33, e84_34, e84_36, e84_38, e84_41, e84_44, e84_46, e84_49, e84_52, e84_54, e84_55, e84_57, e84_60, e84_62, e84_65, e84_68, e84_70, mm_pu_n, mm_pu_s, va_rf_s, mm_w8_0, mm_w8_1, mm_w8_2, mm_w8_3, mm_w8_4, mm_c1_n, mm_c1_i, mm_c1_a, mm_ct_a, mm_ct_i, true_and, and_true, and_self, eq_self, if_true, if_false, ite_true, ite_false, bI_t, bI_z, bI_nz, bI_01, true_or, or_true, reduceCtorEq, false_or, or_false, decide_eq_false_iff_not, decide_eq_true_eq, ite_not, t_within, hk1, hk2, Bool.true_eq_false, x0, x6, hsh.1, in4 (show f < 4 by omega), cl2 (show f < 248 by omega), in4 (show t < 4 by omega), cl2 (show t < 248 by omega), p1, p2, q1, q2, s1, s1', s2, s2', c1]
            simp only [e162_0, e162_1, e162_4, e162_7, e162_8, e162_11, e162_14, e162_15, e162_16, e162_17, e162_20, e162_21, e162_22, e162_25, e162_26, e162_29, e162_30, e162_31, e162_34, e162_36, e162_37, e162_38, e162_41, e162_42, e162_43, e162_44, e162_47, e162_48, e162_49, e162_52, e162_54, mm_pu_n, mm_pu_s, va_rf_s, mm_w8_0, mm_w8_1, mm_w8_2, mm_w8_3, mm_w8_4, mm_c1_n, mm_c1_i, mm_c1_a, mm_ct_a, mm_ct_i, true_and, and_true, and_self, eq_self, if_true, if_false, ite_true, ite_false, bI_t, bI_z, bI_nz, bI_01, true_or, or_true, reduceCtorEq, false_or, or_false, decide_eq_false_iff_not, decide_eq_true_eq, ite_not, u_isSheet, hk1, hk2, Bool.true_eq_false, Bool.false_eq_true, hml.s0, hml.p0, hml.i1, in4 (show f < 4 by omega), cl2 (show f < 248 by omega), in4 (show t < 4 by omega), cl2 (show t < 248 by omega), s4, s4', nl, hp', c1]
            exact fi_i _ h rfl rfl
end
