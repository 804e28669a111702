/-- what film writes -/
def flm (L : mm_I) (n ng p l : Nat) (u : Nat) : Int64 := ct l (p_nights L n ng (u + 1) 1 p).toInt64
theorem flm_c {L Lr : mm_I} {n ng p l : Nat} (hs : ag (x6 n ng) L Lr) (hG : ln_G L n ng) (hp : p < n) : flm L n ng p l = flm Lr n ng p l := funext fun u => by
  unfold flm
  rw [s_nights hs hG (u + 1) 1 p (Or.inl (wc_h (by decide) hp))]
section
variable {r : mm_R} {I : mm_I} {x m : Nat} {Q : Option Value → mm_I → mm_R → Prop}
theorem c_film {L : mm_I} {n ng p s i l z t : Nat} {l4 l7 : Int32} (hS : HS r x m) (hp : p < 6) (hG : ln_G L n ng) (hs : s < 4) (hsk : sk I x m s true l z) (hi : i + t ≤ z) (hq : ∀ K r1, fc I K x → wr r r1 (x + 109 + 2 * s) i t (flm L n ng p l) → Q (some (.int (nI t))) K r1) : ∀ d k J r1, k + d = t → ag (w6 n True) (vc J (x + 10)) (p_nights L n ng k) → fc I J x → wr r r1 (x + 109 + 2 * s) i k (flm L n ng p l) → mm_E 80 84 [some (.ref x), some (.int (nI p)), some (.int (nI t)), some (.int (nI s)), some (.int l4), some (.int (nI i)), some (.ref (x + 108 + 2 * s)), some (.int l7), some (.int (nI k))] [] J r1 Q := by
  have hz := hsk.2.2.2
  have hl := hsk.2.2.1
  intro d
  induction d with
  | zero =>
    intro k J r1 hk hJ hF hw
    have : k = t := by omega
    subst this
    rw [e80_84]
    simp only [e80_86, e80_87, e80_124, e80_125, mm_pu_n, mm_pu_s, va_rf_s, mm_w8_0, mm_w8_1, mm_w8_2, mm_w8_3, mm_w8_4, mm_c1_n, mm_c1_i, mm_c1_a, mm_ct_a, mm_ct_i, true_and, and_true, and_self, eq_self, if_true, if_false, ite_true, ite_false, bI_t, bI_z, bI_nz, bI_01, true_or, or_true, reduceCtorEq, false_or, or_false, decide_eq_false_iff_not, decide_eq_true_eq, ite_not, Int32.le_refl]
    exact hq J r1 hF hw
  | succ d ih =>
    intro k J r1 hk hJ hF hw
    have hS1 := HS_w hw.1 hS
    obtain ⟨x0, x1, x2, -⟩ := id hS1.2.1
    have l2 := hS1.2.2.1.2.1
    obtain ⟨p1, p2, p3, p4⟩ := hS1.2.2.2.2.2.2.1.2 s hs
    rw [e80_84]
    simp only [e80_86, e80_87, e80_90, e80_91, e80_94, e80_95, mm_pu_n, mm_pu_s, va_rf_s, mm_w8_0, mm_w8_1, mm_w8_2, mm_w8_3, mm_w8_4, mm_c1_n, mm_c1_i, mm_c1_a, mm_ct_a, mm_ct_i, true_and, and_true, and_self, eq_self, if_true, if_false, ite_true, ite_false, bI_t, bI_z, bI_nz, bI_01, true_or, or_true, reduceCtorEq, false_or, or_false, decide_eq_false_iff_not, decide_eq_true_eq, ite_not, nI_ge (show k < t by omega) (show t < 2 ^ 31 by omega), x0, x2, l2.s0]
    refine f_night hS1 hJ (p_nights_G hG k) 0 (fun K hK hFK => ?_)
    have hF2 := hF.tr hFK
    have e1 : mm_rd K (x + 108 + 2 * s) 1 = nI l := by rw [rd_F (hF2 _ (by omega))]; exact hsk.1.2.1
    have e2 : mm_rd K (x + 108 + 2 * s) 2 = nI z := by rw [rd_F (hF2 _ (by omega))]; exact hsk.1.2.2
    simp only [mm_pu_n, e80_98, e80_100, e80_102, e80_104, e80_105, e80_106, e80_109, e80_112, e80_113, e80_114, e80_115, mm_pu_n, mm_pu_s, va_rf_s, mm_w8_0, mm_w8_1, mm_w8_2, mm_w8_3, mm_w8_4, mm_c1_n, mm_c1_i, mm_c1_a, mm_ct_a, mm_ct_i, true_and, and_true, and_self, eq_self, if_true, if_false, ite_true, ite_false, bI_t, bI_z, bI_nz, bI_01, true_or, or_true, reduceCtorEq, false_or, or_false, decide_eq_false_iff_not, decide_eq_true_eq, ite_not, x0, x2, l2.s0, l2.p6, l2.p7, l2.p8, l2.p9, l2.p10, l2.p11, l2.p12, l2.p13, l2.i1, l2.i2, l2.i3, l2.i4, l2.i5, l2.i6, l2.i7, l2.i8, in6 hp, cl_nI hp, rd_k (a := x + 10) (k := 1) ⟨by decide, hp⟩, hK 1 p (Or.inl (by decide)), nI_add, p2, t_write p2 p3 p4 e1 e2 hl hz (show i + k < z by omega)]
    simp only [e80_118, e80_121, mm_pu_n, mm_pu_s, va_rf_s, mm_w8_0, mm_w8_1, mm_w8_2, mm_w8_3, mm_w8_4, mm_c1_n, mm_c1_i, mm_c1_a, mm_ct_a, mm_ct_i, true_and, and_true, and_self, eq_self, if_true, if_false, ite_true, ite_false, bI_t, bI_z, bI_nz, bI_01, true_or, or_true, reduceCtorEq, false_or, or_false, decide_eq_false_iff_not, decide_eq_true_eq, ite_not, nI_1]
    exact ih (k + 1) K _ (by omega) (w7_w6 hK) hF2 (wr_S hw rfl)
theorem m_film {L : mm_I} {n ng p s i l t : Nat} {l6 : Int32} (hml : ml_S r m) (hp : p < 6) (hG : ln_G L n ng) (hR : ln_R L n ng) (hs : s < 4) (hl : l < 4) (hi : i + t ≤ 24) (hq : ∀ K r1, fm I K m → wr r r1 (m + 3) (24 * s + i) t (flm L n ng p l) → Q (some (.int (nI t))) K r1) : ∀ d k J r1, k + d = t → ag (w6 n True) (vr J (m + 6) m) (p_nights L n ng k) → fm I J m → wr r r1 (m + 3) (24 * s + i) k (flm L n ng p l) → mm_E 158 64 [some (.ref m), some (.int (nI p)), some (.int (nI t)), some (.int (nI s)), some (.int (nI l)), some (.int (nI i)), some (.int l6), some (.int (nI k))] [] J r1 Q := by
  intro d
  induction d with
  | zero =>
    intro k J r1 hk hJ hF hw
    have : k = t := by omega
    subst this
    rw [e158_64]
    simp only [e158_66, e158_67, e158_114, e158_115, mm_pu_n, mm_pu_s, va_rf_s, mm_w8_0, mm_w8_1, mm_w8_2, mm_w8_3, mm_w8_4, mm_c1_n, mm_c1_i, mm_c1_a, mm_ct_a, mm_ct_i, true_and, and_true, and_self, eq_self, if_true, if_false, ite_true, ite_false, bI_t, bI_z, bI_nz, bI_01, true_or, or_true, reduceCtorEq, false_or, or_false, decide_eq_false_iff_not, decide_eq_true_eq, ite_not, Int32.le_refl]
    exact hq J r1 hF hw
  | succ d ih =>
    intro k J r1 hk hJ hF hw
    have hm1 := ml_of hw.1 hml
    rw [e158_64]
    simp only [e158_66, e158_67, e158_70, e158_71, e158_72, e158_75, e158_76, mm_pu_n, mm_pu_s, va_rf_s, mm_w8_0, mm_w8_1, mm_w8_2, mm_w8_3, mm_w8_4, mm_c1_n, mm_c1_i, mm_c1_a, mm_ct_a, mm_ct_i, true_and, and_true, and_self, eq_self, if_true, if_false, ite_true, ite_false, bI_t, bI_z, bI_nz, bI_01, true_or, or_true, reduceCtorEq, false_or, or_false, decide_eq_false_iff_not, decide_eq_true_eq, ite_not, nI_ge (show k < t by omega) (show t < 2 ^ 31 by omega), hm1.s0, hm1.p8]
    refine g_night hm1 hJ (p_nights_G hG k) (pn_R hG hR k) 0 (fun K hK hFK => ?_)
    simp only [mm_pu_n, e158_79, e158_80, e158_83, e158_85, e158_86, e158_87, e158_89, e158_90, e158_92, e158_93, e158_95, e158_96, e158_99, e158_100, e158_101, e158_102, e158_103, e158_104, e158_107, mm_pu_n, mm_pu_s, va_rf_s, mm_w8_0, mm_w8_1, mm_w8_2, mm_w8_3, mm_w8_4, mm_c1_n, mm_c1_i, mm_c1_a, mm_ct_a, mm_ct_i, true_and, and_true, and_self, eq_self, if_true, if_false, ite_true, ite_false, bI_t, bI_z, bI_nz, bI_01, true_or, or_true, reduceCtorEq, false_or, or_false, decide_eq_false_iff_not, decide_eq_true_eq, ite_not, hm1.s0, hm1.p8, hm1.p2, hm1.i3, hm1.i6, k3, in2 (show 3 + p < 248 by omega), cl2 (show 3 + p < 248 by omega), r3 m hp, hK 1 p (Or.inl (by decide)), k24, nI_add, u_cutTo hl, in96 (show 24 * s + i + k < 96 by omega), cl2 (show 24 * s + i + k < 248 by omega)]
    simp only [e158_108, e158_111, mm_pu_n, mm_pu_s, va_rf_s, mm_w8_0, mm_w8_1, mm_w8_2, mm_w8_3, mm_w8_4, mm_c1_n, mm_c1_i, mm_c1_a, mm_ct_a, mm_ct_i, true_and, and_true, and_self, eq_self, if_true, if_false, ite_true, ite_false, bI_t, bI_z, bI_nz, bI_01, true_or, or_true, reduceCtorEq, false_or, or_false, decide_eq_false_iff_not, decide_eq_true_eq, ite_not, nI_1]
    exact ih (k + 1) K _ (by omega) (w7_w6 hK) (hF.tr hFK) (wr_S hw rfl)
theorem a_film (h : ALL I r x m) (p t s l i : Int32) : pr 80 158 [some (.ref x), some (.int p), some (.int t), some (.int s), some (.int l), some (.int i), none, none, none] [some (.ref m), some (.int p), some (.int t), some (.int s), some (.int l), some (.int i), none, none] I r x m := by
  obtain ⟨hS, ⟨sg, L, bn, B, n, ng, Lr, Br, hg⟩, hG2, hG3, hG4⟩ := id h
  obtain ⟨hm, hx, ⟨l1, l2, l3, l4⟩, hip, hpt, htp, hsh, hml⟩ := id hS
  obtain ⟨x0, x1, x2, x3, x4, x5, x6, x7, x8⟩ := id hx
  obtain ⟨⟨hps, hL, hpv⟩, ⟨hR, hB⟩, ⟨⟨⟨hG, hRR, hdr, hnt⟩, hbk⟩, ⟨⟨hG', hRR', hdr', hnt'⟩, hbk'⟩, hsm, hsB⟩⟩ := id hg
  have hLL : dl L = L := by rw [← hL]; exact dl_dl _
  have hLr : dl Lr = Lr := by rw [← hR]; exact dl_dl _
  have hs6 := s_6 hsm hLL hLr
  have vL : ∀ q i, q < 7 → vc I (x + 1) q i = L q i := fun q i hq => by rw [← hL, dl_at hq]
  have vR : ∀ q i, q < 7 → vr I (m + 5) m q i = Lr q i := fun q i hq => by rw [← hR, dl_at hq]
  have vRh : ∀ {k : Nat}, k < n → ∀ q, 1 ≤ q ∧ q ≤ 3 → vr I (m + 5) m q k = L q k := fun hk q hq => (vR q _ (by omega)).trans (hsm q _ (wc_h hq hk)).symm
  have vRg : ∀ {k : Nat}, k < ng → ∀ q, 4 ≤ q ∧ q ≤ 6 → vr I (m + 5) m q k = L q k := fun hk q hq => (vR q _ (by omega)).trans (hsm q _ (wc_g hq hk)).symm
  obtain ⟨⟨hn, e0⟩, ⟨hng, e1⟩, hpl⟩ := id hG
  have f0 : vc I (x + 1) 0 0 = nI n := by rw [vL 0 0 (by decide)]; exact e0
  have f1 : vc I (x + 1) 0 1 = nI ng := by rw [vL 0 1 (by decide)]; exact e1
  have g0 : vr I (m + 5) m 0 0 = nI n := by rw [vR 0 0 (by decide)]; exact hG'.1.2
  have g1 : vr I (m + 5) m 0 1 = nI ng := by rw [vR 0 1 (by decide)]; exact hG'.2.1.2
  unfold pr
  cases hk0 : okh p n with
  | false =>
    simp only [e80_0, e80_1, e80_4, e80_5, e80_8, e80_11, e80_12, e80_13, e80_15, e80_18, e80_21, e80_22, e80_23, e80_24, e80_27, e80_30, e80_32, e80_33, e80_34, e80_37, e80_40, e80_41, e158_0, e158_1, e158_2, e158_5, e158_8, e158_9, e158_10, e158_12, e158_15, e158_18, e158_19, e158_22, e158_25, e158_27, e158_28, e158_29, e158_32, e158_35, e158_36, mm_pu_n, mm_pu_s, va_rf_s, mm_w8_0, mm_w8_1, mm_w8_2, mm_w8_3, mm_w8_4, mm_c1_n, mm_c1_i, mm_c1_a, mm_ct_a, mm_ct_i, true_and, and_true, and_self, eq_self, if_true, if_false, ite_true, ite_false, bI_t, bI_z, bI_nz, bI_01, true_or, or_true, reduceCtorEq, false_or, or_false, decide_eq_false_iff_not, decide_eq_true_eq, ite_not, x0, x1, x2, x3, x4, x5, x6, x7, x8, l1.s0, l1.p6, l1.p7, l1.p8, l1.p9, l1.p10, l1.p11, l1.p12, l1.p13, l1.i1, l1.i2, l1.i3, l1.i4, l1.i5, l1.i6, l1.i7, l1.i8, hml.s0, hml.p7, hml.i5, t_hasH l1 f0, u_isHouse hml hn g0, hk0, Bool.false_eq_true]
    exact fi_i _ h rfl rfl
  | true =>
  cases hk3 : wth t 1 24 with
  | false =>
    simp only [e80_0, e80_1, e80_4, e80_5, e80_8, e80_11, e80_12, e80_13, e80_15, e80_18, e80_21, e80_22, e80_23, e80_24, e80_27, e80_30, e80_32, e80_33, e80_34, e80_37, e80_40, e80_41, e158_0, e158_1, e158_2, e158_5, e158_8, e158_9, e158_10, e158_12, e158_15, e158_18, e158_19, e158_22, e158_25, e158_27, e158_28, e158_29, e158_32, e158_35, e158_36, mm_pu_n, mm_pu_s, va_rf_s, mm_w8_0, mm_w8_1, mm_w8_2, mm_w8_3, mm_w8_4, mm_c1_n, mm_c1_i, mm_c1_a, mm_ct_a, mm_ct_i, true_and, and_true, and_self, eq_self, if_true, if_false, ite_true, ite_false, bI_t, bI_z, bI_nz, bI_01, true_or, or_true, reduceCtorEq, false_or, or_false, decide_eq_false_iff_not, decide_eq_true_eq, ite_not, x0, x1, x2, x3, x4, x5, x6, x7, x8, l1.s0, l1.p6, l1.p7, l1.p8, l1.p9, l1.p10, l1.p11, l1.p12, l1.p13, l1.i1, l1.i2, l1.i3, l1.i4, l1.i5, l1.i6, l1.i7, l1.i8, hml.s0, hml.p7, hml.i5, t_hasH l1 f0, u_isHouse hml hn g0, t_within, u_inw, u_isSheet, hk0, hk3, Bool.true_eq_false]
    exact fi_i _ h rfl rfl
  | true =>
  cases hk1 : wth s 0 3 with
  | false =>
    simp only [e80_0, e80_1, e80_4, e80_5, e80_8, e80_11, e80_12, e80_13, e80_15, e80_18, e80_21, e80_22, e80_23, e80_24, e80_27, e80_30, e80_32, e80_33, e80_34, e80_37, e80_40, e80_41, e158_0, e158_1, e158_2, e158_5, e158_8, e158_9, e158_10, e158_12, e158_15, e158_18, e158_19, e158_22, e158_25, e158_27, e158_28, e158_29, e158_32, e158_35, e158_36, mm_pu_n, mm_pu_s, va_rf_s, mm_w8_0, mm_w8_1, mm_w8_2, mm_w8_3, mm_w8_4, mm_c1_n, mm_c1_i, mm_c1_a, mm_ct_a, mm_ct_i, true_and, and_true, and_self, eq_self, if_true, if_false, ite_true, ite_false, bI_t, bI_z, bI_nz, bI_01, true_or, or_true, reduceCtorEq, false_or, or_false, decide_eq_false_iff_not, decide_eq_true_eq, ite_not, x0, x1, x2, x3, x4, x5, x6, x7, x8, l1.s0, l1.p6, l1.p7, l1.p8, l1.p9, l1.p10, l1.p11, l1.p12, l1.p13, l1.i1, l1.i2, l1.i3, l1.i4, l1.i5, l1.i6, l1.i7, l1.i8, hml.s0, hml.p7, hml.i5, t_hasH l1 f0, u_isHouse hml hn g0, t_within, u_inw, u_isSheet, hk0, hk3, hk1, Bool.true_eq_false]
    exact fi_i _ h rfl rfl
  | true =>
  cases hk2 : wth l 0 3 with
  | false =>
    simp only [e80_0, e80_1, e80_4, e80_5, e80_8, e80_11, e80_12, e80_13, e80_15, e80_18, e80_21, e80_22, e80_23, e80_24, e80_27, e80_30, e80_32, e80_33, e80_34, e80_37, e80_40, e80_41, e158_0, e158_1, e158_2, e158_5, e158_8, e158_9, e158_10, e158_12, e158_15, e158_18, e158_19, e158_22, e158_25, e158_27, e158_28, e158_29, e158_32, e158_35, e158_36, mm_pu_n, mm_pu_s, va_rf_s, mm_w8_0, mm_w8_1, mm_w8_2, mm_w8_3, mm_w8_4, mm_c1_n, mm_c1_i, mm_c1_a, mm_ct_a, mm_ct_i, true_and, and_true, and_self, eq_self, if_true, if_false, ite_true, ite_false, bI_t, bI_z, bI_nz, bI_01, true_or, or_true, reduceCtorEq, false_or, or_false, decide_eq_false_iff_not, decide_eq_true_eq, ite_not, x0, x1, x2, x3, x4, x5, x6, x7, x8, l1.s0, l1.p6, l1.p7, l1.p8, l1.p9, l1.p10, l1.p11, l1.p12, l1.p13, l1.i1, l1.i2, l1.i3, l1.i4, l1.i5, l1.i6, l1.i7, l1.i8, hml.s0, hml.p7, hml.i5, t_hasH l1 f0, u_isHouse hml hn g0, t_within, u_inw, u_isSheet, hk0, hk3, hk1, hk2, Bool.true_eq_false]
    exact fi_i _ h rfl rfl
  | true =>
    obtain ⟨k, -, hk, rfl⟩ := wth_of hk1 (a := 0) (b := 3) (by decide) (by decide) (by decide) (by decide)
    obtain ⟨p', hp, rfl⟩ := okh_of hk0 hn
    obtain ⟨t', ht1, ht, rfl⟩ := wth_of hk3 (a := 1) (b := 24) (by decide) (by decide) (by decide) (by decide)
    obtain ⟨hb, l', z, hsk⟩ := G4_sk hG4 (show k < 4 by omega)
    obtain ⟨⟨s1, s2, s3⟩, ⟨s4, s5⟩, hl, hz⟩ := id hsk
    obtain ⟨p1, p2, p3, p4⟩ := hsh.2 k (by omega)
    simp only [e80_0, e80_1, e80_4, e80_5, e80_8, e80_11, e80_12, e80_13, e80_15, e80_18, e80_21, e80_22, e80_23, e80_24, e80_27, e80_30, e80_32, e80_33, e80_34, e80_37, e80_40, e80_41, e80_42, e80_43, e80_46, e80_47, e80_48, e80_50, e80_52, e80_54, e80_56, e80_57, e80_60, e80_62, e80_64, mm_pu_n, mm_pu_s, va_rf_s, mm_w8_0, mm_w8_1, mm_w8_2, mm_w8_3, mm_w8_4, mm_c1_n, mm_c1_i, mm_c1_a, mm_ct_a, mm_ct_i, true_and, and_true, and_self, eq_self, if_true, if_false, ite_true, ite_false, bI_t, bI_z, bI_nz, bI_01, true_or, or_true, reduceCtorEq, false_or, or_false, decide_eq_false_iff_not, decide_eq_true_eq, ite_not, x0, x1, x2, x3, x4, x5, x6, x7, x8, l1.s0, l1.p6, l1.p7, l1.p8, l1.p9, l1.p10, l1.p11, l1.p12, l1.p13, l1.i1, l1.i2, l1.i3, l1.i4, l1.i5, l1.i6, l1.i7, l1.i8, t_hasH l1 f0, t_within, hk0, hk3, hk1, hk2, Bool.true_eq_false, hsh.1, in4 (show k < 4 by omega), cl2 (show k < 248 by omega), p1, p2, t_refusal p2 s1 s2 s3 hz]
    by_cases hw : v_why hb l' z l i (nI t') = 0
    · rw [if_pos hw]
      obtain ⟨w1, rfl, w2⟩ := why_0 hw
      subst w1
      obtain ⟨j, n1, rfl, e1, hj⟩ := hit_of w2 hz
      have hn1 : t' = n1 := (nI_eq (by omega) (by omega)).mp e1
      subst hn1
      simp only [e80_70, e80_71, e80_74, e80_75, e80_78, mm_pu_n, mm_pu_s, va_rf_s, mm_w8_0, mm_w8_1, mm_w8_2, mm_w8_3, mm_w8_4, mm_c1_n, mm_c1_i, mm_c1_a, mm_ct_a, mm_ct_i, true_and, and_true, and_self, eq_self, if_true, if_false, ite_true, ite_false, bI_t, bI_z, bI_nz, bI_01, true_or, or_true, reduceCtorEq, false_or, or_false, decide_eq_false_iff_not, decide_eq_true_eq, ite_not, x0, x1, x2, x3, x4, x5, x6, x7, x8, l1.s0, l1.p6, l1.p7, l1.p8, l1.p9, l1.p10, l1.p11, l1.p12, l1.p13, l1.i1, l1.i2, l1.i3, l1.i4, l1.i5, l1.i6, l1.i7, l1.i8, l2.s0]
      refine f_take n hS vL hLL (fun J hJ hF => ?_)
      simp only [mm_pu_n, e80_81, e80_82, mm_pu_n, mm_pu_s, va_rf_s, mm_w8_0, mm_w8_1, mm_w8_2, mm_w8_3, mm_w8_4, mm_c1_n, mm_c1_i, mm_c1_a, mm_ct_a, mm_ct_i, true_and, and_true, and_self, eq_self, if_true, if_false, ite_true, ite_false, bI_t, bI_z, bI_nz, bI_01, true_or, or_true, reduceCtorEq, false_or, or_false, decide_eq_false_iff_not, decide_eq_true_eq, ite_not]
      refine c_film (I := I) (r := r) hS (show p' < 6 by omega) hG (show k < 4 by omega) hsk hj (fun K r1 hFK hw1 => ?_) t' 0 J r (by omega) hJ hF wr_0
      have hml1 := ml_of hw1.1 hml
      have gK : vr K (m + 5) m 0 0 = nI n := by rw [vr_q (I := I) (by decide) (fun j _ => by rw [hFK _ (by omega)])]; exact g0
      have s4' : mm_rd K (m + 1) k = nI l' := by rw [rd_F (hFK _ (by omega))]; exact s4
      have s5' : mm_rd K (m + 2) k = nI z := by rw [rd_F (hFK _ (by omega))]; exact s5
      simp only [e158_0, e158_1, e158_2, e158_5, e158_8, e158_9, e158_10, e158_12, e158_15, e158_18, e158_19, e158_22, e158_25, e158_27, e158_28, e158_29, e158_32, e158_35, e158_36, e158_37, e158_38, e158_39, e158_41, e158_43, e158_44, e158_47, e158_49, e158_51, e158_54, e158_56, e158_57, e158_58, mm_pu_n, mm_pu_s, va_rf_s, mm_w8_0, mm_w8_1, mm_w8_2, mm_w8_3, mm_w8_4, mm_c1_n, mm_c1_i, mm_c1_a, mm_ct_a, mm_ct_i, true_and, and_true, and_self, eq_self, if_true, if_false, ite_true, ite_false, bI_t, bI_z, bI_nz, bI_01, true_or, or_true, reduceCtorEq, false_or, or_false, decide_eq_false_iff_not, decide_eq_true_eq, ite_not, hml1.s0, hml1.p7, hml1.i5, u_isHouse hml1 hn gK, u_inw, u_isSheet, hk0, hk3, hk1, hk2, Bool.true_eq_false, u_wrong (hb := true) hml1 (show k < 4 by omega) s4' hl s5' hz, hw]
      refine g_begin n hn hml1 (MX.k (I := I) vR (hFK _ (by omega))) hLr (fun K1 hK1 hF1 => ?_)
      simp only [mm_pu_n, e158_61, e158_62, mm_pu_n, mm_pu_s, va_rf_s, mm_w8_0, mm_w8_1, mm_w8_2, mm_w8_3, mm_w8_4, mm_c1_n, mm_c1_i, mm_c1_a, mm_ct_a, mm_ct_i, true_and, and_true, and_self, eq_self, if_true, if_false, ite_true, ite_false, bI_t, bI_z, bI_nz, bI_01, true_or, or_true, reduceCtorEq, false_or, or_false, decide_eq_false_iff_not, decide_eq_true_eq, ite_not]
      refine m_film (I := K1) (r := r1) hml1 (show p' < 6 by omega) hG' hRR' (show k < 4 by omega) hl (show j + t' ≤ 24 by omega) (fun K2 r2 hF2 hw2 => ?_) t' 0 K1 r1 (by omega) hK1 fm.rf wr_0
      rw [← flm_c hs6 hG hp] at hw2
      have fr : ∀ q, ¬ scr x m q → K2 q = I q := fun q hq => by
        unfold scr at hq
        rw [hF2 q (by omega) (by omega) (by omega), hF1 q (by omega) (by omega) (by omega), hFK q (by omega)]
      refine fi_i _ (ALL_w h (hw2.1.trans hw1.1) (fun q hq => fr q (fun y => hq (Or.inl y))) (G4_of (fun j hj => ?_) (G4_W (J := I) hm hG4 (by omega) hw1 hw2 (by omega)))) (by unfold mm_t; rw [hw2.1, hw1.1]) (by unfold mm_n; rw [hw2.1, hw1.1])
      obtain ⟨b3, l3, z3, hs3⟩ := G4_sk hG4 hj
      exact ⟨b3, l3, z3, sk_k hs3 (fr _ (by unfold scr; omega)) (by rw [fr _ (by unfold scr; omega)]) (by rw [fr _ (by unfold scr; omega)])⟩
    · rw [if_neg hw]
      simp only [e80_67, e80_69, mm_pu_n, mm_pu_s, va_rf_s, mm_w8_0, mm_w8_1, mm_w8_2, mm_w8_3, mm_w8_4, mm_c1_n, mm_c1_i, mm_c1_a, mm_ct_a, mm_ct_i, true_and, and_true, and_self, eq_self, if_true, if_false, ite_true, ite_false, bI_t, bI_z, bI_nz, bI_01, true_or, or_true, reduceCtorEq, false_or, or_false, decide_eq_false_iff_not, decide_eq_true_eq, ite_not]
      simp only [e158_0, e158_1, e158_2, e158_5, e158_8, e158_9, e158_10, e158_12, e158_15, e158_18, e158_19, e158_22, e158_25, e158_27, e158_28, e158_29, e158_32, e158_35, e158_36, e158_37, e158_38, e158_39, e158_41, e158_43, e158_44, e158_47, e158_49, e158_51, e158_54, e158_56, mm_pu_n, mm_pu_s, va_rf_s, mm_w8_0, mm_w8_1, mm_w8_2, mm_w8_3, mm_w8_4, mm_c1_n, mm_c1_i, mm_c1_a, mm_ct_a, mm_ct_i, true_and, and_true, and_self, eq_self, if_true, if_false, ite_true, ite_false, bI_t, bI_z, bI_nz, bI_01, true_or, or_true, reduceCtorEq, false_or, or_false, decide_eq_false_iff_not, decide_eq_true_eq, ite_not, hml.s0, hml.p7, hml.i5, u_isHouse hml hn g0, u_inw, u_isSheet, hk0, hk3, hk1, hk2, Bool.true_eq_false, u_wrong hml (show k < 4 by omega) s4 hl s5 hz, hw]
      exact fi_i _ h rfl rfl
end
