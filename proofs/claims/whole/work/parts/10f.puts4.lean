theorem ps_260 : ((List.range 7).all fun q => (List.range 6).all fun i => decide (i < wd q → (¬ ps q i < 26 ↔ (q = 0 ∧ i < 3) ∨ q = 4 ∨ q = 5))) = true := by decide +kernel
theorem ps_26 {q i : Nat} (hq : q < 7) (hi : i < wd q) : ¬ ps q i < 26 ↔ (q = 0 ∧ i < 3) ∨ q = 4 ∨ q = 5 := of_decide_eq_true (List.all_eq_true.mp (List.all_eq_true.mp ps_260 q (List.mem_range.mpr hq)) i (List.mem_range.mpr (Nat.lt_of_lt_of_le hi (wd_le q)))) hi
section
variable {r : mm_R} {I : mm_I} {x m : Nat} {Q : Option Value → mm_I → mm_R → Prop}
theorem a_drive (h : ALL I r x m) (g p : Int32) : pr 61 131 [some (.ref x), some (.int g), some (.int p), none] [some (.ref m), some (.int g), some (.int p), none] I r x m := by
  obtain ⟨hS, ⟨sg, L, bn, B, n, ng, Lr, Br, hg⟩, hG2, hG3, hG4⟩ := id h
  obtain ⟨hm, hx, ⟨l1, l2, l3, l4⟩, hip, hpt, htp, hsh, hml⟩ := id hS
  obtain ⟨x0, x1, x2, x3, x4, x5, x6, x7, x8⟩ := id hx
  obtain ⟨⟨hps, hL, hpv⟩, ⟨hR, hB⟩, ⟨⟨⟨hG, hRR, hdr, hnt⟩, hbk⟩, ⟨⟨hG', hRR', hdr', hnt'⟩, hbk'⟩, hsm, hsB⟩⟩ := id hg
  have hLL : dl L = L := by rw [← hL]; exact dl_dl _
  have hLr : dl Lr = Lr := by rw [← hR]; exact dl_dl _
  have hs6 := s_6 hsm hLL hLr
  have vL : ∀ q i, q < 7 → vc I (x + 1) q i = L q i := fun q i hq => by rw [← hL, dl_at hq]
  have vR : ∀ q i, q < 7 → vr I (m + 5) m q i = Lr q i := fun q i hq => by rw [← hR, dl_at hq]
  have vRh : ∀ {k : Nat}, k < n → ∀ q, 1 ≤ q ∧ q ≤ 3 → vr I (m + 5) m q k = L q k := fun hk q hq => (vR q _ (by omega)).trans (hsm q _ (wc_h hq hk)).symm
  have vRg : ∀ {k : Nat}, k < ng → ∀ q, 4 ≤ q ∧ q ≤ 6 → vr I (m + 5) m q k = L q k := fun hk q hq => (vR q _ (by omega)).trans (hsm q _ (wc_g hq hk)).symm
  obtain ⟨⟨hn, e0⟩, ⟨hng, e1⟩, hpl⟩ := id hG
  have f0 : vc I (x + 1) 0 0 = nI n := by rw [vL 0 0 (by decide)]; exact e0
  have f1 : vc I (x + 1) 0 1 = nI ng := by rw [vL 0 1 (by decide)]; exact e1
  have g0 : vr I (m + 5) m 0 0 = nI n := by rw [vR 0 0 (by decide)]; exact hG'.1.2
  have g1 : vr I (m + 5) m 0 1 = nI ng := by rw [vR 0 1 (by decide)]; exact hG'.2.1.2
  unfold pr
  cases hk1 : okh g ng with
  | false =>
    simp only [e61_0, e61_1, e61_4, e61_5, e61_8, e61_11, e61_12, e61_15, e61_16, e61_19, e61_22, e61_23, e61_24, e61_25, e61_28, e61_31, e61_32, e61_33, e61_34, e61_35, e61_36, e61_39, e61_41, e61_42, e61_43, e61_46, e61_47, e61_50, e61_53, e61_54, e61_57, e61_60, e61_61, e61_62, e61_63, e61_64, e131_0, e131_1, e131_2, e131_5, e131_8, e131_9, e131_10, e131_13, e131_16, e131_17, e131_18, e131_19, e131_22, e131_24, e131_25, e131_26, e131_27, e131_28, e131_29, e131_30, e131_33, e131_35, e131_36, e131_37, e131_40, e131_41, e131_44, e131_46, e131_47, e131_48, e131_49, e131_50, e131_51, mm_pu_n, mm_pu_s, va_rf_s, mm_w8_0, mm_w8_1, mm_w8_2, mm_w8_3, mm_w8_4, mm_c1_n, mm_c1_i, mm_c1_a, mm_ct_a, mm_ct_i, true_and, and_true, and_self, eq_self, if_true, if_false, ite_true, ite_false, bI_t, bI_z, bI_nz, bI_01, true_or, or_true, reduceCtorEq, false_or, or_false, decide_eq_false_iff_not, decide_eq_true_eq, ite_not, x0, x1, x2, x3, x4, x5, x6, x7, x8, l1.s0, l1.p6, l1.p7, l1.p8, l1.p9, l1.p10, l1.p11, l1.p12, l1.p13, l1.i1, l1.i2, l1.i3, l1.i4, l1.i5, l1.i6, l1.i7, l1.i8, hml.s0, hml.p7, hml.i5, t_hasG l1 f1, u_isHog hml (show ng ≤ 6 by omega) g1, hk1, Bool.false_eq_true]
    exact fi_i _ h rfl rfl
  | true =>
    cases hk2 : okh p n with
    | false =>
      simp only [e61_0, e61_1, e61_4, e61_5, e61_8, e61_11, e61_12, e61_15, e61_16, e61_19, e61_22, e61_23, e61_24, e61_25, e61_28, e61_31, e61_32, e61_33, e61_34, e61_35, e61_36, e61_39, e61_41, e61_42, e61_43, e61_46, e61_47, e61_50, e61_53, e61_54, e61_57, e61_60, e61_61, e61_62, e61_63, e61_64, e131_0, e131_1, e131_2, e131_5, e131_8, e131_9, e131_10, e131_13, e131_16, e131_17, e131_18, e131_19, e131_22, e131_24, e131_25, e131_26, e131_27, e131_28, e131_29, e131_30, e131_33, e131_35, e131_36, e131_37, e131_40, e131_41, e131_44, e131_46, e131_47, e131_48, e131_49, e131_50, e131_51, mm_pu_n, mm_pu_s, va_rf_s, mm_w8_0, mm_w8_1, mm_w8_2, mm_w8_3, mm_w8_4, mm_c1_n, mm_c1_i, mm_c1_a, mm_ct_a, mm_ct_i, true_and, and_true, and_self, eq_self, if_true, if_false, ite_true, ite_false, bI_t, bI_z, bI_nz, bI_01, true_or, or_true, reduceCtorEq, false_or, or_false, decide_eq_false_iff_not, decide_eq_true_eq, ite_not, x0, x1, x2, x3, x4, x5, x6, x7, x8, l1.s0, l1.p6, l1.p7, l1.p8, l1.p9, l1.p10, l1.p11, l1.p12, l1.p13, l1.i1, l1.i2, l1.i3, l1.i4, l1.i5, l1.i6, l1.i7, l1.i8, hml.s0, hml.p7, hml.i5, t_hasG l1 f1, u_isHog hml (show ng ≤ 6 by omega) g1, t_hasH l1 f0, u_isHouse hml hn g0, hk1, hk2, Bool.true_eq_false]
      exact fi_i _ h rfl rfl
    | true =>
      obtain ⟨k, hkn, rfl⟩ := okh_of hk1 (by omega)
      obtain ⟨p', hp, rfl⟩ := okh_of hk2 hn
      have hk5 : k < 5 := by omega
      simp only [e61_0, e61_1, e61_4, e61_5, e61_8, e61_11, e61_12, e61_15, e61_16, e61_19, e61_22, e61_23, e61_24, e61_25, e61_28, e61_31, e61_32, e61_33, e61_34, e61_35, e61_36, e61_39, e61_41, e61_42, e61_43, e61_46, e61_47, e61_50, mm_pu_n, mm_pu_s, va_rf_s, mm_w8_0, mm_w8_1, mm_w8_2, mm_w8_3, mm_w8_4, mm_c1_n, mm_c1_i, mm_c1_a, mm_ct_a, mm_ct_i, true_and, and_true, and_self, eq_self, if_true, if_false, ite_true, ite_false, bI_t, bI_z, bI_nz, bI_01, true_or, or_true, reduceCtorEq, false_or, or_false, decide_eq_false_iff_not, decide_eq_true_eq, ite_not, x0, x1, x2, x3, x4, x5, x6, x7, x8, l1.s0, l1.p6, l1.p7, l1.p8, l1.p9, l1.p10, l1.p11, l1.p12, l1.p13, l1.i1, l1.i2, l1.i3, l1.i4, l1.i5, l1.i6, l1.i7, l1.i8, t_hasG l1 f1, t_hasH l1 f0, hk1, hk2, Bool.true_eq_false, in5 hk5, cl_nI (show k < 6 by omega), rd_k (a := x + 1) (k := 6) ⟨by decide, hk5⟩, vL 6 k (by decide), hps.1]
      by_cases c : L 6 k = nI p'
      · rw [if_pos c]
        simp only [e131_0, e131_1, e131_2, e131_5, e131_8, e131_9, e131_10, e131_13, e131_16, e131_17, e131_18, e131_19, e131_22, e131_24, e131_25, e131_26, e131_27, e131_28, e131_29, e131_30, e131_33, e131_35, e131_36, e131_37, e131_40, e131_41, e131_44, e131_46, e131_47, e131_48, e131_49, e131_50, e131_51, mm_pu_n, mm_pu_s, va_rf_s, mm_w8_0, mm_w8_1, mm_w8_2, mm_w8_3, mm_w8_4, mm_c1_n, mm_c1_i, mm_c1_a, mm_ct_a, mm_ct_i, true_and, and_true, and_self, eq_self, if_true, if_false, ite_true, ite_false, bI_t, bI_z, bI_nz, bI_01, true_or, or_true, reduceCtorEq, false_or, or_false, decide_eq_false_iff_not, decide_eq_true_eq, ite_not, hml.s0, hml.p7, hml.i5, u_isHog hml (show ng ≤ 6 by omega) g1, u_isHouse hml hn g0, hk1, hk2, Bool.true_eq_false, k21, in2 (show 21 + k < 248 by omega), cl2 (show 21 + k < 248 by omega), r21 m hk5, vRg hkn 6 (by decide), c]
        exact fi_i _ h rfl rfl
      · rw [if_neg c]
        refine t_remember hps hpv l1 (by omega) (fun J r' sg' hr hS' hV hF => ?_)
        have hS2 := HS_P hS hr
        have l1' : ln_S r' (x + 1) := hS2.2.2.1.1
        have hml' : ml_S r' m := hS2.2.2.2.2.2.2.2
        obtain ⟨y0, y1, -⟩ := id hS2.2.1
        simp only [mm_pu_n, e61_53, e61_54, e61_57, e61_60, e61_61, e61_62, e61_63, e61_64, mm_pu_n, mm_pu_s, va_rf_s, mm_w8_0, mm_w8_1, mm_w8_2, mm_w8_3, mm_w8_4, mm_c1_n, mm_c1_i, mm_c1_a, mm_ct_a, mm_ct_i, true_and, and_true, and_self, eq_self, if_true, if_false, ite_true, ite_false, bI_t, bI_z, bI_nz, bI_01, true_or, or_true, reduceCtorEq, false_or, or_false, decide_eq_false_iff_not, decide_eq_true_eq, ite_not, y0, y1, l1'.s0, l1'.p6, l1'.p7, l1'.p8, l1'.p9, l1'.p10, l1'.p11, l1'.p12, l1'.p13, l1'.i1, l1'.i2, l1'.i3, l1'.i4, l1'.i5, l1'.i6, l1'.i7, l1'.i8, in5 hk5, cl_nI (show k < 6 by omega)]
        have gJ : vr (mm_uI J (x + 1 + 6) k (nI p')) (m + 5) m 0 0 = nI n := by rw [vr_q (I := I) (by decide) (fun j _ => by rw [mu_n (by omega), hF _ (by omega)])]; exact g0
        have gJ1 : vr (mm_uI J (x + 1 + 6) k (nI p')) (m + 5) m 0 1 = nI ng := by rw [vr_q (I := I) (by decide) (fun j _ => by rw [mu_n (by omega), hF _ (by omega)])]; exact g1
        have gk : vr (mm_uI J (x + 1 + 6) k (nI p')) (m + 5) m 6 k = L 6 k := by rw [vr_q (I := I) (by decide) (fun j _ => by rw [mu_n (by omega), hF _ (by omega)])]; exact vRg hkn 6 (by decide)
        simp only [e131_0, e131_1, e131_2, e131_5, e131_8, e131_9, e131_10, e131_13, e131_16, e131_17, e131_18, e131_19, e131_22, e131_24, e131_25, e131_26, e131_27, e131_28, e131_29, e131_30, e131_33, e131_35, e131_36, e131_37, mm_pu_n, mm_pu_s, va_rf_s, mm_w8_0, mm_w8_1, mm_w8_2, mm_w8_3, mm_w8_4, mm_c1_n, mm_c1_i, mm_c1_a, mm_ct_a, mm_ct_i, true_and, and_true, and_self, eq_self, if_true, if_false, ite_true, ite_false, bI_t, bI_z, bI_nz, bI_01, true_or, or_true, reduceCtorEq, false_or, or_false, decide_eq_false_iff_not, decide_eq_true_eq, ite_not, hml'.s0, hml'.p7, hml'.i5, u_isHog hml' (show ng ≤ 6 by omega) gJ1, u_isHouse hml' hn gJ, hk1, hk2, Bool.true_eq_false, k21, in2 (show 21 + k < 248 by omega), cl2 (show 21 + k < 248 by omega), r21 m hk5, gk]
        rw [if_neg c]
        refine u_note hml' (rM ⟨hR, hB⟩ (by rw [mu_n (by omega), hF _ (by omega)])).2 (fun K hK1 hK2 hK3 => ?_)
        simp only [mm_pu_n, e131_40, e131_41, e131_44, e131_46, e131_47, e131_48, e131_49, e131_50, e131_51, mm_pu_n, mm_pu_s, va_rf_s, mm_w8_0, mm_w8_1, mm_w8_2, mm_w8_3, mm_w8_4, mm_c1_n, mm_c1_i, mm_c1_a, mm_ct_a, mm_ct_i, true_and, and_true, and_self, eq_self, if_true, if_false, ite_true, ite_false, bI_t, bI_z, bI_nz, bI_01, true_or, or_true, reduceCtorEq, false_or, or_false, decide_eq_false_iff_not, decide_eq_true_eq, ite_not, hml'.s0, hml'.p7, hml'.i5, k21, in2 (show 21 + k < 248 by omega), cl2 (show 21 + k < 248 by omega)]
        rw [(rM (I1 := mm_uI J (x + 1 + 6) k (nI p')) ⟨hR, hB⟩ (by rw [mu_n (by omega), hF _ (by omega)])).1] at hK3
        exact fi_i _ (ALL_rem (R := 6) (k := k) h hg hr hS' hV hF ⟨by decide, hk5, by decide, by decide⟩ (gl_h ⟨hG, hRR, hdr, hnt⟩ (Or.inr (Or.inr (Or.inr ⟨rfl, p', hp, rfl⟩)))) hK1 (fun i hi => by rw [hK2 i hi, mu_n (by omega), hF _ (by omega)]) hK3) hr.2.2.2.1 hr.2.2.2.2
theorem a_pay (h : ALL I r x m) (p s : Int32) : pr 60 130 [some (.ref x), some (.int p), some (.int s)] [some (.ref m), some (.int p), some (.int s)] I r x m := by
  obtain ⟨hS, ⟨sg, L, bn, B, n, ng, Lr, Br, hg⟩, hG2, hG3, hG4⟩ := id h
  obtain ⟨hm, hx, ⟨l1, l2, l3, l4⟩, hip, hpt, htp, hsh, hml⟩ := id hS
  obtain ⟨x0, x1, x2, x3, x4, x5, x6, x7, x8⟩ := id hx
  obtain ⟨⟨hps, hL, hpv⟩, ⟨hR, hB⟩, ⟨⟨⟨hG, hRR, hdr, hnt⟩, hbk⟩, ⟨⟨hG', hRR', hdr', hnt'⟩, hbk'⟩, hsm, hsB⟩⟩ := id hg
  have hLL : dl L = L := by rw [← hL]; exact dl_dl _
  have hLr : dl Lr = Lr := by rw [← hR]; exact dl_dl _
  have hs6 := s_6 hsm hLL hLr
  have vL : ∀ q i, q < 7 → vc I (x + 1) q i = L q i := fun q i hq => by rw [← hL, dl_at hq]
  have vR : ∀ q i, q < 7 → vr I (m + 5) m q i = Lr q i := fun q i hq => by rw [← hR, dl_at hq]
  have vRh : ∀ {k : Nat}, k < n → ∀ q, 1 ≤ q ∧ q ≤ 3 → vr I (m + 5) m q k = L q k := fun hk q hq => (vR q _ (by omega)).trans (hsm q _ (wc_h hq hk)).symm
  have vRg : ∀ {k : Nat}, k < ng → ∀ q, 4 ≤ q ∧ q ≤ 6 → vr I (m + 5) m q k = L q k := fun hk q hq => (vR q _ (by omega)).trans (hsm q _ (wc_g hq hk)).symm
  obtain ⟨⟨hn, e0⟩, ⟨hng, e1⟩, hpl⟩ := id hG
  have f0 : vc I (x + 1) 0 0 = nI n := by rw [vL 0 0 (by decide)]; exact e0
  have f1 : vc I (x + 1) 0 1 = nI ng := by rw [vL 0 1 (by decide)]; exact e1
  have g0 : vr I (m + 5) m 0 0 = nI n := by rw [vR 0 0 (by decide)]; exact hG'.1.2
  have g1 : vr I (m + 5) m 0 1 = nI ng := by rw [vR 0 1 (by decide)]; exact hG'.2.1.2
  unfold pr
  cases hk1 : okh p n with
  | false =>
    simp only [e60_0, e60_1, e60_4, e60_5, e60_8, e60_11, e60_12, e60_13, e60_16, e60_19, e60_22, e60_23, e60_24, e60_25, e60_28, e60_31, e60_32, e60_33, e60_36, e60_38, e60_39, e60_40, e60_43, e60_44, e60_47, e60_50, e60_51, e60_54, e60_55, e60_56, e60_59, e60_60, e60_63, e60_66, e60_67, e60_68, e130_0, e130_1, e130_2, e130_5, e130_8, e130_9, e130_10, e130_13, e130_16, e130_19, e130_20, e130_21, e130_22, e130_25, e130_26, e130_27, e130_28, e130_29, e130_32, e130_34, e130_35, e130_36, e130_39, e130_40, e130_43, e130_44, e130_45, e130_46, e130_47, e130_50, e130_51, e130_52, e130_53, e130_54, e130_55, e130_58, e130_59, e130_62, e130_63, e130_64, e130_65, e130_66, e130_67, e130_68, e130_71, e130_72, e130_73, e130_74, e130_77, e130_78, e130_79, e130_80, e130_81, mm_pu_n, mm_pu_s, va_rf_s, mm_w8_0, mm_w8_1, mm_w8_2, mm_w8_3, mm_w8_4, mm_c1_n, mm_c1_i, mm_c1_a, mm_ct_a, mm_ct_i, true_and, and_true, and_self, eq_self, if_true, if_false, ite_true, ite_false, bI_t, bI_z, bI_nz, bI_01, true_or, or_true, reduceCtorEq, false_or, or_false, decide_eq_false_iff_not, decide_eq_true_eq, ite_not, x0, x1, x2, x3, x4, x5, x6, x7, x8, l1.s0, l1.p6, l1.p7, l1.p8, l1.p9, l1.p10, l1.p11, l1.p12, l1.p13, l1.i1, l1.i2, l1.i3, l1.i4, l1.i5, l1.i6, l1.i7, l1.i8, hml.s0, hml.p7, hml.i5, t_hasH l1 f0, u_isHouse hml hn g0, hk1, Bool.false_eq_true]
    exact fi_i _ h rfl rfl
  | true =>
    cases hk2 : wth s 1 9999 with
    | false =>
      simp only [e60_0, e60_1, e60_4, e60_5, e60_8, e60_11, e60_12, e60_13, e60_16, e60_19, e60_22, e60_23, e60_24, e60_25, e60_28, e60_31, e60_32, e60_33, e60_36, e60_38, e60_39, e60_40, e60_43, e60_44, e60_47, e60_50, e60_51, e60_54, e60_55, e60_56, e60_59, e60_60, e60_63, e60_66, e60_67, e60_68, e130_0, e130_1, e130_2, e130_5, e130_8, e130_9, e130_10, e130_13, e130_16, e130_19, e130_20, e130_21, e130_22, e130_25, e130_26, e130_27, e130_28, e130_29, e130_32, e130_34, e130_35, e130_36, e130_39, e130_40, e130_43, e130_44, e130_45, e130_46, e130_47, e130_50, e130_51, e130_52, e130_53, e130_54, e130_55, e130_58, e130_59, e130_62, e130_63, e130_64, e130_65, e130_66, e130_67, e130_68, e130_71, e130_72, e130_73, e130_74, e130_77, e130_78, e130_79, e130_80, e130_81, mm_pu_n, mm_pu_s, va_rf_s, mm_w8_0, mm_w8_1, mm_w8_2, mm_w8_3, mm_w8_4, mm_c1_n, mm_c1_i, mm_c1_a, mm_ct_a, mm_ct_i, true_and, and_true, and_self, eq_self, if_true, if_false, ite_true, ite_false, bI_t, bI_z, bI_nz, bI_01, true_or, or_true, reduceCtorEq, false_or, or_false, decide_eq_false_iff_not, decide_eq_true_eq, ite_not, x0, x1, x2, x3, x4, x5, x6, x7, x8, l1.s0, l1.p6, l1.p7, l1.p8, l1.p9, l1.p10, l1.p11, l1.p12, l1.p13, l1.i1, l1.i2, l1.i3, l1.i4, l1.i5, l1.i6, l1.i7, l1.i8, hml.s0, hml.p7, hml.i5, t_hasH l1 f0, u_isHouse hml hn g0, t_within, u_inw, hk1, hk2, Bool.true_eq_false]
      exact fi_i _ h rfl rfl
    | true =>
      obtain ⟨k, hkn, rfl⟩ := okh_of hk1 hn
      obtain ⟨s', -, hs, rfl⟩ := wth_of hk2 (a := 1) (b := 9999) (by decide) (by decide) (by decide) (by decide)
      have hk6 : k < 6 := by omega
      obtain ⟨lk, ow, sc, z1, z2, z3, z4, z5, z6⟩ := hRR.1 k hkn
      simp only [e60_0, e60_1, e60_4, e60_5, e60_8, e60_11, e60_12, e60_13, e60_16, e60_19, e60_22, e60_23, e60_24, e60_25, e60_28, e60_31, e60_32, e60_33, e60_36, e60_38, e60_39, e60_40, e60_43, e60_44, e60_47, mm_pu_n, mm_pu_s, va_rf_s, mm_w8_0, mm_w8_1, mm_w8_2, mm_w8_3, mm_w8_4, mm_c1_n, mm_c1_i, mm_c1_a, mm_ct_a, mm_ct_i, true_and, and_true, and_self, eq_self, if_true, if_false, ite_true, ite_false, bI_t, bI_z, bI_nz, bI_01, true_or, or_true, reduceCtorEq, false_or, or_false, decide_eq_false_iff_not, decide_eq_true_eq, ite_not, x0, x1, x2, x3, x4, x5, x6, x7, x8, l1.s0, l1.p6, l1.p7, l1.p8, l1.p9, l1.p10, l1.p11, l1.p12, l1.p13, l1.i1, l1.i2, l1.i3, l1.i4, l1.i5, l1.i6, l1.i7, l1.i8, t_hasH l1 f0, t_within, hk1, hk2, Bool.true_eq_false, in6 hk6, cl_nI hk6, rd_k (a := x + 1) (k := 1) ⟨by decide, hk6⟩, vL 1 k (by decide), hps.1]
      by_cases c : L 1 k = 0
      · rw [if_pos c]
        simp only [e130_0, e130_1, e130_2, e130_5, e130_8, e130_9, e130_10, e130_13, e130_16, e130_19, e130_20, e130_21, e130_22, e130_25, e130_26, e130_27, e130_28, e130_29, e130_32, e130_34, e130_35, e130_36, e130_39, e130_40, e130_43, e130_44, e130_45, e130_46, e130_47, e130_50, e130_51, e130_52, e130_53, e130_54, e130_55, e130_58, e130_59, e130_62, e130_63, e130_64, e130_65, e130_66, e130_67, e130_68, e130_71, e130_72, e130_73, e130_74, e130_77, e130_78, e130_79, e130_80, e130_81, mm_pu_n, mm_pu_s, va_rf_s, mm_w8_0, mm_w8_1, mm_w8_2, mm_w8_3, mm_w8_4, mm_c1_n, mm_c1_i, mm_c1_a, mm_ct_a, mm_ct_i, true_and, and_true, and_self, eq_self, if_true, if_false, ite_true, ite_false, bI_t, bI_z, bI_nz, bI_01, true_or, or_true, reduceCtorEq, false_or, or_false, decide_eq_false_iff_not, decide_eq_true_eq, ite_not, hml.s0, hml.p7, hml.i5, u_isHouse hml hn g0, u_inw, hk1, hk2, Bool.true_eq_false, k3, in2 (show 3 + k < 248 by omega), cl2 (show 3 + k < 248 by omega), r3 m hk6, vRh hkn 1 (by decide), c]
        exact fi_i _ h rfl rfl
      · rw [if_neg c]
        refine t_remember hps hpv l1 (by omega) (fun J r' sg' hr hS' hV hF => ?_)
        have hS2 := HS_P hS hr
        have l1' : ln_S r' (x + 1) := hS2.2.2.1.1
        have hml' : ml_S r' m := hS2.2.2.2.2.2.2.2
        obtain ⟨y0, y1, -⟩ := id hS2.2.1
        have eJ : vc J (x + 1) 1 k = L 1 k := by rw [vc_eq (I := I) (fun q z1 z2 => hF q (by omega))]; exact vL 1 k (by decide)
        simp only [mm_pu_n, e60_50, e60_51, e60_54, e60_55, e60_56, e60_59, e60_60, e60_63, e60_66, e60_67, e60_68, mm_pu_n, mm_pu_s, va_rf_s, mm_w8_0, mm_w8_1, mm_w8_2, mm_w8_3, mm_w8_4, mm_c1_n, mm_c1_i, mm_c1_a, mm_ct_a, mm_ct_i, true_and, and_true, and_self, eq_self, if_true, if_false, ite_true, ite_false, bI_t, bI_z, bI_nz, bI_01, true_or, or_true, reduceCtorEq, false_or, or_false, decide_eq_false_iff_not, decide_eq_true_eq, ite_not, y0, y1, l1'.s0, l1'.p6, l1'.p7, l1'.p8, l1'.p9, l1'.p10, l1'.p11, l1'.p12, l1'.p13, l1'.i1, l1'.i2, l1'.i3, l1'.i4, l1'.i5, l1'.i6, l1'.i7, l1'.i8, in6 hk6, cl_nI hk6, t_takeOff l1' hk6, eJ, rd_k (a := x + 1) (k := 1) ⟨by decide, hk6⟩, vc_u (a := x + 1) (k := 1) (i := k) ⟨by decide, hk6⟩, mu_s]
        obtain ⟨y, hy⟩ : ∃ y, y = (if L 1 k ≤ nI s' then 0 else L 1 k - nI s') := ⟨_, rfl⟩
        rw [← hy]
        have gJ : vr (mm_uI J (x + 1 + 1) k y) (m + 5) m 0 0 = nI n := by rw [vr_q (I := I) (by decide) (fun j _ => by rw [mu_n (by omega), hF _ (by omega)])]; exact g0
        have gk : vr (mm_uI J (x + 1 + 1) k y) (m + 5) m 1 k = L 1 k := by rw [vr_q (I := I) (by decide) (fun j _ => by rw [mu_n (by omega), hF _ (by omega)])]; exact vRh hkn 1 (by decide)
        simp only [e130_0, e130_1, e130_2, e130_5, e130_8, e130_9, e130_10, e130_13, e130_16, e130_19, e130_20, e130_21, e130_22, e130_25, e130_26, e130_27, e130_28, e130_29, e130_32, e130_34, e130_35, e130_36, mm_pu_n, mm_pu_s, va_rf_s, mm_w8_0, mm_w8_1, mm_w8_2, mm_w8_3, mm_w8_4, mm_c1_n, mm_c1_i, mm_c1_a, mm_ct_a, mm_ct_i, true_and, and_true, and_self, eq_self, if_true, if_false, ite_true, ite_false, bI_t, bI_z, bI_nz, bI_01, true_or, or_true, reduceCtorEq, false_or, or_false, decide_eq_false_iff_not, decide_eq_true_eq, ite_not, hml'.s0, hml'.p7, hml'.i5, u_isHouse hml' hn gJ, u_inw, hk1, hk2, Bool.true_eq_false, k3, in2 (show 3 + k < 248 by omega), cl2 (show 3 + k < 248 by omega), r3 m hk6, gk]
        rw [if_neg c]
        refine u_note hml' (rM ⟨hR, hB⟩ (by rw [mu_n (by omega), hF _ (by omega)])).2 (fun K hK1 hK2 hK3 => ?_)
        have gK : vr K (m + 5) m 1 k = L 1 k := by rw [vr_q (I := mm_uI J (x + 1 + 1) k y) (by decide) hK2]; exact gk
        have vK : ∀ (z : Int32), mm_rd (mm_uI K (m + 5) (3 + k) z) (m + 5) (3 + k) = z := fun z => rd_u
        simp only [mm_pu_n, e130_39, e130_40, e130_43, e130_44, e130_45, e130_46, e130_47, e130_50, e130_51, e130_52, e130_53, e130_54, e130_55, e130_58, e130_59, e130_62, e130_63, e130_64, e130_65, e130_66, e130_67, e130_68, e130_71, mm_pu_n, mm_pu_s, va_rf_s, mm_w8_0, mm_w8_1, mm_w8_2, mm_w8_3, mm_w8_4, mm_c1_n, mm_c1_i, mm_c1_a, mm_ct_a, mm_ct_i, true_and, and_true, and_self, eq_self, if_true, if_false, ite_true, ite_false, bI_t, bI_z, bI_nz, bI_01, true_or, or_true, reduceCtorEq, false_or, or_false, decide_eq_false_iff_not, decide_eq_true_eq, ite_not, hml'.s0, hml'.p7, hml'.i5, k3, in2 (show 3 + k < 248 by omega), cl2 (show 3 + k < 248 by omega), r3 m hk6, gK, it_i]
        rw [← hy]
        simp only [e130_72, e130_73, e130_74, e130_77, e130_78, e130_79, e130_80, e130_81, mm_pu_n, mm_pu_s, va_rf_s, mm_w8_0, mm_w8_1, mm_w8_2, mm_w8_3, mm_w8_4, mm_c1_n, mm_c1_i, mm_c1_a, mm_ct_a, mm_ct_i, true_and, and_true, and_self, eq_self, if_true, if_false, ite_true, ite_false, bI_t, bI_z, bI_nz, bI_01, true_or, or_true, reduceCtorEq, false_or, or_false, decide_eq_false_iff_not, decide_eq_true_eq, ite_not, hml'.s0, hml'.p7, hml'.i5, k3, in2 (show 3 + k < 248 by omega), cl2 (show 3 + k < 248 by omega), vK]
        rw [(rM (I1 := mm_uI J (x + 1 + 1) k y) ⟨hR, hB⟩ (by rw [mu_n (by omega), hF _ (by omega)])).1] at hK3
        refine fi_i _ (ALL_rem (R := 1) (k := k) h hg hr hS' hV hF ⟨by decide, hk6, by decide, by decide⟩ (gl_h ⟨hG, hRR, hdr, hnt⟩ (Or.inl ⟨rfl, ow - s', by omega, ?_⟩)) hK1 (fun i hi => by rw [hK2 i hi, mu_n (by omega), hF _ (by omega)]) hK3) hr.2.2.2.1 hr.2.2.2.2
        rw [hy, z5]
        by_cases d : ow ≤ s'
        · rw [if_pos (nI_le d (by omega)), show ow - s' = 0 by omega]; rfl
        · rw [if_neg (nI_ge (by omega) (by omega)), pk_sub (by omega)]
theorem a_undo (h : ALL I r x m) : pr 64 134 [some (.ref x), none] [some (.ref m)] I r x m := by
  obtain ⟨hS, ⟨sg, L, bn, B, n, ng, Lr, Br, hg⟩, hG2, hG3, hG4⟩ := id h
  obtain ⟨hm, hx, ⟨l1, l2, l3, l4⟩, hip, hpt, htp, hsh, hml⟩ := id hS
  obtain ⟨x0, x1, x2, x3, x4, x5, x6, x7, x8⟩ := id hx
  obtain ⟨⟨hps, hL, hpv⟩, ⟨hR, hB⟩, ⟨⟨⟨hG, hRR, hdr, hnt⟩, hbk⟩, ⟨⟨hG', hRR', hdr', hnt'⟩, hbk'⟩, hsm, hsB⟩⟩ := id hg
  have hLL : dl L = L := by rw [← hL]; exact dl_dl _
  have hLr : dl Lr = Lr := by rw [← hR]; exact dl_dl _
  have hs6 := s_6 hsm hLL hLr
  have vL : ∀ q i, q < 7 → vc I (x + 1) q i = L q i := fun q i hq => by rw [← hL, dl_at hq]
  have vR : ∀ q i, q < 7 → vr I (m + 5) m q i = Lr q i := fun q i hq => by rw [← hR, dl_at hq]
  have vRh : ∀ {k : Nat}, k < n → ∀ q, 1 ≤ q ∧ q ≤ 3 → vr I (m + 5) m q k = L q k := fun hk q hq => (vR q _ (by omega)).trans (hsm q _ (wc_h hq hk)).symm
  have vRg : ∀ {k : Nat}, k < ng → ∀ q, 4 ≤ q ∧ q ≤ 6 → vr I (m + 5) m q k = L q k := fun hk q hq => (vR q _ (by omega)).trans (hsm q _ (wc_g hq hk)).symm
  obtain ⟨⟨hn, e0⟩, ⟨hng, e1⟩, hpl⟩ := id hG
  have f0 : vc I (x + 1) 0 0 = nI n := by rw [vL 0 0 (by decide)]; exact e0
  have f1 : vc I (x + 1) 0 1 = nI ng := by rw [vL 0 1 (by decide)]; exact e1
  have g0 : vr I (m + 5) m 0 0 = nI n := by rw [vR 0 0 (by decide)]; exact hG'.1.2
  have g1 : vr I (m + 5) m 0 1 = nI ng := by rw [vR 0 1 (by decide)]; exact hG'.2.1.2
  unfold pr
  have c39 : vp_in (39 : Int32) 248 := c27.2.2.2.2.2.2
  have d39 : (39 : Int32).toNatClampNeg = 39 := d27.2.2.2.2.2.2
  have b39 : mm_rd I (m + 5) 39 = nI bn := hB.1.2
  cases bn with
  | zero =>
    have e1 : mm_rd I (x + 19) 1 = 0 := hpv.1.2
    have e2 : mm_rd I (m + 5) 39 = 0 := b39
    simp only [e64_0, e64_1, e64_4, e64_7, e64_10, e64_12, e64_13, e64_14, e64_17, e64_20, e64_21, e64_22, e64_25, e64_26, e64_29, e64_32, e64_33, e64_36, e64_37, e64_40, e64_41, e64_44, e64_47, e134_0, e134_1, e134_4, e134_6, e134_7, e134_10, e134_12, e134_13, e134_14, e134_17, e134_19, e134_20, e134_21, e134_22, e134_23, e134_24, e134_25, e134_28, e134_30, e134_32, e134_33, e134_36, e134_38, e134_39, e134_40, e134_41, e134_42, e134_45, e134_46, e134_48, e134_51, e134_52, e134_55, e134_57, e134_58, mm_pu_n, mm_pu_s, va_rf_s, mm_w8_0, mm_w8_1, mm_w8_2, mm_w8_3, mm_w8_4, mm_c1_n, mm_c1_i, mm_c1_a, mm_ct_a, mm_ct_i, true_and, and_true, and_self, eq_self, if_true, if_false, ite_true, ite_false, bI_t, bI_z, bI_nz, bI_01, true_or, or_true, reduceCtorEq, false_or, or_false, decide_eq_false_iff_not, decide_eq_true_eq, ite_not, x0, x1, x2, x3, x4, x5, x6, x7, x8, l1.s0, l1.p6, l1.p7, l1.p8, l1.p9, l1.p10, l1.p11, l1.p12, l1.p13, l1.i1, l1.i2, l1.i3, l1.i4, l1.i5, l1.i6, l1.i7, l1.i8, hml.s0, hml.p7, hml.i5, hps.1, e1, c39, d39, e2]
    exact fi_i _ h rfl rfl
  | succ b =>
    have hb8 : b < 8 := by have := hpv.1.1; omega
    simp only [e64_0, e64_1, e64_4, e64_7, e64_10, e64_12, e64_13, e64_14, e64_17, e64_20, e64_21, e64_22, e64_25, e64_26, e64_29, mm_pu_n, mm_pu_s, va_rf_s, mm_w8_0, mm_w8_1, mm_w8_2, mm_w8_3, mm_w8_4, mm_c1_n, mm_c1_i, mm_c1_a, mm_ct_a, mm_ct_i, true_and, and_true, and_self, eq_self, if_true, if_false, ite_true, ite_false, bI_t, bI_z, bI_nz, bI_01, true_or, or_true, reduceCtorEq, false_or, or_false, decide_eq_false_iff_not, decide_eq_true_eq, ite_not, x0, x1, x2, x3, x4, x5, x6, x7, x8, l1.s0, l1.p6, l1.p7, l1.p8, l1.p9, l1.p10, l1.p11, l1.p12, l1.p13, l1.i1, l1.i2, l1.i3, l1.i4, l1.i5, l1.i6, l1.i7, l1.i8, hps.1, hpv.1.2, nI_ne0 (show 0 < b + 1 by omega) (show b + 1 < 2 ^ 31 by omega), rd_0 (a := x + 1) (i := 2) (by decide), vL 0 2 (by decide)]
    obtain ⟨iv, hiv, eiv⟩ := id hRR.2.2
    refine t_bringBack hps hpv l1 (by omega) (fun J hJ hJV hJF => ?_)
    have hJ19 : mm_rd (mm_uI J (x + 1) 2 (L 0 2)) (x + 19) 1 = nI b := by rw [rd_F (mu_n (by omega))]; exact hJV.1.2
    simp only [mm_pu_n, e64_32, e64_33, e64_36, e64_37, e64_40, e64_41, e64_44, e64_47, mm_pu_n, mm_pu_s, va_rf_s, mm_w8_0, mm_w8_1, mm_w8_2, mm_w8_3, mm_w8_4, mm_c1_n, mm_c1_i, mm_c1_a, mm_ct_a, mm_ct_i, true_and, and_true, and_self, eq_self, if_true, if_false, ite_true, ite_false, bI_t, bI_z, bI_nz, bI_01, true_or, or_true, reduceCtorEq, false_or, or_false, decide_eq_false_iff_not, decide_eq_true_eq, ite_not, x0, x1, x2, x3, x4, x5, x6, x7, x8, l1.s0, l1.p6, l1.p7, l1.p8, l1.p9, l1.p10, l1.p11, l1.p12, l1.p13, l1.i1, l1.i2, l1.i3, l1.i4, l1.i5, l1.i6, l1.i7, l1.i8, hps.1, hJ19]
    generalize hJ1 : mm_uI J (x + 1) 2 (L 0 2) = J1
    have o1 : ∀ q, ¬ (x + 1 ≤ q ∧ q < x + 93) → J1 q = I q := fun q hq => by rw [← hJ1, mu_n (by omega)]; exact hJF q (by omega) (by omega)
    have b39' : mm_rd J1 (m + 5) 39 = nI (b + 1) := by rw [rd_F (o1 _ (by omega))]; exact b39
    have b39'' : mm_rd (mm_uI J1 (m + 5) 39 (nI b)) (m + 5) 39 = nI b := rd_u
    have ek : (40 : Int32) + 26 * nI b = nI (40 + 26 * b) := by
      rw [show (26 : Int32) = nI 26 from by decide, show (40 : Int32) = nI 40 from by decide, pk_mul, nI_add]
    simp only [e134_0, e134_1, e134_4, e134_6, e134_7, e134_10, e134_12, e134_13, e134_14, e134_17, e134_19, e134_20, e134_21, e134_22, e134_23, e134_24, e134_25, e134_28, e134_30, e134_32, e134_33, e134_36, e134_38, e134_39, e134_40, e134_41, e134_42, e134_45, e134_46, e134_48, mm_pu_n, mm_pu_s, va_rf_s, mm_w8_0, mm_w8_1, mm_w8_2, mm_w8_3, mm_w8_4, mm_c1_n, mm_c1_i, mm_c1_a, mm_ct_a, mm_ct_i, true_and, and_true, and_self, eq_self, if_true, if_false, ite_true, ite_false, bI_t, bI_z, bI_nz, bI_01, true_or, or_true, reduceCtorEq, false_or, or_false, decide_eq_false_iff_not, decide_eq_true_eq, ite_not, hml.s0, hml.p7, hml.i5, c39, d39, b39', nI_ne0 (show 0 < b + 1 by omega) (show b + 1 < 2 ^ 31 by omega), nI_pred, b39'', ek]
    rw [show (some (Value.int 0) : Option Value) = some (.int (nI 0)) from rfl, show (some (Value.int 26) : Option Value) = some (.int (nI 26)) from rfl]
    refine u_bring hml.i5 hml.i5 (by decide) (by decide) (by omega) (by decide) (by omega) (fun K hKo hKv => ?_)
    have k39 : mm_rd K (m + 5) 39 = nI b := by unfold mm_rd; rw [hKv, if_neg (by omega)]; exact b39''
    simp only [mm_pu_n, e134_51, e134_52, e134_55, e134_57, e134_58, mm_pu_n, mm_pu_s, va_rf_s, mm_w8_0, mm_w8_1, mm_w8_2, mm_w8_3, mm_w8_4, mm_c1_n, mm_c1_i, mm_c1_a, mm_ct_a, mm_ct_i, true_and, and_true, and_self, eq_self, if_true, if_false, ite_true, ite_false, bI_t, bI_z, bI_nz, bI_01, true_or, or_true, reduceCtorEq, false_or, or_false, decide_eq_false_iff_not, decide_eq_true_eq, ite_not, hml.s0, hml.p7, hml.i5, c39, d39, k39]
    have hBb : dl (vc I (x + 19 + 2 + 9 * sg b)) = B b := hpv.2 b (by omega)
    have hbb := hbk b (by omega)
    have hgd1 : gd (mm_uI (B b) 0 2 (L 0 2)) b B n ng := by
      refine ⟨gl_0 hbb.1 (Or.inl rfl) (fun _ => ⟨iv, hiv, eiv⟩) (fun z => absurd z (by decide)), fun k hk => ⟨(hbk k (by omega)).1, fun i => ?_⟩⟩
      rw [mu_n (by decide), mu_n (by decide), (hbb.2 i).1, (hbb.2 i).2]
      exact (hbk k (by omega)).2 i
    have hsm2 : ag (wc n ng) (mm_uI (B b) 0 2 (L 0 2)) (dl (vr K (m + 5) m)) := by
      intro q i hq
      have c : q < 7 := by unfold wc at hq; omega
      rw [dl_at c]
      symm
      by_cases d : i < wd q
      · rw [vr_pos c d, hKv]
        have hcl := ps_26 c d
        by_cases z : ps q i < 26
        · rw [if_pos ⟨Nat.zero_le _, by omega⟩, show 40 + 26 * b + (ps q i - 0) = 40 + 26 * b + ps q i by omega, mu_j (by omega), o1 _ (by omega), hB.2 b (by omega) q c i d z, ← hsB b (by omega) q i hq]
          by_cases q0 : q = 0
          · subst q0
            rw [mu_j (by omega)]
          · rw [mu_n q0]
        · rw [if_neg (by omega), mu_j (by have := ps_lt c d; omega), o1 _ (by omega), show I (m + 5) (ps q i) = L q i by rw [hsm q i hq, ← vR q i c, vr_pos c d]]
          by_cases q0 : q = 0
          · subst q0
            have : i = 0 ∨ i = 1 ∨ i = 2 := by omega
            rcases this with rfl | rfl | rfl
            · rw [mu_j (by decide), e0, hbb.1.1.1.2]
            · rw [mu_j (by decide), e1, hbb.1.1.2.1.2]
            · rw [mu_s]
          · rw [mu_n q0]
            have : q = 4 ∨ q = 5 := by omega
            rcases this with rfl | rfl
            · exact (hbb.2 i).1.symm
            · exact (hbb.2 i).2.symm
      · rw [show vr K (m + 5) m q i = 0 by unfold vr; rw [if_neg (fun z => d z.2)]]
        have hb0 : B b q i = 0 := by rw [← hBb, dl_at c, vc_out (fun z => d z.2)]
        by_cases q0 : q = 0
        · subst q0
          rw [mu_j (by intro z; subst z; exact d (by decide))]; exact hb0.symm
        · rw [mu_n q0]; exact hb0.symm
    have k45 : ∀ q, q = 4 ∨ q = 5 → ∀ i, dl (vr K (m + 5) m) q i = Lr q i := by
      intro q hq i
      have c : q < 7 := by omega
      rw [dl_at c, ← vR q i c]
      by_cases d : i < wd q
      · have hcl := ps_26 c d
        rw [vr_pos c d, vr_pos c d, hKv, if_neg (by omega), mu_j (by have := ps_lt c d; omega), o1 _ (by omega)]
      · unfold vr
        rw [if_neg (fun z => d z.2), if_neg (fun z => d z.2)]
    refine fi_i _ (ALL_mk (sg := sg) (L := mm_uI (B b) 0 2 (L 0 2)) (bn := b) (B := B) (Lr := dl (vr K (m + 5) m)) (Br := Br) (I1 := J1) (n := n) (ng := ng) h hS rfl ⟨hps, ?_, ⟨⟨hJV.1.1, ?_⟩, fun k hk => ?_⟩⟩ o1 ⟨rfl, ⟨⟨by omega, k39⟩, fun k hk q hq i hi hp => ?_⟩⟩ (fun q z1 _ _ => by rw [hKo q z1, mu_n z1]) ⟨hgd1, ⟨gl_sm hgd1.1 hsm2, fun k hk => ⟨(hbk' k (by omega)).1, fun i => ?_⟩⟩, hsm2, fun k hk => hsB k (by omega)⟩) rfl rfl
    · rw [← hJ1, vc_u0 (by decide), dl_u (by decide), hJ]
    · rw [← hJ1, rd_F (mu_n (by omega))]; exact hJV.1.2
    · have l2 := (hps.2.2.2.2.1 k (by omega)).1
      rw [← hJ1, vc_p (by omega)]
      exact hJV.2 k hk
    · have := ps_lt hq hi
      rw [hKv, if_neg (by omega), mu_j (by omega), o1 _ (by omega)]
      exact hB.2 k (by omega) q hq i hi hp
    · rw [k45 4 (Or.inl rfl), k45 5 (Or.inr rfl)]
      exact (hbk' k (by omega)).2 i
end
