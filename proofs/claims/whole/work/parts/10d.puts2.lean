section
variable {r : mm_R} {I : mm_I} {x m : Nat} {Q : Option Value → mm_I → mm_R → Prop}
theorem a_hog (h : ALL I r x m) (k g p : Int32) : pr 51 102 [some (.ref x), some (.int k), some (.int g), some (.int p)] [some (.ref m), some (.int k), some (.int g), some (.int p)] I r x m := by
  obtain ⟨hS, ⟨sg, L, bn, B, n, ng, Lr, Br, hg⟩, hG2, hG3, hG4⟩ := id h
  obtain ⟨hm, hx, ⟨l1, l2, l3, l4⟩, hip, hpt, htp, hsh, hml⟩ := id hS
  obtain ⟨x0, x1, x2, x3, x4, x5, x6, x7, x8⟩ := id hx
  obtain ⟨⟨hps, hL, hpv⟩, ⟨hR, hB⟩, ⟨⟨⟨hG, hRR, hdr, hnt⟩, hbk⟩, ⟨⟨hG', hRR', hdr', hnt'⟩, hbk'⟩, hsm, hsB⟩⟩ := id hg
  have hLL : dl L = L := by rw [← hL]; exact dl_dl _
  have hLr : dl Lr = Lr := by rw [← hR]; exact dl_dl _
  have hs6 := s_6 hsm hLL hLr
  have vL : ∀ q i, q < 7 → vc I (x + 1) q i = L q i := fun q i hq => by rw [← hL, dl_at hq]
  have vR : ∀ q i, q < 7 → vr I (m + 5) m q i = Lr q i := fun q i hq => by rw [← hR, dl_at hq]
  have vRh : ∀ {k : Nat}, k < n → ∀ q, 1 ≤ q ∧ q ≤ 3 → vr I (m + 5) m q k = L q k := fun hk q hq => (vR q _ (by omega)).trans (hsm q _ (wc_h hq hk)).symm
  have vRg : ∀ {k : Nat}, k < ng → ∀ q, 4 ≤ q ∧ q ≤ 6 → vr I (m + 5) m q k = L q k := fun hk q hq => (vR q _ (by omega)).trans (hsm q _ (wc_g hq hk)).symm
  obtain ⟨⟨hn, e0⟩, ⟨hng, e1⟩, hpl⟩ := id hG
  have f0 : vc I (x + 1) 0 0 = nI n := by rw [vL 0 0 (by decide)]; exact e0
  have f1 : vc I (x + 1) 0 1 = nI ng := by rw [vL 0 1 (by decide)]; exact e1
  have g0 : vr I (m + 5) m 0 0 = nI n := by rw [vR 0 0 (by decide)]; exact hG'.1.2
  have g1 : vr I (m + 5) m 0 1 = nI ng := by rw [vR 0 1 (by decide)]; exact hG'.2.1.2
  unfold pr
  have c39 : vp_in (39 : Int32) 248 := c27.2.2.2.2.2.2
  have d39 : (39 : Int32).toNatClampNeg = 39 := d27.2.2.2.2.2.2
  cases hk1 : wth k 0 4 with
  | false =>
    simp only [e51_0, e51_1, e51_2, e51_3, e51_6, e51_9, e51_10, e51_11, e51_13, e51_16, e51_19, e51_20, e51_23, e51_24, e51_27, e51_30, e51_31, e51_32, e51_33, e51_36, e51_39, e51_40, e51_43, e51_45, e51_46, e51_47, e51_50, e51_53, e51_54, e51_57, e51_58, e51_59, e51_60, e51_63, e102_0, e102_1, e102_2, e102_3, e102_6, e102_9, e102_10, e102_11, e102_13, e102_16, e102_19, e102_20, e102_21, e102_24, e102_27, e102_28, e102_29, e102_30, e102_33, e102_35, e102_36, e102_37, e102_40, e102_42, e102_43, e102_44, e102_47, e102_49, e102_50, e102_51, e102_52, e102_55, e102_56, e102_57, e102_58, e102_61, mm_pu_n, mm_pu_s, va_rf_s, mm_w8_0, mm_w8_1, mm_w8_2, mm_w8_3, mm_w8_4, mm_c1_n, mm_c1_i, mm_c1_a, mm_ct_a, mm_ct_i, true_and, and_true, and_self, eq_self, if_true, if_false, ite_true, ite_false, bI_t, bI_z, bI_nz, bI_01, true_or, or_true, reduceCtorEq, false_or, or_false, decide_eq_false_iff_not, decide_eq_true_eq, ite_not, t_within, u_inw, hk1, Bool.false_eq_true]
    exact fi_i _ h rfl rfl
  | true =>
    cases hk2 : wth g 1 9 with
    | false =>
      simp only [e51_0, e51_1, e51_2, e51_3, e51_6, e51_9, e51_10, e51_11, e51_13, e51_16, e51_19, e51_20, e51_23, e51_24, e51_27, e51_30, e51_31, e51_32, e51_33, e51_36, e51_39, e51_40, e51_43, e51_45, e51_46, e51_47, e51_50, e51_53, e51_54, e51_57, e51_58, e51_59, e51_60, e51_63, e102_0, e102_1, e102_2, e102_3, e102_6, e102_9, e102_10, e102_11, e102_13, e102_16, e102_19, e102_20, e102_21, e102_24, e102_27, e102_28, e102_29, e102_30, e102_33, e102_35, e102_36, e102_37, e102_40, e102_42, e102_43, e102_44, e102_47, e102_49, e102_50, e102_51, e102_52, e102_55, e102_56, e102_57, e102_58, e102_61, mm_pu_n, mm_pu_s, va_rf_s, mm_w8_0, mm_w8_1, mm_w8_2, mm_w8_3, mm_w8_4, mm_c1_n, mm_c1_i, mm_c1_a, mm_ct_a, mm_ct_i, true_and, and_true, and_self, eq_self, if_true, if_false, ite_true, ite_false, bI_t, bI_z, bI_nz, bI_01, true_or, or_true, reduceCtorEq, false_or, or_false, decide_eq_false_iff_not, decide_eq_true_eq, ite_not, t_within, u_inw, hk1, hk2, Bool.true_eq_false]
      exact fi_i _ h rfl rfl
    | true =>
      cases hk3 : okh p n with
      | false =>
        simp only [e51_0, e51_1, e51_2, e51_3, e51_6, e51_9, e51_10, e51_11, e51_13, e51_16, e51_19, e51_20, e51_23, e51_24, e51_27, e51_30, e51_31, e51_32, e51_33, e51_36, e51_39, e51_40, e51_43, e51_45, e51_46, e51_47, e51_50, e51_53, e51_54, e51_57, e51_58, e51_59, e51_60, e51_63, e102_0, e102_1, e102_2, e102_3, e102_6, e102_9, e102_10, e102_11, e102_13, e102_16, e102_19, e102_20, e102_21, e102_24, e102_27, e102_28, e102_29, e102_30, e102_33, e102_35, e102_36, e102_37, e102_40, e102_42, e102_43, e102_44, e102_47, e102_49, e102_50, e102_51, e102_52, e102_55, e102_56, e102_57, e102_58, e102_61, mm_pu_n, mm_pu_s, va_rf_s, mm_w8_0, mm_w8_1, mm_w8_2, mm_w8_3, mm_w8_4, mm_c1_n, mm_c1_i, mm_c1_a, mm_ct_a, mm_ct_i, true_and, and_true, and_self, eq_self, if_true, if_false, ite_true, ite_false, bI_t, bI_z, bI_nz, bI_01, true_or, or_true, reduceCtorEq, false_or, or_false, decide_eq_false_iff_not, decide_eq_true_eq, ite_not, x0, x1, x2, x3, x4, x5, x6, x7, x8, l1.s0, l1.p6, l1.p7, l1.p8, l1.p9, l1.p10, l1.p11, l1.p12, l1.p13, l1.i1, l1.i2, l1.i3, l1.i4, l1.i5, l1.i6, l1.i7, l1.i8, hml.s0, hml.p7, hml.i5, t_within, u_inw, t_hasH l1 f0, u_isHouse hml hn g0, hk1, hk2, hk3, Bool.true_eq_false]
        exact fi_i _ h rfl rfl
      | true =>
        obtain ⟨k', -, hk, rfl⟩ := wth_of hk1 (a := 0) (b := 4) (by decide) (by decide) (by decide) (by decide)
        obtain ⟨g', -, hg', rfl⟩ := wth_of hk2 (a := 1) (b := 9) (by decide) (by decide) (by decide) (by decide)
        obtain ⟨p', hp, rfl⟩ := okh_of hk3 hn
        simp only [e51_0, e51_1, e51_2, e51_3, e51_6, e51_9, e51_10, e51_11, e51_13, e51_16, e51_19, e51_20, e51_23, e51_24, e51_27, e51_30, e51_31, e51_32, e51_33, e51_36, e51_39, e51_40, e51_43, e51_45, e51_46, e51_47, e51_50, e51_53, e51_54, e51_57, e51_58, e51_59, e51_60, e51_63, mm_pu_n, mm_pu_s, va_rf_s, mm_w8_0, mm_w8_1, mm_w8_2, mm_w8_3, mm_w8_4, mm_c1_n, mm_c1_i, mm_c1_a, mm_ct_a, mm_ct_i, true_and, and_true, and_self, eq_self, if_true, if_false, ite_true, ite_false, bI_t, bI_z, bI_nz, bI_01, true_or, or_true, reduceCtorEq, false_or, or_false, decide_eq_false_iff_not, decide_eq_true_eq, ite_not, x0, x1, x2, x3, x4, x5, x6, x7, x8, l1.s0, l1.p6, l1.p7, l1.p8, l1.p9, l1.p10, l1.p11, l1.p12, l1.p13, l1.i1, l1.i2, l1.i3, l1.i4, l1.i5, l1.i6, l1.i7, l1.i8, t_within, t_hasH l1 f0, hk1, hk2, hk3, Bool.true_eq_false, rd_0 (a := x + 1) (i := 1) (by decide), f1]
        by_cases c : ng = 5
        · subst c
          rw [if_neg (by decide)]
          simp only [e102_0, e102_1, e102_2, e102_3, e102_6, e102_9, e102_10, e102_11, e102_13, e102_16, e102_19, e102_20, e102_21, e102_24, e102_27, e102_28, e102_29, e102_30, e102_33, e102_35, e102_36, e102_37, e102_40, e102_42, e102_43, e102_44, e102_47, e102_49, e102_50, e102_51, e102_52, e102_55, e102_56, e102_57, e102_58, e102_61, mm_pu_n, mm_pu_s, va_rf_s, mm_w8_0, mm_w8_1, mm_w8_2, mm_w8_3, mm_w8_4, mm_c1_n, mm_c1_i, mm_c1_a, mm_ct_a, mm_ct_i, true_and, and_true, and_self, eq_self, if_true, if_false, ite_true, ite_false, bI_t, bI_z, bI_nz, bI_01, true_or, or_true, reduceCtorEq, false_or, or_false, decide_eq_false_iff_not, decide_eq_true_eq, ite_not, hml.s0, hml.p7, hml.i5, u_inw, u_isHouse hml hn g0, hk1, hk2, hk3, Bool.true_eq_false, c27.2.1, d27.2.1, r28 m, g1, show (nI 5 = (5 : Int32)) = True from eq_true (by decide)]
          exact fi_i _ h rfl rfl
        · have hn5 : ng < 5 := by omega
          rw [if_pos (by rw [show (5 : Int32) = nI 5 from by decide]; exact nI_lt hn5 (by decide))]
          simp only [hps.1, t_forget hps.1, e51_53, e51_54, e51_57, e51_58, e51_59, e51_60, mm_pu_n, mm_pu_s, va_rf_s, mm_w8_0, mm_w8_1, mm_w8_2, mm_w8_3, mm_w8_4, mm_c1_n, mm_c1_i, mm_c1_a, mm_ct_a, mm_ct_i, true_and, and_true, and_self, eq_self, if_true, if_false, ite_true, ite_false, bI_t, bI_z, bI_nz, bI_01, true_or, or_true, reduceCtorEq, false_or, or_false, decide_eq_false_iff_not, decide_eq_true_eq, ite_not, x0, x1, x2, x3, x4, x5, x6, x7, x8, l1.s0, l1.p6, l1.p7, l1.p8, l1.p9, l1.p10, l1.p11, l1.p12, l1.p13, l1.i1, l1.i2, l1.i3, l1.i4, l1.i5, l1.i6, l1.i7, l1.i8]
          have f1' : vc (mm_uI I (x + 19) 1 0) (x + 1) 0 1 = nI ng := by rw [vc_p (by omega)]; exact f1
          refine t_addHog l1 hn5 f1' (nI k') (nI g') (nI p') (fun J hJ hF => ?_)
          have hJF : ∀ q, ¬ (x + 1 ≤ q ∧ q < x + 93) → J q = I q := fun q hq => by rw [hF q (by omega), mu_n (by omega)]
          have gJ : vr J (m + 5) m 0 0 = nI n := by rw [vr_q (I := I) (by decide) (fun j _ => by rw [hJF _ (by omega)])]; exact g0
          have gJ1 : vr J (m + 5) m 0 1 = nI ng := by rw [vr_q (I := I) (by decide) (fun j _ => by rw [hJF _ (by omega)])]; exact g1
          simp only [mm_pu_s, e51_63]
          simp only [e102_0, e102_1, e102_2, e102_3, e102_6, e102_9, e102_10, e102_11, e102_13, e102_16, e102_19, e102_20, e102_21, e102_24, e102_27, e102_28, e102_29, e102_30, e102_33, e102_35, e102_36, e102_37, e102_40, e102_42, e102_43, e102_44, e102_47, e102_49, e102_50, e102_51, e102_52, e102_55, e102_56, e102_57, e102_58, mm_pu_n, mm_pu_s, va_rf_s, mm_w8_0, mm_w8_1, mm_w8_2, mm_w8_3, mm_w8_4, mm_c1_n, mm_c1_i, mm_c1_a, mm_ct_a, mm_ct_i, true_and, and_true, and_self, eq_self, if_true, if_false, ite_true, ite_false, bI_t, bI_z, bI_nz, bI_01, true_or, or_true, reduceCtorEq, false_or, or_false, decide_eq_false_iff_not, decide_eq_true_eq, ite_not, hml.s0, hml.p7, hml.i5, u_inw, u_isHouse hml hn gJ, hk1, hk2, hk3, Bool.true_eq_false, c27.2.1, d27.2.1, r28 m, gJ1, c39, d39, show (nI ng = (5 : Int32)) = False from eq_false (by rw [show (5 : Int32) = nI 5 from by decide, nI_eq (by omega) (by decide)]; exact c)]
          have gJ' : vr (mm_uI J (m + 5) 39 0) (m + 5) m 0 1 = nI ng := by rw [vr_q (I := J) (by decide) (fun j hj => by rw [mu_j (by omega)])]; exact gJ1
          refine u_addHog (m := m) hml.i5 ⟨by omega, by omega⟩ hn5 gJ' (nI k') (nI g') (nI p') (fun K hK hKo hK39 => ?_)
          simp only [mm_pu_s, e102_61]
          refine fi_i _ (ALL_mk (sg := sg) (L := p_adg L ng (nI k') (nI g') (nI p')) (bn := 0) (B := B) (Lr := p_adg Lr ng (nI k') (nI g') (nI p')) (Br := Br) (I1 := J) h hS rfl ⟨hps, ?_, ⟨⟨by decide, ?_⟩, fun k hk => absurd hk (by omega)⟩⟩ hJF ⟨?_, ⟨⟨by decide, ?_⟩, fun k hk => absurd hk (by omega)⟩⟩ (fun q z1 _ _ => by rw [hKo q z1, mu_n z1]) ⟨adg_gd ⟨hG, hRR, hdr, hnt⟩ hn5 hk hg' hp, adg_gd ⟨hG', hRR', hdr', hnt'⟩ hn5 hk hg' hp, s_adg hsm _ _ _, fun k hk => absurd hk (by omega)⟩) rfl rfl
          · rw [hJ, dl_adg, vc_p (by omega), hL]
          · rw [rd_F (hF _ (by omega))]; exact rd_u
          · rw [hK, dl_adg]
            congr 1
            rw [← hR]
            exact vr_row (fun i hi => by rw [mu_j (by omega), hJF _ (by omega)])
          · rw [hK39 39 (by decide), mu_s]; rfl
/-- row 0 changed at one place that is no count: the ranges stay if the new one is in range -/
theorem gl_0 {L : mm_I} {n ng i : Nat} {y : Int32} (h : gl L n ng) (hi : i = 2 ∨ i = 5) (h2 : i = 2 → ∃ v, v ≤ 20 ∧ y = nI v) (h5 : i = 5 → ∃ d, d < 2 ^ 31 ∧ y = nI d) : gl (mm_uI L 0 i y) n ng := by
  obtain ⟨⟨⟨a1, a2⟩, ⟨a3, a4⟩, a5⟩, ⟨b1, b2, b3⟩, c1, d1⟩ := h
  have n0 : 0 ≠ i := by rcases hi with rfl | rfl <;> decide
  have n1 : 1 ≠ i := by rcases hi with rfl | rfl <;> decide
  have n3 : 3 ≠ i := by rcases hi with rfl | rfl <;> decide
  refine ⟨⟨⟨a1, by rw [mu_j n0]; exact a2⟩, ⟨a3, by rw [mu_j n1]; exact a4⟩, fun g hg => by rw [mu_n (by decide)]; exact a5 g hg⟩, ⟨fun q hq => by rw [mu_n (by decide), mu_n (by decide), mu_n (by decide)]; exact b1 q hq, fun g hg => by rw [mu_n (by decide), mu_n (by decide)]; exact b2 g hg, ?_⟩, ?_, by rw [mu_j n3]; exact d1⟩
  · rcases hi with rfl | rfl
    · obtain ⟨v, hv, e⟩ := h2 rfl
      exact ⟨v, hv, by rw [mu_s]; exact e⟩
    · rw [mu_j (by decide)]; exact b3
  · rcases hi with rfl | rfl
    · rw [mu_j (by decide)]; exact c1
    · obtain ⟨d, hd, e⟩ := h5 rfl
      exact ⟨d, hd, by rw [mu_s]; exact e⟩
/-- one place of row 0 is told anew on both sides -/
theorem ALL_0 {i : Nat} {y : Int32} (h : ALL I r x m) (hi : i = 2 ∨ i = 5) (h2 : i = 2 → ∃ v, v ≤ 20 ∧ y = nI v) (h5 : i = 5 → ∃ d, d < 2 ^ 31 ∧ y = nI d) : ALL (mm_uI (mm_uI I (x + 1) i y) (m + 5) (ps 0 i) y) r x m := by
  obtain ⟨hS, ⟨sg, L, bn, B, n, ng, Lr, Br, hg⟩, hG2, hG3, hG4⟩ := id h
  obtain ⟨hm, hx, ⟨l1, l2, l3, l4⟩, hip, hpt, htp, hsh, hml⟩ := id hS
  obtain ⟨x0, x1, x2, x3, x4, x5, x6, x7, x8⟩ := id hx
  obtain ⟨⟨hps, hL, hpv⟩, ⟨hR, hB⟩, ⟨⟨⟨hG, hRR, hdr, hnt⟩, hbk⟩, ⟨⟨hG', hRR', hdr', hnt'⟩, hbk'⟩, hsm, hsB⟩⟩ := id hg
  have hLL : dl L = L := by rw [← hL]; exact dl_dl _
  have hLr : dl Lr = Lr := by rw [← hR]; exact dl_dl _
  have hs6 := s_6 hsm hLL hLr
  have vL : ∀ q i, q < 7 → vc I (x + 1) q i = L q i := fun q i hq => by rw [← hL, dl_at hq]
  have vR : ∀ q i, q < 7 → vr I (m + 5) m q i = Lr q i := fun q i hq => by rw [← hR, dl_at hq]
  have vRh : ∀ {k : Nat}, k < n → ∀ q, 1 ≤ q ∧ q ≤ 3 → vr I (m + 5) m q k = L q k := fun hk q hq => (vR q _ (by omega)).trans (hsm q _ (wc_h hq hk)).symm
  have vRg : ∀ {k : Nat}, k < ng → ∀ q, 4 ≤ q ∧ q ≤ 6 → vr I (m + 5) m q k = L q k := fun hk q hq => (vR q _ (by omega)).trans (hsm q _ (wc_g hq hk)).symm
  obtain ⟨⟨hn, e0⟩, ⟨hng, e1⟩, hpl⟩ := id hG
  have f0 : vc I (x + 1) 0 0 = nI n := by rw [vL 0 0 (by decide)]; exact e0
  have f1 : vc I (x + 1) 0 1 = nI ng := by rw [vL 0 1 (by decide)]; exact e1
  have g0 : vr I (m + 5) m 0 0 = nI n := by rw [vR 0 0 (by decide)]; exact hG'.1.2
  have g1 : vr I (m + 5) m 0 1 = nI ng := by rw [vR 0 1 (by decide)]; exact hG'.2.1.2
  have i6 : i < 6 := by rcases hi with rfl | rfl <;> decide
  have hp26 : ps 0 i < 39 := ps_lt (by decide) (by rcases hi with rfl | rfl <;> decide)
  refine ALL_mk (sg := sg) (L := mm_uI L 0 i y) (bn := bn) (B := B) (Lr := mm_uI Lr 0 i y) (Br := Br) (I1 := mm_uI I (x + 1) i y) (n := n) (ng := ng) h hS rfl ⟨hps, ?_, ⟨⟨hpv.1.1, ?_⟩, fun k hk => ?_⟩⟩ (fun q hq => by rw [mu_n (by omega)]) ⟨?_, ?_⟩ (fun q z1 _ _ => by rw [mu_n z1]) ⟨⟨gl_0 ⟨hG, hRR, hdr, hnt⟩ hi h2 h5, fun k hk => ⟨(hbk k hk).1, fun i => by rw [mu_n (by decide), mu_n (by decide)]; exact (hbk k hk).2 i⟩⟩, ⟨gl_0 ⟨hG', hRR', hdr', hnt'⟩ hi h2 h5, fun k hk => ⟨(hbk' k hk).1, fun i => by rw [mu_n (by decide), mu_n (by decide)]; exact (hbk' k hk).2 i⟩⟩, hsm.u 0 i rfl, hsB⟩
  · rw [vc_u0 i6, dl_u (by decide), hL]
  · rw [rd_F (mu_n (by omega))]; exact hpv.1.2
  · have := hpv.1.1
    have l2 := (hps.2.2.2.2.1 k (by omega)).1
    rw [vc_p (by omega)]
    exact hpv.2 k hk
  · rw [vr_u (k := 0) ⟨by omega, by omega⟩ ⟨by decide, by rcases hi with rfl | rfl <;> decide⟩, dl_u (by decide)]
    congr 1
    rw [← hR]
    exact vr_row (fun i hi => by rw [mu_n (by omega)])
  · exact ml_B_keep hB (fun i h1 h2 => by rw [mu_j (by omega), mu_n (by omega)])
theorem a_interest (h : ALL I r x m) (v : Int32) : pr 52 103 [some (.ref x), some (.int v), none] [some (.ref m), some (.int v), none] I r x m := by
  obtain ⟨hS, ⟨sg, L, bn, B, n, ng, Lr, Br, hg⟩, hG2, hG3, hG4⟩ := id h
  obtain ⟨hm, hx, ⟨l1, l2, l3, l4⟩, hip, hpt, htp, hsh, hml⟩ := id hS
  obtain ⟨x0, x1, x2, x3, x4, x5, x6, x7, x8⟩ := id hx
  obtain ⟨⟨hps, hL, hpv⟩, ⟨hR, hB⟩, ⟨⟨⟨hG, hRR, hdr, hnt⟩, hbk⟩, ⟨⟨hG', hRR', hdr', hnt'⟩, hbk'⟩, hsm, hsB⟩⟩ := id hg
  have hLL : dl L = L := by rw [← hL]; exact dl_dl _
  have hLr : dl Lr = Lr := by rw [← hR]; exact dl_dl _
  have hs6 := s_6 hsm hLL hLr
  have vL : ∀ q i, q < 7 → vc I (x + 1) q i = L q i := fun q i hq => by rw [← hL, dl_at hq]
  have vR : ∀ q i, q < 7 → vr I (m + 5) m q i = Lr q i := fun q i hq => by rw [← hR, dl_at hq]
  have vRh : ∀ {k : Nat}, k < n → ∀ q, 1 ≤ q ∧ q ≤ 3 → vr I (m + 5) m q k = L q k := fun hk q hq => (vR q _ (by omega)).trans (hsm q _ (wc_h hq hk)).symm
  have vRg : ∀ {k : Nat}, k < ng → ∀ q, 4 ≤ q ∧ q ≤ 6 → vr I (m + 5) m q k = L q k := fun hk q hq => (vR q _ (by omega)).trans (hsm q _ (wc_g hq hk)).symm
  obtain ⟨⟨hn, e0⟩, ⟨hng, e1⟩, hpl⟩ := id hG
  have f0 : vc I (x + 1) 0 0 = nI n := by rw [vL 0 0 (by decide)]; exact e0
  have f1 : vc I (x + 1) 0 1 = nI ng := by rw [vL 0 1 (by decide)]; exact e1
  have g0 : vr I (m + 5) m 0 0 = nI n := by rw [vR 0 0 (by decide)]; exact hG'.1.2
  have g1 : vr I (m + 5) m 0 1 = nI ng := by rw [vR 0 1 (by decide)]; exact hG'.2.1.2
  unfold pr
  cases hk : wth v 0 20 with
  | false =>
    simp only [e52_0, e52_1, e52_2, e52_4, e52_7, e52_10, e52_11, e52_12, e52_13, e52_16, e52_19, e52_20, e52_21, e52_24, e52_25, e52_28, e52_29, e103_0, e103_1, e103_2, e103_4, e103_7, e103_10, e103_11, e103_12, e103_13, e103_16, e103_18, e103_19, e103_20, e103_21, e103_24, e103_26, e103_27, e103_28, e103_29, mm_pu_n, mm_pu_s, va_rf_s, mm_w8_0, mm_w8_1, mm_w8_2, mm_w8_3, mm_w8_4, mm_c1_n, mm_c1_i, mm_c1_a, mm_ct_a, mm_ct_i, true_and, and_true, and_self, eq_self, if_true, if_false, ite_true, ite_false, bI_t, bI_z, bI_nz, bI_01, true_or, or_true, reduceCtorEq, false_or, or_false, decide_eq_false_iff_not, decide_eq_true_eq, ite_not, t_within, u_inw, hk, Bool.false_eq_true]
    exact fi_i _ h rfl rfl
  | true =>
    obtain ⟨v', -, hv, rfl⟩ := wth_of hk (a := 0) (b := 20) (by decide) (by decide) (by decide) (by decide)
    have e2 : ∀ (N : mm_I) (y : Int32), mm_rd (mm_uI N (x + 1) 2 y) (m + 5) 26 = mm_rd N (m + 5) 26 := fun N y => rd_F (mu_n (by omega))
    simp only [e52_0, e52_1, e52_2, e52_4, e52_7, e52_10, e52_11, e52_12, e52_13, e52_16, e52_19, e52_20, e52_21, e52_24, e52_25, e52_28, e52_29, e103_0, e103_1, e103_2, e103_4, e103_7, e103_10, e103_11, e103_12, e103_13, e103_16, e103_18, e103_19, e103_20, e103_21, e103_24, e103_26, e103_27, e103_28, e103_29, mm_pu_n, mm_pu_s, va_rf_s, mm_w8_0, mm_w8_1, mm_w8_2, mm_w8_3, mm_w8_4, mm_c1_n, mm_c1_i, mm_c1_a, mm_ct_a, mm_ct_i, true_and, and_true, and_self, eq_self, if_true, if_false, ite_true, ite_false, bI_t, bI_z, bI_nz, bI_01, true_or, or_true, reduceCtorEq, false_or, or_false, decide_eq_false_iff_not, decide_eq_true_eq, ite_not, x0, x1, x2, x3, x4, x5, x6, x7, x8, l1.s0, l1.p6, l1.p7, l1.p8, l1.p9, l1.p10, l1.p11, l1.p12, l1.p13, l1.i1, l1.i2, l1.i3, l1.i4, l1.i5, l1.i6, l1.i7, l1.i8, hml.s0, hml.p7, hml.i5, t_within, u_inw, hk, Bool.true_eq_false, rd_0 (a := x + 1) (i := 2) (by decide), vL 0 2 (by decide), c27.2.2.1, d27.2.2.1, e2, r26 m, vR 0 2 (by decide), hsm 0 2 wc_0]
    exact fi_i _ (ALL_0 (i := 2) h (Or.inl rfl) (fun _ => ⟨v', hv, rfl⟩) (fun z => absurd z (by decide))) rfl rfl
theorem a_seed (h : ALL I r x m) (v : Int32) : pr 65 135 [some (.ref x), some (.int v), none] [some (.ref m), some (.int v), none] I r x m := by
  obtain ⟨hS, ⟨sg, L, bn, B, n, ng, Lr, Br, hg⟩, hG2, hG3, hG4⟩ := id h
  obtain ⟨hm, hx, ⟨l1, l2, l3, l4⟩, hip, hpt, htp, hsh, hml⟩ := id hS
  obtain ⟨x0, x1, x2, x3, x4, x5, x6, x7, x8⟩ := id hx
  obtain ⟨⟨hps, hL, hpv⟩, ⟨hR, hB⟩, ⟨⟨⟨hG, hRR, hdr, hnt⟩, hbk⟩, ⟨⟨hG', hRR', hdr', hnt'⟩, hbk'⟩, hsm, hsB⟩⟩ := id hg
  have hLL : dl L = L := by rw [← hL]; exact dl_dl _
  have hLr : dl Lr = Lr := by rw [← hR]; exact dl_dl _
  have hs6 := s_6 hsm hLL hLr
  have vL : ∀ q i, q < 7 → vc I (x + 1) q i = L q i := fun q i hq => by rw [← hL, dl_at hq]
  have vR : ∀ q i, q < 7 → vr I (m + 5) m q i = Lr q i := fun q i hq => by rw [← hR, dl_at hq]
  have vRh : ∀ {k : Nat}, k < n → ∀ q, 1 ≤ q ∧ q ≤ 3 → vr I (m + 5) m q k = L q k := fun hk q hq => (vR q _ (by omega)).trans (hsm q _ (wc_h hq hk)).symm
  have vRg : ∀ {k : Nat}, k < ng → ∀ q, 4 ≤ q ∧ q ≤ 6 → vr I (m + 5) m q k = L q k := fun hk q hq => (vR q _ (by omega)).trans (hsm q _ (wc_g hq hk)).symm
  obtain ⟨⟨hn, e0⟩, ⟨hng, e1⟩, hpl⟩ := id hG
  have f0 : vc I (x + 1) 0 0 = nI n := by rw [vL 0 0 (by decide)]; exact e0
  have f1 : vc I (x + 1) 0 1 = nI ng := by rw [vL 0 1 (by decide)]; exact e1
  have g0 : vr I (m + 5) m 0 0 = nI n := by rw [vR 0 0 (by decide)]; exact hG'.1.2
  have g1 : vr I (m + 5) m 0 1 = nI ng := by rw [vR 0 1 (by decide)]; exact hG'.2.1.2
  unfold pr
  by_cases hk : 0 ≤ v
  · obtain ⟨d, hd, rfl⟩ := nI_of (Int32.not_lt.mpr hk)
    have e2 : ∀ (N : mm_I) (y : Int32), mm_rd (mm_uI N (x + 1) 5 y) (m + 5) 1 = mm_rd N (m + 5) 1 := fun N y => rd_F (mu_n (by omega))
    simp only [e65_0, e65_1, e65_4, e65_5, e65_6, e65_7, e65_10, e65_13, e65_14, e65_15, e65_18, e65_19, e65_22, e65_23, e135_0, e135_1, e135_4, e135_5, e135_6, e135_7, e135_10, e135_11, e135_12, e135_13, e135_14, e135_17, e135_18, e135_19, e135_20, e135_21, mm_pu_n, mm_pu_s, va_rf_s, mm_w8_0, mm_w8_1, mm_w8_2, mm_w8_3, mm_w8_4, mm_c1_n, mm_c1_i, mm_c1_a, mm_ct_a, mm_ct_i, true_and, and_true, and_self, eq_self, if_true, if_false, ite_true, ite_false, bI_t, bI_z, bI_nz, bI_01, true_or, or_true, reduceCtorEq, false_or, or_false, decide_eq_false_iff_not, decide_eq_true_eq, ite_not, x0, x1, x2, x3, x4, x5, x6, x7, x8, l1.s0, l1.p6, l1.p7, l1.p8, l1.p9, l1.p10, l1.p11, l1.p12, l1.p13, l1.i1, l1.i2, l1.i3, l1.i4, l1.i5, l1.i6, l1.i7, l1.i8, hml.s0, hml.p7, hml.i5, hk, rd_0 (a := x + 1) (i := 5) (by decide), vL 0 5 (by decide), c27.2.2.2.2.2.1, d27.2.2.2.2.2.1, e2, r1 m, vR 0 5 (by decide), hsm 0 5 wc_0]
    exact fi_i _ (ALL_0 (i := 5) h (Or.inr rfl) (fun z => absurd z (by decide)) (fun _ => ⟨d, hd, rfl⟩)) rfl rfl
  · simp only [e65_0, e65_1, e65_4, e65_5, e65_6, e65_7, e65_10, e65_13, e65_14, e65_15, e65_18, e65_19, e65_22, e65_23, e135_0, e135_1, e135_4, e135_5, e135_6, e135_7, e135_10, e135_11, e135_12, e135_13, e135_14, e135_17, e135_18, e135_19, e135_20, e135_21, mm_pu_n, mm_pu_s, va_rf_s, mm_w8_0, mm_w8_1, mm_w8_2, mm_w8_3, mm_w8_4, mm_c1_n, mm_c1_i, mm_c1_a, mm_ct_a, mm_ct_i, true_and, and_true, and_self, eq_self, if_true, if_false, ite_true, ite_false, bI_t, bI_z, bI_nz, bI_01, true_or, or_true, reduceCtorEq, false_or, or_false, decide_eq_false_iff_not, decide_eq_true_eq, ite_not, hk]
    exact fi_i _ h rfl rfl
end
