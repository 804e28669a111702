theorem pa_V_k {I J : mm_I} {p : Nat} {r : mm_R} {sg : Nat → Nat} {bn : Nat} {B : Nat → mm_I} (h : pa_V I p sg bn B) (hs : pa_S r p sg) (hF : ∀ q, p ≤ q → q < p + 74 → J q = I q) : pa_V J p sg bn B := by
  obtain ⟨⟨a1, a2⟩, a3⟩ := h
  refine ⟨⟨a1, by rw [rd_F (hF p (by omega) (by omega))]; exact a2⟩, fun k hk => ?_⟩
  have l1 := (hs.2.2.2.2.1 k (by omega)).1
  rw [vc_eq (fun q z1 z2 => hF q (by omega) (by omega))]
  exact a3 k hk
section
variable {r : mm_R} {I : mm_I} {x m : Nat} {Q : Option Value → mm_I → mm_R → Prop}
theorem a_image (h : ALL I r x m) : pr 77 150 [some (.ref x)] [some (.ref m)] I r x m := by
  obtain ⟨hS, ⟨sg, L, bn, B, n, ng, Lr, Br, hg⟩, hG2, hG3, hG4⟩ := id h
  obtain ⟨hm, hx, ⟨l1, l2, l3, l4⟩, hip, hpt, htp, hsh, hml⟩ := id hS
  obtain ⟨x0, x1, x2, x3, x4, x5, x6, x7, x8⟩ := id hx
  obtain ⟨⟨hps, hL, hpv⟩, ⟨hR, hB⟩, ⟨⟨⟨hG, hRR, hdr, hnt⟩, hbk⟩, ⟨⟨hG', hRR', hdr', hnt'⟩, hbk'⟩, hsm, hsB⟩⟩ := id hg
  have hLL : dl L = L := by rw [← hL]; exact dl_dl _
  have hLr : dl Lr = Lr := by rw [← hR]; exact dl_dl _
  have hs6 := s_6 hsm hLL hLr
  have vL : ∀ q i, q < 7 → vc I (x + 1) q i = L q i := fun q i hq => by rw [← hL, dl_at hq]
  have vR : ∀ q i, q < 7 → vr I (m + 5) m q i = Lr q i := fun q i hq => by rw [← hR, dl_at hq]
  have vRh : ∀ {k : Nat}, k < n → ∀ q, 1 ≤ q ∧ q ≤ 3 → vr I (m + 5) m q k = L q k := fun hk q hq => (vR q _ (by omega)).trans (hsm q _ (wc_h hq hk)).symm
  have vRg : ∀ {k : Nat}, k < ng → ∀ q, 4 ≤ q ∧ q ≤ 6 → vr I (m + 5) m q k = L q k := fun hk q hq => (vR q _ (by omega)).trans (hsm q _ (wc_g hq hk)).symm
  obtain ⟨⟨hn, e0⟩, ⟨hng, e1⟩, hpl⟩ := id hG
  have f0 : vc I (x + 1) 0 0 = nI n := by rw [vL 0 0 (by decide)]; exact e0
  have f1 : vc I (x + 1) 0 1 = nI ng := by rw [vL 0 1 (by decide)]; exact e1
  have g0 : vr I (m + 5) m 0 0 = nI n := by rw [vR 0 0 (by decide)]; exact hG'.1.2
  have g1 : vr I (m + 5) m 0 1 = nI ng := by rw [vR 0 1 (by decide)]; exact hG'.2.1.2
  unfold pr
  simp only [e77_0, e77_1, e77_4, e77_5, e77_8, mm_pu_n, mm_pu_s, va_rf_s, mm_w8_0, mm_w8_1, mm_w8_2, mm_w8_3, mm_w8_4, mm_c1_n, mm_c1_i, mm_c1_a, mm_ct_a, mm_ct_i, true_and, and_true, and_self, eq_self, if_true, if_false, ite_true, ite_false, bI_t, bI_z, bI_nz, bI_01, true_or, or_true, reduceCtorEq, false_or, or_false, decide_eq_false_iff_not, decide_eq_true_eq, ite_not, x0, x1, x2, x3, x4, x5, x6, x7, x8, l1.s0, l1.p6, l1.p7, l1.p8, l1.p9, l1.p10, l1.p11, l1.p12, l1.p13, l1.i1, l1.i2, l1.i3, l1.i4, l1.i5, l1.i6, l1.i7, l1.i8, l4.s0]
  refine t_takeFrom l4 l1 (by unfold dj; omega) (fun J1 hJ1 hF1 => ?_)
  have hpv1 : pa_V J1 (x + 19) sg bn B := pa_V_k hpv hps (fun q a b => hF1 q (by omega))
  simp only [mm_pu_n, e77_11, e77_12, e77_15, e77_16, e77_19, mm_pu_n, mm_pu_s, va_rf_s, mm_w8_0, mm_w8_1, mm_w8_2, mm_w8_3, mm_w8_4, mm_c1_n, mm_c1_i, mm_c1_a, mm_ct_a, mm_ct_i, true_and, and_true, and_self, eq_self, if_true, if_false, ite_true, ite_false, bI_t, bI_z, bI_nz, bI_01, true_or, or_true, reduceCtorEq, false_or, or_false, decide_eq_false_iff_not, decide_eq_true_eq, ite_not, x0, x1, x2, x3, x4, x5, x6, x7, x8, l1.s0, l1.p6, l1.p7, l1.p8, l1.p9, l1.p10, l1.p11, l1.p12, l1.p13, l1.i1, l1.i2, l1.i3, l1.i4, l1.i5, l1.i6, l1.i7, l1.i8, hip.1]
  refine t_pastFrom hip hps hpv1 (by omega) (fun J2 hV2 hF2 => ?_)
  simp only [mm_pu_n, e77_22, e77_23, e77_24, e77_27, e77_28, mm_pu_n, mm_pu_s, va_rf_s, mm_w8_0, mm_w8_1, mm_w8_2, mm_w8_3, mm_w8_4, mm_c1_n, mm_c1_i, mm_c1_a, mm_ct_a, mm_ct_i, true_and, and_true, and_self, eq_self, if_true, if_false, ite_true, ite_false, bI_t, bI_z, bI_nz, bI_01, true_or, or_true, reduceCtorEq, false_or, or_false, decide_eq_false_iff_not, decide_eq_true_eq, ite_not, x0, x1, x2, x3, x4, x5, x6, x7, x8, l1.s0, l1.p6, l1.p7, l1.p8, l1.p9, l1.p10, l1.p11, l1.p12, l1.p13, l1.i1, l1.i2, l1.i3, l1.i4, l1.i5, l1.i6, l1.i7, l1.i8]
  have fr : ∀ q, q ≠ x → ¬ (x + 116 ≤ q ∧ q < x + 199) → mm_uI J2 x 8 1 q = I q := fun q a b => by rw [mu_n a, hF2 q (by omega), hF1 q (by omega)]
  simp only [e150_0, e150_1, e150_4, e150_5, e150_6, e150_9, e150_10, e150_13, mm_pu_n, mm_pu_s, va_rf_s, mm_w8_0, mm_w8_1, mm_w8_2, mm_w8_3, mm_w8_4, mm_c1_n, mm_c1_i, mm_c1_a, mm_ct_a, mm_ct_i, true_and, and_true, and_self, eq_self, if_true, if_false, ite_true, ite_false, bI_t, bI_z, bI_nz, bI_01, true_or, or_true, reduceCtorEq, false_or, or_false, decide_eq_false_iff_not, decide_eq_true_eq, ite_not, hml.s0, hml.p7, hml.i5, hml.p10]
  refine u_bring hml.i5 hml.i8 (by omega) (by omega) (i := 0) (j := 0) (n := 248) (by omega) (by omega) (Or.inl (by omega)) (fun K hK1 hK2 => ?_)
  simp only [mm_pu_n, e150_16, e150_17, e150_18, e150_21, e150_22, mm_pu_n, mm_pu_s, va_rf_s, mm_w8_0, mm_w8_1, mm_w8_2, mm_w8_3, mm_w8_4, mm_c1_n, mm_c1_i, mm_c1_a, mm_ct_a, mm_ct_i, true_and, and_true, and_self, eq_self, if_true, if_false, ite_true, ite_false, bI_t, bI_z, bI_nz, bI_01, true_or, or_true, reduceCtorEq, false_or, or_false, decide_eq_false_iff_not, decide_eq_true_eq, ite_not, hml.s0, hml.p7, hml.i5]
  have fr2 : ∀ q, q ≠ x → ¬ (x + 116 ≤ q ∧ q < x + 199) → q ≠ m + 8 → q ≠ m → mm_uI K m 11 1 q = I q := fun q a b c d => by rw [mu_n d, hK1 q c, fr q a b]
  have k8 : ∀ t, t < 248 → mm_uI K m 11 1 (m + 8) t = I (m + 5) t := fun t ht => by rw [mu_n (by omega), hK2 t, if_pos (by omega), fr _ (by omega) (by omega)]; congr 1; omega
  have kx : ∀ q, q ≠ x → (x + 116 ≤ q ∧ q < x + 199) → mm_uI K m 11 1 q = J2 q := fun q a b => by rw [mu_n (by omega), hK1 q (by omega), mu_n a]
  refine fi_i _ ⟨hS, ⟨sg, L, bn, B, n, ng, Lr, Br, g1_keep hg hps (fun q a b => fr2 q (by omega) (by omega) (by omega) (by omega)) (fun q a b => fr2 q (by omega) (by omega) (by omega) (by omega)) (fr2 _ (by omega) (by omega) (by omega) (by omega))⟩, Or.inr ⟨?_, ?_, L, bn, B, n, ng, Lr, Br, ⟨hip, ?_, ?_⟩, ⟨?_, ?_⟩, hg.2.2⟩, G3_keep hG3 (rd_F (fr2 _ (by omega) (by omega) (by omega) (by omega))) ?_ (fr2 _ (by omega) (by omega) (by omega) (by omega)) (fr2 _ (by omega) (by omega) (by omega) (by omega)), G4_keep hG4 rfl (fun k hk => fr2 _ (by omega) (by omega) (by omega) (by omega)) (fr2 _ (by omega) (by omega) (by omega) (by omega)) (fr2 _ (by omega) (by omega) (by omega) (by omega))⟩ rfl rfl
  · show mm_uI K m 11 1 x 8 = 1
    rw [mu_n (by omega), hK1 x (by omega), mu_s]
  · exact rd_u
  · rw [vc_eq (I := J1) (fun q a b => by rw [kx q (by omega) (by omega), hF2 q (by omega)]), hJ1, dl_tk, hL]
  · exact pa_V_k hV2 hip (fun q a b => kx q (by omega) (by omega))
  · rw [← hR]
    exact vr_row (fun i hi => k8 i (by omega))
  · exact ml_B_keep hB (fun i _ hi => k8 i hi)
  · show mm_uI K m 11 1 m 3 = I m 3
    rw [mu_j (by decide), hK1 m (by omega), fr m (by omega) (by omega)]
theorem a_restore (h : ALL I r x m) : pr 78 151 [some (.ref x)] [some (.ref m)] I r x m := by
  obtain ⟨hS, ⟨sg, L, bn, B, n, ng, Lr, Br, hg⟩, hG2, hG3, hG4⟩ := id h
  obtain ⟨hm, hx, ⟨l1, l2, l3, l4⟩, hip, hpt, htp, hsh, hml⟩ := id hS
  obtain ⟨x0, x1, x2, x3, x4, x5, x6, x7, x8⟩ := id hx
  obtain ⟨⟨hps, hL, hpv⟩, ⟨hR, hB⟩, ⟨⟨⟨hG, hRR, hdr, hnt⟩, hbk⟩, ⟨⟨hG', hRR', hdr', hnt'⟩, hbk'⟩, hsm, hsB⟩⟩ := id hg
  have hLL : dl L = L := by rw [← hL]; exact dl_dl _
  have hLr : dl Lr = Lr := by rw [← hR]; exact dl_dl _
  have hs6 := s_6 hsm hLL hLr
  have vL : ∀ q i, q < 7 → vc I (x + 1) q i = L q i := fun q i hq => by rw [← hL, dl_at hq]
  have vR : ∀ q i, q < 7 → vr I (m + 5) m q i = Lr q i := fun q i hq => by rw [← hR, dl_at hq]
  have vRh : ∀ {k : Nat}, k < n → ∀ q, 1 ≤ q ∧ q ≤ 3 → vr I (m + 5) m q k = L q k := fun hk q hq => (vR q _ (by omega)).trans (hsm q _ (wc_h hq hk)).symm
  have vRg : ∀ {k : Nat}, k < ng → ∀ q, 4 ≤ q ∧ q ≤ 6 → vr I (m + 5) m q k = L q k := fun hk q hq => (vR q _ (by omega)).trans (hsm q _ (wc_g hq hk)).symm
  obtain ⟨⟨hn, e0⟩, ⟨hng, e1⟩, hpl⟩ := id hG
  have f0 : vc I (x + 1) 0 0 = nI n := by rw [vL 0 0 (by decide)]; exact e0
  have f1 : vc I (x + 1) 0 1 = nI ng := by rw [vL 0 1 (by decide)]; exact e1
  have g0 : vr I (m + 5) m 0 0 = nI n := by rw [vR 0 0 (by decide)]; exact hG'.1.2
  have g1 : vr I (m + 5) m 0 1 = nI ng := by rw [vR 0 1 (by decide)]; exact hG'.2.1.2
  unfold pr
  rcases hG2 with ⟨q1, q2⟩ | ⟨q1, q2, L2, bn2, B2, n2, ng2, Lr2, Br2, ⟨hps2, hL2, hpv2⟩, ⟨hR2, hB2⟩, hgd2⟩
  · simp only [e78_0, e78_1, e78_4, e78_7, e78_9, e151_0, e151_1, e151_4, e151_7, e151_9, mm_pu_n, mm_pu_s, va_rf_s, mm_w8_0, mm_w8_1, mm_w8_2, mm_w8_3, mm_w8_4, mm_c1_n, mm_c1_i, mm_c1_a, mm_ct_a, mm_ct_i, true_and, and_true, and_self, eq_self, if_true, if_false, ite_true, ite_false, bI_t, bI_z, bI_nz, bI_01, true_or, or_true, reduceCtorEq, false_or, or_false, decide_eq_false_iff_not, decide_eq_true_eq, ite_not, x0, x1, x2, x3, x4, x5, x6, x7, x8, l1.s0, l1.p6, l1.p7, l1.p8, l1.p9, l1.p10, l1.p11, l1.p12, l1.p13, l1.i1, l1.i2, l1.i3, l1.i4, l1.i5, l1.i6, l1.i7, l1.i8, hml.s0, hml.p7, hml.i5, q1, q2]
    exact fi_i _ h rfl rfl
  · simp only [e78_0, e78_1, e78_4, e78_7, e78_9, e78_10, e78_11, e78_14, e78_15, e78_18, mm_pu_n, mm_pu_s, va_rf_s, mm_w8_0, mm_w8_1, mm_w8_2, mm_w8_3, mm_w8_4, mm_c1_n, mm_c1_i, mm_c1_a, mm_ct_a, mm_ct_i, true_and, and_true, and_self, eq_self, if_true, if_false, ite_true, ite_false, bI_t, bI_z, bI_nz, bI_01, true_or, or_true, reduceCtorEq, false_or, or_false, decide_eq_false_iff_not, decide_eq_true_eq, ite_not, x0, x1, x2, x3, x4, x5, x6, x7, x8, l1.s0, l1.p6, l1.p7, l1.p8, l1.p9, l1.p10, l1.p11, l1.p12, l1.p13, l1.i1, l1.i2, l1.i3, l1.i4, l1.i5, l1.i6, l1.i7, l1.i8, q1]
    refine t_takeFrom l1 l4 (by unfold dj; omega) (fun J1 hJ1 hF1 => ?_)
    have hpv1 : pa_V J1 (x + 125) idn bn2 B2 := pa_V_k hpv2 hps2 (fun q a b => hF1 q (by omega))
    simp only [mm_pu_n, e78_21, e78_22, e78_25, e78_26, e78_29, mm_pu_n, mm_pu_s, va_rf_s, mm_w8_0, mm_w8_1, mm_w8_2, mm_w8_3, mm_w8_4, mm_c1_n, mm_c1_i, mm_c1_a, mm_ct_a, mm_ct_i, true_and, and_true, and_self, eq_self, if_true, if_false, ite_true, ite_false, bI_t, bI_z, bI_nz, bI_01, true_or, or_true, reduceCtorEq, false_or, or_false, decide_eq_false_iff_not, decide_eq_true_eq, ite_not, x0, x1, x2, x3, x4, x5, x6, x7, x8, l1.s0, l1.p6, l1.p7, l1.p8, l1.p9, l1.p10, l1.p11, l1.p12, l1.p13, l1.i1, l1.i2, l1.i3, l1.i4, l1.i5, l1.i6, l1.i7, l1.i8, hps.1]
    refine t_pastFrom hps hps2 hpv1 (by omega) (fun J2 hV2 hF2 => ?_)
    simp only [mm_pu_n, e78_32, e78_33, mm_pu_n, mm_pu_s, va_rf_s, mm_w8_0, mm_w8_1, mm_w8_2, mm_w8_3, mm_w8_4, mm_c1_n, mm_c1_i, mm_c1_a, mm_ct_a, mm_ct_i, true_and, and_true, and_self, eq_self, if_true, if_false, ite_true, ite_false, bI_t, bI_z, bI_nz, bI_01, true_or, or_true, reduceCtorEq, false_or, or_false, decide_eq_false_iff_not, decide_eq_true_eq, ite_not, x0, x1, x2, x3, x4, x5, x6, x7, x8, l1.s0, l1.p6, l1.p7, l1.p8, l1.p9, l1.p10, l1.p11, l1.p12, l1.p13, l1.i1, l1.i2, l1.i3, l1.i4, l1.i5, l1.i6, l1.i7, l1.i8]
    have fr : ∀ q, ¬ (x + 1 ≤ q ∧ q < x + 93) → J2 q = I q := fun q a => by rw [hF2 q (by omega), hF1 q (by omega)]
    have q2' : mm_rd J2 m 11 = 1 := by rw [rd_F (fr m (by omega))]; exact q2
    simp only [e151_0, e151_1, e151_4, e151_7, e151_9, e151_10, e151_11, e151_14, e151_15, e151_16, e151_19, e151_20, e151_23, mm_pu_n, mm_pu_s, va_rf_s, mm_w8_0, mm_w8_1, mm_w8_2, mm_w8_3, mm_w8_4, mm_c1_n, mm_c1_i, mm_c1_a, mm_ct_a, mm_ct_i, true_and, and_true, and_self, eq_self, if_true, if_false, ite_true, ite_false, bI_t, bI_z, bI_nz, bI_01, true_or, or_true, reduceCtorEq, false_or, or_false, decide_eq_false_iff_not, decide_eq_true_eq, ite_not, hml.s0, hml.p7, hml.i5, hml.p10, q2']
    refine u_bring hml.i8 hml.i5 (by omega) (by omega) (i := 0) (j := 0) (n := 248) (by omega) (by omega) (Or.inl (by omega)) (fun K hK1 hK2 => ?_)
    simp only [mm_pu_n, e151_26, e151_27, mm_pu_n, mm_pu_s, va_rf_s, mm_w8_0, mm_w8_1, mm_w8_2, mm_w8_3, mm_w8_4, mm_c1_n, mm_c1_i, mm_c1_a, mm_ct_a, mm_ct_i, true_and, and_true, and_self, eq_self, if_true, if_false, ite_true, ite_false, bI_t, bI_z, bI_nz, bI_01, true_or, or_true, reduceCtorEq, false_or, or_false, decide_eq_false_iff_not, decide_eq_true_eq, ite_not, hml.s0, hml.p7, hml.i5]
    have k5 : ∀ t, t < 248 → K (m + 5) t = I (m + 8) t := fun t ht => by rw [hK2 t, if_pos (by omega), fr _ (by omega)]; congr 1; omega
    refine fi_i _ (ALL_mk (sg := sg) (L := L2) (bn := bn2) (B := B2) (Lr := Lr2) (Br := Br2) (n := n2) (ng := ng2) (I1 := J2) h hS rfl ⟨hps, ?_, hV2⟩ fr ⟨?_, ?_⟩ (fun q a _ _ => hK1 q a) hgd2) rfl rfl
    · rw [vc_eq (I := J1) (fun q a b => hF2 q (by omega)), hJ1, dl_tk, hL2]
    · rw [← hR2]
      exact vr_row (fun i hi => k5 i (by omega))
    · exact ml_B_keep hB2 (fun i _ hi => k5 i hi)
end
