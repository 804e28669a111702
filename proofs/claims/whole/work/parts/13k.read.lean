section
variable {r : mm_R} {I : mm_I} {x m : Nat} {Q : Option Value → mm_I → mm_R → Prop}
theorem u_zero (hml : ml_S r m) (hq : ∀ K, (∀ q, q ≠ m + 7 → K q = I q) → (∀ i, i < 248 → K (m + 7) i = 0) → mm_E 118 22 [some (.ref m), some (.int (nI 248))] [] K r Q) : mm_E 118 0 [some (.ref m), none] [] I r Q := by
  have loop : ∀ d k J, k + d = 248 → (∀ q, q ≠ m + 7 → J q = I q) → (∀ i, i < k → J (m + 7) i = 0) → mm_E 118 2 [some (.ref m), some (.int (nI k))] [] J r Q := by
    intro d
    induction d with
    | zero =>
      intro k J hk h1 h2
      have : k = 248 := by omega
      subst this
      rw [e118_2]
      simp only [e118_3, e118_6, mm_pu_n, mm_pu_s, va_rf_s, mm_w8_0, mm_w8_1, mm_w8_2, mm_w8_3, mm_w8_4, mm_c1_n, mm_c1_i, mm_c1_a, mm_ct_a, mm_ct_i, true_and, and_true, and_self, eq_self, if_true, if_false, ite_true, ite_false, bI_t, bI_z, bI_nz, bI_01, true_or, or_true, reduceCtorEq, false_or, or_false, decide_eq_false_iff_not, decide_eq_true_eq, ite_not, show ((248 : Int32) ≤ nI 248) = True from eq_true (by decide)]
      exact hq J h1 h2
    | succ d ih =>
      intro k J hk h1 h2
      have h3 : ¬ ((248 : Int32) ≤ nI k) := by
        rw [show (248 : Int32) = nI 248 from rfl]
        exact nI_ge (by omega) (by decide)
      rw [e118_2]
      simp only [e118_3, e118_6, e118_9, e118_10, e118_13, e118_14, e118_15, e118_16, e118_19, mm_pu_n, mm_pu_s, va_rf_s, mm_w8_0, mm_w8_1, mm_w8_2, mm_w8_3, mm_w8_4, mm_c1_n, mm_c1_i, mm_c1_a, mm_ct_a, mm_ct_i, true_and, and_true, and_self, eq_self, if_true, if_false, ite_true, ite_false, bI_t, bI_z, bI_nz, bI_01, true_or, or_true, reduceCtorEq, false_or, or_false, decide_eq_false_iff_not, decide_eq_true_eq, ite_not, h3, hml.s0, hml.p9, hml.i7, in2 (show k < 248 by omega), cl2 (show k < 248 by omega), nI_1]
      refine ih (k + 1) _ (by omega) (fun q hq => by rw [mu_n hq]; exact h1 q hq) (fun i hi => ?_)
      by_cases c : i = k
      · subst c; exact mu_s
      · rw [mu_j c]; exact h2 i (by omega)
  simp only [e118_0, e118_1, mm_pu_n, mm_pu_s, va_rf_s, mm_w8_0, mm_w8_1, mm_w8_2, mm_w8_3, mm_w8_4, mm_c1_n, mm_c1_i, mm_c1_a, mm_ct_a, mm_ct_i, true_and, and_true, and_self, eq_self, if_true, if_false, ite_true, ite_false, bI_t, bI_z, bI_nz, bI_01, true_or, or_true, reduceCtorEq, false_or, or_false, decide_eq_false_iff_not, decide_eq_true_eq, ite_not]
  exact loop 248 0 I (by omega) (fun _ _ => rfl) (fun i hi => absurd hi (by omega))
/-- the reference reads -/
theorem m_read {t : Nat} {ch : Nat → Nat} {y : Int32} (hml : ml_S r m) (hc : okc ch t) (h3 : mm_rd I m 3 = nI t) (h4 : ∀ i, i < t → mm_rd I (m + 4) i = nI (ch i)) (hy : mm_rd I (m + 5) 1 = y) (hq : ∀ M, (∀ q i, q < 7 → M q i = if q = 0 ∧ i = 5 then y else 0) → ((LL ch t M).1 = false → ∀ K, (∀ q, q ≠ m → q ≠ m + 7 → K q = I q) → K m 11 = I m 11 → mm_rd K m 3 = 0 → Q (some (.int (-20 - nI (LL ch t M).2.1))) K r) ∧ ((LL ch t M).1 = true → ∀ K, (∀ q, q ≠ m → q ≠ m + 7 → q ≠ m + 5 → K q = I q) → K m 11 = I m 11 → mm_rd K m 3 = 0 → dl (vr K (m + 5) m) = dl (LL ch t M).2.2.2.2 → mm_rd K (m + 5) 39 = 0 → Q (some (.int ((LL ch t M).2.2.2.2 0 0))) K r)) : mm_E 118 0 [some (.ref m), none] [] I r Q := by
  refine u_zero hml (fun K0 hK0 hK0z => ?_)
  have y0 : mm_rd K0 (m + 5) 1 = y := by rw [rd_F (hK0 _ (by omega))]; exact hy
  simp only [e118_22, e118_23, e118_26, e118_27, e118_28, e118_31, e118_32, e118_33, e118_34, e118_35, e118_36, e118_39, e118_40, mm_pu_n, mm_pu_s, va_rf_s, mm_w8_0, mm_w8_1, mm_w8_2, mm_w8_3, mm_w8_4, mm_c1_n, mm_c1_i, mm_c1_a, mm_ct_a, mm_ct_i, true_and, and_true, and_self, eq_self, if_true, if_false, ite_true, ite_false, bI_t, bI_z, bI_nz, bI_01, true_or, or_true, reduceCtorEq, false_or, or_false, decide_eq_false_iff_not, decide_eq_true_eq, ite_not, hml.s0, hml.p9, hml.p7, hml.i7, hml.i5, c27.2.2.2.2.2.1, d27.2.2.2.2.2.1, y0]
  generalize hJ1 : mm_uI (mm_uI K0 (m + 7) 1 y) m 5 0 = J1
  have o1 : ∀ q, q ≠ m → q ≠ m + 7 → J1 q = I q := fun q a b => by rw [← hJ1, mu_n a, mu_n b, hK0 q b]
  have om : ∀ k, k ≠ 5 → J1 m k = I m k := fun k a => by rw [← hJ1, mu_j a, mu_n (by omega), hK0 m (by omega)]
  have z7 : ∀ i, i < 248 → J1 (m + 7) i = if i = 1 then y else 0 := fun i hi => by
    rw [← hJ1, mu_n (by omega)]
    by_cases c : i = 1
    · subst c; rw [mu_s]; rfl
    · rw [mu_j c, if_neg c]; exact hK0z i hi
  have t1 : tr J1 m t ch 0 := by
    refine ⟨⟨?_, ?_⟩, Nat.zero_le _, fun i hi => ?_⟩
    · show J1 m 3 = nI t
      rw [om 3 (by decide)]; exact h3
    · rw [← hJ1]; exact rd_u
    · rw [rd_F (o1 _ (by omega) (by omega))]; exact h4 i hi
  have hM : ∀ q i, q < 7 → vr J1 (m + 7) m q i = if q = 0 ∧ i = 5 then y else 0 := by
    intro q i hq
    by_cases d : i < wd q
    · have hlt := ps_lt hq d
      rw [vr_pos hq d, z7 _ (by omega)]
      by_cases c : q = 0 ∧ i = 5
      · obtain ⟨rfl, rfl⟩ := c
        rfl
      · rw [if_neg c, if_neg]
        intro e
        have : ∀ q, q < 7 → ∀ i, i < 6 → i < wd q → ps q i = 1 → q = 0 ∧ i = 5 := by decide
        exact c (this q hq i (Nat.lt_of_lt_of_le d (wd_le q)) d e)
    · have e : vr J1 (m + 7) m q i = 0 := by unfold vr; rw [if_neg (fun z => d z.2)]
      rw [e, if_neg]
      rintro ⟨rfl, rfl⟩
      exact d (by decide)
  obtain ⟨hq0, hq1⟩ := hq _ hM
  refine u_isLane hml hc t1 ((hM 0 0 (by decide)).trans rfl) ((hM 0 1 (by decide)).trans rfl) (fun g K hK hKv => ?_) (fun g K hK hK5 => ?_)
  · simp only [mm_pu_s, e118_43, e118_44, e118_45, e118_46, e118_49, e118_50, mm_pu_n, mm_pu_s, va_rf_s, mm_w8_0, mm_w8_1, mm_w8_2, mm_w8_3, mm_w8_4, mm_c1_n, mm_c1_i, mm_c1_a, mm_ct_a, mm_ct_i, true_and, and_true, and_self, eq_self, if_true, if_false, ite_true, ite_false, bI_t, bI_z, bI_nz, bI_01, true_or, or_true, reduceCtorEq, false_or, or_false, decide_eq_false_iff_not, decide_eq_true_eq, ite_not, hml.s0, bI_01]
    simp only [e118_61, e118_62, e118_65, e118_66, e118_67, e118_70, e118_71, e118_74, mm_pu_n, mm_pu_s, va_rf_s, mm_w8_0, mm_w8_1, mm_w8_2, mm_w8_3, mm_w8_4, mm_c1_n, mm_c1_i, mm_c1_a, mm_ct_a, mm_ct_i, true_and, and_true, and_self, eq_self, if_true, if_false, ite_true, ite_false, bI_t, bI_z, bI_nz, bI_01, true_or, or_true, reduceCtorEq, false_or, or_false, decide_eq_false_iff_not, decide_eq_true_eq, ite_not, hml.s0, hml.p9, hml.p7]
    rw [show (some (Value.int 0) : Option Value) = some (.int (nI 0)) from rfl, show (some (Value.int 248) : Option Value) = some (.int (nI 248)) from rfl]
    refine u_bring hml.i7 hml.i5 (by decide) (by decide) (by omega) (by omega) (Or.inl (by omega)) (fun K2 w1 w2 => ?_)
    have k5 : ∀ i, i < 248 → K2 (m + 5) i = K (m + 7) i := fun i hi => by
      rw [w2 i, if_pos (by omega), mu_n (by omega)]
      congr 1
      omega
    have e0 : dl (vr K2 (m + 5) m) = dl (vr K (m + 7) m) := vr_row (fun i hi => k5 i (by omega))
    have v27 : vr K2 (m + 5) m 0 0 = (LL ch t (vr J1 (m + 7) m)).2.2.2.2 0 0 := by
      rw [← dl_at (M := vr K2 (m + 5) m) (show 0 < 7 by decide), e0, dl_at (by decide), hKv]
    simp only [mm_pu_n, e118_77, e118_78, e118_81, e118_83, e118_84, mm_pu_n, mm_pu_s, va_rf_s, mm_w8_0, mm_w8_1, mm_w8_2, mm_w8_3, mm_w8_4, mm_c1_n, mm_c1_i, mm_c1_a, mm_ct_a, mm_ct_i, true_and, and_true, and_self, eq_self, if_true, if_false, ite_true, ite_false, bI_t, bI_z, bI_nz, bI_01, true_or, or_true, reduceCtorEq, false_or, or_false, decide_eq_false_iff_not, decide_eq_true_eq, ite_not, hml.s0, hml.p7, hml.i5, c27.1, d27.1, r27 (s := m + 5) m, v27]
    refine hq1 g K2 (fun q a b c => ?_) ?_ ?_ ?_ ?_
    · rw [w1 q c, mu_n a, hK.1 q a b, o1 q a b]
    · rw [w1 m (by omega), mu_j (by decide), hK.2.1 11 (by decide) (by decide), om 11 (by decide)]
    · rw [rd_F (w1 m (by omega))]; exact rd_u
    · rw [e0, hKv]
    · show K2 (m + 5) 39 = 0
      rw [k5 39 (by decide), hK.2.2 39 (by decide), z7 39 (by decide)]; rfl
  · have e5 : mm_rd (mm_uI K m 3 0) m 5 = nI (LL ch t (vr J1 (m + 7) m)).2.1 := by
      show mm_uI K m 3 0 m 5 = _
      rw [mu_j (by decide)]; exact hK5
    simp only [mm_pu_s, e118_43, e118_44, e118_45, e118_46, e118_49, e118_50, e118_53, e118_55, e118_56, e118_59, e118_60, mm_pu_n, mm_pu_s, va_rf_s, mm_w8_0, mm_w8_1, mm_w8_2, mm_w8_3, mm_w8_4, mm_c1_n, mm_c1_i, mm_c1_a, mm_ct_a, mm_ct_i, true_and, and_true, and_self, eq_self, if_true, if_false, ite_true, ite_false, bI_t, bI_z, bI_nz, bI_01, true_or, or_true, reduceCtorEq, false_or, or_false, decide_eq_false_iff_not, decide_eq_true_eq, ite_not, hml.s0, e5]
    refine hq0 g _ (fun q a b => ?_) ?_ rd_u
    · rw [mu_n a, hK.1 q a b, o1 q a b]
    · rw [mu_j (by decide), hK.2.1 11 (by decide) (by decide), om 11 (by decide)]
theorem a_read (h : ALL I r x m) : pr 56 118 [some (.ref x), none, none] [some (.ref m), none] I r x m := by
  obtain ⟨hS, ⟨sg, L, bn, B, n, ng, Lr, Br, hg⟩, hG2, hG3, hG4⟩ := id h
  obtain ⟨hm, hx, ⟨l1, l2, l3, l4⟩, hip, hpt, htp, hsh, hml⟩ := id hS
  obtain ⟨x0, x1, x2, x3, x4, x5, x6, x7, x8⟩ := id hx
  obtain ⟨⟨hps, hL, hpv⟩, ⟨hR, hB⟩, ⟨⟨⟨hG, hRR, hdr, hnt⟩, hbk⟩, ⟨⟨hG', hRR', hdr', hnt'⟩, hbk'⟩, hsm, hsB⟩⟩ := id hg
  have hLL : dl L = L := by rw [← hL]; exact dl_dl _
  have hLr : dl Lr = Lr := by rw [← hR]; exact dl_dl _
  have hs6 := s_6 hsm hLL hLr
  have vL : ∀ q i, q < 7 → vc I (x + 1) q i = L q i := fun q i hq => by rw [← hL, dl_at hq]
  have vR : ∀ q i, q < 7 → vr I (m + 5) m q i = Lr q i := fun q i hq => by rw [← hR, dl_at hq]
  have vRh : ∀ {k : Nat}, k < n → ∀ q, 1 ≤ q ∧ q ≤ 3 → vr I (m + 5) m q k = L q k := fun hk q hq => (vR q _ (by omega)).trans (hsm q _ (wc_h hq hk)).symm
  have vRg : ∀ {k : Nat}, k < ng → ∀ q, 4 ≤ q ∧ q ≤ 6 → vr I (m + 5) m q k = L q k := fun hk q hq => (vR q _ (by omega)).trans (hsm q _ (wc_g hq hk)).symm
  obtain ⟨⟨hn, e0⟩, ⟨hng, e1⟩, hpl⟩ := id hG
  have f0 : vc I (x + 1) 0 0 = nI n := by rw [vL 0 0 (by decide)]; exact e0
  have f1 : vc I (x + 1) 0 1 = nI ng := by rw [vL 0 1 (by decide)]; exact e1
  have g0 : vr I (m + 5) m 0 0 = nI n := by rw [vR 0 0 (by decide)]; exact hG'.1.2
  have g1 : vr I (m + 5) m 0 1 = nI ng := by rw [vR 0 1 (by decide)]; exact hG'.2.1.2
  obtain ⟨t, ht, s1, s2, s3⟩ := id hG3
  have hts : ts r (x + 96) := htp
  have hl3 : ln_S r (x + 96 + 2) := l3
  unfold pr
  generalize hch : (fun i => (I (m + 4) i).toNatClampNeg) = ch
  have hcv : ∀ i, i < t → 32 ≤ ch i ∧ ch i ≤ 126 ∧ I (m + 4) i = nI (ch i) := by
    intro i hi
    obtain ⟨-, c, c1, c2, e⟩ := s3 i hi
    have : ch i = c := by rw [← hch]; show (I (m + 4) i).toNatClampNeg = c; rw [e, nI_clamp (by omega)]
    rw [this]
    exact ⟨c1, c2, e⟩
  have hc : okc ch t := ⟨ht, fun i hi => ⟨(hcv i hi).1, (hcv i hi).2.1⟩⟩
  obtain ⟨d0, hd0, ed0⟩ := id hdr
  have ey : mm_rd I (m + 5) 1 = L 0 5 := by rw [r1 (s := m + 5) m, vR 0 5 (by decide), hsm 0 5 wc_0]
  have rel : ∀ M, (∀ q i, q < 7 → M q i = if q = 0 ∧ i = 5 then L 0 5 else 0) → sLL (LL ch t (p_anew (vc I (x + 96 + 2)))) (LL ch t M) (L 0 5) := by
    intro M hM
    have key := LL_c (ch := ch) (t := t) (M := p_anew (vc I (x + 96 + 2))) (N := M) (fun v hv q i hq => ?_) (fun v hv => ?_)
    · rw [hM 0 5 (by decide), if_pos ⟨rfl, rfl⟩] at key
      exact key
    · unfold wd5 wc at hq
      have q0 : q = 0 := by omega
      subst q0
      by_cases c2 : i = 2
      · subst c2; rw [mu_s, mu_s]
      · rw [mu_j c2, mu_j c2, hM 0 i (by decide), if_neg (by omega)]
        unfold p_anew
        by_cases c4 : i = 4
        · subst c4; exact mu_s
        · rw [mu_j c4]
          by_cases c3 : i = 3
          · subst c3; exact mu_s
          · rw [mu_j c3]
            by_cases c1 : i = 1
            · subst c1; exact mu_s
            · rw [mu_j c1]
              by_cases c0 : i = 0
              · subst c0; exact mu_s
              · rw [mu_j c0]
                exact vc_out (fun z => by have : wd 0 = 6 := rfl; omega)
    · have e : ∀ i, i ≠ 2 → mm_uI M 0 2 (nI v) 0 i = if i = 5 then L 0 5 else 0 := fun i hi => by
        rw [mu_j hi, hM 0 i (by decide)]
        by_cases c : i = 5
        · rw [if_pos ⟨rfl, c⟩, if_pos c]
        · rw [if_neg (fun z => c z.2), if_neg c]
      refine ⟨⟨⟨by decide, ?_⟩, ⟨by decide, ?_⟩, fun g hg => absurd hg (by omega)⟩, ⟨fun g hg => absurd hg (by omega), fun g hg => absurd hg (by omega), v, hv, mu_s⟩, ⟨d0, hd0, ?_⟩, ⟨0, by decide, ?_⟩⟩
      · rw [e 0 (by decide)]; rfl
      · rw [e 1 (by decide)]; rfl
      · rw [e 5 (by decide), if_pos rfl]; exact ed0
      · rw [e 3 (by decide)]; rfl
  simp only [e56_0, e56_1, e56_4, mm_pu_n, mm_pu_s, va_rf_s, mm_w8_0, mm_w8_1, mm_w8_2, mm_w8_3, mm_w8_4, mm_c1_n, mm_c1_i, mm_c1_a, mm_ct_a, mm_ct_i, true_and, and_true, and_self, eq_self, if_true, if_false, ite_true, ite_false, bI_t, bI_z, bI_nz, bI_01, true_or, or_true, reduceCtorEq, false_or, or_false, decide_eq_false_iff_not, decide_eq_true_eq, ite_not, x0, x1, x2, x3, x4, x5, x6, x7, x8, l1.s0, l1.p6, l1.p7, l1.p8, l1.p9, l1.p10, l1.p11, l1.p12, l1.p13, l1.i1, l1.i2, l1.i3, l1.i4, l1.i5, l1.i6, l1.i7, l1.i8, htp.1]
  refine t_tellLane hts hl3 hc ⟨s1, fun i hi => by show I (x + 97) i = nI (ch i); rw [(s3 i hi).1]; exact (hcv i hi).2.2⟩ (fun g K hK hKv => ?_) (fun g K hK hKf => ?_)
  · -- told
    have kI' : ∀ q, q ≠ x + 96 → ¬ (x + 98 ≤ q ∧ q < x + 107) → K q = I q := fun q a b => hK q a (by omega)
    have o5 : vc (mm_uI K (x + 96) 0 0) (x + 1) 0 5 = L 0 5 := by
      rw [vc_p (by omega), vc_eq (fun q a b => kI' q (by omega) (by omega))]; exact vL 0 5 (by decide)
    simp only [mm_pu_s, e56_7, e56_8, e56_9, e56_12, e56_13, e56_16, e56_17, e56_20, e56_21, e56_24, e56_27, e56_28, e56_29, e56_32, e56_35, e56_36, e56_37, e56_40, e56_41, e56_44, e56_47, mm_pu_n, mm_pu_s, va_rf_s, mm_w8_0, mm_w8_1, mm_w8_2, mm_w8_3, mm_w8_4, mm_c1_n, mm_c1_i, mm_c1_a, mm_ct_a, mm_ct_i, true_and, and_true, and_self, eq_self, if_true, if_false, ite_true, ite_false, bI_t, bI_z, bI_nz, bI_01, true_or, or_true, reduceCtorEq, false_or, or_false, decide_eq_false_iff_not, decide_eq_true_eq, ite_not, x0, x1, x2, x3, x4, x5, x6, x7, x8, l1.s0, l1.p6, l1.p7, l1.p8, l1.p9, l1.p10, l1.p11, l1.p12, l1.p13, l1.i1, l1.i2, l1.i3, l1.i4, l1.i5, l1.i6, l1.i7, l1.i8, htp.1, htp.2.1, bI_01, rd_0 (a := x + 1) (i := 5) (by decide), o5]
    refine t_takeFrom l1 l3 (by unfold dj; omega) (fun J hJ hF => ?_)
    generalize hJ2 : mm_uI (mm_uI J (x + 1) 5 (L 0 5)) (x + 19) 1 0 = J2
    have o2 : ∀ q, ¬ (x + 1 ≤ q ∧ q < x + 93) → q ≠ x + 96 → ¬ (x + 98 ≤ q ∧ q < x + 107) → J2 q = I q := fun q a b c => by
      rw [← hJ2, mu_n (by omega), mu_n (by omega), hF q (by omega), mu_n b, kI' q b c]
    have hdl : dl (vc J2 (x + 1)) = mm_uI (dl (LL ch t (p_anew (vc I (x + 96 + 2)))).2.2.2.2) 0 5 (L 0 5) := by
      rw [← hJ2, vc_p (by omega), vc_u0 (by decide), dl_u (by decide), hJ, dl_tk, vc_p (by omega)]
      congr 2
    have h00 : vc J2 (x + 1) 0 0 = (LL ch t (p_anew (vc I (x + 96 + 2)))).2.2.2.2 0 0 := by
      rw [← dl_at (M := vc J2 (x + 1)) (show 0 < 7 by decide), hdl, mu_j (by decide), dl_at (by decide)]
    simp only [mm_pu_n, e56_50, e56_51, e56_54, e56_55, e56_58, e56_59, e56_62, mm_pu_n, mm_pu_s, va_rf_s, mm_w8_0, mm_w8_1, mm_w8_2, mm_w8_3, mm_w8_4, mm_c1_n, mm_c1_i, mm_c1_a, mm_ct_a, mm_ct_i, true_and, and_true, and_self, eq_self, if_true, if_false, ite_true, ite_false, bI_t, bI_z, bI_nz, bI_01, true_or, or_true, reduceCtorEq, false_or, or_false, decide_eq_false_iff_not, decide_eq_true_eq, ite_not, x0, x1, x2, x3, x4, x5, x6, x7, x8, l1.s0, l1.p6, l1.p7, l1.p8, l1.p9, l1.p10, l1.p11, l1.p12, l1.p13, l1.i1, l1.i2, l1.i3, l1.i4, l1.i5, l1.i6, l1.i7, l1.i8, hps.1, t_forget hps.1, hJ2]
    simp only [e56_65, e56_66, e56_69, e56_72, mm_pu_n, mm_pu_s, va_rf_s, mm_w8_0, mm_w8_1, mm_w8_2, mm_w8_3, mm_w8_4, mm_c1_n, mm_c1_i, mm_c1_a, mm_ct_a, mm_ct_i, true_and, and_true, and_self, eq_self, if_true, if_false, ite_true, ite_false, bI_t, bI_z, bI_nz, bI_01, true_or, or_true, reduceCtorEq, false_or, or_false, decide_eq_false_iff_not, decide_eq_true_eq, ite_not, x0, x1, x2, x3, x4, x5, x6, x7, x8, l1.s0, l1.p6, l1.p7, l1.p8, l1.p9, l1.p10, l1.p11, l1.p12, l1.p13, l1.i1, l1.i2, l1.i3, l1.i4, l1.i5, l1.i6, l1.i7, l1.i8, rd_0 (a := x + 1) (i := 0) (by decide), h00]
    refine m_read (y := L 0 5) hml hc (by rw [rd_F (o2 m (by omega) (by omega) (by omega))]; exact s2) (fun i hi => by rw [rd_F (o2 _ (by omega) (by omega) (by omega))]; exact (hcv i hi).2.2) (by rw [rd_F (o2 _ (by omega) (by omega) (by omega))]; exact ey) (fun M hM => ⟨fun g2 => ?_, fun g2 F w1 w11 w3 wdl w39 => ?_⟩)
    · have := (rel M hM).1.1
      rw [g, g2] at this
      cases this
    · obtain ⟨-, w⟩ := rel M hM
      obtain ⟨a1, a2, a3⟩ := w g2
      generalize LL ch t (p_anew (vc I (x + 96 + 2))) = A at g hdl h00 a1 ⊢
      generalize LL ch t M = D at g2 wdl a1 a2 a3 ⊢
      have a1' : ag (wc D.2.2.1 D.2.2.2.1) (mm_uI (dl A.2.2.2.2) 0 5 (L 0 5)) (dl D.2.2.2.2) := by
        intro q i hq
        have q7 : q < 7 := by unfold wc at hq; omega
        rw [dl_at q7]
        by_cases c : q = 0 ∧ i = 5
        · obtain ⟨rfl, rfl⟩ := c
          rw [mu_s]; exact a3.symm
        · have e : mm_uI (dl A.2.2.2.2) 0 5 (L 0 5) q i = A.2.2.2.2 q i := by
            by_cases q0 : q = 0
            · subst q0; rw [mu_j (by omega), dl_at (by decide)]
            · rw [mu_n q0, dl_at q7]
          rw [e]
          exact a1 q i ⟨hq, c⟩
      have gl2 : gl (dl D.2.2.2.2) D.2.2.1 D.2.2.2.1 := ⟨dl_G.mpr a2.1, dl_R.mpr a2.2.1, by rw [dl_at (by decide)]; exact a2.2.2.1, by rw [dl_at (by decide)]; exact a2.2.2.2⟩
      have gl1 : gl (mm_uI (dl A.2.2.2.2) 0 5 (L 0 5)) D.2.2.1 D.2.2.2.1 := gl_sm gl2 (fun q i hq => (a1' q i hq).symm)
      have e00 : A.2.2.2.2 0 0 = D.2.2.2.2 0 0 := a1 0 0 ⟨wc_0, by omega⟩
      rw [e00]
      have hI1 : ALL (fun q => if x + 1 ≤ q ∧ q < x + 93 then I q else if q = m + 5 then I q else F q) r x m := by
        refine ALL_t h (fun q z1 z2 z3 z4 => ?_) ?_ ⟨0, by decide, ?_, ?_, fun i hi => absurd hi (by omega)⟩
        · unfold scr at z1
          by_cases c : x + 1 ≤ q ∧ q < x + 93
          · rw [if_pos c]
          · rw [if_neg c]
            by_cases c2 : q = m + 5
            · rw [if_pos c2]
            · rw [if_neg c2, w1 q z4 (by omega) c2, o2 q c (by omega) (by omega)]
        · skip
          rw [if_neg (by omega), if_neg (by omega), w11, o2 m (by omega) (by omega) (by omega)]
        · show (if x + 1 ≤ x + 96 ∧ x + 96 < x + 93 then I (x + 96) else if x + 96 = m + 5 then I (x + 96) else F (x + 96)) 0 = nI 0
          rw [if_neg (by omega), if_neg (by omega), w1 _ (by omega) (by omega) (by omega), ← hJ2, mu_n (by omega), mu_n (by omega), hF _ (by omega), mu_s]; rfl
        · show (if x + 1 ≤ m ∧ m < x + 93 then I m else if m = m + 5 then I m else F m) 3 = nI 0
          rw [if_neg (by omega), if_neg (by omega)]; exact w3
      have cls : ∀ q, x + 1 ≤ q ∧ q < x + 93 → F q = J2 q := fun q hq => w1 q (by omega) (by omega) (by omega)
      refine fi_i _ (ALL_mk (sg := sg) (L := mm_uI (dl A.2.2.2.2) 0 5 (L 0 5)) (bn := 0) (B := B) (Lr := dl D.2.2.2.2) (Br := Br) (n := D.2.2.1) (ng := D.2.2.2.1) (I1 := fun q => if q = m + 5 then I q else F q) hI1 hS rfl ⟨hps, ?_, ⟨⟨by decide, ?_⟩, fun k hk => absurd hk (by omega)⟩⟩ (fun q hq => ?_) ⟨wdl, ⟨⟨by decide, w39⟩, fun k hk => absurd hk (by omega)⟩⟩ (fun q z1 _ _ => ?_) ⟨⟨gl1, fun k hk => absurd hk (by omega)⟩, ⟨gl2, fun k hk => absurd hk (by omega)⟩, a1', fun k hk => absurd hk (by omega)⟩) rfl rfl
      · rw [← hdl]
        congr 1
        exact vc_eq (fun q z1 z2 => by rw [if_neg (by omega)]; exact cls q (by omega))
      · show (if x + 19 = m + 5 then I (x + 19) else F (x + 19)) 1 = nI 0
        rw [if_neg (by omega), cls _ (by omega), ← hJ2, mu_s]; rfl
      · skip
        rw [if_neg hq]
      · skip
        rw [if_neg z1]
  · -- not told
    have kI' : ∀ q, q ≠ x + 96 → ¬ (x + 98 ≤ q ∧ q < x + 107) → K q = I q := fun q a b => hK q a (by omega)
    have ef : mm_rd (mm_uI K (x + 96) 0 0) (x + 96) 1 = -20 - nI (LL ch t (p_anew (vc I (x + 96 + 2)))).2.1 := by
      show mm_uI K (x + 96) 0 0 (x + 96) 1 = _
      rw [mu_j (by decide)]; exact hKf
    simp only [mm_pu_s, e56_7, e56_8, e56_9, e56_12, e56_13, e56_16, e56_17, e56_20, e56_21, e56_24, e56_27, mm_pu_n, mm_pu_s, va_rf_s, mm_w8_0, mm_w8_1, mm_w8_2, mm_w8_3, mm_w8_4, mm_c1_n, mm_c1_i, mm_c1_a, mm_ct_a, mm_ct_i, true_and, and_true, and_self, eq_self, if_true, if_false, ite_true, ite_false, bI_t, bI_z, bI_nz, bI_01, true_or, or_true, reduceCtorEq, false_or, or_false, decide_eq_false_iff_not, decide_eq_true_eq, ite_not, x0, x1, x2, x3, x4, x5, x6, x7, x8, l1.s0, l1.p6, l1.p7, l1.p8, l1.p9, l1.p10, l1.p11, l1.p12, l1.p13, l1.i1, l1.i2, l1.i3, l1.i4, l1.i5, l1.i6, l1.i7, l1.i8, htp.1, ef]
    generalize hJ2 : mm_uI K (x + 96) 0 0 = J2
    have o2 : ∀ q, q ≠ x + 96 → ¬ (x + 98 ≤ q ∧ q < x + 107) → J2 q = I q := fun q b c => by rw [← hJ2, mu_n b, kI' q b c]
    refine m_read (y := L 0 5) hml hc (by rw [rd_F (o2 m (by omega) (by omega))]; exact s2) (fun i hi => by rw [rd_F (o2 _ (by omega) (by omega))]; exact (hcv i hi).2.2) (by rw [rd_F (o2 _ (by omega) (by omega))]; exact ey) (fun M hM => ⟨fun g2 F w1 w11 w3 => ?_, fun g2 => ?_⟩)
    · rw [(rel M hM).1.2]
      refine fi_i _ (ALL_t h (fun q z1 z2 z3 z4 => ?_) ?_ ⟨0, by decide, ?_, w3, fun i hi => absurd hi (by omega)⟩) rfl rfl
      · unfold scr at z1
        rw [w1 q z4 (by omega), o2 q (by omega) (by omega)]
      · rw [w11, o2 m (by omega) (by omega)]
      · rw [rd_F (w1 _ (by omega) (by omega)), ← hJ2]; exact rd_u
    · have := (rel M hM).1.1
      rw [g, g2] at this
      cases this
end
