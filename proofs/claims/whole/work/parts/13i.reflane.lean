theorem cc_0 {ch : Nat → Nat} {t q : Nat} (hc : okc ch t) : (cc ch t 0 q = 0) = (¬ q < t) := by
  unfold cc
  by_cases c : q < t
  · have := hc.2 q c
    rw [if_pos c]
    exact propext ⟨fun z => absurd ((nI_eq (a := ch q) (b := 0) (by omega) (by decide)).mp z) (by omega), fun z => absurd c z⟩
  · rw [if_neg c]
    exact propext ⟨fun _ => c, fun _ => rfl⟩
section
variable {r : mm_R} {J : mm_I} {m t p : Nat} {ch : Nat → Nat} {Q : Option Value → mm_I → mm_R → Prop}
theorem u_houses (hml : ml_S r m) (hc : okc ch t) : ∀ d n p J, n + d = 6 → 0 < d → tr J m t ch p → vr J (m + 7) m 0 0 = nI n → ((HL ch t d n p (vr J (m + 7) m)).1 = true → ∀ K, f7 m J K → tr K m t ch (HL ch t d n p (vr J (m + 7) m)).2.1 → vr K (m + 7) m = (HL ch t d n p (vr J (m + 7) m)).2.2.2 → mm_E 117 78 [some (.ref m), some (.int 0)] [] K r Q) → ((HL ch t d n p (vr J (m + 7) m)).1 = false → ∀ K, f7 m J K → tr K m t ch (HL ch t d n p (vr J (m + 7) m)).2.1 → Q (some (.int 0)) K r) → mm_E 117 35 [some (.ref m), some (.int 1)] [] J r Q := by
  intro d
  induction d with
  | zero => intro n p J _ h; exact absurd h (by decide)
  | succ d ih =>
    intro n p J hd _ h h0 hq1 hq0
    have eH : HL ch t (d + 1) n p (vr J (m + 7) m) = if (hw ch t p && !dg ch t (h3 ch t p)) = true then (if d = 0 then (true, hn ch t p, n + 1, hM ch t p (vr J (m + 7) m) n) else if so ch t 44 (hn ch t p) = true then HL ch t d (n + 1) (se ch t 44 (hn ch t p)) (hM ch t p (vr J (m + 7) m) n) else (true, se ch t 44 (hn ch t p), n + 1, hM ch t p (vr J (m + 7) m) n)) else (false, hf ch t p, n, vr J (m + 7) m) := rfl
    rw [eH] at hq1 hq0
    rw [e117_35]
    simp only [e117_36, e117_39, e117_40, mm_pu_n, mm_pu_s, va_rf_s, mm_w8_0, mm_w8_1, mm_w8_2, mm_w8_3, mm_w8_4, mm_c1_n, mm_c1_i, mm_c1_a, mm_ct_a, mm_ct_i, true_and, and_true, and_self, eq_self, if_true, if_false, ite_true, ite_false, bI_t, bI_z, bI_nz, bI_01, true_or, or_true, reduceCtorEq, false_or, or_false, decide_eq_false_iff_not, decide_eq_true_eq, ite_not, bI_01, hml.s0]
    refine u_isHouseItem hml hc h (by omega) h0 (fun g K hK hKt hKv => ?_) (fun g K hK hKt => ?_)
    · rw [g, if_pos rfl] at hq1 hq0
      have m0 := hM_0 ch t p (vr J (m + 7) m) n
      have g0 : vr K (m + 7) m 0 0 = nI (n + 1) := by rw [hKv]; exact m0.1
      by_cases c : d = 0
      · rw [if_pos c] at hq1
        have z6 : ((6 : Int32) ≤ nI (n + 1)) = True := eq_true (by rw [show n + 1 = 6 by omega]; decide)
        simp only [mm_pu_s, e117_43, e117_46, e117_47, e117_48, e117_49, e117_52, e117_54, e117_55, e117_57, e117_60, e117_61, e117_63, e117_66, e117_69, e117_70, e117_73, e117_74, e117_75, mm_pu_n, mm_pu_s, va_rf_s, mm_w8_0, mm_w8_1, mm_w8_2, mm_w8_3, mm_w8_4, mm_c1_n, mm_c1_i, mm_c1_a, mm_ct_a, mm_ct_i, true_and, and_true, and_self, eq_self, if_true, if_false, ite_true, ite_false, bI_t, bI_z, bI_nz, bI_01, true_or, or_true, reduceCtorEq, false_or, or_false, decide_eq_false_iff_not, decide_eq_true_eq, ite_not, bI_01, hml.s0, hml.p9, hml.i7, c27.1, d27.1, r27 (s := m + 7) m, g0, z6]
        rw [e117_35]
        simp only [e117_36, mm_pu_n, mm_pu_s, va_rf_s, mm_w8_0, mm_w8_1, mm_w8_2, mm_w8_3, mm_w8_4, mm_c1_n, mm_c1_i, mm_c1_a, mm_ct_a, mm_ct_i, true_and, and_true, and_self, eq_self, if_true, if_false, ite_true, ite_false, bI_t, bI_z, bI_nz, bI_01, true_or, or_true, reduceCtorEq, false_or, or_false, decide_eq_false_iff_not, decide_eq_true_eq, ite_not]
        exact hq1 rfl K hK hKt hKv
      · rw [if_neg c] at hq1 hq0
        have z6 : ¬ ((6 : Int32) ≤ nI (n + 1)) := by
          rw [show (6 : Int32) = nI 6 from rfl]
          exact nI_ge (by omega) (by decide)
        simp only [mm_pu_s, e117_43, e117_46, e117_47, e117_48, e117_49, e117_52, e117_54, e117_55, e117_57, e117_60, e117_61, e117_63, mm_pu_n, mm_pu_s, va_rf_s, mm_w8_0, mm_w8_1, mm_w8_2, mm_w8_3, mm_w8_4, mm_c1_n, mm_c1_i, mm_c1_a, mm_ct_a, mm_ct_i, true_and, and_true, and_self, eq_self, if_true, if_false, ite_true, ite_false, bI_t, bI_z, bI_nz, bI_01, true_or, or_true, reduceCtorEq, false_or, or_false, decide_eq_false_iff_not, decide_eq_true_eq, ite_not, bI_01, hml.s0, hml.p9, hml.i7, c27.1, d27.1, r27 (s := m + 7) m, g0, z6]
        rw [show (44 : Int32) = nI 44 from rfl]
        refine u_isSign hml hc hKt (by decide) (fun K2 hK2 hK2t => ?_)
        have hv2 : vr K2 (m + 7) m = hM ch t p (vr J (m + 7) m) n := (vr_5 hK2).trans hKv
        have f2 := hK.tr (f7.f hK2)
        cases z : so ch t 44 (hn ch t p) with
        | false =>
          rw [z, if_neg (by decide)] at hq1
          simp only [mm_pu_s, e117_66, e117_69, e117_70, e117_73, e117_74, e117_75, mm_pu_n, mm_pu_s, va_rf_s, mm_w8_0, mm_w8_1, mm_w8_2, mm_w8_3, mm_w8_4, mm_c1_n, mm_c1_i, mm_c1_a, mm_ct_a, mm_ct_i, true_and, and_true, and_self, eq_self, if_true, if_false, ite_true, ite_false, bI_t, bI_z, bI_nz, bI_01, true_or, or_true, reduceCtorEq, false_or, or_false, decide_eq_false_iff_not, decide_eq_true_eq, ite_not]
          rw [e117_35]
          simp only [e117_36, mm_pu_n, mm_pu_s, va_rf_s, mm_w8_0, mm_w8_1, mm_w8_2, mm_w8_3, mm_w8_4, mm_c1_n, mm_c1_i, mm_c1_a, mm_ct_a, mm_ct_i, true_and, and_true, and_self, eq_self, if_true, if_false, ite_true, ite_false, bI_t, bI_z, bI_nz, bI_01, true_or, or_true, reduceCtorEq, false_or, or_false, decide_eq_false_iff_not, decide_eq_true_eq, ite_not]
          exact hq1 rfl K2 f2 hK2t hv2
        | true =>
          rw [z, if_pos rfl] at hq1 hq0
          simp only [mm_pu_s, e117_66, e117_69, e117_70, e117_73, e117_74, e117_75, mm_pu_n, mm_pu_s, va_rf_s, mm_w8_0, mm_w8_1, mm_w8_2, mm_w8_3, mm_w8_4, mm_c1_n, mm_c1_i, mm_c1_a, mm_ct_a, mm_ct_i, true_and, and_true, and_self, eq_self, if_true, if_false, ite_true, ite_false, bI_t, bI_z, bI_nz, bI_01, true_or, or_true, reduceCtorEq, false_or, or_false, decide_eq_false_iff_not, decide_eq_true_eq, ite_not, Bool.true_eq_false]
          refine ih (n + 1) _ K2 (by omega) (by omega) hK2t (by rw [hv2]; exact m0.1) ?_ ?_
          · rw [hv2]; exact fun y K3 w1 w2 w3 => hq1 y K3 (f2.tr w1) w2 w3
          · rw [hv2]; exact fun y K3 w1 w2 => hq0 y K3 (f2.tr w1) w2
    · rw [g, if_neg (by decide)] at hq0
      simp only [mm_pu_s, e117_43, e117_46, e117_47, mm_pu_n, mm_pu_s, va_rf_s, mm_w8_0, mm_w8_1, mm_w8_2, mm_w8_3, mm_w8_4, mm_c1_n, mm_c1_i, mm_c1_a, mm_ct_a, mm_ct_i, true_and, and_true, and_self, eq_self, if_true, if_false, ite_true, ite_false, bI_t, bI_z, bI_nz, bI_01, true_or, or_true, reduceCtorEq, false_or, or_false, decide_eq_false_iff_not, decide_eq_true_eq, ite_not]
      exact hq0 rfl K hK hKt
theorem u_hogs {n : Nat} (hml : ml_S r m) (hc : okc ch t) (hn6 : n ≤ 6) : ∀ d ng p J, ng + d = 5 → 0 < d → tr J m t ch p → vr J (m + 7) m 0 0 = nI n → vr J (m + 7) m 0 1 = nI ng → ((GL ch t n d ng p (vr J (m + 7) m)).1 = true → ∀ K, f7 m J K → tr K m t ch (GL ch t n d ng p (vr J (m + 7) m)).2.1 → vr K (m + 7) m = (GL ch t n d ng p (vr J (m + 7) m)).2.2.2 → mm_E 117 127 [some (.ref m), some (.int 0)] [] K r Q) → ((GL ch t n d ng p (vr J (m + 7) m)).1 = false → ∀ K, f7 m J K → tr K m t ch (GL ch t n d ng p (vr J (m + 7) m)).2.1 → Q (some (.int 0)) K r) → mm_E 117 85 [some (.ref m), some (.int 1)] [] J r Q := by
  intro d
  induction d with
  | zero => intro ng p J _ h; exact absurd h (by decide)
  | succ d ih =>
    intro ng p J hd _ h h0 h1 hq1 hq0
    have eH : GL ch t n (d + 1) ng p (vr J (m + 7) m) = if gok ch t n p = true then (if d = 0 then (true, ge' ch t p, ng + 1, gM ch t p (vr J (m + 7) m) ng) else if so ch t 44 (ge' ch t p) = true then GL ch t n d (ng + 1) (se ch t 44 (ge' ch t p)) (gM ch t p (vr J (m + 7) m) ng) else (true, se ch t 44 (ge' ch t p), ng + 1, gM ch t p (vr J (m + 7) m) ng)) else (false, gf ch t p, ng, vr J (m + 7) m) := rfl
    rw [eH] at hq1 hq0
    rw [e117_85]
    simp only [e117_86, e117_89, e117_90, mm_pu_n, mm_pu_s, va_rf_s, mm_w8_0, mm_w8_1, mm_w8_2, mm_w8_3, mm_w8_4, mm_c1_n, mm_c1_i, mm_c1_a, mm_ct_a, mm_ct_i, true_and, and_true, and_self, eq_self, if_true, if_false, ite_true, ite_false, bI_t, bI_z, bI_nz, bI_01, true_or, or_true, reduceCtorEq, false_or, or_false, decide_eq_false_iff_not, decide_eq_true_eq, ite_not, bI_01, hml.s0]
    refine u_isHogItem hml hc h hn6 (by omega) h0 h1 (fun g K hK hKt hKv => ?_) (fun g K hK hKt => ?_)
    · rw [g, if_pos rfl] at hq1 hq0
      have m0 := gM_0 ch t p (vr J (m + 7) m) ng
      have g1 : vr K (m + 7) m 0 1 = nI (ng + 1) := by rw [hKv]; exact m0.2
      by_cases c : d = 0
      · rw [if_pos c] at hq1
        have z6 : ((5 : Int32) ≤ nI (ng + 1)) = True := eq_true (by rw [show ng + 1 = 5 by omega]; decide)
        simp only [mm_pu_s, e117_93, e117_96, e117_97, e117_98, e117_99, e117_102, e117_104, e117_105, e117_106, e117_109, e117_110, e117_112, e117_115, e117_118, e117_119, e117_122, e117_123, e117_124, mm_pu_n, mm_pu_s, va_rf_s, mm_w8_0, mm_w8_1, mm_w8_2, mm_w8_3, mm_w8_4, mm_c1_n, mm_c1_i, mm_c1_a, mm_ct_a, mm_ct_i, true_and, and_true, and_self, eq_self, if_true, if_false, ite_true, ite_false, bI_t, bI_z, bI_nz, bI_01, true_or, or_true, reduceCtorEq, false_or, or_false, decide_eq_false_iff_not, decide_eq_true_eq, ite_not, bI_01, hml.s0, hml.p9, hml.i7, c27.2.1, d27.2.1, r28 (s := m + 7) m, g1, z6]
        rw [e117_85]
        simp only [e117_86, mm_pu_n, mm_pu_s, va_rf_s, mm_w8_0, mm_w8_1, mm_w8_2, mm_w8_3, mm_w8_4, mm_c1_n, mm_c1_i, mm_c1_a, mm_ct_a, mm_ct_i, true_and, and_true, and_self, eq_self, if_true, if_false, ite_true, ite_false, bI_t, bI_z, bI_nz, bI_01, true_or, or_true, reduceCtorEq, false_or, or_false, decide_eq_false_iff_not, decide_eq_true_eq, ite_not]
        exact hq1 rfl K hK hKt hKv
      · rw [if_neg c] at hq1 hq0
        have z6 : ¬ ((5 : Int32) ≤ nI (ng + 1)) := by
          rw [show (5 : Int32) = nI 5 from rfl]
          exact nI_ge (by omega) (by decide)
        simp only [mm_pu_s, e117_93, e117_96, e117_97, e117_98, e117_99, e117_102, e117_104, e117_105, e117_106, e117_109, e117_110, e117_112, mm_pu_n, mm_pu_s, va_rf_s, mm_w8_0, mm_w8_1, mm_w8_2, mm_w8_3, mm_w8_4, mm_c1_n, mm_c1_i, mm_c1_a, mm_ct_a, mm_ct_i, true_and, and_true, and_self, eq_self, if_true, if_false, ite_true, ite_false, bI_t, bI_z, bI_nz, bI_01, true_or, or_true, reduceCtorEq, false_or, or_false, decide_eq_false_iff_not, decide_eq_true_eq, ite_not, bI_01, hml.s0, hml.p9, hml.i7, c27.2.1, d27.2.1, r28 (s := m + 7) m, g1, z6]
        rw [show (44 : Int32) = nI 44 from rfl]
        refine u_isSign hml hc hKt (by decide) (fun K2 hK2 hK2t => ?_)
        have hv2 : vr K2 (m + 7) m = gM ch t p (vr J (m + 7) m) ng := (vr_5 hK2).trans hKv
        have f2 := hK.tr (f7.f hK2)
        cases z : so ch t 44 (ge' ch t p) with
        | false =>
          rw [z, if_neg (by decide)] at hq1
          simp only [mm_pu_s, e117_115, e117_118, e117_119, e117_122, e117_123, e117_124, mm_pu_n, mm_pu_s, va_rf_s, mm_w8_0, mm_w8_1, mm_w8_2, mm_w8_3, mm_w8_4, mm_c1_n, mm_c1_i, mm_c1_a, mm_ct_a, mm_ct_i, true_and, and_true, and_self, eq_self, if_true, if_false, ite_true, ite_false, bI_t, bI_z, bI_nz, bI_01, true_or, or_true, reduceCtorEq, false_or, or_false, decide_eq_false_iff_not, decide_eq_true_eq, ite_not]
          rw [e117_85]
          simp only [e117_86, mm_pu_n, mm_pu_s, va_rf_s, mm_w8_0, mm_w8_1, mm_w8_2, mm_w8_3, mm_w8_4, mm_c1_n, mm_c1_i, mm_c1_a, mm_ct_a, mm_ct_i, true_and, and_true, and_self, eq_self, if_true, if_false, ite_true, ite_false, bI_t, bI_z, bI_nz, bI_01, true_or, or_true, reduceCtorEq, false_or, or_false, decide_eq_false_iff_not, decide_eq_true_eq, ite_not]
          exact hq1 rfl K2 f2 hK2t hv2
        | true =>
          rw [z, if_pos rfl] at hq1 hq0
          simp only [mm_pu_s, e117_115, e117_118, e117_119, e117_122, e117_123, e117_124, mm_pu_n, mm_pu_s, va_rf_s, mm_w8_0, mm_w8_1, mm_w8_2, mm_w8_3, mm_w8_4, mm_c1_n, mm_c1_i, mm_c1_a, mm_ct_a, mm_ct_i, true_and, and_true, and_self, eq_self, if_true, if_false, ite_true, ite_false, bI_t, bI_z, bI_nz, bI_01, true_or, or_true, reduceCtorEq, false_or, or_false, decide_eq_false_iff_not, decide_eq_true_eq, ite_not, Bool.true_eq_false]
          refine ih (ng + 1) _ K2 (by omega) (by omega) hK2t (by rw [hv2, m0.1]; exact h0) (by rw [hv2]; exact m0.2) ?_ ?_
          · rw [hv2]; exact fun y K3 w1 w2 w3 => hq1 y K3 (f2.tr w1) w2 w3
          · rw [hv2]; exact fun y K3 w1 w2 => hq0 y K3 (f2.tr w1) w2
    · rw [g, if_neg (by decide)] at hq0
      simp only [mm_pu_s, e117_93, e117_96, e117_97, mm_pu_n, mm_pu_s, va_rf_s, mm_w8_0, mm_w8_1, mm_w8_2, mm_w8_3, mm_w8_4, mm_c1_n, mm_c1_i, mm_c1_a, mm_ct_a, mm_ct_i, true_and, and_true, and_self, eq_self, if_true, if_false, ite_true, ite_false, bI_t, bI_z, bI_nz, bI_01, true_or, or_true, reduceCtorEq, false_or, or_false, decide_eq_false_iff_not, decide_eq_true_eq, ite_not]
      exact hq0 rfl K hK hKt
theorem u_end {n ng : Nat} {M : mm_I} (hml : ml_S r m) (hc : okc ch t) (h : tr J m t ch p) (hv : vr J (m + 7) m = M) (hq1 : (LF ch t p n ng M).1 = true → ∀ K, f7 m J K → vr K (m + 7) m = M → Q (some (.int 1)) K r) (hq0 : (LF ch t p n ng M).1 = false → ∀ K, f7 m J K → mm_rd K m 5 = nI (LF ch t p n ng M).2.1 → Q (some (.int 0)) K r) : mm_E 117 127 [some (.ref m), some (.int 0)] [] J r Q := by
  simp only [e117_127, e117_128, mm_pu_n, mm_pu_s, va_rf_s, mm_w8_0, mm_w8_1, mm_w8_2, mm_w8_3, mm_w8_4, mm_c1_n, mm_c1_i, mm_c1_a, mm_ct_a, mm_ct_i, true_and, and_true, and_self, eq_self, if_true, if_false, ite_true, ite_false, bI_t, bI_z, bI_nz, bI_01, true_or, or_true, reduceCtorEq, false_or, or_false, decide_eq_false_iff_not, decide_eq_true_eq, ite_not, hml.s0]
  refine u_peek hml hc h (fun K hK hKt => ?_)
  simp only [mm_pu_s, e117_131, mm_pu_n, mm_pu_s, va_rf_s, mm_w8_0, mm_w8_1, mm_w8_2, mm_w8_3, mm_w8_4, mm_c1_n, mm_c1_i, mm_c1_a, mm_ct_a, mm_ct_i, true_and, and_true, and_self, eq_self, if_true, if_false, ite_true, ite_false, bI_t, bI_z, bI_nz, bI_01, true_or, or_true, reduceCtorEq, false_or, or_false, decide_eq_false_iff_not, decide_eq_true_eq, ite_not, cc_0 hc]
  by_cases c : sp ch t p < t
  · rw [if_pos c]
    simp only [e117_138, e117_139, mm_pu_n, mm_pu_s, va_rf_s, mm_w8_0, mm_w8_1, mm_w8_2, mm_w8_3, mm_w8_4, mm_c1_n, mm_c1_i, mm_c1_a, mm_ct_a, mm_ct_i, true_and, and_true, and_self, eq_self, if_true, if_false, ite_true, ite_false, bI_t, bI_z, bI_nz, bI_01, true_or, or_true, reduceCtorEq, false_or, or_false, decide_eq_false_iff_not, decide_eq_true_eq, ite_not]
    exact hq0 (decide_eq_false (fun z => z c)) K (f7.f hK) hKt.1.2
  · rw [if_neg c]
    simp only [e117_134, e117_135, e117_138, e117_139, mm_pu_n, mm_pu_s, va_rf_s, mm_w8_0, mm_w8_1, mm_w8_2, mm_w8_3, mm_w8_4, mm_c1_n, mm_c1_i, mm_c1_a, mm_ct_a, mm_ct_i, true_and, and_true, and_self, eq_self, if_true, if_false, ite_true, ite_false, bI_t, bI_z, bI_nz, bI_01, true_or, or_true, reduceCtorEq, false_or, or_false, decide_eq_false_iff_not, decide_eq_true_eq, ite_not]
    exact hq1 (decide_eq_true c) K (f7.f hK) ((vr_5 hK).trans hv)
theorem u_isLane (hml : ml_S r m) (hc : okc ch t) (h : tr J m t ch 0) (h0 : vr J (m + 7) m 0 0 = nI 0) (h1 : vr J (m + 7) m 0 1 = nI 0) (hq1 : (LL ch t (vr J (m + 7) m)).1 = true → ∀ K, f7 m J K → vr K (m + 7) m = (LL ch t (vr J (m + 7) m)).2.2.2.2 → Q (some (.int 1)) K r) (hq0 : (LL ch t (vr J (m + 7) m)).1 = false → ∀ K, f7 m J K → mm_rd K m 5 = nI (LL ch t (vr J (m + 7) m)).2.1 → Q (some (.int 0)) K r) : mm_E 117 0 [some (.ref m), none] [] J r Q := by
  simp only [e117_0, e117_1, e117_3, mm_pu_n, mm_pu_s, va_rf_s, mm_w8_0, mm_w8_1, mm_w8_2, mm_w8_3, mm_w8_4, mm_c1_n, mm_c1_i, mm_c1_a, mm_ct_a, mm_ct_i, true_and, and_true, and_self, eq_self, if_true, if_false, ite_true, ite_false, bI_t, bI_z, bI_nz, bI_01, true_or, or_true, reduceCtorEq, false_or, or_false, decide_eq_false_iff_not, decide_eq_true_eq, ite_not, hml.s0]
  rw [show (20 : Int32) = nI 20 from rfl]
  unfold LL at hq1 hq0
  refine u_isNumber hml hc h (by decide) (fun g1 d1 K hK hKt hK6 => ?_) (fun g1 K hK hKt => ?_) (fun g1 d1 K hK hKt => ?_)
  · rw [g1, if_pos rfl] at hq1 hq0
    have t3 : tr (mm_uI K (m + 7) 26 (nI (nv ch t 0))) m t ch (ne ch t 0) := tr_7 hKt (mu_n (by omega)) (mu_n (by omega))
    have v3 : vr (mm_uI K (m + 7) 26 (nI (nv ch t 0))) (m + 7) m = mm_uI (vr J (m + 7) m) 0 2 (nI (nv ch t 0)) := by
      have e : vr (mm_uI K (m + 7) 26 (nI (nv ch t 0))) (m + 7) m = mm_uI (vr K (m + 7) m) 0 2 (nI (nv ch t 0)) := vr_u (k := 0) (i := 2) ⟨by omega, by omega⟩ ⟨by decide, by decide⟩
      rw [e, vr_5 hK]
    have fr3 : f7 m J (mm_uI K (m + 7) 26 (nI (nv ch t 0))) := (f7.f hK).tr (f7.u (by decide))
    simp only [mm_pu_s, e117_6, e117_9, e117_10, e117_11, e117_12, e117_15, e117_17, e117_18, e117_21, e117_22, e117_23, e117_25, mm_pu_n, mm_pu_s, va_rf_s, mm_w8_0, mm_w8_1, mm_w8_2, mm_w8_3, mm_w8_4, mm_c1_n, mm_c1_i, mm_c1_a, mm_ct_a, mm_ct_i, true_and, and_true, and_self, eq_self, if_true, if_false, ite_true, ite_false, bI_t, bI_z, bI_nz, bI_01, true_or, or_true, reduceCtorEq, false_or, or_false, decide_eq_false_iff_not, decide_eq_true_eq, ite_not, bI_01, hml.s0, hml.p9, hml.i7, c27.2.2.1, d27.2.2.1, hK6]
    generalize mm_uI K (m + 7) 26 (nI (nv ch t 0)) = J3 at t3 v3 fr3
    rw [show (59 : Int32) = nI 59 from rfl]
    refine u_isSign hml hc t3 (by decide) (fun K4 hK4 t4 => ?_)
    have v4 := (vr_5 hK4).trans v3
    have fr4 := fr3.tr (f7.f hK4)
    cases z : so ch t 59 (ne ch t 0) with
    | false =>
      have e : se ch t 59 (ne ch t 0) = sp ch t (ne ch t 0) := by unfold se; rw [z]; rfl
      rw [z, if_neg (by decide)] at hq0
      simp only [mm_pu_s, e117_28, e117_31, e117_32, mm_pu_n, mm_pu_s, va_rf_s, mm_w8_0, mm_w8_1, mm_w8_2, mm_w8_3, mm_w8_4, mm_c1_n, mm_c1_i, mm_c1_a, mm_ct_a, mm_ct_i, true_and, and_true, and_self, eq_self, if_true, if_false, ite_true, ite_false, bI_t, bI_z, bI_nz, bI_01, true_or, or_true, reduceCtorEq, false_or, or_false, decide_eq_false_iff_not, decide_eq_true_eq, ite_not]
      refine hq0 rfl K4 fr4 ?_
      rw [← e]
      exact t4.1.2
    | true =>
      rw [z, if_pos rfl] at hq1 hq0
      simp only [mm_pu_s, e117_28, e117_33, e117_34, mm_pu_n, mm_pu_s, va_rf_s, mm_w8_0, mm_w8_1, mm_w8_2, mm_w8_3, mm_w8_4, mm_c1_n, mm_c1_i, mm_c1_a, mm_ct_a, mm_ct_i, true_and, and_true, and_self, eq_self, if_true, if_false, ite_true, ite_false, bI_t, bI_z, bI_nz, bI_01, true_or, or_true, reduceCtorEq, false_or, or_false, decide_eq_false_iff_not, decide_eq_true_eq, ite_not, Bool.true_eq_false]
      have a0 : vr K4 (m + 7) m 0 0 = nI 0 := by rw [v4, mu_j (by decide)]; exact h0
      have a1 : vr K4 (m + 7) m 0 1 = nI 0 := by rw [v4, mu_j (by decide)]; exact h1
      generalize hHL : HL ch t 6 0 (se ch t 59 (ne ch t 0)) (mm_uI (vr J (m + 7) m) 0 2 (nI (nv ch t 0))) = H at hq1 hq0
      unfold LH at hq1 hq0
      refine u_houses hml hc 6 0 _ K4 (by omega) (by decide) t4 a0 ?_ ?_
      · rw [v4, hHL]
        intro hy K frK tK vK
        have hH := HL_0 (ch := ch) (t := t) 6 0 (se ch t 59 (ne ch t 0)) (mm_uI (vr J (m + 7) m) 0 2 (nI (nv ch t 0))) (by omega)
        rw [hHL] at hH
        obtain ⟨q1, q2, q3⟩ := hH hy
        rw [hy, if_pos rfl] at hq1 hq0
        unfold LG at hq1 hq0
        simp only [e117_78, e117_79, e117_81, mm_pu_n, mm_pu_s, va_rf_s, mm_w8_0, mm_w8_1, mm_w8_2, mm_w8_3, mm_w8_4, mm_c1_n, mm_c1_i, mm_c1_a, mm_ct_a, mm_ct_i, true_and, and_true, and_self, eq_self, if_true, if_false, ite_true, ite_false, bI_t, bI_z, bI_nz, bI_01, true_or, or_true, reduceCtorEq, false_or, or_false, decide_eq_false_iff_not, decide_eq_true_eq, ite_not, hml.s0]
        rw [show (59 : Int32) = nI 59 from rfl]
        refine u_isSign hml hc tK (by decide) (fun K5 hK5 t5 => ?_)
        have v5 := (vr_5 hK5).trans vK
        have fr5 := (fr4.tr frK).tr (f7.f hK5)
        cases z2 : so ch t 59 H.2.1 with
        | false =>
          rw [z2, if_neg (by decide)] at hq1 hq0
          simp only [mm_pu_s, e117_84, mm_pu_n, mm_pu_s, va_rf_s, mm_w8_0, mm_w8_1, mm_w8_2, mm_w8_3, mm_w8_4, mm_c1_n, mm_c1_i, mm_c1_a, mm_ct_a, mm_ct_i, true_and, and_true, and_self, eq_self, if_true, if_false, ite_true, ite_false, bI_t, bI_z, bI_nz, bI_01, true_or, or_true, reduceCtorEq, false_or, or_false, decide_eq_false_iff_not, decide_eq_true_eq, ite_not]
          rw [e117_85, show bI false = 0 from rfl]
          simp only [e117_86, mm_pu_n, mm_pu_s, va_rf_s, mm_w8_0, mm_w8_1, mm_w8_2, mm_w8_3, mm_w8_4, mm_c1_n, mm_c1_i, mm_c1_a, mm_ct_a, mm_ct_i, true_and, and_true, and_self, eq_self, if_true, if_false, ite_true, ite_false, bI_t, bI_z, bI_nz, bI_01, true_or, or_true, reduceCtorEq, false_or, or_false, decide_eq_false_iff_not, decide_eq_true_eq, ite_not]
          exact u_end (n := H.2.2.1) (ng := 0) hml hc t5 v5 (fun y K2 w1 w2 => hq1 y K2 (fr5.tr w1) w2) (fun y K2 w1 w2 => hq0 y K2 (fr5.tr w1) w2)
        | true =>
          rw [z2, if_pos rfl] at hq1 hq0
          simp only [mm_pu_s, e117_84, mm_pu_n, mm_pu_s, va_rf_s, mm_w8_0, mm_w8_1, mm_w8_2, mm_w8_3, mm_w8_4, mm_c1_n, mm_c1_i, mm_c1_a, mm_ct_a, mm_ct_i, true_and, and_true, and_self, eq_self, if_true, if_false, ite_true, ite_false, bI_t, bI_z, bI_nz, bI_01, true_or, or_true, reduceCtorEq, false_or, or_false, decide_eq_false_iff_not, decide_eq_true_eq, ite_not]
          rw [show bI true = 1 from rfl]
          have b0 : vr K5 (m + 7) m 0 0 = nI H.2.2.1 := by rw [v5]; exact q1
          have b1 : vr K5 (m + 7) m 0 1 = nI 0 := by rw [v5, q3, ← v4]; exact a1
          refine u_hogs hml hc q2 5 0 _ K5 (by omega) (by decide) t5 b0 b1 ?_ ?_
          · rw [v5]
            intro hy2 K2 frK2 tK2 vK2
            rw [hy2, if_pos rfl] at hq1 hq0
            exact u_end hml hc tK2 vK2 (fun y K3 w1 w2 => hq1 y K3 ((fr5.tr frK2).tr w1) w2) (fun y K3 w1 w2 => hq0 y K3 ((fr5.tr frK2).tr w1) w2)
          · rw [v5]
            intro hy2 K2 frK2 tK2
            rw [hy2, if_neg (by decide)] at hq0
            exact hq0 rfl K2 (fr5.tr frK2) tK2.1.2
      · rw [v4, hHL]
        intro hy K frK tK
        rw [hy, if_neg (by decide)] at hq0
        exact hq0 rfl K (fr4.tr frK) tK.1.2
  · rw [g1, if_neg (by decide)] at hq0
    simp only [mm_pu_s, e117_6, e117_9, e117_10, mm_pu_n, mm_pu_s, va_rf_s, mm_w8_0, mm_w8_1, mm_w8_2, mm_w8_3, mm_w8_4, mm_c1_n, mm_c1_i, mm_c1_a, mm_ct_a, mm_ct_i, true_and, and_true, and_self, eq_self, if_true, if_false, ite_true, ite_false, bI_t, bI_z, bI_nz, bI_01, true_or, or_true, reduceCtorEq, false_or, or_false, decide_eq_false_iff_not, decide_eq_true_eq, ite_not]
    exact hq0 rfl K (f7.f hK) hKt.1.2
  · have e := so_dg (c := 59) d1 (Or.inr (by decide))
    rw [g1, if_pos rfl, e.1, if_neg (by decide)] at hq0
    simp only [mm_pu_s, e117_6, e117_9, e117_10, mm_pu_n, mm_pu_s, va_rf_s, mm_w8_0, mm_w8_1, mm_w8_2, mm_w8_3, mm_w8_4, mm_c1_n, mm_c1_i, mm_c1_a, mm_ct_a, mm_ct_i, true_and, and_true, and_self, eq_self, if_true, if_false, ite_true, ite_false, bI_t, bI_z, bI_nz, bI_01, true_or, or_true, reduceCtorEq, false_or, or_false, decide_eq_false_iff_not, decide_eq_true_eq, ite_not]
    refine hq0 rfl K (f7.f hK) ?_
    rw [e.2.2]
    exact hKt.1.2
end
