def GL (ch : Nat → Nat) (t n : Nat) : Nat → Nat → Nat → mm_I → Bool × Nat × Nat × mm_I
  | 0, ng, p, M => (false, p, ng, M)
  | d + 1, ng, p, M => if gok ch t n p = true then (if d = 0 then (true, ge' ch t p, ng + 1, gM ch t p M ng) else if so ch t 44 (ge' ch t p) = true then GL ch t n d (ng + 1) (se ch t 44 (ge' ch t p)) (gM ch t p M ng) else (true, se ch t 44 (ge' ch t p), ng + 1, gM ch t p M ng)) else (false, gf ch t p, ng, M)
def LF (ch : Nat → Nat) (t p n ng : Nat) (M : mm_I) : Bool × Nat × Nat × Nat × mm_I := (decide (¬ sp ch t p < t), sp ch t p, n, ng, M)
def LG (ch : Nat → Nat) (t : Nat) (H : Bool × Nat × Nat × mm_I) : Bool × Nat × Nat × Nat × mm_I := if so ch t 59 H.2.1 = true then (if (GL ch t H.2.2.1 5 0 (se ch t 59 H.2.1) H.2.2.2).1 = true then LF ch t (GL ch t H.2.2.1 5 0 (se ch t 59 H.2.1) H.2.2.2).2.1 H.2.2.1 (GL ch t H.2.2.1 5 0 (se ch t 59 H.2.1) H.2.2.2).2.2.1 (GL ch t H.2.2.1 5 0 (se ch t 59 H.2.1) H.2.2.2).2.2.2 else (false, (GL ch t H.2.2.1 5 0 (se ch t 59 H.2.1) H.2.2.2).2.1, 0, 0, H.2.2.2)) else LF ch t (se ch t 59 H.2.1) H.2.2.1 0 H.2.2.2
def LH (ch : Nat → Nat) (t : Nat) (H : Bool × Nat × Nat × mm_I) : Bool × Nat × Nat × Nat × mm_I := if H.1 = true then LG ch t H else (false, H.2.1, 0, 0, H.2.2.2)
def LL (ch : Nat → Nat) (t : Nat) (M : mm_I) : Bool × Nat × Nat × Nat × mm_I := if nok ch t 20 0 = true then (if so ch t 59 (ne ch t 0) = true then LH ch t (HL ch t 6 0 (se ch t 59 (ne ch t 0)) (mm_uI M 0 2 (nI (nv ch t 0)))) else (false, sp ch t (ne ch t 0), 0, 0, M)) else (false, sp ch t 0, 0, 0, M)
theorem gM_0 (ch : Nat → Nat) (t p : Nat) (M : mm_I) (ng : Nat) : gM ch t p M ng 0 0 = M 0 0 ∧ gM ch t p M ng 0 1 = nI (ng + 1) := by
  unfold gM p_adg
  exact ⟨by rw [mu_j (by decide), mu_n (by decide), mu_n (by decide), mu_n (by decide)], mu_s⟩
theorem hM_0 (ch : Nat → Nat) (t p : Nat) (M : mm_I) (n : Nat) : hM ch t p M n 0 0 = nI (n + 1) ∧ hM ch t p M n 0 1 = M 0 1 := by
  unfold hM p_adh
  exact ⟨mu_s, by rw [mu_j (by decide), mu_n (by decide), mu_n (by decide), mu_n (by decide)]⟩
theorem HL_0 {ch : Nat → Nat} {t : Nat} : ∀ d n p M, n + d = 6 → (HL ch t d n p M).1 = true → (HL ch t d n p M).2.2.2 0 0 = nI (HL ch t d n p M).2.2.1 ∧ (HL ch t d n p M).2.2.1 ≤ 6 ∧ (HL ch t d n p M).2.2.2 0 1 = M 0 1 := by
  intro d
  induction d with
  | zero => intro n p M _ h; exact absurd h (by intro z; cases z)
  | succ d ih =>
    intro n p M hd h
    have eH : HL ch t (d + 1) n p M = if (hw ch t p && !dg ch t (h3 ch t p)) = true then (if d = 0 then (true, hn ch t p, n + 1, hM ch t p M n) else if so ch t 44 (hn ch t p) = true then HL ch t d (n + 1) (se ch t 44 (hn ch t p)) (hM ch t p M n) else (true, se ch t 44 (hn ch t p), n + 1, hM ch t p M n)) else (false, hf ch t p, n, M) := rfl
    have m0 := hM_0 ch t p M n
    rw [eH] at h ⊢
    by_cases c1 : (hw ch t p && !dg ch t (h3 ch t p)) = true
    · rw [if_pos c1] at h ⊢
      by_cases c2 : d = 0
      · rw [if_pos c2]; exact ⟨m0.1, by show n + 1 ≤ 6; omega, m0.2⟩
      · rw [if_neg c2] at h ⊢
        by_cases c3 : so ch t 44 (hn ch t p) = true
        · rw [if_pos c3] at h ⊢
          have := ih (n + 1) _ (hM ch t p M n) (by omega) h
          exact ⟨this.1, this.2.1, this.2.2.trans m0.2⟩
        · rw [if_neg c3]; exact ⟨m0.1, by show n + 1 ≤ 6; omega, m0.2⟩
    · rw [if_neg c1] at h
      cases h
theorem cc_end {ch : Nat → Nat} {t q : Nat} (hc : okc ch t) : (cc ch t (-1) q = -1) = (¬ q < t) := by
  unfold cc
  by_cases c : q < t
  · have := hc.2 q c
    rw [if_pos c]
    exact propext ⟨fun z => absurd (nI_pos' (show ch q < 2 ^ 31 by omega)) (by rw [z]; decide), fun z => absurd c z⟩
  · rw [if_neg c]
    exact propext ⟨fun _ => c, fun _ => rfl⟩
section
variable {r : mm_R} {J : mm_I} {a t p : Nat} {ch : Nat → Nat} {Q : Option Value → mm_I → mm_R → Prop}
theorem t_tellHogs {n : Nat} (hs : ts r a) (hl : ln_S r (a + 2)) (hc : okc ch t) (hn6 : n ≤ 6) : ∀ d ng p J, ng + d = 5 → 0 < d → tc J a t ch p → vc J (a + 2) 0 0 = nI n → vc J (a + 2) 0 1 = nI ng → ((GL ch t n d ng p (vc J (a + 2))).1 = true → ∀ K, ft a J K → tc K a t ch (GL ch t n d ng p (vc J (a + 2))).2.1 → vc K (a + 2) = (GL ch t n d ng p (vc J (a + 2))).2.2.2 → Q (some (.int 1)) K r) → ((GL ch t n d ng p (vc J (a + 2))).1 = false → ∀ K, ft a J K → mm_rd K a 1 = -20 - nI (GL ch t n d ng p (vc J (a + 2))).2.1 → Q (some (.int 0)) K r) → mm_E 41 2 [some (.ref a), some (.int (nI (ng + 1)))] [] J r Q := by
  intro d
  induction d with
  | zero => intro ng p J _ h; exact absurd h (by decide)
  | succ d ih =>
    intro ng p J hd _ h h0 h1 hq1 hq0
    have hz6 : ¬ ((5 : Int32) < nI (ng + 1)) := by
      rw [show (5 : Int32) = nI 5 from rfl]
      exact fun c => absurd ((nI_ltI (by decide) (by omega)).mp c) (by omega)
    have eH : GL ch t n (d + 1) ng p (vc J (a + 2)) = if gok ch t n p = true then (if d = 0 then (true, ge' ch t p, ng + 1, gM ch t p (vc J (a + 2)) ng) else if so ch t 44 (ge' ch t p) = true then GL ch t n d (ng + 1) (se ch t 44 (ge' ch t p)) (gM ch t p (vc J (a + 2)) ng) else (true, se ch t 44 (ge' ch t p), ng + 1, gM ch t p (vc J (a + 2)) ng)) else (false, gf ch t p, ng, vc J (a + 2)) := rfl
    rw [eH] at hq1 hq0
    rw [e41_2]
    simp only [e41_3, e41_4, e41_7, e41_8, mm_pu_n, mm_pu_s, va_rf_s, mm_w8_0, mm_w8_1, mm_w8_2, mm_w8_3, mm_w8_4, mm_c1_n, mm_c1_i, mm_c1_a, mm_ct_a, mm_ct_i, true_and, and_true, and_self, eq_self, if_true, if_false, ite_true, ite_false, bI_t, bI_z, bI_nz, bI_01, true_or, or_true, reduceCtorEq, false_or, or_false, decide_eq_false_iff_not, decide_eq_true_eq, ite_not, hz6, hs.1]
    refine t_tellHog hs hl hc h hn6 (by omega) h0 h1 (fun g K hK hKt hKv => ?_) (fun g K hK hKf => ?_)
    · have z6 : (nI (ng + 1) = (5 : Int32)) = (d = 0) := by
        rw [show (5 : Int32) = nI 5 from rfl, nI_eq (by omega) (by decide)]
        exact propext ⟨fun z => by omega, fun z => by omega⟩
      rw [g, if_pos rfl] at hq1 hq0
      by_cases c : d = 0
      · rw [if_pos c] at hq1
        simp only [mm_pu_s, e41_11, e41_14, e41_15, e41_16, e41_17, e41_18, e41_39, e41_40, mm_pu_n, mm_pu_s, va_rf_s, mm_w8_0, mm_w8_1, mm_w8_2, mm_w8_3, mm_w8_4, mm_c1_n, mm_c1_i, mm_c1_a, mm_ct_a, mm_ct_i, true_and, and_true, and_self, eq_self, if_true, if_false, ite_true, ite_false, bI_t, bI_z, bI_nz, bI_01, true_or, or_true, reduceCtorEq, false_or, or_false, decide_eq_false_iff_not, decide_eq_true_eq, ite_not, z6, c]
        exact hq1 rfl K hK hKt hKv
      · rw [if_neg c] at hq1 hq0
        simp only [mm_pu_s, e41_11, e41_14, e41_15, e41_16, e41_17, e41_18, e41_21, e41_22, e41_24, mm_pu_n, mm_pu_s, va_rf_s, mm_w8_0, mm_w8_1, mm_w8_2, mm_w8_3, mm_w8_4, mm_c1_n, mm_c1_i, mm_c1_a, mm_ct_a, mm_ct_i, true_and, and_true, and_self, eq_self, if_true, if_false, ite_true, ite_false, bI_t, bI_z, bI_nz, bI_01, true_or, or_true, reduceCtorEq, false_or, or_false, decide_eq_false_iff_not, decide_eq_true_eq, ite_not, z6, c, hs.1]
        rw [show (44 : Int32) = nI 44 from rfl]
        refine t_takes hs hc hKt (by decide) ?_
        have hle := se_le (ch := ch) (c := 44) hKt.2.1
        have hK2 := tc_u hKt hle.2
        have hv2 : vc (mm_uI K a 4 (nI (se ch t 44 (ge' ch t p)))) (a + 2) = gM ch t p (vc J (a + 2)) ng := by rw [vc_p (by omega)]; exact hKv
        have m0 := gM_0 ch t p (vc J (a + 2)) ng
        cases z : so ch t 44 (ge' ch t p) with
        | false =>
          rw [z, if_neg (by decide)] at hq1
          simp only [mm_pu_s, e41_27, e41_30, e41_39, e41_40, mm_pu_n, mm_pu_s, va_rf_s, mm_w8_0, mm_w8_1, mm_w8_2, mm_w8_3, mm_w8_4, mm_c1_n, mm_c1_i, mm_c1_a, mm_ct_a, mm_ct_i, true_and, and_true, and_self, eq_self, if_true, if_false, ite_true, ite_false, bI_t, bI_z, bI_nz, bI_01, true_or, or_true, reduceCtorEq, false_or, or_false, decide_eq_false_iff_not, decide_eq_true_eq, ite_not]
          exact hq1 rfl _ (hK.tr ft.u) hK2 hv2
        | true =>
          rw [z, if_pos rfl] at hq1 hq0
          simp only [mm_pu_s, e41_27, e41_33, e41_36, mm_pu_n, mm_pu_s, va_rf_s, mm_w8_0, mm_w8_1, mm_w8_2, mm_w8_3, mm_w8_4, mm_c1_n, mm_c1_i, mm_c1_a, mm_ct_a, mm_ct_i, true_and, and_true, and_self, eq_self, if_true, if_false, ite_true, ite_false, bI_t, bI_z, bI_nz, bI_01, true_or, or_true, reduceCtorEq, false_or, or_false, decide_eq_false_iff_not, decide_eq_true_eq, ite_not, Bool.true_eq_false, nI_1]
          refine ih (ng + 1) _ _ (by omega) (by omega) hK2 (by rw [hv2, m0.1]; exact h0) (by rw [hv2]; exact m0.2) ?_ ?_
          · rw [hv2]; exact fun y K2 w1 w2 w3 => hq1 y K2 ((hK.tr ft.u).tr w1) w2 w3
          · rw [hv2]; exact fun y K2 w1 w2 => hq0 y K2 ((hK.tr ft.u).tr w1) w2
    · rw [g, if_neg (by decide)] at hq0
      simp only [mm_pu_s, e41_11, e41_14, e41_15, mm_pu_n, mm_pu_s, va_rf_s, mm_w8_0, mm_w8_1, mm_w8_2, mm_w8_3, mm_w8_4, mm_c1_n, mm_c1_i, mm_c1_a, mm_ct_a, mm_ct_i, true_and, and_true, and_self, eq_self, if_true, if_false, ite_true, ite_false, bI_t, bI_z, bI_nz, bI_01, true_or, or_true, reduceCtorEq, false_or, or_false, decide_eq_false_iff_not, decide_eq_true_eq, ite_not]
      exact hq0 rfl K hK hKf
theorem t_end {n ng : Nat} {l1 : Int32} {M : mm_I} (hs : ts r a) (hc : okc ch t) (h : tc J a t ch p) (hv : vc J (a + 2) = M) (hq1 : (LF ch t p n ng M).1 = true → ∀ K, ft a J K → vc K (a + 2) = M → Q (some (.int 1)) K r) (hq0 : (LF ch t p n ng M).1 = false → ∀ K, ft a J K → mm_rd K a 1 = -20 - nI (LF ch t p n ng M).2.1 → Q (some (.int 0)) K r) : mm_E 38 78 [some (.ref a), some (.int l1)] [] J r Q := by
  have hle := sp_le (ch := ch) h.2.1
  simp only [e38_78, e38_79, mm_pu_n, mm_pu_s, va_rf_s, mm_w8_0, mm_w8_1, mm_w8_2, mm_w8_3, mm_w8_4, mm_c1_n, mm_c1_i, mm_c1_a, mm_ct_a, mm_ct_i, true_and, and_true, and_self, eq_self, if_true, if_false, ite_true, ite_false, bI_t, bI_z, bI_nz, bI_01, true_or, or_true, reduceCtorEq, false_or, or_false, decide_eq_false_iff_not, decide_eq_true_eq, ite_not, hs.1]
  refine t_look hs hc h ?_
  have t1 := tc_u h hle.2
  simp only [mm_pu_s, e38_82, e38_83, mm_pu_n, mm_pu_s, va_rf_s, mm_w8_0, mm_w8_1, mm_w8_2, mm_w8_3, mm_w8_4, mm_c1_n, mm_c1_i, mm_c1_a, mm_ct_a, mm_ct_i, true_and, and_true, and_self, eq_self, if_true, if_false, ite_true, ite_false, bI_t, bI_z, bI_nz, bI_01, true_or, or_true, reduceCtorEq, false_or, or_false, decide_eq_false_iff_not, decide_eq_true_eq, ite_not, cc_end hc]
  by_cases c : sp ch t p < t
  · rw [if_pos c]
    simp only [e38_86, e38_87, e38_88, e38_91, e38_94, e38_97, e38_98, e38_101, e38_102, mm_pu_n, mm_pu_s, va_rf_s, mm_w8_0, mm_w8_1, mm_w8_2, mm_w8_3, mm_w8_4, mm_c1_n, mm_c1_i, mm_c1_a, mm_ct_a, mm_ct_i, true_and, and_true, and_self, eq_self, if_true, if_false, ite_true, ite_false, bI_t, bI_z, bI_nz, bI_01, true_or, or_true, reduceCtorEq, false_or, or_false, decide_eq_false_iff_not, decide_eq_true_eq, ite_not, hs.1, t1.1.2, t_faultAt hs]
    exact hq0 (decide_eq_false (fun z => z c)) _ (ft.u.tr ft.u) rd_u
  · rw [if_neg c]
    simp only [e38_97, e38_98, e38_101, e38_102, mm_pu_n, mm_pu_s, va_rf_s, mm_w8_0, mm_w8_1, mm_w8_2, mm_w8_3, mm_w8_4, mm_c1_n, mm_c1_i, mm_c1_a, mm_ct_a, mm_ct_i, true_and, and_true, and_self, eq_self, if_true, if_false, ite_true, ite_false, bI_t, bI_z, bI_nz, bI_01, true_or, or_true, reduceCtorEq, false_or, or_false, decide_eq_false_iff_not, decide_eq_true_eq, ite_not]
    exact hq1 (decide_eq_true c) _ ft.u (by rw [vc_p (by omega)]; exact hv)
theorem t_tellLane (hs : ts r a) (hl : ln_S r (a + 2)) (hc : okc ch t) (h : mm_rd J a 0 = nI t ∧ ∀ i, i < t → mm_rd J (a + 1) i = nI (ch i)) (hq1 : (LL ch t (p_anew (vc J (a + 2)))).1 = true → ∀ K, ft a J K → vc K (a + 2) = (LL ch t (p_anew (vc J (a + 2)))).2.2.2.2 → Q (some (.int 1)) K r) (hq0 : (LL ch t (p_anew (vc J (a + 2)))).1 = false → ∀ K, ft a J K → mm_rd K a 1 = -20 - nI (LL ch t (p_anew (vc J (a + 2)))).2.1 → Q (some (.int 0)) K r) : mm_E 38 0 [some (.ref a), none] [] J r Q := by
  have wv : ∀ (I : mm_I) (k : Nat) (y : Int32), vc (mm_uI I a k y) (a + 2) = vc I (a + 2) := fun I k y => vc_p (by omega)
  have h' : tc (mm_uI J a 4 0) a t ch 0 := ⟨⟨by unfold mm_rd; rw [mu_j (by decide)]; exact h.1, rd_u⟩, Nat.zero_le _, fun i hi => by rw [rd_F (mu_n (by omega))]; exact h.2 i hi⟩
  simp only [e38_0, e38_1, e38_2, e38_5, e38_6, e38_9, mm_pu_n, mm_pu_s, va_rf_s, mm_w8_0, mm_w8_1, mm_w8_2, mm_w8_3, mm_w8_4, mm_c1_n, mm_c1_i, mm_c1_a, mm_ct_a, mm_ct_i, true_and, and_true, and_self, eq_self, if_true, if_false, ite_true, ite_false, bI_t, bI_z, bI_nz, bI_01, true_or, or_true, reduceCtorEq, false_or, or_false, decide_eq_false_iff_not, decide_eq_true_eq, ite_not, hs.1, hs.2.1, hl.s0]
  refine t_beginAnew hl (fun J1 hJ1 hF1 => ?_)
  rw [wv] at hJ1
  have fr1 : ft a J J1 := fun q z1 z2 => by rw [hF1 q (by omega), mu_n z1]
  have t1 := tc_F h' (hF1 a (by omega)) (hF1 (a + 1) (by omega))
  simp only [mm_pu_n, e38_12, e38_13, e38_15, mm_pu_n, mm_pu_s, va_rf_s, mm_w8_0, mm_w8_1, mm_w8_2, mm_w8_3, mm_w8_4, mm_c1_n, mm_c1_i, mm_c1_a, mm_ct_a, mm_ct_i, true_and, and_true, and_self, eq_self, if_true, if_false, ite_true, ite_false, bI_t, bI_z, bI_nz, bI_01, true_or, or_true, reduceCtorEq, false_or, or_false, decide_eq_false_iff_not, decide_eq_true_eq, ite_not, hs.1]
  rw [show (20 : Int32) = nI 20 from rfl]
  unfold LL at hq1 hq0
  refine t_number hs hc t1 (by decide) (fun g1 => ?_) (fun g1 K hK hf1 => ?_)
  · have d1 := nok_1 g1
    have v1 := nv_le d1.1
    have le1 := ne_le d1.1
    rw [g1, if_pos rfl] at hq1 hq0
    have t2 := tc_u t1 le1
    have t3 : tc (mm_uI (mm_uI J1 a 4 (nI (ne ch t 0))) (a + 2) 2 (nI (nv ch t 0))) a t ch (ne ch t 0) := tc_F t2 (mu_n (by omega)) (mu_n (by omega))
    have v3 : vc (mm_uI (mm_uI J1 a 4 (nI (ne ch t 0))) (a + 2) 2 (nI (nv ch t 0))) (a + 2) = mm_uI (p_anew (vc J (a + 2))) 0 2 (nI (nv ch t 0)) := by rw [vc_u0 (by decide), wv, hJ1]
    have fr3 : ft a J (mm_uI (mm_uI J1 a 4 (nI (ne ch t 0))) (a + 2) 2 (nI (nv ch t 0))) := fr1.tr (fun q z1 z2 => by rw [mu_n (by omega), mu_n z1])
    simp only [mm_pu_s, e38_18, e38_19, e38_20, e38_23, e38_24, e38_25, e38_26, e38_29, e38_30, e38_33, e38_34, e38_36, mm_pu_n, mm_pu_s, va_rf_s, mm_w8_0, mm_w8_1, mm_w8_2, mm_w8_3, mm_w8_4, mm_c1_n, mm_c1_i, mm_c1_a, mm_ct_a, mm_ct_i, true_and, and_true, and_self, eq_self, if_true, if_false, ite_true, ite_false, bI_t, bI_z, bI_nz, bI_01, true_or, or_true, reduceCtorEq, false_or, or_false, decide_eq_false_iff_not, decide_eq_true_eq, ite_not, hs.1, hs.2.1, hl.s0, nI_pos' (show nv ch t 0 < 2 ^ 31 by omega)]
    generalize mm_uI (mm_uI J1 a 4 (nI (ne ch t 0))) (a + 2) 2 (nI (nv ch t 0)) = J3 at t3 v3 fr3
    rw [show (59 : Int32) = nI 59 from rfl]
    refine t_takes hs hc t3 (by decide) ?_
    have le4 := se_le (ch := ch) (c := 59) le1
    have t4 := tc_u t3 le4.2
    cases z : so ch t 59 (ne ch t 0) with
    | false =>
      have e : se ch t 59 (ne ch t 0) = sp ch t (ne ch t 0) := by unfold se; rw [z]; rfl
      rw [z, if_neg (by decide)] at hq0
      simp only [mm_pu_s, e38_39, e38_42, e38_43, e38_44, e38_47, e38_50, mm_pu_n, mm_pu_s, va_rf_s, mm_w8_0, mm_w8_1, mm_w8_2, mm_w8_3, mm_w8_4, mm_c1_n, mm_c1_i, mm_c1_a, mm_ct_a, mm_ct_i, true_and, and_true, and_self, eq_self, if_true, if_false, ite_true, ite_false, bI_t, bI_z, bI_nz, bI_01, true_or, or_true, reduceCtorEq, false_or, or_false, decide_eq_false_iff_not, decide_eq_true_eq, ite_not, hs.1, t4.1.2, t_faultAt hs]
      refine hq0 rfl _ (fr3.tr (ft.u.tr ft.u)) ?_
      rw [← e]
      exact rd_u
    | true =>
      rw [z, if_pos rfl] at hq1 hq0
      have v4 : vc (mm_uI J3 a 4 (nI (se ch t 59 (ne ch t 0)))) (a + 2) = mm_uI (p_anew (vc J (a + 2))) 0 2 (nI (nv ch t 0)) := by rw [wv]; exact v3
      have fr4 : ft a J (mm_uI J3 a 4 (nI (se ch t 59 (ne ch t 0)))) := fr3.tr ft.u
      generalize mm_uI J3 a 4 (nI (se ch t 59 (ne ch t 0))) = J4 at t4 v4 fr4
      simp only [mm_pu_s, e38_39, e38_51, e38_52, mm_pu_n, mm_pu_s, va_rf_s, mm_w8_0, mm_w8_1, mm_w8_2, mm_w8_3, mm_w8_4, mm_c1_n, mm_c1_i, mm_c1_a, mm_ct_a, mm_ct_i, true_and, and_true, and_self, eq_self, if_true, if_false, ite_true, ite_false, bI_t, bI_z, bI_nz, bI_01, true_or, or_true, reduceCtorEq, false_or, or_false, decide_eq_false_iff_not, decide_eq_true_eq, ite_not, Bool.true_eq_false, hs.1, e39_0, e39_1]
      have a0 : vc J4 (a + 2) 0 0 = nI 0 := by
        rw [v4]
        unfold p_anew
        simp only [mm_uI, upd]
        rfl
      have a1 : vc J4 (a + 2) 0 1 = nI 0 := by
        rw [v4]
        unfold p_anew
        simp only [mm_uI, upd]
        rfl
      generalize hHL : HL ch t 6 0 (se ch t 59 (ne ch t 0)) (mm_uI (p_anew (vc J (a + 2))) 0 2 (nI (nv ch t 0))) = H at hq1 hq0
      unfold LH at hq1 hq0
      refine t_tellHouses hs hl hc 6 0 _ J4 (by omega) (by decide) t4 a0 ?_ ?_ ?_
      · rw [v4, hHL]
        intro hy K frK tK vK
        have hH := HL_0 (ch := ch) (t := t) 6 0 (se ch t 59 (ne ch t 0)) (mm_uI (p_anew (vc J (a + 2))) 0 2 (nI (nv ch t 0))) (by omega)
        rw [hHL] at hH
        obtain ⟨q1, q2, q3⟩ := hH hy
        rw [hy, if_pos rfl] at hq1 hq0
        unfold LG at hq1 hq0
        simp only [mm_pu_s, e38_55, e38_58, e38_59, e38_60, e38_61, e38_63, mm_pu_n, mm_pu_s, va_rf_s, mm_w8_0, mm_w8_1, mm_w8_2, mm_w8_3, mm_w8_4, mm_c1_n, mm_c1_i, mm_c1_a, mm_ct_a, mm_ct_i, true_and, and_true, and_self, eq_self, if_true, if_false, ite_true, ite_false, bI_t, bI_z, bI_nz, bI_01, true_or, or_true, reduceCtorEq, false_or, or_false, decide_eq_false_iff_not, decide_eq_true_eq, ite_not, bI_01, hs.1]
        rw [show (59 : Int32) = nI 59 from rfl]
        refine t_takes hs hc tK (by decide) ?_
        have le5 := se_le (ch := ch) (c := 59) tK.2.1
        have t5 := tc_u tK le5.2
        have v5 : vc (mm_uI K a 4 (nI (se ch t 59 H.2.1))) (a + 2) = H.2.2.2 := by rw [wv]; exact vK
        have fr5 : ft a J (mm_uI K a 4 (nI (se ch t 59 H.2.1))) := (fr4.tr frK).tr ft.u
        cases z2 : so ch t 59 H.2.1 with
        | false =>
          rw [z2, if_neg (by decide)] at hq1 hq0
          simp only [mm_pu_s, e38_66, mm_pu_n, mm_pu_s, va_rf_s, mm_w8_0, mm_w8_1, mm_w8_2, mm_w8_3, mm_w8_4, mm_c1_n, mm_c1_i, mm_c1_a, mm_ct_a, mm_ct_i, true_and, and_true, and_self, eq_self, if_true, if_false, ite_true, ite_false, bI_t, bI_z, bI_nz, bI_01, true_or, or_true, reduceCtorEq, false_or, or_false, decide_eq_false_iff_not, decide_eq_true_eq, ite_not]
          exact t_end (n := H.2.2.1) (ng := 0) hs hc t5 v5 (fun y K2 w1 w2 => hq1 y K2 (fr5.tr w1) w2) (fun y K2 w1 w2 => hq0 y K2 (fr5.tr w1) w2)
        | true =>
          rw [z2, if_pos rfl] at hq1 hq0
          simp only [mm_pu_s, e38_66, e38_69, e38_70, mm_pu_n, mm_pu_s, va_rf_s, mm_w8_0, mm_w8_1, mm_w8_2, mm_w8_3, mm_w8_4, mm_c1_n, mm_c1_i, mm_c1_a, mm_ct_a, mm_ct_i, true_and, and_true, and_self, eq_self, if_true, if_false, ite_true, ite_false, bI_t, bI_z, bI_nz, bI_01, true_or, or_true, reduceCtorEq, false_or, or_false, decide_eq_false_iff_not, decide_eq_true_eq, ite_not, Bool.true_eq_false, hs.1, e41_0, e41_1]
          have b0 : vc (mm_uI K a 4 (nI (se ch t 59 H.2.1))) (a + 2) 0 0 = nI H.2.2.1 := by rw [v5]; exact q1
          have b1 : vc (mm_uI K a 4 (nI (se ch t 59 H.2.1))) (a + 2) 0 1 = nI 0 := by rw [v5, q3, ← v4]; exact a1
          refine t_tellHogs hs hl hc q2 5 0 _ _ (by omega) (by decide) t5 b0 b1 ?_ ?_
          · rw [v5]
            intro hy2 K2 frK2 tK2 vK2
            rw [hy2, if_pos rfl] at hq1 hq0
            simp only [mm_pu_s, e38_73, mm_pu_n, mm_pu_s, va_rf_s, mm_w8_0, mm_w8_1, mm_w8_2, mm_w8_3, mm_w8_4, mm_c1_n, mm_c1_i, mm_c1_a, mm_ct_a, mm_ct_i, true_and, and_true, and_self, eq_self, if_true, if_false, ite_true, ite_false, bI_t, bI_z, bI_nz, bI_01, true_or, or_true, reduceCtorEq, false_or, or_false, decide_eq_false_iff_not, decide_eq_true_eq, ite_not, bI_01]
            exact t_end hs hc tK2 vK2 (fun y K3 w1 w2 => hq1 y K3 ((fr5.tr frK2).tr w1) w2) (fun y K3 w1 w2 => hq0 y K3 ((fr5.tr frK2).tr w1) w2)
          · rw [v5]
            intro hy2 K2 frK2 fK2
            rw [hy2, if_neg (by decide)] at hq0
            simp only [mm_pu_s, e38_73, e38_76, e38_77, mm_pu_n, mm_pu_s, va_rf_s, mm_w8_0, mm_w8_1, mm_w8_2, mm_w8_3, mm_w8_4, mm_c1_n, mm_c1_i, mm_c1_a, mm_ct_a, mm_ct_i, true_and, and_true, and_self, eq_self, if_true, if_false, ite_true, ite_false, bI_t, bI_z, bI_nz, bI_01, true_or, or_true, reduceCtorEq, false_or, or_false, decide_eq_false_iff_not, decide_eq_true_eq, ite_not]
            exact hq0 rfl K2 (fr5.tr frK2) fK2
      · rw [v4, hHL]
        intro hy K frK fK
        rw [hy, if_neg (by decide)] at hq0
        simp only [mm_pu_s, e38_55, e38_58, e38_59, mm_pu_n, mm_pu_s, va_rf_s, mm_w8_0, mm_w8_1, mm_w8_2, mm_w8_3, mm_w8_4, mm_c1_n, mm_c1_i, mm_c1_a, mm_ct_a, mm_ct_i, true_and, and_true, and_self, eq_self, if_true, if_false, ite_true, ite_false, bI_t, bI_z, bI_nz, bI_01, true_or, or_true, reduceCtorEq, false_or, or_false, decide_eq_false_iff_not, decide_eq_true_eq, ite_not]
        exact hq0 rfl K (fr4.tr frK) fK
      · rw [v4, hHL]
        intro hy K frK tK hdg
        rw [hy, if_neg (by decide)] at hq0
        have e59 := so_dg (c := 59) hdg (Or.inr (by decide))
        simp only [mm_pu_s, e38_55, e38_58, e38_59, e38_60, e38_61, e38_63, mm_pu_n, mm_pu_s, va_rf_s, mm_w8_0, mm_w8_1, mm_w8_2, mm_w8_3, mm_w8_4, mm_c1_n, mm_c1_i, mm_c1_a, mm_ct_a, mm_ct_i, true_and, and_true, and_self, eq_self, if_true, if_false, ite_true, ite_false, bI_t, bI_z, bI_nz, bI_01, true_or, or_true, reduceCtorEq, false_or, or_false, decide_eq_false_iff_not, decide_eq_true_eq, ite_not, bI_01, hs.1]
        rw [show (59 : Int32) = nI 59 from rfl]
        refine t_takes hs hc tK (by decide) ?_
        rw [e59.1, e59.2.1]
        have t5 := tc_u tK tK.2.1
        have d9 := dg_of hdg
        simp only [mm_pu_s, e38_66, e38_78, e38_79, mm_pu_n, mm_pu_s, va_rf_s, mm_w8_0, mm_w8_1, mm_w8_2, mm_w8_3, mm_w8_4, mm_c1_n, mm_c1_i, mm_c1_a, mm_ct_a, mm_ct_i, true_and, and_true, and_self, eq_self, if_true, if_false, ite_true, ite_false, bI_t, bI_z, bI_nz, bI_01, true_or, or_true, reduceCtorEq, false_or, or_false, decide_eq_false_iff_not, decide_eq_true_eq, ite_not, hs.1]
        refine t_look hs hc t5 ?_
        rw [e59.2.2, mu_uu]
        simp only [mm_pu_s, e38_82, e38_83, mm_pu_n, mm_pu_s, va_rf_s, mm_w8_0, mm_w8_1, mm_w8_2, mm_w8_3, mm_w8_4, mm_c1_n, mm_c1_i, mm_c1_a, mm_ct_a, mm_ct_i, true_and, and_true, and_self, eq_self, if_true, if_false, ite_true, ite_false, bI_t, bI_z, bI_nz, bI_01, true_or, or_true, reduceCtorEq, false_or, or_false, decide_eq_false_iff_not, decide_eq_true_eq, ite_not, cc_end hc, d9.1, not_true, hs.1]
        simp only [e38_86, e38_87, e38_88, e38_91, e38_94, e38_97, e38_98, e38_101, e38_102, mm_pu_n, mm_pu_s, va_rf_s, mm_w8_0, mm_w8_1, mm_w8_2, mm_w8_3, mm_w8_4, mm_c1_n, mm_c1_i, mm_c1_a, mm_ct_a, mm_ct_i, true_and, and_true, and_self, eq_self, if_true, if_false, ite_true, ite_false, bI_t, bI_z, bI_nz, bI_01, true_or, or_true, reduceCtorEq, false_or, or_false, decide_eq_false_iff_not, decide_eq_true_eq, ite_not, hs.1, t5.1.2, t_faultAt hs]
        exact hq0 rfl _ ((fr4.tr frK).tr (ft.u.tr ft.u)) rd_u
  · rw [g1, if_neg (by decide)] at hq0
    simp only [mm_pu_s, e38_18, e38_19, e38_20, e38_23, e38_24, mm_pu_n, mm_pu_s, va_rf_s, mm_w8_0, mm_w8_1, mm_w8_2, mm_w8_3, mm_w8_4, mm_c1_n, mm_c1_i, mm_c1_a, mm_ct_a, mm_ct_i, true_and, and_true, and_self, eq_self, if_true, if_false, ite_true, ite_false, bI_t, bI_z, bI_nz, bI_01, true_or, or_true, reduceCtorEq, false_or, or_false, decide_eq_false_iff_not, decide_eq_true_eq, ite_not, show ((0 : Int32) ≤ -1) = False from eq_false (by decide)]
    exact hq0 rfl K (fr1.tr (ft.a hK)) hf1
end
