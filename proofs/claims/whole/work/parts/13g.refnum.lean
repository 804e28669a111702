/-- the reference's tape: its position is p -/
def tr (J : mm_I) (m t : Nat) (ch : Nat → Nat) (p : Nat) : Prop := (mm_rd J m 3 = nI t ∧ mm_rd J m 5 = nI p) ∧ p ≤ t ∧ ∀ i, i < t → mm_rd J (m + 4) i = nI (ch i)
/-- position and number alone have changed -/
def f5 (m : Nat) (I J : mm_I) : Prop := (∀ q, q ≠ m → J q = I q) ∧ ∀ k, k ≠ 5 → k ≠ 6 → J m k = I m k
theorem f5.tr {m : Nat} {I J K : mm_I} (h1 : f5 m I J) (h2 : f5 m J K) : f5 m I K := ⟨fun q a => (h2.1 q a).trans (h1.1 q a), fun k a b => (h2.2 k a b).trans (h1.2 k a b)⟩
theorem f5.rf {m : Nat} {I : mm_I} : f5 m I I := ⟨fun _ _ => rfl, fun _ _ _ => rfl⟩
theorem f5.u {m k : Nat} {I : mm_I} {y : Int32} (h : k = 5 ∨ k = 6) : f5 m I (mm_uI I m k y) := ⟨fun q z => mu_n z, fun j a b => mu_j (by omega)⟩
theorem tr_F {J K : mm_I} {m t p q : Nat} {ch : Nat → Nat} (h : tr J m t ch p) (hf : f5 m J K) (h5 : mm_rd K m 5 = nI q) (hq : q ≤ t) : tr K m t ch q := by
  refine ⟨⟨?_, h5⟩, hq, fun i hi => ?_⟩
  · show K m 3 = nI t
    rw [hf.2 3 (by decide) (by decide)]; exact h.1.1
  · rw [rd_F (hf.1 _ (by omega))]; exact h.2.2 i hi
section
variable {r : mm_R} {J : mm_I} {m t p : Nat} {ch : Nat → Nat} {Q : Option Value → mm_I → mm_R → Prop}
theorem u_peek (hml : ml_S r m) (hc : okc ch t) (h : tr J m t ch p) (hq : ∀ K, f5 m J K → tr K m t ch (sp ch t p) → Q (some (.int (cc ch t 0 (sp ch t p)))) K r) : mm_E 110 0 [some (.ref m)] [] J r Q := by
  have key : ∀ d p J, p + d = t → tr J m t ch p → (∀ K, f5 m J K → tr K m t ch (sp ch t p) → Q (some (.int (cc ch t 0 (sp ch t p)))) K r) → mm_E 110 0 [some (.ref m)] [] J r Q := by
    intro d
    induction d with
    | zero =>
      intro p J hp h hq
      have : p = t := by omega
      subst this
      rw [sp_n (fun z => absurd z (by omega))] at hq
      unfold cc at hq
      rw [if_neg (by omega)] at hq
      rw [e110_0]
      simp only [e110_1, e110_4, e110_5, e110_8, e110_11, e110_12, e110_15, e110_16, e110_19, e110_20, e110_22, e110_25, e110_26, e110_27, e110_30, e110_31, e110_32, e110_35, e110_38, e110_39, e110_42, e110_43, e110_46, e110_49, e110_50, e110_53, e110_54, e110_57, e110_58, e110_61, mm_pu_n, mm_pu_s, va_rf_s, mm_w8_0, mm_w8_1, mm_w8_2, mm_w8_3, mm_w8_4, mm_c1_n, mm_c1_i, mm_c1_a, mm_ct_a, mm_ct_i, true_and, and_true, and_self, eq_self, if_true, if_false, ite_true, ite_false, bI_t, bI_z, bI_nz, bI_01, true_or, or_true, reduceCtorEq, false_or, or_false, decide_eq_false_iff_not, decide_eq_true_eq, ite_not, hml.s0, h.1.1, h.1.2, Int32.le_refl]
      rw [e110_62]
      exact hq J f5.rf h
    | succ d ih =>
      intro p J hp h hq
      have ht := hc.1
      have hpt : p < t := by omega
      have hch := hc.2 p hpt
      rw [e110_0]
      by_cases c : ch p = 32
      · simp only [e110_1, e110_4, e110_5, e110_8, e110_11, e110_12, e110_15, e110_16, e110_19, e110_20, e110_22, e110_25, e110_26, e110_27, e110_30, e110_31, e110_32, e110_35, mm_pu_n, mm_pu_s, va_rf_s, mm_w8_0, mm_w8_1, mm_w8_2, mm_w8_3, mm_w8_4, mm_c1_n, mm_c1_i, mm_c1_a, mm_ct_a, mm_ct_i, true_and, and_true, and_self, eq_self, if_true, if_false, ite_true, ite_false, bI_t, bI_z, bI_nz, bI_01, true_or, or_true, reduceCtorEq, false_or, or_false, decide_eq_false_iff_not, decide_eq_true_eq, ite_not, hml.s0, hml.p4, hml.i4, h.1.1, h.1.2, nI_ge hpt (show t < 2 ^ 31 by omega), in80 (show p < 80 by omega), cl2 (show p < 248 by omega), h.2.2 p hpt, c, show (nI 32 = (32 : Int32)) = True from eq_true rfl, nI_1]
        have fr : f5 m J (mm_uI J m 5 (nI (p + 1))) := f5.u (Or.inl rfl)
        refine ih (p + 1) _ (by omega) (tr_F h fr rd_u (by omega)) ?_
        rw [← sp_s hpt c]
        exact fun K w1 w2 => hq K (fr.tr w1) w2
      · rw [sp_n (fun _ => c)] at hq
        unfold cc at hq
        rw [if_pos hpt] at hq
        have hne : ¬ (nI (ch p) = (32 : Int32)) := by
          rw [show (32 : Int32) = nI 32 from rfl]
          exact fun z => c ((nI_eq (by omega) (by decide)).mp z)
        simp only [e110_1, e110_4, e110_5, e110_8, e110_11, e110_12, e110_15, e110_16, e110_19, e110_20, e110_22, e110_25, e110_26, e110_27, e110_30, e110_31, e110_32, e110_35, e110_38, e110_39, e110_42, e110_43, e110_46, e110_49, e110_50, e110_53, e110_54, e110_57, e110_58, e110_61, mm_pu_n, mm_pu_s, va_rf_s, mm_w8_0, mm_w8_1, mm_w8_2, mm_w8_3, mm_w8_4, mm_c1_n, mm_c1_i, mm_c1_a, mm_ct_a, mm_ct_i, true_and, and_true, and_self, eq_self, if_true, if_false, ite_true, ite_false, bI_t, bI_z, bI_nz, bI_01, true_or, or_true, reduceCtorEq, false_or, or_false, decide_eq_false_iff_not, decide_eq_true_eq, ite_not, hml.s0, hml.p4, hml.i4, h.1.1, h.1.2, nI_ge hpt (show t < 2 ^ 31 by omega), in80 (show p < 80 by omega), cl2 (show p < 248 by omega), h.2.2 p hpt, hne]
        rw [e110_62]
        exact hq J f5.rf h
  have := h.2.1
  exact key (t - p) p J (by omega) h hq
theorem u_isSign {c : Nat} (hml : ml_S r m) (hc : okc ch t) (h : tr J m t ch p) (hc2 : 0 < c ∧ c < 1000) (hq : ∀ K, f5 m J K → tr K m t ch (se ch t c p) → Q (some (.int (bI (so ch t c p)))) K r) : mm_E 111 0 [some (.ref m), some (.int (nI c))] [] J r Q := by
  have hle := sp_le (ch := ch) h.2.1
  have hle2 := se_le (ch := ch) (c := c) h.2.1
  simp only [e111_0, e111_1, mm_pu_n, mm_pu_s, va_rf_s, mm_w8_0, mm_w8_1, mm_w8_2, mm_w8_3, mm_w8_4, mm_c1_n, mm_c1_i, mm_c1_a, mm_ct_a, mm_ct_i, true_and, and_true, and_self, eq_self, if_true, if_false, ite_true, ite_false, bI_t, bI_z, bI_nz, bI_01, true_or, or_true, reduceCtorEq, false_or, or_false, decide_eq_false_iff_not, decide_eq_true_eq, ite_not, hml.s0]
  refine u_peek hml hc h (fun K hK hKt => ?_)
  have hne : ¬ ((0 : Int32) = nI c) := by
    rw [show (0 : Int32) = nI 0 from rfl]
    exact fun z => absurd ((nI_eq (by decide) (by omega)).mp z) (by omega)
  simp only [mm_pu_s, e111_4, e111_5, mm_pu_n, mm_pu_s, va_rf_s, mm_w8_0, mm_w8_1, mm_w8_2, mm_w8_3, mm_w8_4, mm_c1_n, mm_c1_i, mm_c1_a, mm_ct_a, mm_ct_i, true_and, and_true, and_self, eq_self, if_true, if_false, ite_true, ite_false, bI_t, bI_z, bI_nz, bI_01, true_or, or_true, reduceCtorEq, false_or, or_false, decide_eq_false_iff_not, decide_eq_true_eq, ite_not, cc_eq hc (show c < 2 ^ 31 by omega) hne]
  by_cases z : so ch t c p = true
  · rw [if_pos z]
    have e : se ch t c p = sp ch t p + 1 := by unfold se; rw [if_pos z]
    have fr : f5 m K (mm_uI K m 5 (nI (sp ch t p + 1))) := f5.u (Or.inl rfl)
    simp only [e111_10, e111_11, e111_12, e111_15, e111_16, e111_17, e111_20, e111_21, mm_pu_n, mm_pu_s, va_rf_s, mm_w8_0, mm_w8_1, mm_w8_2, mm_w8_3, mm_w8_4, mm_c1_n, mm_c1_i, mm_c1_a, mm_ct_a, mm_ct_i, true_and, and_true, and_self, eq_self, if_true, if_false, ite_true, ite_false, bI_t, bI_z, bI_nz, bI_01, true_or, or_true, reduceCtorEq, false_or, or_false, decide_eq_false_iff_not, decide_eq_true_eq, ite_not, hml.s0, hKt.1.2, nI_1]
    have := hq _ (hK.tr fr) (tr_F hKt fr (by rw [e]; exact rd_u) hle2.2)
    rw [z] at this
    exact this
  · rw [if_neg z]
    have e : se ch t c p = sp ch t p := by unfold se; rw [if_neg z]
    simp only [Bool.not_eq_true] at z
    simp only [e111_8, e111_9, mm_pu_n, mm_pu_s, va_rf_s, mm_w8_0, mm_w8_1, mm_w8_2, mm_w8_3, mm_w8_4, mm_c1_n, mm_c1_i, mm_c1_a, mm_ct_a, mm_ct_i, true_and, and_true, and_self, eq_self, if_true, if_false, ite_true, ite_false, bI_t, bI_z, bI_nz, bI_01, true_or, or_true, reduceCtorEq, false_or, or_false, decide_eq_false_iff_not, decide_eq_true_eq, ite_not]
    have := hq K hK (by rw [e]; exact hKt)
    rw [z] at this
    exact this
theorem u_isDigit {lo hi : Nat} {hy : Int32} (hml : ml_S r m) (hc : okc ch t) (h : tr J m t ch p) (hlo : lo < 100) (hhi : hy.toInt = (hi : Int) - 1) (hq1 : dr2 ch t lo hi p = true → ∀ K, f5 m J K → tr K m t ch (sp ch t p + 1) → mm_rd K m 6 = nI (ch (sp ch t p) - 48) → Q (some (.int 1)) K r) (hq0 : dr2 ch t lo hi p = false → ∀ K, f5 m J K → tr K m t ch (sp ch t p) → Q (some (.int 0)) K r) : mm_E 112 0 [some (.ref m), some (.int (nI lo)), some (.int hy)] [] J r Q := by
  have hle := sp_le (ch := ch) h.2.1
  simp only [e112_0, e112_1, e112_2, mm_pu_n, mm_pu_s, va_rf_s, mm_w8_0, mm_w8_1, mm_w8_2, mm_w8_3, mm_w8_4, mm_c1_n, mm_c1_i, mm_c1_a, mm_ct_a, mm_ct_i, true_and, and_true, and_self, eq_self, if_true, if_false, ite_true, ite_false, bI_t, bI_z, bI_nz, bI_01, true_or, or_true, reduceCtorEq, false_or, or_false, decide_eq_false_iff_not, decide_eq_true_eq, ite_not, hml.s0]
  refine u_peek hml hc h (fun K hK hKt => ?_)
  have fr : ∀ y, f5 m K (mm_uI K m 6 y) := fun y => f5.u (Or.inr rfl)
  have ew : wth (cc ch t 0 (sp ch t p) - 48) (nI lo) hy = dr2 ch t lo hi p := by
    rw [dr2_y hc em0]
    unfold wth
    refine decide_eq_decide.mpr ?_
    rw [Int32.le_iff_toInt_le, Int32.le_iff_toInt_le, nI_toInt (by omega), hhi]
    exact ⟨fun z => by omega, fun z => by omega⟩
  have r6 : ∀ y, mm_rd (mm_uI K m 6 y) m 6 = y := fun y => rd_u
  simp only [mm_pu_s, e112_5, e112_7, e112_8, e112_11, e112_12, e112_15, e112_16, e112_17, e112_20, mm_pu_n, mm_pu_s, va_rf_s, mm_w8_0, mm_w8_1, mm_w8_2, mm_w8_3, mm_w8_4, mm_c1_n, mm_c1_i, mm_c1_a, mm_ct_a, mm_ct_i, true_and, and_true, and_self, eq_self, if_true, if_false, ite_true, ite_false, bI_t, bI_z, bI_nz, bI_01, true_or, or_true, reduceCtorEq, false_or, or_false, decide_eq_false_iff_not, decide_eq_true_eq, ite_not, hml.s0, r6, u_inw, ew]
  cases z : dr2 ch t lo hi p with
  | false =>
    simp only [e112_23, e112_24, mm_pu_n, mm_pu_s, va_rf_s, mm_w8_0, mm_w8_1, mm_w8_2, mm_w8_3, mm_w8_4, mm_c1_n, mm_c1_i, mm_c1_a, mm_ct_a, mm_ct_i, true_and, and_true, and_self, eq_self, if_true, if_false, ite_true, ite_false, bI_t, bI_z, bI_nz, bI_01, true_or, or_true, reduceCtorEq, false_or, or_false, decide_eq_false_iff_not, decide_eq_true_eq, ite_not]
    exact hq0 z _ (hK.tr (fr _)) (tr_F hKt (fr _) (by show mm_uI K m 6 _ m 5 = _; rw [mu_j (by decide)]; exact hKt.1.2) hle.2)
  | true =>
    have dd := of_decide_eq_true z
    have r5 : ∀ y, mm_rd (mm_uI K m 6 y) m 5 = nI (sp ch t p) := fun y => by show mm_uI K m 6 y m 5 = _; rw [mu_j (by decide)]; exact hKt.1.2
    simp only [e112_25, e112_26, e112_27, e112_30, e112_31, e112_32, e112_35, e112_36, mm_pu_n, mm_pu_s, va_rf_s, mm_w8_0, mm_w8_1, mm_w8_2, mm_w8_3, mm_w8_4, mm_c1_n, mm_c1_i, mm_c1_a, mm_ct_a, mm_ct_i, true_and, and_true, and_self, eq_self, if_true, if_false, ite_true, ite_false, bI_t, bI_z, bI_nz, bI_01, true_or, or_true, reduceCtorEq, false_or, or_false, decide_eq_false_iff_not, decide_eq_true_eq, ite_not, hml.s0, r5, nI_1, Bool.true_eq_false]
    have fr2 := (hK.tr (fr (cc ch t 0 (sp ch t p) - 48))).tr (f5.u (k := 5) (y := nI (sp ch t p + 1)) (Or.inl rfl))
    refine hq1 z _ fr2 (tr_F h fr2 rd_u (by omega)) ?_
    show mm_uI (mm_uI K m 6 _) m 5 _ m 6 = _
    rw [mu_j (by decide), mu_s, dr2_v z hc]
theorem dg_dr2 (ch : Nat → Nat) (t p : Nat) : dr2 ch t 0 10 p = dg ch t (sp ch t p) := by
  unfold dr2 dg
  exact decide_eq_decide.mpr ⟨fun z => by omega, fun z => by omega⟩
theorem u_isNumber {most : Nat} (hml : ml_S r m) (hc : okc ch t) (h : tr J m t ch p) (hm : most < 1000) (hq1 : nok ch t most p = true → dg ch t (ne ch t p) = false → ∀ K, f5 m J K → tr K m t ch (ne ch t p) → mm_rd K m 6 = nI (nv ch t p) → Q (some (.int 1)) K r) (hq0 : nok ch t most p = false → ∀ K, f5 m J K → tr K m t ch (sp ch t p) → Q (some (.int 0)) K r) (hq2 : nok ch t most p = true → dg ch t (ne ch t p) = true → ∀ K, f5 m J K → tr K m t ch (ne ch t p) → Q (some (.int 0)) K r) : mm_E 113 0 [some (.ref m), some (.int (nI most)), none, none] [] J r Q := by
  have hle := sp_le (ch := ch) h.2.1
  have ht80 := hc.1
  simp only [e113_0, e113_1, e113_2, e113_4, mm_pu_n, mm_pu_s, va_rf_s, mm_w8_0, mm_w8_1, mm_w8_2, mm_w8_3, mm_w8_4, mm_c1_n, mm_c1_i, mm_c1_a, mm_ct_a, mm_ct_i, true_and, and_true, and_self, eq_self, if_true, if_false, ite_true, ite_false, bI_t, bI_z, bI_nz, bI_01, true_or, or_true, reduceCtorEq, false_or, or_false, decide_eq_false_iff_not, decide_eq_true_eq, ite_not, hml.s0]
  rw [show (0 : Int32) = nI 0 from rfl]
  refine u_isDigit (hi := 10) hml hc h (by decide) (by decide) (fun z K hK hKt hK6 => ?_) (fun z K hK hKt => ?_)
  · rw [dg_dr2] at z
    have d1 := dg_of z
    have hsub : nI (sp ch t p + 1) - 1 = nI (sp ch t p) := by
      rw [show (1 : Int32) = nI 1 from rfl, n_sub (by omega) (by omega)]; rfl
    have tail : ∀ (v e : Nat) (K : mm_I), f5 m J K → tr K m t ch e → v ≤ 99 → nv ch t p = v → ne ch t p = e → e ≤ t → mm_E 113 82 [some (.ref m), some (.int (nI most)), some (.int (nI (sp ch t p))), some (.int (nI v))] [] K r Q := by
      intro v e K hK hKt hv99 hv he het
      have fr : f5 m K (mm_uI K m 6 (nI v)) := f5.u (Or.inr rfl)
      have r5 : mm_rd (mm_uI K m 6 (nI v)) m 5 = nI e := by show mm_uI K m 6 _ m 5 = _; rw [mu_j (by decide)]; exact hKt.1.2
      have t6 := tr_F hKt fr r5 het
      by_cases y : v ≤ most
      · have hn : nok ch t most p = true := nok_t z (by omega)
        have q1 := hq1 hn
        have q2 := hq2 hn
        rw [he] at q1 q2
        rw [hv] at q1
        by_cases c : e = t
        · have hd : dg ch t e = false := decide_eq_false (fun w => by omega)
          simp only [e113_82, e113_83, e113_84, e113_87, e113_88, e113_89, e113_92, e113_93, e113_94, e113_97, e113_98, e113_99, e113_100, e113_103, e113_104, e113_107, e113_110, e113_111, e113_114, e113_115, e113_118, e113_119, e113_121, e113_123, e113_126, e113_129, e113_130, e113_133, mm_pu_n, mm_pu_s, va_rf_s, mm_w8_0, mm_w8_1, mm_w8_2, mm_w8_3, mm_w8_4, mm_c1_n, mm_c1_i, mm_c1_a, mm_ct_a, mm_ct_i, true_and, and_true, and_self, eq_self, if_true, if_false, ite_true, ite_false, bI_t, bI_z, bI_nz, bI_01, true_or, or_true, reduceCtorEq, false_or, or_false, decide_eq_false_iff_not, decide_eq_true_eq, ite_not, hml.s0, nI_le y (show most < 2 ^ 31 by omega), t6.1.1, t6.1.2, show (nI e = nI t) = True from eq_true (by rw [c])]
          rw [e113_134]
          exact ⟨Or.inr rfl, q1 hd _ (hK.tr fr) t6 rd_u⟩
        · have hlt : e < t := by omega
          have b := hc.2 e hlt
          have hne : ¬ (nI e = nI t) := fun w => c ((nI_eq (by omega) (by omega)).mp w)
          have ew : wth (nI (ch e)) 48 57 = dg ch t e := dg_at hc hlt
          simp only [e113_82, e113_83, e113_84, e113_87, e113_88, e113_89, e113_92, e113_93, e113_94, e113_97, e113_98, e113_99, e113_100, e113_103, e113_104, e113_107, e113_110, e113_111, e113_114, e113_115, e113_118, e113_119, e113_121, e113_123, e113_126, mm_pu_n, mm_pu_s, va_rf_s, mm_w8_0, mm_w8_1, mm_w8_2, mm_w8_3, mm_w8_4, mm_c1_n, mm_c1_i, mm_c1_a, mm_ct_a, mm_ct_i, true_and, and_true, and_self, eq_self, if_true, if_false, ite_true, ite_false, bI_t, bI_z, bI_nz, bI_01, true_or, or_true, reduceCtorEq, false_or, or_false, decide_eq_false_iff_not, decide_eq_true_eq, ite_not, hml.s0, hml.p4, hml.i4, nI_le y (show most < 2 ^ 31 by omega), t6.1.1, t6.1.2, hne, in80 (show e < 80 by omega), cl2 (show e < 248 by omega), t6.2.2 e hlt, u_inw, ew]
          cases hd : dg ch t e with
          | false =>
            simp only [e113_129, e113_130, mm_pu_n, mm_pu_s, va_rf_s, mm_w8_0, mm_w8_1, mm_w8_2, mm_w8_3, mm_w8_4, mm_c1_n, mm_c1_i, mm_c1_a, mm_ct_a, mm_ct_i, true_and, and_true, and_self, eq_self, if_true, if_false, ite_true, ite_false, bI_t, bI_z, bI_nz, bI_01, true_or, or_true, reduceCtorEq, false_or, or_false, decide_eq_false_iff_not, decide_eq_true_eq, ite_not]
            rw [e113_134]
            exact ⟨Or.inr rfl, q1 hd _ (hK.tr fr) t6 rd_u⟩
          | true =>
            simp only [e113_133, mm_pu_n, mm_pu_s, va_rf_s, mm_w8_0, mm_w8_1, mm_w8_2, mm_w8_3, mm_w8_4, mm_c1_n, mm_c1_i, mm_c1_a, mm_ct_a, mm_ct_i, true_and, and_true, and_self, eq_self, if_true, if_false, ite_true, ite_false, bI_t, bI_z, bI_nz, bI_01, true_or, or_true, reduceCtorEq, false_or, or_false, decide_eq_false_iff_not, decide_eq_true_eq, ite_not, Bool.true_eq_false]
            rw [e113_134]
            exact ⟨Or.inl rfl, q2 hd _ (hK.tr fr) t6⟩
      · have hn : nok ch t most p = false := nok_0 z (by omega)
        have hnz : ¬ nI v ≤ nI most := nI_ge (by omega) (by omega)
        have fr2 : f5 m (mm_uI K m 6 (nI v)) (mm_uI (mm_uI K m 6 (nI v)) m 5 (nI (sp ch t p))) := f5.u (Or.inl rfl)
        simp only [e113_82, e113_83, e113_84, e113_87, e113_88, e113_89, e113_92, e113_93, e113_94, e113_97, e113_98, mm_pu_n, mm_pu_s, va_rf_s, mm_w8_0, mm_w8_1, mm_w8_2, mm_w8_3, mm_w8_4, mm_c1_n, mm_c1_i, mm_c1_a, mm_ct_a, mm_ct_i, true_and, and_true, and_self, eq_self, if_true, if_false, ite_true, ite_false, bI_t, bI_z, bI_nz, bI_01, true_or, or_true, reduceCtorEq, false_or, or_false, decide_eq_false_iff_not, decide_eq_true_eq, ite_not, hml.s0, hnz]
        exact hq0 hn _ ((hK.tr fr).tr fr2) (tr_F t6 fr2 rd_u hle.2)
    simp only [mm_pu_s, e113_7, e113_10, e113_11, e113_12, e113_13, e113_16, e113_17, e113_18, e113_19, e113_20, e113_23, e113_24, e113_25, e113_28, e113_29, e113_32, mm_pu_n, mm_pu_s, va_rf_s, mm_w8_0, mm_w8_1, mm_w8_2, mm_w8_3, mm_w8_4, mm_c1_n, mm_c1_i, mm_c1_a, mm_ct_a, mm_ct_i, true_and, and_true, and_self, eq_self, if_true, if_false, ite_true, ite_false, bI_t, bI_z, bI_nz, bI_01, true_or, or_true, reduceCtorEq, false_or, or_false, decide_eq_false_iff_not, decide_eq_true_eq, ite_not, bI_01, hml.s0, hKt.1.1, hKt.1.2, hK6, hsub]
    by_cases c2 : sp ch t p + 1 < t
    · have b2 := hc.2 _ c2
      have ew : wth (nI (ch (sp ch t p + 1))) 48 57 = dg ch t (sp ch t p + 1) := dg_at hc c2
      rw [if_neg (nI_ge c2 (by omega))]
      simp only [e113_35, e113_36, e113_39, e113_40, e113_43, e113_44, e113_46, e113_48, e113_51, mm_pu_n, mm_pu_s, va_rf_s, mm_w8_0, mm_w8_1, mm_w8_2, mm_w8_3, mm_w8_4, mm_c1_n, mm_c1_i, mm_c1_a, mm_ct_a, mm_ct_i, true_and, and_true, and_self, eq_self, if_true, if_false, ite_true, ite_false, bI_t, bI_z, bI_nz, bI_01, true_or, or_true, reduceCtorEq, false_or, or_false, decide_eq_false_iff_not, decide_eq_true_eq, ite_not, hml.s0, hml.p4, hml.i4, hKt.1.2, in80 (show sp ch t p + 1 < 80 by omega), cl2 (show sp ch t p + 1 < 248 by omega), hKt.2.2 _ c2, u_inw, ew]
      cases hd2 : dg ch t (sp ch t p + 1) with
      | false =>
        simp only [if_true]
        exact tail _ _ K hK hKt (by omega) (by unfold nv; rw [hd2]; rfl) (by unfold ne; rw [hd2]; rfl) (by omega)
      | true =>
        have d2 := dg_of hd2
        have fr : f5 m K (mm_uI K m 5 (nI (sp ch t p + 2))) := f5.u (Or.inl rfl)
        simp only [e113_54, e113_56, e113_57, e113_58, e113_59, e113_62, e113_63, e113_66, e113_67, e113_68, e113_70, e113_71, e113_72, e113_73, e113_74, e113_77, e113_78, e113_79, mm_pu_n, mm_pu_s, va_rf_s, mm_w8_0, mm_w8_1, mm_w8_2, mm_w8_3, mm_w8_4, mm_c1_n, mm_c1_i, mm_c1_a, mm_ct_a, mm_ct_i, true_and, and_true, and_self, eq_self, if_true, if_false, ite_true, ite_false, bI_t, bI_z, bI_nz, bI_01, true_or, or_true, reduceCtorEq, false_or, or_false, decide_eq_false_iff_not, decide_eq_true_eq, ite_not, Bool.true_eq_false, hml.s0, hml.p4, hml.i4, hKt.1.2, in80 (show sp ch t p + 1 < 80 by omega), cl2 (show sp ch t p + 1 < 248 by omega), hKt.2.2 _ c2, dv2 (show ch (sp ch t p) - 48 ≤ 1000 by omega) d2.2.1 b2.2, nI_1]
        exact tail _ _ _ (hK.tr fr) (tr_F hKt fr rd_u (by omega)) (by omega) (by unfold nv; rw [hd2]; rfl) (by unfold ne; rw [hd2]; rfl) (by omega)
    · have hd2 : dg ch t (sp ch t p + 1) = false := decide_eq_false (fun w => c2 w.1)
      have e2 : sp ch t p + 1 = t := by omega
      rw [if_pos (by rw [e2]; exact Int32.le_refl _)]
      exact tail _ _ K hK hKt (by omega) (by unfold nv; rw [hd2]; rfl) (by unfold ne; rw [hd2]; rfl) (by omega)
  · rw [dg_dr2] at z
    simp only [mm_pu_s, e113_7, e113_10, e113_11, mm_pu_n, mm_pu_s, va_rf_s, mm_w8_0, mm_w8_1, mm_w8_2, mm_w8_3, mm_w8_4, mm_c1_n, mm_c1_i, mm_c1_a, mm_ct_a, mm_ct_i, true_and, and_true, and_self, eq_self, if_true, if_false, ite_true, ite_false, bI_t, bI_z, bI_nz, bI_01, true_or, or_true, reduceCtorEq, false_or, or_false, decide_eq_false_iff_not, decide_eq_true_eq, ite_not]
    exact hq0 (nok_f z) K hK hKt
end
