def p_mx (M : mm_I) : Nat → Nat → Nat → Nat
  | 0, _, b => b
  | d + 1, k, b => p_mx M d (k + 1) (if M 8 k ≤ M 8 b then b else k)
def v_vis (M : mm_I) (n : Nat) (w : Int32) : Int32 := if n = 0 then -4 else if w = 0 then nI (p_mx M (n - 1) 1 0) else M 8 (p_mx M (n - 1) 1 0)
theorem nI_n4 {k : Nat} (h : k < 2 ^ 31) : ¬ (nI k = (-4 : Int32)) := fun c => absurd (nI_pos' h) (by rw [c]; decide)
theorem it_n (c : Prop) [Decidable c] (a b : Nat) : (if c then nI a else nI b) = nI (if c then a else b) := by split <;> rfl
theorem p_mx_lt {M : mm_I} {n : Nat} : ∀ d k b, k + d = n → b < n → p_mx M d k b < n := by
  intro d
  induction d with
  | zero => intro k b _ hb; exact hb
  | succ d ih => intro k b hk hb; exact ih (k + 1) _ (by omega) (by split <;> omega)
theorem p_mx_c {M N : mm_I} {n : Nat} (h : ∀ i, i < n → M 8 i = N 8 i) : ∀ d k b, k + d = n → b < n → p_mx M d k b = p_mx N d k b := by
  intro d
  induction d with
  | zero => intro k b _ _; rfl
  | succ d ih =>
    intro k b hk hb
    show p_mx M d (k + 1) (if M 8 k ≤ M 8 b then b else k) = p_mx N d (k + 1) (if N 8 k ≤ N 8 b then b else k)
    rw [h k (by omega), h b hb]
    exact ih (k + 1) _ (by omega) (by split <;> omega)
theorem s_vvis {M N : mm_I} {n : Nat} (h : ∀ i, i < n → M 8 i = N 8 i) (w : Int32) : v_vis M n w = v_vis N n w := by
  unfold v_vis
  by_cases c : n = 0
  · rw [if_pos c, if_pos c]
  · rw [if_neg c, if_neg c, p_mx_c h (n - 1) 1 0 (by omega) (by omega), h _ (p_mx_lt (n - 1) 1 0 (by omega) (by omega))]
section
variable {r : mm_R} {I : mm_I} {x m : Nat} {Q : Option Value → mm_I → mm_R → Prop}
theorem c_vis {M : mm_I} {n : Nat} (hS : HS r x m) (hn : n ≤ 6) (t w : Int32) (h0 : vc I (x + 10) 0 0 = nI n) (hM : ∀ i, i < n → vc I (x + 10) 8 i = M 8 i) : ∀ d k b, k + d = n → b < n → (Q (some (.int (if w = 0 then nI (p_mx M d k b) else M 8 (p_mx M d k b)))) I r) → mm_E 74 44 [some (.ref x), some (.int t), some (.int w), some (.int (nI b)), some (.int (nI k))] [] I r Q := by
  obtain ⟨x0, x1, x2, -⟩ := id hS.2.1
  have l2 := hS.2.2.1.2.1
  intro d
  induction d with
  | zero =>
    intro k b hk hb hq
    have : k = n := by omega
    subst this
    have hb6 : b < 6 := by omega
    rw [e74_44]
    simp only [e74_46, e74_47, e74_50, e74_53, e74_87, e74_88, e74_91, e74_92, e74_95, e74_96, e74_99, e74_102, e74_103, mm_pu_n, mm_pu_s, va_rf_s, mm_w8_0, mm_w8_1, mm_w8_2, mm_w8_3, mm_w8_4, mm_c1_n, mm_c1_i, mm_c1_a, mm_ct_a, mm_ct_i, true_and, and_true, and_self, eq_self, if_true, if_false, ite_true, ite_false, bI_t, bI_z, bI_nz, bI_01, true_or, or_true, reduceCtorEq, false_or, or_false, decide_eq_false_iff_not, decide_eq_true_eq, ite_not, x0, x2, l2.s0, l2.p6, l2.p7, l2.p8, l2.p9, l2.p10, l2.p11, l2.p12, l2.p13, l2.i1, l2.i2, l2.i3, l2.i4, l2.i5, l2.i6, l2.i7, l2.i8, rd_0 (a := x + 10) (i := 0) (by decide), h0, Int32.le_refl, in6 hb6, cl_nI hb6, rd_k (a := x + 10) (k := 8) ⟨by decide, hb6⟩, hM b hb, it_i]
    rw [e74_104]
    exact hq
  | succ d ih =>
    intro k b hk hb hq
    have hb6 : b < 6 := by omega
    have hk6 : k < 6 := by omega
    rw [e74_44]
    simp only [e74_46, e74_47, e74_50, e74_53, e74_56, e74_57, e74_60, e74_63, e74_65, e74_66, e74_67, e74_70, e74_73, e74_74, e74_75, e74_78, e74_80, mm_pu_n, mm_pu_s, va_rf_s, mm_w8_0, mm_w8_1, mm_w8_2, mm_w8_3, mm_w8_4, mm_c1_n, mm_c1_i, mm_c1_a, mm_ct_a, mm_ct_i, true_and, and_true, and_self, eq_self, if_true, if_false, ite_true, ite_false, bI_t, bI_z, bI_nz, bI_01, true_or, or_true, reduceCtorEq, false_or, or_false, decide_eq_false_iff_not, decide_eq_true_eq, ite_not, x0, x2, l2.s0, l2.p6, l2.p7, l2.p8, l2.p9, l2.p10, l2.p11, l2.p12, l2.p13, l2.i1, l2.i2, l2.i3, l2.i4, l2.i5, l2.i6, l2.i7, l2.i8, rd_0 (a := x + 10) (i := 0) (by decide), h0, nI_ge (show k < n by omega) (show n < 2 ^ 31 by omega), in6 hb6, cl_nI hb6, in6 hk6, cl_nI hk6, rd_k (a := x + 10) (k := 8) ⟨by decide, hb6⟩, rd_k (a := x + 10) (k := 8) ⟨by decide, hk6⟩, hM b hb, hM k (by omega)]
    have hq' : Q (some (.int (if w = 0 then nI (p_mx M d (k + 1) (if M 8 k ≤ M 8 b then b else k)) else M 8 (p_mx M d (k + 1) (if M 8 k ≤ M 8 b then b else k))))) I r := hq
    by_cases c : M 8 k ≤ M 8 b
    · rw [if_pos c]
      rw [if_pos c] at hq'
      simp only [e74_81, e74_84, mm_pu_n, mm_pu_s, va_rf_s, mm_w8_0, mm_w8_1, mm_w8_2, mm_w8_3, mm_w8_4, mm_c1_n, mm_c1_i, mm_c1_a, mm_ct_a, mm_ct_i, true_and, and_true, and_self, eq_self, if_true, if_false, ite_true, ite_false, bI_t, bI_z, bI_nz, bI_01, true_or, or_true, reduceCtorEq, false_or, or_false, decide_eq_false_iff_not, decide_eq_true_eq, ite_not, nI_1]
      exact ih (k + 1) b (by omega) hb hq'
    · rw [if_neg c]
      rw [if_neg c] at hq'
      simp only [e74_81, e74_84, mm_pu_n, mm_pu_s, va_rf_s, mm_w8_0, mm_w8_1, mm_w8_2, mm_w8_3, mm_w8_4, mm_c1_n, mm_c1_i, mm_c1_a, mm_ct_a, mm_ct_i, true_and, and_true, and_self, eq_self, if_true, if_false, ite_true, ite_false, bI_t, bI_z, bI_nz, bI_01, true_or, or_true, reduceCtorEq, false_or, or_false, decide_eq_false_iff_not, decide_eq_true_eq, ite_not, nI_1]
      exact ih (k + 1) k (by omega) (by omega) hq'
theorem m_vis {M : mm_I} {n : Nat} (hml : ml_S r m) (hn : n ≤ 6) (t w : Int32) (h0 : vr I (m + 5) m 0 0 = nI n) (hM : ∀ i, i < n → vr I (m + 6) m 8 i = M 8 i) : ∀ d k b, k + d = n → b < n → (Q (some (.int (if w = 0 then nI (p_mx M d k b) else M 8 (p_mx M d k b)))) I r) → mm_E 147 36 [some (.ref m), some (.int t), some (.int w), some (.int (nI b)), some (.int (nI k))] [] I r Q := by
  intro d
  induction d with
  | zero =>
    intro k b hk hb hq
    have : k = n := by omega
    subst this
    have hb6 : b < 6 := by omega
    rw [e147_36]
    simp only [e147_38, e147_39, e147_42, e147_44, e147_45, e147_83, e147_84, e147_86, e147_89, e147_90, e147_93, e147_94, e147_97, e147_98, e147_101, e147_102, mm_pu_n, mm_pu_s, va_rf_s, mm_w8_0, mm_w8_1, mm_w8_2, mm_w8_3, mm_w8_4, mm_c1_n, mm_c1_i, mm_c1_a, mm_ct_a, mm_ct_i, true_and, and_true, and_self, eq_self, if_true, if_false, ite_true, ite_false, bI_t, bI_z, bI_nz, bI_01, true_or, or_true, reduceCtorEq, false_or, or_false, decide_eq_false_iff_not, decide_eq_true_eq, ite_not, hml.s0, hml.p7, hml.i5, hml.p13, hml.i10, c27.1, d27.1, r27 m, h0, Int32.le_refl, nI_n4 (show b < 2 ^ 31 by omega), in6 hb6, cl_nI hb6, rr_8 (s := m + 6) (m := m) hb6, hM b hb, it_i]
    rw [e147_103]
    exact hq
  | succ d ih =>
    intro k b hk hb hq
    have hb6 : b < 6 := by omega
    have hk6 : k < 6 := by omega
    rw [e147_36]
    simp only [e147_38, e147_39, e147_42, e147_44, e147_45, e147_48, e147_49, e147_51, e147_54, e147_55, e147_58, e147_60, e147_61, e147_62, e147_65, e147_66, e147_67, e147_70, e147_72, e147_75, mm_pu_n, mm_pu_s, va_rf_s, mm_w8_0, mm_w8_1, mm_w8_2, mm_w8_3, mm_w8_4, mm_c1_n, mm_c1_i, mm_c1_a, mm_ct_a, mm_ct_i, true_and, and_true, and_self, eq_self, if_true, if_false, ite_true, ite_false, bI_t, bI_z, bI_nz, bI_01, true_or, or_true, reduceCtorEq, false_or, or_false, decide_eq_false_iff_not, decide_eq_true_eq, ite_not, hml.s0, hml.p7, hml.i5, hml.p13, hml.i10, c27.1, d27.1, r27 m, h0, nI_ge (show k < n by omega) (show n < 2 ^ 31 by omega), nI_n4 (show b < 2 ^ 31 by omega), in6 hb6, cl_nI hb6, in6 hk6, cl_nI hk6, rr_8 (s := m + 6) (m := m) hb6, rr_8 (s := m + 6) (m := m) hk6, hM b hb, hM k (by omega), it_i, it_n]
    simp only [e147_76, e147_77, e147_80, mm_pu_n, mm_pu_s, va_rf_s, mm_w8_0, mm_w8_1, mm_w8_2, mm_w8_3, mm_w8_4, mm_c1_n, mm_c1_i, mm_c1_a, mm_ct_a, mm_ct_i, true_and, and_true, and_self, eq_self, if_true, if_false, ite_true, ite_false, bI_t, bI_z, bI_nz, bI_01, true_or, or_true, reduceCtorEq, false_or, or_false, decide_eq_false_iff_not, decide_eq_true_eq, ite_not, nI_1]
    exact ih (k + 1) _ (by omega) (by split <;> omega) hq
theorem a_visits (h : ALL I r x m) (t w : Int32) : pr 74 147 [some (.ref x), some (.int t), some (.int w), none, none] [some (.ref m), some (.int t), some (.int w), none, none] I r x m := by
  obtain ⟨hS, ⟨sg, L, bn, B, n, ng, Lr, Br, hg⟩, hG2, hG3, hG4⟩ := id h
  obtain ⟨hm, hx, ⟨l1, l2, l3, l4⟩, hip, hpt, htp, hsh, hml⟩ := id hS
  obtain ⟨x0, x1, x2, x3, x4, x5, x6, x7, x8⟩ := id hx
  obtain ⟨⟨hps, hL, hpv⟩, ⟨hR, hB⟩, ⟨⟨⟨hG, hRR, hdr, hnt⟩, hbk⟩, ⟨⟨hG', hRR', hdr', hnt'⟩, hbk'⟩, hsm, hsB⟩⟩ := id hg
  have hLL : dl L = L := by rw [← hL]; exact dl_dl _
  have hLr : dl Lr = Lr := by rw [← hR]; exact dl_dl _
  have hs6 := s_6 hsm hLL hLr
  have vL : ∀ q i, q < 7 → vc I (x + 1) q i = L q i := fun q i hq => by rw [← hL, dl_at hq]
  have vR : ∀ q i, q < 7 → vr I (m + 5) m q i = Lr q i := fun q i hq => by rw [← hR, dl_at hq]
  have vRh : ∀ {k : Nat}, k < n → ∀ q, 1 ≤ q ∧ q ≤ 3 → vr I (m + 5) m q k = L q k := fun hk q hq => (vR q _ (by omega)).trans (hsm q _ (wc_h hq hk)).symm
  have vRg : ∀ {k : Nat}, k < ng → ∀ q, 4 ≤ q ∧ q ≤ 6 → vr I (m + 5) m q k = L q k := fun hk q hq => (vR q _ (by omega)).trans (hsm q _ (wc_g hq hk)).symm
  obtain ⟨⟨hn, e0⟩, ⟨hng, e1⟩, hpl⟩ := id hG
  have f0 : vc I (x + 1) 0 0 = nI n := by rw [vL 0 0 (by decide)]; exact e0
  have f1 : vc I (x + 1) 0 1 = nI ng := by rw [vL 0 1 (by decide)]; exact e1
  have g0 : vr I (m + 5) m 0 0 = nI n := by rw [vR 0 0 (by decide)]; exact hG'.1.2
  have g1 : vr I (m + 5) m 0 1 = nI ng := by rw [vR 0 1 (by decide)]; exact hG'.2.1.2
  unfold pr
  cases hk2 : wth t 1 40 with
  | false =>
    simp only [e74_0, e74_1, e74_2, e74_4, e74_7, e74_10, e74_11, e74_12, e74_13, e74_16, e74_19, e74_20, e147_0, e147_1, e147_2, e147_4, e147_7, e147_10, e147_11, e147_12, e147_13, e147_16, e147_19, e147_20, mm_pu_n, mm_pu_s, va_rf_s, mm_w8_0, mm_w8_1, mm_w8_2, mm_w8_3, mm_w8_4, mm_c1_n, mm_c1_i, mm_c1_a, mm_ct_a, mm_ct_i, true_and, and_true, and_self, eq_self, if_true, if_false, ite_true, ite_false, bI_t, bI_z, bI_nz, bI_01, true_or, or_true, reduceCtorEq, false_or, or_false, decide_eq_false_iff_not, decide_eq_true_eq, ite_not, x0, x1, x2, x3, x4, x5, x6, x7, x8, l1.s0, l1.p6, l1.p7, l1.p8, l1.p9, l1.p10, l1.p11, l1.p12, l1.p13, l1.i1, l1.i2, l1.i3, l1.i4, l1.i5, l1.i6, l1.i7, l1.i8, hml.s0, hml.p7, hml.i5, t_within, u_inw, hk2, Bool.false_eq_true]
    exact fi_i _ h rfl rfl
  | true =>
    cases hk3 : wth w 0 1 with
    | false =>
      simp only [e74_0, e74_1, e74_2, e74_4, e74_7, e74_10, e74_11, e74_12, e74_13, e74_16, e74_19, e74_20, e147_0, e147_1, e147_2, e147_4, e147_7, e147_10, e147_11, e147_12, e147_13, e147_16, e147_19, e147_20, mm_pu_n, mm_pu_s, va_rf_s, mm_w8_0, mm_w8_1, mm_w8_2, mm_w8_3, mm_w8_4, mm_c1_n, mm_c1_i, mm_c1_a, mm_ct_a, mm_ct_i, true_and, and_true, and_self, eq_self, if_true, if_false, ite_true, ite_false, bI_t, bI_z, bI_nz, bI_01, true_or, or_true, reduceCtorEq, false_or, or_false, decide_eq_false_iff_not, decide_eq_true_eq, ite_not, x0, x1, x2, x3, x4, x5, x6, x7, x8, l1.s0, l1.p6, l1.p7, l1.p8, l1.p9, l1.p10, l1.p11, l1.p12, l1.p13, l1.i1, l1.i2, l1.i3, l1.i4, l1.i5, l1.i6, l1.i7, l1.i8, hml.s0, hml.p7, hml.i5, t_within, u_inw, hk2, hk3, Bool.true_eq_false]
      exact fi_i _ h rfl rfl
    | true =>
      obtain ⟨t', -, ht, rfl⟩ := wth_of hk2 (a := 1) (b := 40) (by decide) (by decide) (by decide) (by decide)
      have hGn := p_nights_G hG t'
      have ref : ∀ K, fc I K x → mm_E 147 0 [some (.ref m), some (.int (nI t')), some (.int w), none, none] [] K r (fun v2 I2 r2 => fi r x m (some (.int (v_vis (p_nights L n ng t') n w))) v2 I2 r2) := by
        intro K hK
        rw [s_vvis (fun i hi => s_nights hs6 hG t' 8 i (Or.inr ⟨rfl, hi⟩))]
        simp only [e147_0, e147_1, e147_2, e147_4, e147_7, e147_10, e147_11, e147_12, e147_13, e147_16, e147_19, e147_20, e147_21, e147_22, mm_pu_n, mm_pu_s, va_rf_s, mm_w8_0, mm_w8_1, mm_w8_2, mm_w8_3, mm_w8_4, mm_c1_n, mm_c1_i, mm_c1_a, mm_ct_a, mm_ct_i, true_and, and_true, and_self, eq_self, if_true, if_false, ite_true, ite_false, bI_t, bI_z, bI_nz, bI_01, true_or, or_true, reduceCtorEq, false_or, or_false, decide_eq_false_iff_not, decide_eq_true_eq, ite_not, hml.s0, hml.p7, hml.i5, u_inw, hk2, hk3, Bool.true_eq_false]
        refine g_begin n hn hml (MX.k (I := I) vR (hK _ (by omega))) hLr (fun K1 hK1 hF1 => ?_)
        simp only [mm_pu_n, e147_25, e147_26, e147_27, mm_pu_n, mm_pu_s, va_rf_s, mm_w8_0, mm_w8_1, mm_w8_2, mm_w8_3, mm_w8_4, mm_c1_n, mm_c1_i, mm_c1_a, mm_ct_a, mm_ct_i, true_and, and_true, and_self, eq_self, if_true, if_false, ite_true, ite_false, bI_t, bI_z, bI_nz, bI_01, true_or, or_true, reduceCtorEq, false_or, or_false, decide_eq_false_iff_not, decide_eq_true_eq, ite_not, hml.s0, hml.p7, hml.i5]
        refine g_goOn hml hK1 hG' hRR' (by omega) (fun K2 hK2 hF2 => ?_)
        have gJ : vr K2 (m + 5) m 0 0 = nI n := by rw [vr_q (I := I) (by decide) (fun j _ => by rw [hF2 _ (by omega) (by omega) (by omega), hF1 _ (by omega) (by omega) (by omega), hK _ (by omega)])]; exact g0
        have hfi : fi r x m (some (.int (v_vis (p_nights Lr n ng t') n w))) (some (.int (v_vis (p_nights Lr n ng t') n w))) K2 r := fi_i _ (ALL_f h hK (hF1.tr hF2)) rfl rfl
        by_cases c : n = 0
        · subst c
          simp only [mm_pu_n, e147_30, e147_32, e147_33, e147_34, e147_36, e147_38, e147_39, e147_42, e147_44, e147_45, e147_83, e147_84, e147_86, e147_89, e147_90, e147_93, e147_94, e147_97, e147_98, e147_101, e147_102, e147_103, mm_pu_n, mm_pu_s, va_rf_s, mm_w8_0, mm_w8_1, mm_w8_2, mm_w8_3, mm_w8_4, mm_c1_n, mm_c1_i, mm_c1_a, mm_ct_a, mm_ct_i, true_and, and_true, and_self, eq_self, if_true, if_false, ite_true, ite_false, bI_t, bI_z, bI_nz, bI_01, true_or, or_true, reduceCtorEq, false_or, or_false, decide_eq_false_iff_not, decide_eq_true_eq, ite_not, hml.s0, hml.p7, hml.i5, c27.1, d27.1, r27 m, gJ, show (nI 0 ≤ (0 : Int32)) = True from eq_true (by decide)]
          exact hfi
        · simp only [mm_pu_n, e147_30, e147_32, e147_33, e147_34, e147_36, e147_38, e147_39, e147_42, e147_44, e147_45, e147_48, e147_49, e147_51, e147_54, e147_55, e147_58, e147_60, e147_61, e147_62, e147_65, e147_66, e147_67, e147_70, e147_72, e147_75, mm_pu_n, mm_pu_s, va_rf_s, mm_w8_0, mm_w8_1, mm_w8_2, mm_w8_3, mm_w8_4, mm_c1_n, mm_c1_i, mm_c1_a, mm_ct_a, mm_ct_i, true_and, and_true, and_self, eq_self, if_true, if_false, ite_true, ite_false, bI_t, bI_z, bI_nz, bI_01, true_or, or_true, reduceCtorEq, false_or, or_false, decide_eq_false_iff_not, decide_eq_true_eq, ite_not, hml.s0, hml.p7, hml.i5, c27.1, d27.1, r27 m, gJ, show (nI n ≤ (0 : Int32)) = False from eq_false (nI_nle (by omega) (by omega))]
          simp only [e147_76, e147_77, e147_80, mm_pu_n, mm_pu_s, va_rf_s, mm_w8_0, mm_w8_1, mm_w8_2, mm_w8_3, mm_w8_4, mm_c1_n, mm_c1_i, mm_c1_a, mm_ct_a, mm_ct_i, true_and, and_true, and_self, eq_self, if_true, if_false, ite_true, ite_false, bI_t, bI_z, bI_nz, bI_01, true_or, or_true, reduceCtorEq, false_or, or_false, decide_eq_false_iff_not, decide_eq_true_eq, ite_not, show (0 : Int32) + 1 = nI 1 from by decide]
          rw [show (0 : Int32) = nI 0 from rfl]
          refine m_vis (M := p_nights Lr n ng t') hml hn _ _ gJ (fun i hi => hK2 8 i (Or.inr ⟨rfl, trivial, hi⟩)) (n - 1) 1 0 (by omega) (by omega) ?_
          unfold v_vis at hfi ⊢
          rw [if_neg c] at hfi ⊢
          exact hfi
      by_cases c : n = 0
      · subst c
        simp only [e74_0, e74_1, e74_2, e74_4, e74_7, e74_10, e74_11, e74_12, e74_13, e74_16, e74_19, e74_20, e74_21, e74_22, e74_25, e74_28, e74_31, e74_33, mm_pu_n, mm_pu_s, va_rf_s, mm_w8_0, mm_w8_1, mm_w8_2, mm_w8_3, mm_w8_4, mm_c1_n, mm_c1_i, mm_c1_a, mm_ct_a, mm_ct_i, true_and, and_true, and_self, eq_self, if_true, if_false, ite_true, ite_false, bI_t, bI_z, bI_nz, bI_01, true_or, or_true, reduceCtorEq, false_or, or_false, decide_eq_false_iff_not, decide_eq_true_eq, ite_not, x0, x1, x2, x3, x4, x5, x6, x7, x8, l1.s0, l1.p6, l1.p7, l1.p8, l1.p9, l1.p10, l1.p11, l1.p12, l1.p13, l1.i1, l1.i2, l1.i3, l1.i4, l1.i5, l1.i6, l1.i7, l1.i8, t_within, hk2, hk3, Bool.true_eq_false, rd_0 (a := x + 1) (i := 0) (by decide), f0, show (nI 0 = (0 : Int32)) = True from eq_true rfl]
        exact ref I fc.rf
      · simp only [e74_0, e74_1, e74_2, e74_4, e74_7, e74_10, e74_11, e74_12, e74_13, e74_16, e74_19, e74_20, e74_21, e74_22, e74_25, e74_28, e74_31, e74_33, e74_34, e74_35, e74_36, mm_pu_n, mm_pu_s, va_rf_s, mm_w8_0, mm_w8_1, mm_w8_2, mm_w8_3, mm_w8_4, mm_c1_n, mm_c1_i, mm_c1_a, mm_ct_a, mm_ct_i, true_and, and_true, and_self, eq_self, if_true, if_false, ite_true, ite_false, bI_t, bI_z, bI_nz, bI_01, true_or, or_true, reduceCtorEq, false_or, or_false, decide_eq_false_iff_not, decide_eq_true_eq, ite_not, x0, x1, x2, x3, x4, x5, x6, x7, x8, l1.s0, l1.p6, l1.p7, l1.p8, l1.p9, l1.p10, l1.p11, l1.p12, l1.p13, l1.i1, l1.i2, l1.i3, l1.i4, l1.i5, l1.i6, l1.i7, l1.i8, t_within, hk2, hk3, Bool.true_eq_false, rd_0 (a := x + 1) (i := 0) (by decide), f0, nI_ne0 (show 0 < n by omega) (show n < 2 ^ 31 by omega)]
        refine t_foretell hS vL hLL hG (by omega) (fun J hJ hF => ?_)
        simp only [mm_pu_n, e74_39, e74_40, e74_41, e74_42, mm_pu_n, mm_pu_s, va_rf_s, mm_w8_0, mm_w8_1, mm_w8_2, mm_w8_3, mm_w8_4, mm_c1_n, mm_c1_i, mm_c1_a, mm_ct_a, mm_ct_i, true_and, and_true, and_self, eq_self, if_true, if_false, ite_true, ite_false, bI_t, bI_z, bI_nz, bI_01, true_or, or_true, reduceCtorEq, false_or, or_false, decide_eq_false_iff_not, decide_eq_true_eq, ite_not]
        rw [show (0 : Int32) = nI 0 from rfl, show (1 : Int32) = nI 1 from rfl]
        refine c_vis (M := p_nights L n ng t') hS hn _ _ (by rw [hJ 0 0 (Or.inl (by decide))]; exact hGn.1.2) (fun i hi => hJ 8 i (Or.inr ⟨rfl, trivial, hi⟩)) (n - 1) 1 0 (by omega) (by omega) ?_
        have := ref J hF
        unfold v_vis at this
        rw [if_neg c] at this
        exact this
end
