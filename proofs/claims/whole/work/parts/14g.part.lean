section
variable {r : mm_R} {I : mm_I} {m n ng t c : Nat} {L : mm_I} {kk : Int32} {Q : Option Value → mm_I → mm_R → Prop}
theorem m_blk (hml : ml_S r m) (hcx : MX I m L) (hLL : dl L = L) (hg : gl L n ng) (hn0 : 0 < n) (ht : t ≤ 30) (hc12 : c ≤ 12) : ∀ M j w s q J st l8 l9, j + M + 1 = n → (∀ i, i < j → w i = q / (c + 1) ^ (j - 1 - i) % (c + 1)) → s = sd (c + 1) q j → q < (c + 1) ^ j → fq m I J → pm_S J (m + 12) n st →
    (∀ K l8 l9 st', st' = fo c (pU L n ng t) M j w s st → fq m I K → pm_S K (m + 12) n st' → mm_E 145 71 [some (.ref m), some (.int (nI c)), some (.int (nI t)), some (.int kk), some (.int (nI ((c + 1) ^ (n - 1)))), some (.int (mo st')), some (.int (le st')), some (.int (nI ((q + 1) * (c + 1) ^ M))), l8, l9] [] K r Q) →
    mm_E 145 71 [some (.ref m), some (.int (nI c)), some (.int (nI t)), some (.int kk), some (.int (nI ((c + 1) ^ (n - 1)))), some (.int (mo st)), some (.int (le st)), some (.int (nI (q * (c + 1) ^ M))), l8, l9] [] J r Q := by
  intro M
  induction M with
  | zero =>
    intro j w s q J st l8 l9 hj hw hs hqj hF hst hk
    have hjn : j = n - 1 := by omega
    subst hjn
    rw [Nat.pow_zero, Nat.mul_one]
    refine u_try (w := w) hml hcx hLL hg hn0 ht hc12 hqj (fun i hi => by rw [hw i hi, show n - 1 - 1 - i = n - 2 - i by omega]) hF hst (fun K l8 l9 st' e a b => ?_)
    have := hk K l8 l9 st' (by rw [e, hs]; rfl) a b
    rw [Nat.pow_zero, Nat.mul_one] at this
    exact this
  | succ M ih =>
    intro j w s q J st l8 l9 hj hw hs hqj hF hst hk
    have inner : ∀ e d J st l8 l9, d + e = c + 1 → fq m I J → pm_S J (m + 12) n st →
        (∀ K l8 l9 st', st' = lp (fun d st => fo c (pU L n ng t) M (j + 1) (ws w j d) (s + d) st) e d st → fq m I K → pm_S K (m + 12) n st' → mm_E 145 71 [some (.ref m), some (.int (nI c)), some (.int (nI t)), some (.int kk), some (.int (nI ((c + 1) ^ (n - 1)))), some (.int (mo st')), some (.int (le st')), some (.int (nI ((q + 1) * (c + 1) ^ (M + 1)))), l8, l9] [] K r Q) →
        mm_E 145 71 [some (.ref m), some (.int (nI c)), some (.int (nI t)), some (.int kk), some (.int (nI ((c + 1) ^ (n - 1)))), some (.int (mo st)), some (.int (le st)), some (.int (nI ((q * (c + 1) + d) * (c + 1) ^ M))), l8, l9] [] J r Q := by
      intro e
      induction e with
      | zero =>
        intro d J st l8 l9 hd hF hst hk
        have hdc : d = c + 1 := by omega
        subst hdc
        have := hk J l8 l9 st rfl hF hst
        rw [show (q + 1) * (c + 1) ^ (M + 1) = (q * (c + 1) + (c + 1)) * (c + 1) ^ M by rw [Nat.pow_succ, Nat.mul_comm ((c + 1) ^ M), ← Nat.mul_assoc, Nat.add_mul, Nat.one_mul]] at this
        exact this
      | succ e ihe =>
        intro d J st l8 l9 hd hF hst hk
        have hdB : d < c + 1 := by omega
        refine ih (j + 1) (ws w j d) (s + d) (q * (c + 1) + d) J st l8 l9 (by omega) (fun i hi => ?_) (by rw [hs, sd_up hdB]) ?_ hF hst (fun K l8 l9 st' es a b => ?_)
        · unfold ws
          by_cases z : i = j
          · rw [if_pos z, z, show j + 1 - 1 - j = 0 by omega, Nat.pow_zero, Nat.div_one, Nat.mul_comm q, Nat.mul_add_mod, Nat.mod_eq_of_lt hdB]
          · rw [if_neg z, show j + 1 - 1 - i = (j - 1 - i) + 1 by omega, dg_up hdB]
            exact hw i (by omega)
        · have h1 := Nat.mul_le_mul_right (c + 1) (show q + 1 ≤ (c + 1) ^ j from hqj)
          rw [Nat.add_mul, Nat.one_mul] at h1
          rw [Nat.pow_succ]
          omega
        · rw [show q * (c + 1) + d + 1 = q * (c + 1) + (d + 1) by omega]
          exact ihe (d + 1) K st' l8 l9 (by omega) a b (fun K l8 l9 st2 e2 a b => hk K l8 l9 st2 (by rw [e2, es]; rfl) a b)
    have := inner (c + 1) 0 J st l8 l9 (by omega) hF hst hk
    rw [show (q * (c + 1) + 0) * (c + 1) ^ M = q * (c + 1) ^ (M + 1) by rw [Nat.add_zero, Nat.pow_succ, Nat.mul_comm ((c + 1) ^ M), Nat.mul_assoc]] at this
    exact this
theorem m_partN (hml : ml_S r m) (hcx : MX I m L) (hLL : dl L = L) (hg : gl L n ng) (hn0 : 0 < n) (ht : t ≤ 30) (hc12 : c ≤ 12)
    (hk : ∀ K l7 l8 l9, fq m I K → pm_S K (m + 12) n (fnd L n ng t c) → mm_E 145 207 [some (.ref m), some (.int (nI c)), some (.int (nI t)), some (.int kk), some (.int (nI ((c + 1) ^ (n - 1)))), some (.int (mo (fnd L n ng t c))), some (.int (le (fnd L n ng t c))), l7, l8, l9] [] K r Q) :
    mm_E 145 28 [some (.ref m), some (.int (nI c)), some (.int (nI t)), some (.int kk), none, none, none, none, none, none] [] I r Q := by
  have hn := hg.1.1.1
  have hp := pw13 hc12 hn
  have g0 : vr I (m + 5) m 0 0 = nI n := by rw [hcx 0 0 (by decide)]; exact hg.1.1.2
  have codes : ∀ d h, (h + 1) + d = n → mm_E 145 34 [some (.ref m), some (.int (nI c)), some (.int (nI t)), some (.int kk), some (.int (nI ((c + 1) ^ h))), some (.int (nI (h + 1))), none, none, none, none] [] I r Q := by
    intro d
    induction d with
    | zero =>
      intro h hh
      have hh1 : h = n - 1 := by omega
      subst hh1
      have e1 : n - 1 + 1 = n := by omega
      rw [e145_34]
      simp only [e145_36, e145_37, e145_40, e145_42, e145_43, mm_pu_n, mm_pu_s, va_rf_s, mm_w8_0, mm_w8_1, mm_w8_2, mm_w8_3, mm_w8_4, mm_c1_n, mm_c1_i, mm_c1_a, mm_ct_a, mm_ct_i, true_and, and_true, and_self, eq_self, if_true, if_false, ite_true, ite_false, bI_t, bI_z, bI_nz, bI_01, true_or, or_true, reduceCtorEq, false_or, or_false, decide_eq_false_iff_not, decide_eq_true_eq, ite_not, hml.s0, hml.p7, hml.i5, c27.1, d27.1, r27 m, g0, e1, Int32.le_refl]
      simp only [e145_60, e145_62, e145_64, e145_66, e145_68, e145_69, mm_pu_n, mm_pu_s, va_rf_s, mm_w8_0, mm_w8_1, mm_w8_2, mm_w8_3, mm_w8_4, mm_c1_n, mm_c1_i, mm_c1_a, mm_ct_a, mm_ct_i, true_and, and_true, and_self, eq_self, if_true, if_false, ite_true, ite_false, bI_t, bI_z, bI_nz, bI_01, true_or, or_true, reduceCtorEq, false_or, or_false, decide_eq_false_iff_not, decide_eq_true_eq, ite_not]
      rw [show (some (Value.int 0) : Option Value) = some (.int (nI (0 * (c + 1) ^ (n - 1)))) from by rw [Nat.zero_mul]; rfl]
      refine m_blk hml hcx hLL hg hn0 ht hc12 (n - 1) 0 (fun _ => 0) 0 0 I none none none (by omega) (fun i hi => absurd hi (by omega)) rfl (by rw [Nat.pow_zero]; decide) (fun _ _ _ _ _ _ => rfl) trivial (fun K l8 l9 st' es a b => ?_)
      subst es
      rw [e145_71]
      simp only [e145_73, e145_75, mm_pu_n, mm_pu_s, va_rf_s, mm_w8_0, mm_w8_1, mm_w8_2, mm_w8_3, mm_w8_4, mm_c1_n, mm_c1_i, mm_c1_a, mm_ct_a, mm_ct_i, true_and, and_true, and_self, eq_self, if_true, if_false, ite_true, ite_false, bI_t, bI_z, bI_nz, bI_01, true_or, or_true, reduceCtorEq, false_or, or_false, decide_eq_false_iff_not, decide_eq_true_eq, ite_not, Nat.zero_add, Nat.one_mul, Int32.le_refl]
      exact hk K _ _ _ a b
    | succ d ih =>
      intro h hh
      rw [e145_34]
      simp only [e145_36, e145_37, e145_40, e145_42, e145_43, e145_46, e145_48, e145_49, e145_50, e145_51, e145_52, e145_54, e145_57, mm_pu_n, mm_pu_s, va_rf_s, mm_w8_0, mm_w8_1, mm_w8_2, mm_w8_3, mm_w8_4, mm_c1_n, mm_c1_i, mm_c1_a, mm_ct_a, mm_ct_i, true_and, and_true, and_self, eq_self, if_true, if_false, ite_true, ite_false, bI_t, bI_z, bI_nz, bI_01, true_or, or_true, reduceCtorEq, false_or, or_false, decide_eq_false_iff_not, decide_eq_true_eq, ite_not, hml.s0, hml.p7, hml.i5, c27.1, d27.1, r27 m, g0, nle6 (show h + 1 < n by omega) hn, nI_1, pk_mul]
      exact ih (h + 1) (by omega)
  simp only [e145_28, e145_29, e145_31, e145_32, mm_pu_n, mm_pu_s, va_rf_s, mm_w8_0, mm_w8_1, mm_w8_2, mm_w8_3, mm_w8_4, mm_c1_n, mm_c1_i, mm_c1_a, mm_ct_a, mm_ct_i, true_and, and_true, and_self, eq_self, if_true, if_false, ite_true, ite_false, bI_t, bI_z, bI_nz, bI_01, true_or, or_true, reduceCtorEq, false_or, or_false, decide_eq_false_iff_not, decide_eq_true_eq, ite_not]
  exact codes (n - 1) 0 (by omega)
end
theorem pU_s (L : mm_I) (n ng t : Nat) (w : Nat → Nat) (st : pt_S) : ∃ q, pU L n ng t w st = some q := by
  cases st with
  | none => exact ⟨_, rfl⟩
  | some q =>
    by_cases z : q.1 < n - lcn (pE L n ng t w) n ∨ (q.1 = n - lcn (pE L n ng t w) n ∧ p_ow (pE L n ng t w) n < q.2.1)
    · exact ⟨(n - lcn (pE L n ng t w) n, p_ow (pE L n ng t w) n, w), if_pos z⟩
    · exact ⟨q, if_neg z⟩
theorem lp_s {f : Nat → pt_S → pt_S} (h : ∀ k q, ∃ q', f k (some q) = some q') : ∀ d k q, ∃ q', lp f d k (some q) = some q' := by
  intro d
  induction d with
  | zero => intro k q; exact ⟨q, rfl⟩
  | succ d ih =>
    intro k q
    obtain ⟨q1, e⟩ := h k q
    obtain ⟨q2, e2⟩ := ih (k + 1) q1
    exact ⟨q2, by show lp f d (k + 1) (f k (some q)) = some q2; rw [e]; exact e2⟩
theorem fo_k {c : Nat} {U : (Nat → Nat) → pt_S → pt_S} (hU : ∀ w st, ∃ q, U w st = some q) : ∀ M j w s q, ∃ q', fo c U M j w s (some q) = some q' := by
  intro M
  induction M with
  | zero =>
    intro j w s q
    by_cases z : s ≤ c
    · obtain ⟨q', e⟩ := hU (ws w j (c - s)) (some q)
      exact ⟨q', by show (if s ≤ c then U (ws w j (c - s)) (some q) else some q) = some q'; rw [if_pos z]; exact e⟩
    · exact ⟨q, if_neg z⟩
  | succ M ih =>
    intro j w s q
    exact lp_s (fun k q => ih _ _ _ _) _ _ _
theorem fo_s {c : Nat} {U : (Nat → Nat) → pt_S → pt_S} (hU : ∀ w st, ∃ q, U w st = some q) : ∀ M j w s st, s ≤ c → ∃ q', fo c U M j w s st = some q' := by
  intro M
  induction M with
  | zero =>
    intro j w s st hs
    obtain ⟨q', e⟩ := hU (ws w j (c - s)) st
    exact ⟨q', by show (if s ≤ c then U (ws w j (c - s)) st else st) = some q'; rw [if_pos hs]; exact e⟩
  | succ M ih =>
    intro j w s st hs
    obtain ⟨q1, e1⟩ := ih (j + 1) (ws w j 0) (s + 0) st hs
    obtain ⟨q2, e2⟩ := lp_s (f := fun d st => fo c U M (j + 1) (ws w j d) (s + d) st) (fun k q => fo_k hU _ _ _ _ _) c 1 q1
    exact ⟨q2, by
      show lp (fun d st => fo c U M (j + 1) (ws w j d) (s + d) st) c (0 + 1) (fo c U M (j + 1) (ws w j 0) (s + 0) st) = some q2
      rw [e1]; exact e2⟩
theorem fnd_s (L : mm_I) (n ng t c : Nat) : ∃ q, fnd L n ng t c = some q := fo_s (pU_s L n ng t) _ _ _ _ _ (Nat.zero_le _)
theorem k_neg {k : Int32} (h1 : ¬ k < -2) (h2 : k < 0) : k = -1 ∨ k = -2 := by
  rw [Int32.lt_iff_toInt_lt] at h1 h2
  have e2 : (-2 : Int32).toInt = -2 := by decide
  have e0 : (0 : Int32).toInt = 0 := by decide
  rw [e2] at h1
  rw [e0] at h2
  have : k.toInt = -1 ∨ k.toInt = -2 := by omega
  rcases this with h | h
  · left; exact Int32.toInt_inj.mp (by rw [h]; decide)
  · right; exact Int32.toInt_inj.mp (by rw [h]; decide)
section
variable {r : mm_R} {I : mm_I} {x m : Nat} {Q : Option Value → mm_I → mm_R → Prop}
theorem a_part (h : ALL I r x m) (cc t k : Int32) : pr 72 145 [some (.ref x), some (.int cc), some (.int t), some (.int k)] [some (.ref m), some (.int cc), some (.int t), some (.int k), none, none, none, none, none, none] I r x m := by
  obtain ⟨hS, ⟨sg, L, bn, B, n, ng, Lr, Br, hg⟩, hG2, hG3, hG4⟩ := id h
  obtain ⟨hm, hx, ⟨l1, l2, l3, l4⟩, hip, hpt, htp, hsh, hml⟩ := id hS
  obtain ⟨x0, x1, x2, x3, x4, x5, x6, x7, x8⟩ := id hx
  obtain ⟨⟨hps, hL, hpv⟩, ⟨hR, hB⟩, ⟨⟨⟨hG, hRR, hdr, hnt⟩, hbk⟩, ⟨⟨hG', hRR', hdr', hnt'⟩, hbk'⟩, hsm, hsB⟩⟩ := id hg
  have hLL : dl L = L := by rw [← hL]; exact dl_dl _
  have hLr : dl Lr = Lr := by rw [← hR]; exact dl_dl _
  have hs6 := s_6 hsm hLL hLr
  have vL : ∀ q i, q < 7 → vc I (x + 1) q i = L q i := fun q i hq => by rw [← hL, dl_at hq]
  have vR : ∀ q i, q < 7 → vr I (m + 5) m q i = Lr q i := fun q i hq => by rw [← hR, dl_at hq]
  have vRh : ∀ {k : Nat}, k < n → ∀ q, 1 ≤ q ∧ q ≤ 3 → vr I (m + 5) m q k = L q k := fun hk q hq => (vR q _ (by omega)).trans (hsm q _ (wc_h hq hk)).symm
  have vRg : ∀ {k : Nat}, k < ng → ∀ q, 4 ≤ q ∧ q ≤ 6 → vr I (m + 5) m q k = L q k := fun hk q hq => (vR q _ (by omega)).trans (hsm q _ (wc_g hq hk)).symm
  obtain ⟨⟨hn, e0⟩, ⟨hng, e1⟩, hpl⟩ := id hG
  have f0 : vc I (x + 1) 0 0 = nI n := by rw [vL 0 0 (by decide)]; exact e0
  have f1 : vc I (x + 1) 0 1 = nI ng := by rw [vL 0 1 (by decide)]; exact e1
  have g0 : vr I (m + 5) m 0 0 = nI n := by rw [vR 0 0 (by decide)]; exact hG'.1.2
  have g1 : vr I (m + 5) m 0 1 = nI ng := by rw [vR 0 1 (by decide)]; exact hG'.2.1.2
  unfold pr
  cases hk1 : wth cc 0 12 with
  | false =>
    simp only [e72_0, e72_1, e72_2, e72_4, e72_7, e72_10, e72_11, e72_12, e72_14, e72_17, e72_20, e72_21, e72_23, e72_26, e72_27, e145_0, e145_1, e145_2, e145_4, e145_7, e145_10, e145_11, e145_12, e145_14, e145_17, e145_20, e145_21, e145_23, e145_26, e145_27, mm_pu_n, mm_pu_s, va_rf_s, mm_w8_0, mm_w8_1, mm_w8_2, mm_w8_3, mm_w8_4, mm_c1_n, mm_c1_i, mm_c1_a, mm_ct_a, mm_ct_i, true_and, and_true, and_self, eq_self, if_true, if_false, ite_true, ite_false, bI_t, bI_z, bI_nz, bI_01, true_or, or_true, reduceCtorEq, false_or, or_false, decide_eq_false_iff_not, decide_eq_true_eq, ite_not, t_within, u_inw, hk1, Bool.false_eq_true]
    exact fi_i _ h rfl rfl
  | true =>
    cases hk2 : wth t 1 30 with
    | false =>
      simp only [e72_0, e72_1, e72_2, e72_4, e72_7, e72_10, e72_11, e72_12, e72_14, e72_17, e72_20, e72_21, e72_23, e72_26, e72_27, e145_0, e145_1, e145_2, e145_4, e145_7, e145_10, e145_11, e145_12, e145_14, e145_17, e145_20, e145_21, e145_23, e145_26, e145_27, mm_pu_n, mm_pu_s, va_rf_s, mm_w8_0, mm_w8_1, mm_w8_2, mm_w8_3, mm_w8_4, mm_c1_n, mm_c1_i, mm_c1_a, mm_ct_a, mm_ct_i, true_and, and_true, and_self, eq_self, if_true, if_false, ite_true, ite_false, bI_t, bI_z, bI_nz, bI_01, true_or, or_true, reduceCtorEq, false_or, or_false, decide_eq_false_iff_not, decide_eq_true_eq, ite_not, t_within, u_inw, hk1, hk2, Bool.true_eq_false]
      exact fi_i _ h rfl rfl
    | true =>
      obtain ⟨c, -, hc12, rfl⟩ := wth_of hk1 (a := 0) (b := 12) (by decide) (by decide) (by decide) (by decide)
      obtain ⟨t', ht0, ht, rfl⟩ := wth_of hk2 (a := 1) (b := 30) (by decide) (by decide) (by decide) (by decide)
      by_cases hk3 : k < -2
      · have hk3' : ¬ ((-2 : Int32) ≤ k) := Int32.not_le.mpr hk3
        simp only [e72_0, e72_1, e72_2, e72_4, e72_7, e72_10, e72_11, e72_12, e72_14, e72_17, e72_20, e72_21, e72_23, e72_26, e72_27, e145_0, e145_1, e145_2, e145_4, e145_7, e145_10, e145_11, e145_12, e145_14, e145_17, e145_20, e145_21, e145_23, e145_26, e145_27, mm_pu_n, mm_pu_s, va_rf_s, mm_w8_0, mm_w8_1, mm_w8_2, mm_w8_3, mm_w8_4, mm_c1_n, mm_c1_i, mm_c1_a, mm_ct_a, mm_ct_i, true_and, and_true, and_self, eq_self, if_true, if_false, ite_true, ite_false, bI_t, bI_z, bI_nz, bI_01, true_or, or_true, reduceCtorEq, false_or, or_false, decide_eq_false_iff_not, decide_eq_true_eq, ite_not, t_within, u_inw, hk1, hk2, Bool.true_eq_false, hk3']
        exact fi_i _ h rfl rfl
      · have hk3' : (-2 : Int32) ≤ k := Int32.not_lt.mp hk3
        have hgL : gl L n ng := ⟨hG, hRR, hdr, hnt⟩
        have hgR : gl Lr n ng := ⟨hG', hRR', hdr', hnt'⟩
        simp only [e72_0, e72_1, e72_2, e72_4, e72_7, e72_10, e72_11, e72_12, e72_14, e72_17, e72_20, e72_21, e72_23, e72_26, e72_27, e72_28, e72_29, e72_30, e72_33, e72_36, mm_pu_n, mm_pu_s, va_rf_s, mm_w8_0, mm_w8_1, mm_w8_2, mm_w8_3, mm_w8_4, mm_c1_n, mm_c1_i, mm_c1_a, mm_ct_a, mm_ct_i, true_and, and_true, and_self, eq_self, if_true, if_false, ite_true, ite_false, bI_t, bI_z, bI_nz, bI_01, true_or, or_true, reduceCtorEq, false_or, or_false, decide_eq_false_iff_not, decide_eq_true_eq, ite_not, x0, x1, x2, x3, x4, x5, x6, x7, x8, l1.s0, l1.p6, l1.p7, l1.p8, l1.p9, l1.p10, l1.p11, l1.p12, l1.p13, l1.i1, l1.i2, l1.i3, l1.i4, l1.i5, l1.i6, l1.i7, l1.i8, t_within, hk1, hk2, Bool.true_eq_false, hk3', rd_0 (a := x + 1) (i := 0) (by decide), f0]
        -- the reference from its tests on
        have ref : ∀ (J : mm_I) (Q : Option Value → mm_I → mm_R → Prop), J (m + 5) = I (m + 5) → (∀ K, fq m J K → (0 < n → pm_S K (m + 12) n (fnd Lr n ng t' c)) → Q (some (.int (if k < 0 then (if n = 0 then -4 else if k = -1 then mo (fnd Lr n ng t' c) else le (fnd Lr n ng t' c)) else if okh k n = true then K (m + 12) k.toNatClampNeg else -4))) K r) → mm_E 145 0 [some (.ref m), some (.int (nI c)), some (.int (nI t')), some (.int k), none, none, none, none, none, none] [] J r Q := by
          intro J Q hJ hq
          have hM : MX J m Lr := MX.k (I := I) vR hJ
          have tail : ∀ K st l4 l7 l8 l9, fq m J K → (0 < n → pm_S K (m + 12) n (fnd Lr n ng t' c)) → (n = 0 → st = none) → (0 < n → st = fnd Lr n ng t' c) → mm_E 145 207 [some (.ref m), some (.int (nI c)), some (.int (nI t')), some (.int k), l4, some (.int (mo st)), some (.int (le st)), l7, l8, l9] [] K r Q := by
            intro K st l4 l7 l8 l9 w1 w2 w3 w4
            have gK : vr K (m + 5) m 0 0 = nI n := by rw [vr_q (I := I) (by decide) (fun j _ => by rw [w1 _ (by omega) (by omega) (by omega) (by omega) (by omega), hJ])]; exact g0
            have res := hq K w1 w2
            by_cases kn : k < 0
            · have kn' : ¬ ((0 : Int32) ≤ k) := Int32.not_le.mpr kn
              rw [if_pos kn] at res
              rcases k_neg hk3 kn with rfl | rfl
              · simp only [e145_207, e145_208, e145_211, e145_212, e145_213, e145_216, e145_218, e145_221, e145_223, mm_pu_n, mm_pu_s, va_rf_s, mm_w8_0, mm_w8_1, mm_w8_2, mm_w8_3, mm_w8_4, mm_c1_n, mm_c1_i, mm_c1_a, mm_ct_a, mm_ct_i, true_and, and_true, and_self, eq_self, if_true, if_false, ite_true, ite_false, bI_t, bI_z, bI_nz, bI_01, true_or, or_true, reduceCtorEq, false_or, or_false, decide_eq_false_iff_not, decide_eq_true_eq, ite_not, kn']
                by_cases z : n = 0
                · rw [if_pos z] at res; rw [w3 z]; exact res
                · rw [if_neg z, if_pos rfl] at res; rw [w4 (by omega)]; exact res
              · simp only [e145_207, e145_208, e145_211, e145_212, e145_213, e145_216, e145_218, e145_221, e145_223, mm_pu_n, mm_pu_s, va_rf_s, mm_w8_0, mm_w8_1, mm_w8_2, mm_w8_3, mm_w8_4, mm_c1_n, mm_c1_i, mm_c1_a, mm_ct_a, mm_ct_i, true_and, and_true, and_self, eq_self, if_true, if_false, ite_true, ite_false, bI_t, bI_z, bI_nz, bI_01, true_or, or_true, reduceCtorEq, false_or, or_false, decide_eq_false_iff_not, decide_eq_true_eq, ite_not, kn', show ((-2 : Int32) = -1) = False from eq_false (by decide)]
                by_cases z : n = 0
                · rw [if_pos z] at res; rw [w3 z]; exact res
                · rw [if_neg z, if_neg (by decide)] at res; rw [w4 (by omega)]; exact res
            · have kn' : (0 : Int32) ≤ k := Int32.not_lt.mp kn
              rw [if_neg kn] at res
              cases hk4 : okh k n with
              | false =>
                rw [hk4, if_neg (by decide)] at res
                simp only [e145_207, e145_208, e145_224, e145_225, e145_226, e145_229, e145_232, e145_233, e145_236, e145_237, e145_238, e145_241, e145_243, mm_pu_n, mm_pu_s, va_rf_s, mm_w8_0, mm_w8_1, mm_w8_2, mm_w8_3, mm_w8_4, mm_c1_n, mm_c1_i, mm_c1_a, mm_ct_a, mm_ct_i, true_and, and_true, and_self, eq_self, if_true, if_false, ite_true, ite_false, bI_t, bI_z, bI_nz, bI_01, true_or, or_true, reduceCtorEq, false_or, or_false, decide_eq_false_iff_not, decide_eq_true_eq, ite_not, hml.s0, hml.p7, hml.i5, kn', u_isHouse hml hn gK, hk4, Bool.false_eq_true]
                exact res
              | true =>
                rw [hk4, if_pos rfl] at res
                obtain ⟨i, hi, rfl⟩ := okh_of hk4 hn
                rw [cl_nI (by omega)] at res
                simp only [e145_207, e145_208, e145_224, e145_225, e145_226, e145_229, e145_232, e145_233, e145_236, e145_237, e145_238, e145_241, e145_243, mm_pu_n, mm_pu_s, va_rf_s, mm_w8_0, mm_w8_1, mm_w8_2, mm_w8_3, mm_w8_4, mm_c1_n, mm_c1_i, mm_c1_a, mm_ct_a, mm_ct_i, true_and, and_true, and_self, eq_self, if_true, if_false, ite_true, ite_false, bI_t, bI_z, bI_nz, bI_01, true_or, or_true, reduceCtorEq, false_or, or_false, decide_eq_false_iff_not, decide_eq_true_eq, ite_not, hml.s0, hml.p7, hml.i5, kn', u_isHouse hml hn gK, hk4, Bool.true_eq_false, hml.p15, hml.i12, in6 (show i < 6 by omega), cl_nI (show i < 6 by omega)]
                exact res
          simp only [e145_0, e145_1, e145_2, e145_4, e145_7, e145_10, e145_11, e145_12, e145_14, e145_17, e145_20, e145_21, e145_23, mm_pu_n, mm_pu_s, va_rf_s, mm_w8_0, mm_w8_1, mm_w8_2, mm_w8_3, mm_w8_4, mm_c1_n, mm_c1_i, mm_c1_a, mm_ct_a, mm_ct_i, true_and, and_true, and_self, eq_self, if_true, if_false, ite_true, ite_false, bI_t, bI_z, bI_nz, bI_01, true_or, or_true, reduceCtorEq, false_or, or_false, decide_eq_false_iff_not, decide_eq_true_eq, ite_not, u_inw, hk1, hk2, Bool.true_eq_false, hk3']
          by_cases z : n = 0
          · have gJ : vr J (m + 5) m 0 0 = nI n := by rw [vr_q (I := I) (by decide) (fun j _ => by rw [hJ])]; exact g0
            simp only [e145_28, e145_29, e145_31, e145_32, e145_34, e145_36, e145_37, e145_40, e145_42, e145_43, e145_60, e145_62, e145_64, e145_66, e145_68, e145_69, e145_71, e145_73, e145_75, e145_78, e145_79, e145_82, e145_84, e145_85, mm_pu_n, mm_pu_s, va_rf_s, mm_w8_0, mm_w8_1, mm_w8_2, mm_w8_3, mm_w8_4, mm_c1_n, mm_c1_i, mm_c1_a, mm_ct_a, mm_ct_i, true_and, and_true, and_self, eq_self, if_true, if_false, ite_true, ite_false, bI_t, bI_z, bI_nz, bI_01, true_or, or_true, reduceCtorEq, false_or, or_false, decide_eq_false_iff_not, decide_eq_true_eq, ite_not, hml.s0, hml.p7, hml.i5, c27.1, d27.1, r27 m, gJ, z, show (nI 0 ≤ (1 : Int32)) = True from eq_true (by decide), show ((1 : Int32) ≤ 0) = False from eq_false (by decide), show (nI 0 ≤ (0 : Int32)) = True from eq_true (by decide)]
            exact tail J none _ _ _ _ (fun _ _ _ _ _ _ => rfl) (fun y => absurd y (by omega)) (fun _ => rfl) (fun y => absurd y (by omega))
          · exact m_partN hml hM hLr hgR (by omega) ht hc12 (fun K l7 l8 l9 w1 w2 => tail K _ _ _ _ _ w1 (fun _ => w2) (fun y => absurd y z) (fun _ => rfl))
        by_cases z : n = 0
        · -- no houses
          have all : ∀ J, J = I → mm_E 145 0 [some (.ref m), some (.int (nI c)), some (.int (nI t')), some (.int k), none, none, none, none, none, none] [] J r (fun v2 I2 r2 => fi r x m (some (.int (-4))) v2 I2 r2) := by
            intro J hJ
            subst hJ
            refine ref J _ rfl (fun K w1 w2 => ?_)
            have e : (if k < 0 then (if n = 0 then (-4 : Int32) else if k = -1 then mo (fnd Lr n ng t' c) else le (fnd Lr n ng t' c)) else if okh k n = true then K (m + 12) k.toNatClampNeg else -4) = -4 := by
              by_cases kn : k < 0
              · rw [if_pos kn, if_pos z]
              · rw [if_neg kn]
                cases hk4 : okh k n with
                | false => rfl
                | true => obtain ⟨i, hi, -⟩ := okh_of hk4 hn; omega
            rw [e]
            exact fi_i _ (ALL_scr h (fun q hq => by unfold scr at hq; exact w1 q (by omega) (by omega) (by omega) (by omega) (by omega))) rfl rfl
          by_cases kn : nI n ≤ k
          · rw [if_pos kn]
            simp only [e72_49, e72_51, mm_pu_n, mm_pu_s, va_rf_s, mm_w8_0, mm_w8_1, mm_w8_2, mm_w8_3, mm_w8_4, mm_c1_n, mm_c1_i, mm_c1_a, mm_ct_a, mm_ct_i, true_and, and_true, and_self, eq_self, if_true, if_false, ite_true, ite_false, bI_t, bI_z, bI_nz, bI_01, true_or, or_true, reduceCtorEq, false_or, or_false, decide_eq_false_iff_not, decide_eq_true_eq, ite_not]
            exact all I rfl
          · rw [if_neg kn]
            simp only [e72_39, e72_40, e72_43, e72_46, e72_49, e72_51, mm_pu_n, mm_pu_s, va_rf_s, mm_w8_0, mm_w8_1, mm_w8_2, mm_w8_3, mm_w8_4, mm_c1_n, mm_c1_i, mm_c1_a, mm_ct_a, mm_ct_i, true_and, and_true, and_self, eq_self, if_true, if_false, ite_true, ite_false, bI_t, bI_z, bI_nz, bI_01, true_or, or_true, reduceCtorEq, false_or, or_false, decide_eq_false_iff_not, decide_eq_true_eq, ite_not, x0, x1, x2, x3, x4, x5, x6, x7, x8, l1.s0, l1.p6, l1.p7, l1.p8, l1.p9, l1.p10, l1.p11, l1.p12, l1.p13, l1.i1, l1.i2, l1.i3, l1.i4, l1.i5, l1.i6, l1.i7, l1.i8, rd_0 (a := x + 1) (i := 0) (by decide), f0, z, show (nI 0 = (0 : Int32)) = True from eq_true (by decide)]
            exact all I rfl
        · have hn0 : 0 < n := by omega
          obtain ⟨q, eq⟩ := fnd_s L n ng t' c
          have eqr : fnd Lr n ng t' c = some q := by
            rw [← eq]; unfold fnd; rw [pU_c hs6 hG]
          by_cases kn : nI n ≤ k
          · rw [if_pos kn]
            simp only [e72_49, e72_51, mm_pu_n, mm_pu_s, va_rf_s, mm_w8_0, mm_w8_1, mm_w8_2, mm_w8_3, mm_w8_4, mm_c1_n, mm_c1_i, mm_c1_a, mm_ct_a, mm_ct_i, true_and, and_true, and_self, eq_self, if_true, if_false, ite_true, ite_false, bI_t, bI_z, bI_nz, bI_01, true_or, or_true, reduceCtorEq, false_or, or_false, decide_eq_false_iff_not, decide_eq_true_eq, ite_not]
            refine ref I _ rfl (fun K w1 w2 => ?_)
            have hk0 : ¬ k < 0 := fun y => Int32.not_lt.mpr (Int32.le_trans (nI_pos' (show n < 2 ^ 31 by omega)) kn) y
            have e : (if k < 0 then (if n = 0 then (-4 : Int32) else if k = -1 then mo (fnd Lr n ng t' c) else le (fnd Lr n ng t' c)) else if okh k n = true then K (m + 12) k.toNatClampNeg else -4) = -4 := by
              rw [if_neg hk0]
              cases hk4 : okh k n with
              | false => rfl
              | true => exact absurd (of_decide_eq_true hk4).2 (Int32.not_lt.mpr kn)
            rw [e]
            exact fi_i _ (ALL_scr h (fun q hq => by unfold scr at hq; exact w1 q (by omega) (by omega) (by omega) (by omega) (by omega))) rfl rfl
          · rw [if_neg kn]
            obtain ⟨p0, p2, p3, p4, p5⟩ := id hpt
            have hi4 : ∀ y, mm_ix r (x + 94) 2 y = vp_in y 6 := fun y => mm_ixs p4
            simp only [e72_39, e72_40, e72_43, e72_46, mm_pu_n, mm_pu_s, va_rf_s, mm_w8_0, mm_w8_1, mm_w8_2, mm_w8_3, mm_w8_4, mm_c1_n, mm_c1_i, mm_c1_a, mm_ct_a, mm_ct_i, true_and, and_true, and_self, eq_self, if_true, if_false, ite_true, ite_false, bI_t, bI_z, bI_nz, bI_01, true_or, or_true, reduceCtorEq, false_or, or_false, decide_eq_false_iff_not, decide_eq_true_eq, ite_not, x0, x1, x2, x3, x4, x5, x6, x7, x8, l1.s0, l1.p6, l1.p7, l1.p8, l1.p9, l1.p10, l1.p11, l1.p12, l1.p13, l1.i1, l1.i2, l1.i3, l1.i4, l1.i5, l1.i6, l1.i7, l1.i8, rd_0 (a := x + 1) (i := 0) (by decide), f0, nI_ne0 hn0 (show n < 2 ^ 31 by omega)]
            simp only [e72_52, e72_53, e72_56, e72_57, e72_60, e72_61, e72_64, e72_65, e72_66, mm_pu_n, mm_pu_s, va_rf_s, mm_w8_0, mm_w8_1, mm_w8_2, mm_w8_3, mm_w8_4, mm_c1_n, mm_c1_i, mm_c1_a, mm_ct_a, mm_ct_i, true_and, and_true, and_self, eq_self, if_true, if_false, ite_true, ite_false, bI_t, bI_z, bI_nz, bI_01, true_or, or_true, reduceCtorEq, false_or, or_false, decide_eq_false_iff_not, decide_eq_true_eq, ite_not, x0, x1, x2, x3, x4, x5, x6, x7, x8, l1.s0, l1.p6, l1.p7, l1.p8, l1.p9, l1.p10, l1.p11, l1.p12, l1.p13, l1.i1, l1.i2, l1.i3, l1.i4, l1.i5, l1.i6, l1.i7, l1.i8, p0]
            refine t_find hS vL hLL hG hn0 ht0 ht hc12 (fun J w1 w2 => ?_)
            rw [eq] at w2
            have hJ5 : J (m + 5) = I (m + 5) := w1 _ (by omega) (by omega)
            have key : ∀ v : Int32, (∀ K, fq m J K → (0 < n → pm_S K (m + 12) n (fnd Lr n ng t' c)) → v = (if k < 0 then (if n = 0 then (-4 : Int32) else if k = -1 then mo (fnd Lr n ng t' c) else le (fnd Lr n ng t' c)) else if okh k n = true then K (m + 12) k.toNatClampNeg else -4)) → mm_E 145 0 [some (.ref m), some (.int (nI c)), some (.int (nI t')), some (.int k), none, none, none, none, none, none] [] J r (fun v2 I2 r2 => fi r x m (some (.int v)) v2 I2 r2) := by
              intro v hv
              refine ref J _ hJ5 (fun K y1 y2 => ?_)
              rw [← hv K y1 y2]
              exact fi_i _ (ALL_scr h (fun q hq => by unfold scr at hq; rw [y1 q (by omega) (by omega) (by omega) (by omega) (by omega)]; exact w1 q (by omega) (by omega))) rfl rfl
            by_cases k0 : k < 0
            · rcases k_neg hk3 k0 with rfl | rfl
              · simp only [mm_pu_n, e72_69, e72_70, e72_71, e72_74, e72_75, e72_78, e72_81, mm_pu_n, mm_pu_s, va_rf_s, mm_w8_0, mm_w8_1, mm_w8_2, mm_w8_3, mm_w8_4, mm_c1_n, mm_c1_i, mm_c1_a, mm_ct_a, mm_ct_i, true_and, and_true, and_self, eq_self, if_true, if_false, ite_true, ite_false, bI_t, bI_z, bI_nz, bI_01, true_or, or_true, reduceCtorEq, false_or, or_false, decide_eq_false_iff_not, decide_eq_true_eq, ite_not, x0, x1, x2, x3, x4, x5, x6, x7, x8, l1.s0, l1.p6, l1.p7, l1.p8, l1.p9, l1.p10, l1.p11, l1.p12, l1.p13, l1.i1, l1.i2, l1.i3, l1.i4, l1.i5, l1.i6, l1.i7, l1.i8, p0, w2.1.1]
                refine key _ (fun K _ _ => ?_)
                rw [if_pos (by decide), if_neg z, if_pos rfl, eqr]; rfl
              · simp only [mm_pu_n, e72_69, e72_70, e72_71, e72_74, e72_75, e72_78, e72_81, e72_82, e72_83, e72_85, e72_88, e72_89, e72_92, e72_95, e72_98, e72_99, e72_102, e72_105, e72_106, e72_107, mm_pu_n, mm_pu_s, va_rf_s, mm_w8_0, mm_w8_1, mm_w8_2, mm_w8_3, mm_w8_4, mm_c1_n, mm_c1_i, mm_c1_a, mm_ct_a, mm_ct_i, true_and, and_true, and_self, eq_self, if_true, if_false, ite_true, ite_false, bI_t, bI_z, bI_nz, bI_01, true_or, or_true, reduceCtorEq, false_or, or_false, decide_eq_false_iff_not, decide_eq_true_eq, ite_not, x0, x1, x2, x3, x4, x5, x6, x7, x8, l1.s0, l1.p6, l1.p7, l1.p8, l1.p9, l1.p10, l1.p11, l1.p12, l1.p13, l1.i1, l1.i2, l1.i3, l1.i4, l1.i5, l1.i6, l1.i7, l1.i8, p0, w2.1.2, show ((-2 : Int32) = -1) = False from eq_false (by decide)]
                refine key _ (fun K _ _ => ?_)
                rw [if_pos (by decide), if_neg z, if_neg (by decide), eqr]; rfl
            · have hk4 : okh k n = true := decide_eq_true ⟨Int32.not_lt.mp k0, Int32.not_le.mp kn⟩
              obtain ⟨i, hi, rfl⟩ := okh_of hk4 hn
              have n1 : (nI i = (-1 : Int32)) = False := eq_false (fun y => by rw [y] at k0; exact k0 (by decide))
              have n2 : (nI i = (-2 : Int32)) = False := eq_false (fun y => by rw [y] at k0; exact k0 (by decide))
              have eb : mm_rd J (x + 94) i = nI (q.2.2 i) := w2.2.2 i hi
              simp only [mm_pu_n, e72_69, e72_70, e72_71, e72_74, e72_75, e72_78, e72_81, e72_82, e72_83, e72_85, e72_88, e72_89, e72_92, e72_95, e72_98, e72_99, e72_102, e72_105, e72_106, e72_107, mm_pu_n, mm_pu_s, va_rf_s, mm_w8_0, mm_w8_1, mm_w8_2, mm_w8_3, mm_w8_4, mm_c1_n, mm_c1_i, mm_c1_a, mm_ct_a, mm_ct_i, true_and, and_true, and_self, eq_self, if_true, if_false, ite_true, ite_false, bI_t, bI_z, bI_nz, bI_01, true_or, or_true, reduceCtorEq, false_or, or_false, decide_eq_false_iff_not, decide_eq_true_eq, ite_not, x0, x1, x2, x3, x4, x5, x6, x7, x8, l1.s0, l1.p6, l1.p7, l1.p8, l1.p9, l1.p10, l1.p11, l1.p12, l1.p13, l1.i1, l1.i2, l1.i3, l1.i4, l1.i5, l1.i6, l1.i7, l1.i8, p0, p2, n1, n2, hi4, in6 (show i < 6 by omega), cl_nI (show i < 6 by omega), eb]
              refine key _ (fun K _ y2 => ?_)
              have y3 := y2 hn0
              rw [eqr] at y3
              rw [if_neg k0, if_pos hk4, cl_nI (by omega)]
              exact (y3.2 i hi).symm
end
