def okh (x : Int32) (n : Nat) : Bool := decide (0 ≤ x ∧ x < nI n)
theorem le_pred {x : Int32} {n : Nat} (hn : n ≤ 6) : (x ≤ nI n - 1) = (x < nI n) := by
  have h1 : ∀ n, n < 7 → (nI n - 1).toInt = (n : Int) - 1 := by decide
  have h2 := h1 n (by omega)
  have h3 : (nI n).toInt = (n : Int) := nI_toInt (by omega)
  rw [Int32.le_iff_toInt_le, Int32.lt_iff_toInt_lt, h2, h3]
  exact propext ⟨fun h => by omega, fun h => by omega⟩
theorem okh_of {x : Int32} {n : Nat} (h : okh x n = true) (hn : n ≤ 6) : ∃ k, k < n ∧ x = nI k := by
  obtain ⟨h1, h2⟩ := of_decide_eq_true h
  obtain ⟨k, hk, e⟩ := nI_of (Int32.not_lt.mpr h1)
  subst e
  exact ⟨k, (nI_ltI (by omega) (by omega)).mp h2, rfl⟩
theorem okh_nI {k n : Nat} (h : k < n) (hn : n ≤ 6) : okh (nI k) n = true := decide_eq_true ⟨nI_pos' (by omega), nI_lt h (by omega)⟩
def wth (x lo hi : Int32) : Bool := decide (lo ≤ x ∧ x ≤ hi)
theorem wth_of {x lo hi : Int32} {a b : Nat} (h : wth x lo hi = true) (ha : lo = nI a) (hb : hi = nI b) (h2 : a < 2 ^ 31) (h3 : b < 2 ^ 31) : ∃ k, a ≤ k ∧ k ≤ b ∧ x = nI k := by
  obtain ⟨h4, h5⟩ := of_decide_eq_true h
  subst ha; subst hb
  have h0 : ¬ x < 0 := Int32.not_lt.mpr (Int32.le_trans (nI_pos' h2) h4)
  obtain ⟨k, hk, e⟩ := nI_of h0
  subst e
  exact ⟨k, (nI_leI h2 hk).mp h4, (nI_leI hk h3).mp h5, rfl⟩
theorem wth_pred {y : Int32} {n : Nat} (hn : n ≤ 6) : wth y 0 (nI n - 1) = okh y n := by unfold wth okh; simp only [le_pred hn]
section
variable {r : mm_R} {I : mm_I} {x m : Nat} {Q : Option Value → mm_I → mm_R → Prop}
theorem t_within (y lo hi : Int32) : mm_E 85 0 [some (.int y), some (.int lo), some (.int hi)] [] I r Q ↔ Q (some (.int (bI (wth y lo hi)))) I r := by
  simp only [e85_0, e85_1, e85_2, e85_5, e85_6, e85_7, e85_10, e85_11, e85_14, e85_15, mm_pu_n, mm_pu_s, va_rf_s, mm_w8_0, mm_w8_1, mm_w8_2, mm_w8_3, mm_w8_4, mm_c1_n, mm_c1_i, mm_c1_a, mm_ct_a, mm_ct_i, true_and, and_true, and_self, eq_self, if_true, if_false, ite_true, ite_false, bI_t, bI_z, bI_nz, bI_01, true_or, or_true, reduceCtorEq, false_or, or_false, decide_eq_false_iff_not, decide_eq_true_eq, ite_not]
  unfold wth
  by_cases h1 : y < lo
  · rw [if_pos h1, bI_0 _ _ (fun q => Int32.not_lt.mpr q.1 h1)]
  · rw [if_neg h1]
    by_cases h2 : hi < y
    · rw [if_pos h2, bI_0 _ _ (fun q => Int32.not_lt.mpr q.2 h2)]
    · rw [if_neg h2, bI_1 _ _ ⟨Int32.not_lt.mp h1, Int32.not_lt.mp h2⟩]
theorem t_hasH {a n : Nat} (h : ln_S r a) (h0 : vc I a 0 0 = nI n) (y : Int32) : mm_E 3 0 [some (.ref a), some (.int y)] [] I r Q ↔ Q (some (.int (bI (okh y n)))) I r := by
  rw [t_hasHouse h, h0]; rfl
theorem t_hasG {a n : Nat} (h : ln_S r a) (h0 : vc I a 0 1 = nI n) (y : Int32) : mm_E 4 0 [some (.ref a), some (.int y)] [] I r Q ↔ Q (some (.int (bI (okh y n)))) I r := by
  rw [t_hasHog h, h0]; rfl
theorem u_inw (y lo hi : Int32) : mm_E 93 0 [some (.int y), some (.int lo), some (.int hi)] [] I r Q ↔ Q (some (.int (bI (wth y lo hi)))) I r := u_in y lo hi
theorem u_isHouse (hml : ml_S r m) {n : Nat} (hn : n ≤ 6) (h0 : vr I (m + 5) m 0 0 = nI n) (y : Int32) : mm_E 97 0 [some (.ref m), some (.int y)] [] I r Q ↔ Q (some (.int (bI (okh y n)))) I r := by
  simp only [e97_0, e97_1, e97_2, e97_3, e97_6, e97_8, e97_9, e97_10, e97_11, e97_14, mm_pu_n, mm_pu_s, va_rf_s, mm_w8_0, mm_w8_1, mm_w8_2, mm_w8_3, mm_w8_4, mm_c1_n, mm_c1_i, mm_c1_a, mm_ct_a, mm_ct_i, true_and, and_true, and_self, eq_self, if_true, if_false, ite_true, ite_false, bI_t, bI_z, bI_nz, bI_01, true_or, or_true, reduceCtorEq, false_or, or_false, decide_eq_false_iff_not, decide_eq_true_eq, ite_not, hml.s0, hml.p7, hml.i5, c27.1, d27.1, r27 m, h0, u_inw, wth_pred hn]
theorem u_isHog (hml : ml_S r m) {n : Nat} (hn : n ≤ 6) (h0 : vr I (m + 5) m 0 1 = nI n) (y : Int32) : mm_E 98 0 [some (.ref m), some (.int y)] [] I r Q ↔ Q (some (.int (bI (okh y n)))) I r := by
  simp only [e98_0, e98_1, e98_2, e98_3, e98_6, e98_8, e98_9, e98_10, e98_11, e98_14, mm_pu_n, mm_pu_s, va_rf_s, mm_w8_0, mm_w8_1, mm_w8_2, mm_w8_3, mm_w8_4, mm_c1_n, mm_c1_i, mm_c1_a, mm_ct_a, mm_ct_i, true_and, and_true, and_self, eq_self, if_true, if_false, ite_true, ite_false, bI_t, bI_z, bI_nz, bI_01, true_or, or_true, reduceCtorEq, false_or, or_false, decide_eq_false_iff_not, decide_eq_true_eq, ite_not, hml.s0, hml.p7, hml.i5, c27.2.1, d27.2.1, r28 m, h0, u_inw, wth_pred hn]
def v_of (L : mm_I) (n ng : Nat) (p q : Int32) : Int32 := if okh p n = true then (if q = 0 then L 1 p.toNatClampNeg else if q = 1 then L 2 p.toNatClampNeg else if q = 2 then L 3 p.toNatClampNeg else if q = 3 then (if 3 ≤ L 3 p.toNatClampNeg then 1 else 0) else if q = 4 then p_gs L p ng else -1) else -1
def v_at (L : mm_I) (ng : Nat) (p q : Int32) : Int32 := if okh p ng = true then (if q = 0 then L 4 p.toNatClampNeg else if q = 1 then L 5 p.toNatClampNeg else if q = 2 then L 6 p.toNatClampNeg else if q = 3 then p_ap L p.toNatClampNeg else -1) else -1
theorem ag_ls {M N : mm_I} (h : ∀ i, M 3 i = N 3 i) : ∀ k, p_ls M k = p_ls N k := by
  intro k
  induction k with
  | zero => rfl
  | succ k ih => unfold p_ls; rw [ih, h k]
theorem ag_ow {M N : mm_I} (h : ∀ i, M 1 i = N 1 i) : ∀ k, p_ow M k = p_ow N k := by
  intro k
  induction k with
  | zero => rfl
  | succ k ih => unfold p_ow; rw [ih, h k]
theorem ag_0 {M N : mm_I} (h : ∀ q i, q < 7 → M q i = N q i) : ag (w7 0 False) M N := fun q i hq => by
  rcases hq with hq | hq | hq
  · exact h q i hq
  · omega
  · exact absurd hq.2.1 id
theorem c_of {a n ng : Nat} {L : mm_I} (x0 : mm_S r x = (1, 5)) (x1 : mm_P r x 0 = some a) (l1 : ln_S r a) (vL : ∀ q i, q < 7 → vc I a q i = L q i) (hn : n ≤ 6) (f0 : vc I a 0 0 = nI n) (hng : ng ≤ 5) (f1 : vc I a 0 1 = nI ng) (p q : Int32) : mm_E 53 0 [some (.ref x), some (.int p), some (.int q)] [] I r Q ↔ Q (some (.int (v_of L n ng p q))) I r := by
  unfold v_of
  cases hk : okh p n with
  | false =>
    simp only [e53_0, e53_1, e53_4, e53_5, e53_8, e53_11, e53_12, e53_13, e53_14, e53_48, e53_49, e53_52, e53_55, e53_56, e53_57, e53_58, e53_59, e53_62, e53_65, e53_66, e53_67, e53_68, e53_69, e53_72, e53_75, e53_76, e53_77, e53_78, e53_79, e53_82, e53_83, e53_86, e53_89, e53_90, e53_93, e53_94, e53_95, e53_96, e53_99, e53_100, e53_103, e53_104, e53_105, mm_pu_n, mm_pu_s, va_rf_s, mm_w8_0, mm_w8_1, mm_w8_2, mm_w8_3, mm_w8_4, mm_c1_n, mm_c1_i, mm_c1_a, mm_ct_a, mm_ct_i, true_and, and_true, and_self, eq_self, if_true, if_false, ite_true, ite_false, bI_t, bI_z, bI_nz, bI_01, true_or, or_true, reduceCtorEq, false_or, or_false, decide_eq_false_iff_not, decide_eq_true_eq, ite_not, x0, x1, l1.s0, t_hasH l1 f0, hk, Bool.false_eq_true]
  | true =>
    obtain ⟨k, hkn, rfl⟩ := okh_of hk hn
    have hk6 : k < 6 := by omega
    simp only [e53_0, e53_1, e53_4, e53_5, e53_8, e53_11, e53_12, e53_13, e53_14, e53_48, e53_49, e53_52, e53_55, e53_56, e53_57, e53_58, e53_59, e53_62, e53_65, e53_66, e53_67, e53_68, e53_69, e53_72, e53_75, e53_76, e53_77, e53_78, e53_79, e53_82, e53_83, e53_86, e53_89, e53_90, e53_93, e53_94, e53_95, e53_96, e53_99, e53_100, e53_103, e53_104, e53_105, mm_pu_n, mm_pu_s, va_rf_s, mm_w8_0, mm_w8_1, mm_w8_2, mm_w8_3, mm_w8_4, mm_c1_n, mm_c1_i, mm_c1_a, mm_ct_a, mm_ct_i, true_and, and_true, and_self, eq_self, if_true, if_false, ite_true, ite_false, bI_t, bI_z, bI_nz, bI_01, true_or, or_true, reduceCtorEq, false_or, or_false, decide_eq_false_iff_not, decide_eq_true_eq, ite_not, x0, x1, l1.s0, l1.p6, l1.p7, l1.p8, l1.p9, l1.p10, l1.p11, l1.p12, l1.p13, l1.i1, l1.i2, l1.i3, l1.i4, l1.i5, l1.i6, l1.i7, l1.i8, t_hasH l1 f0, hk, in6 hk6, cl_nI hk6, rd_k (a := a) (k := 1) ⟨by decide, hk6⟩, rd_k (a := a) (k := 2) ⟨by decide, hk6⟩, rd_k (a := a) (k := 3) ⟨by decide, hk6⟩, t_isLost l1 hk6, t_guests l1 _ hng f1, Bool.true_eq_false, vL _ _ (show 1 < 7 by decide), vL _ _ (show 2 < 7 by decide), vL _ _ (show 3 < 7 by decide), ag_gs (ag_0 vL)]
    split
    · rfl
    split
    · rfl
    split
    · rfl
    split
    · split <;> rfl
    split <;> rfl
theorem m_of {n ng : Nat} {L : mm_I} (hml : ml_S r m) (vR : ∀ q i, q < 7 → vr I (m + 5) m q i = L q i) (hRR : ln_R L n ng) (hn : n ≤ 6) (g0 : vr I (m + 5) m 0 0 = nI n) (hng : ng ≤ 5) (g1 : vr I (m + 5) m 0 1 = nI ng) (p q : Int32) : mm_E 106 0 [some (.ref m), some (.int p), some (.int q)] [] I r Q ↔ Q (some (.int (v_of L n ng p q))) I r := by
  unfold v_of
  cases hk : okh p n with
  | false =>
    simp only [e106_0, e106_1, e106_2, e106_5, e106_8, e106_9, e106_10, e106_11, e106_44, e106_45, e106_48, e106_49, e106_50, e106_51, e106_52, e106_53, e106_54, e106_57, e106_59, e106_60, e106_61, e106_62, e106_63, e106_64, e106_67, e106_69, e106_70, e106_71, e106_72, e106_73, e106_74, e106_77, e106_78, e106_81, e106_84, e106_85, e106_88, e106_89, e106_90, e106_91, e106_94, e106_95, e106_98, e106_99, e106_100, mm_pu_n, mm_pu_s, va_rf_s, mm_w8_0, mm_w8_1, mm_w8_2, mm_w8_3, mm_w8_4, mm_c1_n, mm_c1_i, mm_c1_a, mm_ct_a, mm_ct_i, true_and, and_true, and_self, eq_self, if_true, if_false, ite_true, ite_false, bI_t, bI_z, bI_nz, bI_01, true_or, or_true, reduceCtorEq, false_or, or_false, decide_eq_false_iff_not, decide_eq_true_eq, ite_not, hml.s0, hml.p7, hml.i5, u_isHouse hml hn g0, hk, Bool.false_eq_true]
  | true =>
    obtain ⟨k, hkn, rfl⟩ := okh_of hk hn
    have hk6 : k < 6 := by omega
    simp only [e106_0, e106_1, e106_2, e106_5, e106_8, e106_9, e106_10, e106_11, e106_44, e106_45, e106_48, e106_49, e106_50, e106_51, e106_52, e106_53, e106_54, e106_57, e106_59, e106_60, e106_61, e106_62, e106_63, e106_64, e106_67, e106_69, e106_70, e106_71, e106_72, e106_73, e106_74, e106_77, e106_78, e106_81, e106_84, e106_85, e106_88, e106_89, e106_90, e106_91, e106_94, e106_95, e106_98, e106_99, e106_100, mm_pu_n, mm_pu_s, va_rf_s, mm_w8_0, mm_w8_1, mm_w8_2, mm_w8_3, mm_w8_4, mm_c1_n, mm_c1_i, mm_c1_a, mm_ct_a, mm_ct_i, true_and, and_true, and_self, eq_self, if_true, if_false, ite_true, ite_false, bI_t, bI_z, bI_nz, bI_01, true_or, or_true, reduceCtorEq, false_or, or_false, decide_eq_false_iff_not, decide_eq_true_eq, ite_not, hml.s0, hml.p7, hml.i5, u_isHouse hml hn g0, hk, cl_nI hk6, k3, k9, k15, in2 (show 3 + k < 248 by omega), cl2 (show 3 + k < 248 by omega), in2 (show 9 + k < 248 by omega), cl2 (show 9 + k < 248 by omega), in2 (show 15 + k < 248 by omega), cl2 (show 15 + k < 248 by omega), r3 m hk6, r9 m hk6, r15 m hk6, u_isLost m hml.i5 hk6, u_hogsAt m hml.i5 _ hng g1, Bool.true_eq_false, vR _ _ (show 1 < 7 by decide), vR _ _ (show 2 < 7 by decide), vR _ _ (show 3 < 7 by decide), ag_gs (ag_0 vR), hRR.lk hkn]
    split
    · rfl
    split
    · rfl
    split
    · rfl
    split
    · split <;> rfl
    split <;> rfl
theorem s_of {L Lr : mm_I} {n ng : Nat} (h : ag (wc n ng) L Lr) (hn : n ≤ 6) (p q : Int32) : v_of L n ng p q = v_of Lr n ng p q := by
  unfold v_of
  by_cases c : okh p n = true
  · obtain ⟨k, hk, rfl⟩ := okh_of c hn
    rw [if_pos c, if_pos c, cl_nI (by omega), h 1 k (wc_h (by decide) hk), h 2 k (wc_h (by decide) hk), h 3 k (wc_h (by decide) hk), s_gs h _ ng (Nat.le_refl _)]
  · rw [if_neg c, if_neg c]
theorem s_at {L Lr : mm_I} {n ng : Nat} (h : ag (wc n ng) L Lr) (hng : ng ≤ 5) (p q : Int32) : v_at L ng p q = v_at Lr ng p q := by
  unfold v_at
  by_cases c : okh p ng = true
  · obtain ⟨k, hk, rfl⟩ := okh_of c (by omega)
    rw [if_pos c, if_pos c, cl_nI (by omega), h 4 k (wc_g (by decide) hk), h 5 k (wc_g (by decide) hk), h 6 k (wc_g (by decide) hk), s_ap h hk]
  · rw [if_neg c, if_neg c]
theorem a_of (h : ALL I r x m) (p q : Int32) : pr 53 106 [some (.ref x), some (.int p), some (.int q)] [some (.ref m), some (.int p), some (.int q)] I r x m := by
  obtain ⟨hS, ⟨sg, L, bn, B, n, ng, Lr, Br, hg⟩, hG2, hG3, hG4⟩ := id h
  obtain ⟨hm, hx, ⟨l1, l2, l3, l4⟩, hip, hpt, htp, hsh, hml⟩ := id hS
  obtain ⟨x0, x1, x2, x3, x4, x5, x6, x7, x8⟩ := id hx
  obtain ⟨⟨hps, hL, hpv⟩, ⟨hR, hB⟩, ⟨⟨⟨hG, hRR, hdr, hnt⟩, hbk⟩, ⟨⟨hG', hRR', hdr', hnt'⟩, hbk'⟩, hsm, hsB⟩⟩ := id hg
  have hLL : dl L = L := by rw [← hL]; exact dl_dl _
  have hLr : dl Lr = Lr := by rw [← hR]; exact dl_dl _
  have hs6 := s_6 hsm hLL hLr
  have vL : ∀ q i, q < 7 → vc I (x + 1) q i = L q i := fun q i hq => by rw [← hL, dl_at hq]
  have vR : ∀ q i, q < 7 → vr I (m + 5) m q i = Lr q i := fun q i hq => by rw [← hR, dl_at hq]
  have vRh : ∀ {k : Nat}, k < n → ∀ q, 1 ≤ q ∧ q ≤ 3 → vr I (m + 5) m q k = L q k := fun hk q hq => (vR q _ (by omega)).trans (hsm q _ (wc_h hq hk)).symm
  have vRg : ∀ {k : Nat}, k < ng → ∀ q, 4 ≤ q ∧ q ≤ 6 → vr I (m + 5) m q k = L q k := fun hk q hq => (vR q _ (by omega)).trans (hsm q _ (wc_g hq hk)).symm
  obtain ⟨⟨hn, e0⟩, ⟨hng, e1⟩, hpl⟩ := id hG
  have f0 : vc I (x + 1) 0 0 = nI n := by rw [vL 0 0 (by decide)]; exact e0
  have f1 : vc I (x + 1) 0 1 = nI ng := by rw [vL 0 1 (by decide)]; exact e1
  have g0 : vr I (m + 5) m 0 0 = nI n := by rw [vR 0 0 (by decide)]; exact hG'.1.2
  have g1 : vr I (m + 5) m 0 1 = nI ng := by rw [vR 0 1 (by decide)]; exact hG'.2.1.2
  unfold pr
  rw [c_of x0 x1 l1 vL hn f0 hng f1, m_of hml vR hRR' hn g0 hng g1, s_of hsm hn]
  exact fi_i _ h rfl rfl
theorem c_at {a ng : Nat} {L : mm_I} (x0 : mm_S r x = (1, 5)) (x1 : mm_P r x 0 = some a) (l1 : ln_S r a) (vL : ∀ q i, q < 7 → vc I a q i = L q i) (hng : ng ≤ 5) (f1 : vc I a 0 1 = nI ng) (p q : Int32) : mm_E 54 0 [some (.ref x), some (.int p), some (.int q)] [] I r Q ↔ Q (some (.int (v_at L ng p q))) I r := by
  unfold v_at
  cases hk : okh p ng with
  | false => simp only [e54_0, e54_1, e54_4, e54_5, e54_8, e54_11, e54_12, e54_13, e54_14, e54_44, e54_45, e54_48, e54_51, e54_52, e54_53, e54_54, e54_55, e54_58, e54_61, e54_62, e54_63, e54_64, e54_65, e54_68, e54_71, e54_72, e54_73, e54_74, e54_75, e54_78, e54_79, e54_82, e54_83, e54_84, mm_pu_n, mm_pu_s, va_rf_s, mm_w8_0, mm_w8_1, mm_w8_2, mm_w8_3, mm_w8_4, mm_c1_n, mm_c1_i, mm_c1_a, mm_ct_a, mm_ct_i, true_and, and_true, and_self, eq_self, if_true, if_false, ite_true, ite_false, bI_t, bI_z, bI_nz, bI_01, true_or, or_true, reduceCtorEq, false_or, or_false, decide_eq_false_iff_not, decide_eq_true_eq, ite_not, x0, x1, l1.s0, t_hasG l1 f1, hk, Bool.false_eq_true]
  | true =>
    obtain ⟨k, hkn, rfl⟩ := okh_of hk (by omega)
    have hk5 : k < 5 := by omega
    simp only [e54_0, e54_1, e54_4, e54_5, e54_8, e54_11, e54_12, e54_13, e54_14, e54_44, e54_45, e54_48, e54_51, e54_52, e54_53, e54_54, e54_55, e54_58, e54_61, e54_62, e54_63, e54_64, e54_65, e54_68, e54_71, e54_72, e54_73, e54_74, e54_75, e54_78, e54_79, e54_82, e54_83, e54_84, mm_pu_n, mm_pu_s, va_rf_s, mm_w8_0, mm_w8_1, mm_w8_2, mm_w8_3, mm_w8_4, mm_c1_n, mm_c1_i, mm_c1_a, mm_ct_a, mm_ct_i, true_and, and_true, and_self, eq_self, if_true, if_false, ite_true, ite_false, bI_t, bI_z, bI_nz, bI_01, true_or, or_true, reduceCtorEq, false_or, or_false, decide_eq_false_iff_not, decide_eq_true_eq, ite_not, x0, x1, l1.s0, l1.p6, l1.p7, l1.p8, l1.p9, l1.p10, l1.p11, l1.p12, l1.p13, l1.i1, l1.i2, l1.i3, l1.i4, l1.i5, l1.i6, l1.i7, l1.i8, t_hasG l1 f1, hk, in5 hk5, cl_nI (show k < 6 by omega), rd_k (a := a) (k := 4) ⟨by decide, hk5⟩, rd_k (a := a) (k := 5) ⟨by decide, hk5⟩, rd_k (a := a) (k := 6) ⟨by decide, hk5⟩, t_appetite l1 hk5, Bool.true_eq_false, vL _ _ (show 4 < 7 by decide), vL _ _ (show 5 < 7 by decide), vL _ _ (show 6 < 7 by decide), ag_ap (ag_0 vL)]
    split
    · rfl
    split
    · rfl
    split
    · rfl
    split <;> rfl
theorem m_at {ng : Nat} {L : mm_I} (hml : ml_S r m) (vR : ∀ q i, q < 7 → vr I (m + 5) m q i = L q i) (hng : ng ≤ 5) (g1 : vr I (m + 5) m 0 1 = nI ng) (p q : Int32) : mm_E 108 0 [some (.ref m), some (.int p), some (.int q)] [] I r Q ↔ Q (some (.int (v_at L ng p q))) I r := by
  unfold v_at
  cases hk : okh p ng with
  | false => simp only [e108_0, e108_1, e108_2, e108_5, e108_8, e108_9, e108_10, e108_11, e108_40, e108_41, e108_44, e108_46, e108_47, e108_48, e108_49, e108_50, e108_51, e108_54, e108_56, e108_57, e108_58, e108_59, e108_60, e108_61, e108_64, e108_66, e108_67, e108_68, e108_69, e108_70, e108_71, e108_74, e108_75, e108_78, e108_79, e108_80, mm_pu_n, mm_pu_s, va_rf_s, mm_w8_0, mm_w8_1, mm_w8_2, mm_w8_3, mm_w8_4, mm_c1_n, mm_c1_i, mm_c1_a, mm_ct_a, mm_ct_i, true_and, and_true, and_self, eq_self, if_true, if_false, ite_true, ite_false, bI_t, bI_z, bI_nz, bI_01, true_or, or_true, reduceCtorEq, false_or, or_false, decide_eq_false_iff_not, decide_eq_true_eq, ite_not, hml.s0, hml.p7, hml.i5, u_isHog hml (show ng ≤ 6 by omega) g1, hk, Bool.false_eq_true]
  | true =>
    obtain ⟨k, hkn, rfl⟩ := okh_of hk (by omega)
    have hk5 : k < 5 := by omega
    simp only [e108_0, e108_1, e108_2, e108_5, e108_8, e108_9, e108_10, e108_11, e108_40, e108_41, e108_44, e108_46, e108_47, e108_48, e108_49, e108_50, e108_51, e108_54, e108_56, e108_57, e108_58, e108_59, e108_60, e108_61, e108_64, e108_66, e108_67, e108_68, e108_69, e108_70, e108_71, e108_74, e108_75, e108_78, e108_79, e108_80, mm_pu_n, mm_pu_s, va_rf_s, mm_w8_0, mm_w8_1, mm_w8_2, mm_w8_3, mm_w8_4, mm_c1_n, mm_c1_i, mm_c1_a, mm_ct_a, mm_ct_i, true_and, and_true, and_self, eq_self, if_true, if_false, ite_true, ite_false, bI_t, bI_z, bI_nz, bI_01, true_or, or_true, reduceCtorEq, false_or, or_false, decide_eq_false_iff_not, decide_eq_true_eq, ite_not, hml.s0, hml.p7, hml.i5, u_isHog hml (show ng ≤ 6 by omega) g1, hk, cl_nI (show k < 6 by omega), k29, k34, k21, in2 (show 29 + k < 248 by omega), cl2 (show 29 + k < 248 by omega), in2 (show 34 + k < 248 by omega), cl2 (show 34 + k < 248 by omega), in2 (show 21 + k < 248 by omega), cl2 (show 21 + k < 248 by omega), r29 m hk5, r34 m hk5, r21 m hk5, u_mealOf m hml.i5 hk5, Bool.true_eq_false, vR _ _ (show 4 < 7 by decide), vR _ _ (show 5 < 7 by decide), vR _ _ (show 6 < 7 by decide), ag_ap (ag_0 vR)]
    split
    · rfl
    split
    · rfl
    split
    · rfl
    split <;> rfl
theorem a_at (h : ALL I r x m) (p q : Int32) : pr 54 108 [some (.ref x), some (.int p), some (.int q)] [some (.ref m), some (.int p), some (.int q)] I r x m := by
  obtain ⟨hS, ⟨sg, L, bn, B, n, ng, Lr, Br, hg⟩, hG2, hG3, hG4⟩ := id h
  obtain ⟨hm, hx, ⟨l1, l2, l3, l4⟩, hip, hpt, htp, hsh, hml⟩ := id hS
  obtain ⟨x0, x1, x2, x3, x4, x5, x6, x7, x8⟩ := id hx
  obtain ⟨⟨hps, hL, hpv⟩, ⟨hR, hB⟩, ⟨⟨⟨hG, hRR, hdr, hnt⟩, hbk⟩, ⟨⟨hG', hRR', hdr', hnt'⟩, hbk'⟩, hsm, hsB⟩⟩ := id hg
  have hLL : dl L = L := by rw [← hL]; exact dl_dl _
  have hLr : dl Lr = Lr := by rw [← hR]; exact dl_dl _
  have hs6 := s_6 hsm hLL hLr
  have vL : ∀ q i, q < 7 → vc I (x + 1) q i = L q i := fun q i hq => by rw [← hL, dl_at hq]
  have vR : ∀ q i, q < 7 → vr I (m + 5) m q i = Lr q i := fun q i hq => by rw [← hR, dl_at hq]
  have vRh : ∀ {k : Nat}, k < n → ∀ q, 1 ≤ q ∧ q ≤ 3 → vr I (m + 5) m q k = L q k := fun hk q hq => (vR q _ (by omega)).trans (hsm q _ (wc_h hq hk)).symm
  have vRg : ∀ {k : Nat}, k < ng → ∀ q, 4 ≤ q ∧ q ≤ 6 → vr I (m + 5) m q k = L q k := fun hk q hq => (vR q _ (by omega)).trans (hsm q _ (wc_g hq hk)).symm
  obtain ⟨⟨hn, e0⟩, ⟨hng, e1⟩, hpl⟩ := id hG
  have f0 : vc I (x + 1) 0 0 = nI n := by rw [vL 0 0 (by decide)]; exact e0
  have f1 : vc I (x + 1) 0 1 = nI ng := by rw [vL 0 1 (by decide)]; exact e1
  have g0 : vr I (m + 5) m 0 0 = nI n := by rw [vR 0 0 (by decide)]; exact hG'.1.2
  have g1 : vr I (m + 5) m 0 1 = nI ng := by rw [vR 0 1 (by decide)]; exact hG'.2.1.2
  unfold pr
  rw [c_at x0 x1 l1 vL hng f1, m_at hml vR hng g1, s_at hsm hng]
  exact fi_i _ h rfl rfl
def v_count (L : mm_I) (n ng bn : Nat) (q : Int32) : Int32 := if q = 0 then nI n else if q = 1 then nI ng else if q = 2 then L 0 3 else if q = 3 then L 0 2 else if q = 4 then L 0 4 else if q = 5 then p_ls L n else if q = 6 then p_ow L n else if q = 7 then bI (p_win L) else if q = 8 then nI bn else -1
theorem bI_if (b : Bool) : (if b = false then (0 : Int32) else 1) = bI b := by cases b <;> rfl
theorem t_isWin {a : Nat} {L : mm_I} (h : ln_S r a) (e : vc I a 0 3 = L 0 3) : mm_E 8 0 [some (.ref a)] [] I r Q ↔ Q (some (.int (bI (p_win L)))) I r := by
  rw [t_isWinter h, e]; rfl
theorem c_count {a n ng bn p : Nat} {L : mm_I} (x0 : mm_S r x = (1, 5)) (x1 : mm_P r x 0 = some a) (x3 : mm_P r x 2 = some p) (hp : mm_S r p = (1, 2)) (hbn : mm_rd I p 1 = nI bn) (l1 : ln_S r a) (vL : ∀ q i, q < 7 → vc I a q i = L q i) (hn : n ≤ 6) (f0 : vc I a 0 0 = nI n) (f1 : vc I a 0 1 = nI ng) (q : Int32) : mm_E 57 0 [some (.ref x), some (.int q)] [] I r Q ↔ Q (some (.int (v_count L n ng bn q))) I r := by
  unfold v_count
  simp only [e57_0, e57_1, e57_52, e57_53, e57_56, e57_59, e57_60, e57_61, e57_64, e57_67, e57_68, e57_69, e57_72, e57_75, e57_76, e57_77, e57_80, e57_83, e57_84, e57_85, e57_88, e57_91, e57_92, e57_93, e57_96, e57_99, e57_100, e57_101, e57_104, e57_107, e57_108, e57_109, e57_112, e57_115, e57_118, e57_119, e57_122, e57_123, e57_124, e57_125, e57_128, e57_131, e57_132, e57_133, mm_pu_n, mm_pu_s, va_rf_s, mm_w8_0, mm_w8_1, mm_w8_2, mm_w8_3, mm_w8_4, mm_c1_n, mm_c1_i, mm_c1_a, mm_ct_a, mm_ct_i, true_and, and_true, and_self, eq_self, if_true, if_false, ite_true, ite_false, bI_t, bI_z, bI_nz, bI_01, true_or, or_true, reduceCtorEq, false_or, or_false, decide_eq_false_iff_not, decide_eq_true_eq, ite_not, x0, x1, x3, hp, hbn, l1.s0, rd_0 (a := a) (i := 0) (by decide), rd_0 (a := a) (i := 1) (by decide), rd_0 (a := a) (i := 2) (by decide), rd_0 (a := a) (i := 3) (by decide), rd_0 (a := a) (i := 4) (by decide), f0, f1, t_lostSet l1 hn f0, t_owedByAll l1 hn f0, t_isWin l1 (vL 0 3 (by decide)), vL 0 2 (by decide), vL 0 3 (by decide), vL 0 4 (by decide), ag_ls (fun i => vL 3 i (by decide)), ag_ow (fun i => vL 1 i (by decide))]
  split
  · rfl
  split
  · rfl
  split
  · rfl
  split
  · rfl
  split
  · rfl
  split
  · rfl
  split
  · rfl
  split
  · cases p_win L <;> rfl
  split <;> rfl
theorem m_count {n ng bn : Nat} {L : mm_I} (hml : ml_S r m) (hbn : mm_rd I (m + 5) 39 = nI bn) (vR : ∀ q i, q < 7 → vr I (m + 5) m q i = L q i) (hRR : ln_R L n ng) (hn : n ≤ 6) (g0 : vr I (m + 5) m 0 0 = nI n) (g1 : vr I (m + 5) m 0 1 = nI ng) (q : Int32) : mm_E 122 0 [some (.ref m), some (.int q)] [] I r Q ↔ Q (some (.int (v_count L n ng bn q))) I r := by
  unfold v_count
  have w2 : p_win (vr I (m + 5) m) = p_win L := by unfold p_win; rw [vR 0 3 (by decide)]
  have hlk : ∀ k, k < n → (vr I (m + 5) m 3 k = 3) = (3 ≤ vr I (m + 5) m 3 k) := fun k hk => by rw [vR 3 k (by decide)]; exact hRR.lk hk
  simp only [e122_0, e122_1, e122_52, e122_53, e122_56, e122_58, e122_59, e122_60, e122_61, e122_64, e122_66, e122_67, e122_68, e122_69, e122_72, e122_73, e122_74, e122_75, e122_76, e122_79, e122_81, e122_82, e122_83, e122_84, e122_87, e122_88, e122_89, e122_90, e122_91, e122_94, e122_97, e122_98, e122_99, e122_102, e122_105, e122_106, e122_107, e122_110, e122_113, e122_116, e122_117, e122_120, e122_121, e122_122, e122_123, e122_126, e122_128, e122_129, e122_130, e122_131, mm_pu_n, mm_pu_s, va_rf_s, mm_w8_0, mm_w8_1, mm_w8_2, mm_w8_3, mm_w8_4, mm_c1_n, mm_c1_i, mm_c1_a, mm_ct_a, mm_ct_i, true_and, and_true, and_self, eq_self, if_true, if_false, ite_true, ite_false, bI_t, bI_z, bI_nz, bI_01, true_or, or_true, reduceCtorEq, false_or, or_false, decide_eq_false_iff_not, decide_eq_true_eq, ite_not, hml.s0, hml.p7, hml.i5, c27.1, c27.2.1, c27.2.2.1, c27.2.2.2.1, c27.2.2.2.2.1, c27.2.2.2.2.2.2, d27.1, d27.2.1, d27.2.2.1, d27.2.2.2.1, d27.2.2.2.2.1, d27.2.2.2.2.2.2, r27 m, r28 m, r26 m, r0 m, r2 m, hbn, g0, g1, u_lostOnes m hml.i5 hn g0 hlk, u_owedBy m hml.i5 hn g0, u_isWinter m hml.i5, w2, vR 0 2 (by decide), vR 0 3 (by decide), vR 0 4 (by decide), ag_ls (fun i => vR 3 i (by decide)), ag_ow (fun i => vR 1 i (by decide))]
  split
  · rfl
  split
  · rfl
  split
  · rfl
  split
  · rfl
  split
  · rfl
  split
  · rfl
  split
  · rfl
  split
  · cases p_win L <;> rfl
  split <;> rfl
theorem s_count {L Lr : mm_I} {n ng bn : Nat} (h : ag (wc n ng) L Lr) (hn : n ≤ 6) (q : Int32) : v_count L n ng bn q = v_count Lr n ng bn q := by
  unfold v_count p_win
  rw [h 0 2 wc_0, h 0 3 wc_0, h 0 4 wc_0, s_ls h n (Nat.le_refl _), s_ow h n (Nat.le_refl _)]
theorem a_count (h : ALL I r x m) (q : Int32) : pr 57 122 [some (.ref x), some (.int q)] [some (.ref m), some (.int q)] I r x m := by
  obtain ⟨hS, ⟨sg, L, bn, B, n, ng, Lr, Br, hg⟩, hG2, hG3, hG4⟩ := id h
  obtain ⟨hm, hx, ⟨l1, l2, l3, l4⟩, hip, hpt, htp, hsh, hml⟩ := id hS
  obtain ⟨x0, x1, x2, x3, x4, x5, x6, x7, x8⟩ := id hx
  obtain ⟨⟨hps, hL, hpv⟩, ⟨hR, hB⟩, ⟨⟨⟨hG, hRR, hdr, hnt⟩, hbk⟩, ⟨⟨hG', hRR', hdr', hnt'⟩, hbk'⟩, hsm, hsB⟩⟩ := id hg
  have hLL : dl L = L := by rw [← hL]; exact dl_dl _
  have hLr : dl Lr = Lr := by rw [← hR]; exact dl_dl _
  have hs6 := s_6 hsm hLL hLr
  have vL : ∀ q i, q < 7 → vc I (x + 1) q i = L q i := fun q i hq => by rw [← hL, dl_at hq]
  have vR : ∀ q i, q < 7 → vr I (m + 5) m q i = Lr q i := fun q i hq => by rw [← hR, dl_at hq]
  have vRh : ∀ {k : Nat}, k < n → ∀ q, 1 ≤ q ∧ q ≤ 3 → vr I (m + 5) m q k = L q k := fun hk q hq => (vR q _ (by omega)).trans (hsm q _ (wc_h hq hk)).symm
  have vRg : ∀ {k : Nat}, k < ng → ∀ q, 4 ≤ q ∧ q ≤ 6 → vr I (m + 5) m q k = L q k := fun hk q hq => (vR q _ (by omega)).trans (hsm q _ (wc_g hq hk)).symm
  obtain ⟨⟨hn, e0⟩, ⟨hng, e1⟩, hpl⟩ := id hG
  have f0 : vc I (x + 1) 0 0 = nI n := by rw [vL 0 0 (by decide)]; exact e0
  have f1 : vc I (x + 1) 0 1 = nI ng := by rw [vL 0 1 (by decide)]; exact e1
  have g0 : vr I (m + 5) m 0 0 = nI n := by rw [vR 0 0 (by decide)]; exact hG'.1.2
  have g1 : vr I (m + 5) m 0 1 = nI ng := by rw [vR 0 1 (by decide)]; exact hG'.2.1.2
  unfold pr
  rw [c_count x0 x1 x3 hps.1 hpv.1.2 l1 vL hn f0 f1, m_count hml hB.1.2 vR hRR' hn g0 g1, s_count hsm hn]
  exact fi_i _ h rfl rfl
end
