theorem clb {k : Nat} (h : k < 1000) : (nI k).toNatClampNeg = k := nI_clamp (by omega)
theorem inb {k n : Nat} (h : k < n) (hn : n < 1000) : vp_in (nI k) n := vp_in_nI h (by omega)
section
variable {r : mm_R} {I : mm_I} {Q : Option Value → mm_I → mm_R → Prop}
theorem u_bring {a b i j n na nb : Nat} (ha : ∀ x, mm_ix r a 2 x = vp_in x na) (hb : ∀ x, mm_ix r b 2 x = vp_in x nb) (hna : na ≤ 248) (hnb : nb ≤ 248) (h1 : i + n ≤ na) (h2 : j + n ≤ nb) (hd : a ≠ b ∨ j ≤ i ∨ i + n ≤ j) (hq : ∀ J, (∀ q, q ≠ b → J q = I q) → (∀ t, J b t = if j ≤ t ∧ t < j + n then I a (i + (t - j)) else I b t) → Q none J r) : mm_E 96 0 [some (.ref a), some (.int (nI i)), some (.ref b), some (.int (nI j)), some (.int (nI n)), none] [] I r Q := by
  have loop : ∀ d k J, k + d = n → (∀ q, q ≠ b → J q = I q) → (∀ t, J b t = if j ≤ t ∧ t < j + k then I a (i + (t - j)) else I b t) → mm_E 96 3 [some (.ref a), some (.int (nI i)), some (.ref b), some (.int (nI j)), some (.int (nI n)), some (.int (nI k))] [] J r Q := by
    intro d
    induction d with
    | zero =>
      intro k J hk ho hv
      have : k = n := by omega
      subst this
      rw [e96_3]
      simp only [e96_0, e96_1, e96_5, e96_7, e96_10, e96_11, e96_12, e96_14, e96_15, e96_16, e96_17, e96_19, e96_20, e96_21, e96_22, e96_25, e96_28, mm_pu_n, mm_pu_s, va_rf_s, mm_w8_0, mm_w8_1, mm_w8_2, mm_w8_3, mm_w8_4, mm_c1_n, mm_c1_i, mm_c1_a, mm_ct_a, mm_ct_i, true_and, and_true, and_self, eq_self, if_true, if_false, ite_true, ite_false, bI_t, bI_z, bI_nz, bI_01, true_or, or_true, reduceCtorEq, false_or, or_false, decide_eq_false_iff_not, decide_eq_true_eq, ite_not, Int32.le_refl]
      exact hq J ho hv
    | succ d ih =>
      intro k J hk ho hv
      rw [e96_3]
      simp only [e96_0, e96_1, e96_5, e96_7, e96_10, e96_11, e96_12, e96_14, e96_15, e96_16, e96_17, e96_19, e96_20, e96_21, e96_22, e96_25, e96_28, mm_pu_n, mm_pu_s, va_rf_s, mm_w8_0, mm_w8_1, mm_w8_2, mm_w8_3, mm_w8_4, mm_c1_n, mm_c1_i, mm_c1_a, mm_ct_a, mm_ct_i, true_and, and_true, and_self, eq_self, if_true, if_false, ite_true, ite_false, bI_t, bI_z, bI_nz, bI_01, true_or, or_true, reduceCtorEq, false_or, or_false, decide_eq_false_iff_not, decide_eq_true_eq, ite_not, ha, hb, nI_add, nI_1, nI_ge (show k < n by omega) (show n < 2 ^ 31 by omega), inb (show i + k < na by omega) (show na < 1000 by omega), inb (show j + k < nb by omega) (show nb < 1000 by omega), clb (show i + k < 1000 by omega), clb (show j + k < 1000 by omega)]
      have hval : mm_rd J a (i + k) = I a (i + k) := by
        unfold mm_rd
        by_cases c : a = b
        · subst c
          rw [hv, if_neg]
          rcases hd with z | z | z
          · exact absurd rfl z
          · omega
          · omega
        · rw [ho a c]
      rw [hval]
      refine ih (k + 1) _ (by omega) (fun q hq => by rw [mu_n hq]; exact ho q hq) (fun t => ?_)
      by_cases c : t = j + k
      · subst c
        rw [mu_s, if_pos (by omega)]
        congr 1
        omega
      · rw [mu_j c, hv]
        by_cases z : j ≤ t ∧ t < j + k
        · rw [if_pos z, if_pos (by omega)]
        · rw [if_neg z, if_neg (by omega)]
  simp only [e96_0, e96_1, mm_pu_n, mm_pu_s, va_rf_s, mm_w8_0, mm_w8_1, mm_w8_2, mm_w8_3, mm_w8_4, mm_c1_n, mm_c1_i, mm_c1_a, mm_ct_a, mm_ct_i, true_and, and_true, and_self, eq_self, if_true, if_false, ite_true, ite_false, bI_t, bI_z, bI_nz, bI_01, true_or, or_true, reduceCtorEq, false_or, or_false, decide_eq_false_iff_not, decide_eq_true_eq, ite_not]
  exact loop n 0 I (by omega) (fun _ _ => rfl) (fun t => by rw [if_neg (by omega)])
end
/-- what the reference's row s notes behind the lane -/
def ml_B (I : mm_I) (s bn : Nat) (B : Nat → mm_I) : Prop := (bn ≤ 8 ∧ I s 39 = nI bn) ∧ ∀ k, k < bn → ∀ q, q < 7 → ∀ i, i < wd q → ps q i < 26 → I s (40 + 26 * k + ps q i) = B k q i
theorem vr_pos {I : mm_I} {s m q i : Nat} (hq : q < 7) (hi : i < wd q) : vr I s m q i = I s (ps q i) := by unfold vr; rw [if_pos ⟨by omega, hi⟩, if_pos hq]
theorem vr_row {I J : mm_I} {s t m u : Nat} (h : ∀ i, i < 39 → J t i = I s i) : dl (vr J t u) = dl (vr I s m) := by
  funext q i
  unfold dl
  by_cases c : q < 7
  · rw [if_pos c, if_pos c]
    by_cases d : i < wd q
    · rw [vr_pos c d, vr_pos c d, h _ (ps_lt c d)]
    · unfold vr
      rw [if_neg (fun z => d z.2), if_neg (fun z => d z.2)]
  · rw [if_neg c, if_neg c]
theorem ml_B_keep {I J : mm_I} {s t bn : Nat} {B : Nat → mm_I} (h : ml_B I s bn B) (he : ∀ i, 39 ≤ i → i < 248 → J t i = I s i) : ml_B J t bn B := by
  refine ⟨⟨h.1.1, by rw [he 39 (by decide) (by decide)]; exact h.1.2⟩, fun k hk q hq i hi hp => ?_⟩
  have := h.1.1
  rw [he _ (by omega) (by omega)]
  exact h.2 k hk q hq i hi hp
section
variable {r : mm_R} {I : mm_I} {m bn : Nat} {B : Nat → mm_I} {Q : Option Value → mm_I → mm_R → Prop}
theorem u_note (hm : ml_S r m) (hB : ml_B I (m + 5) bn B) (hq : ∀ J, (∀ q, q ≠ m + 5 → J q = I q) → (∀ i, i < 39 → J (m + 5) i = I (m + 5) i) → ml_B J (m + 5) (b_n bn) (b_push B bn (dl (vr I (m + 5) m))) → Q none J r) : mm_E 123 0 [some (.ref m)] [] I r Q := by
  have c39 : vp_in (39 : Int32) 248 := c27.2.2.2.2.2.2
  have d39 : (39 : Int32).toNatClampNeg = 39 := d27.2.2.2.2.2.2
  have key : ∀ (I1 : mm_I) (b1 : Nat) (B1 : Nat → mm_I), b1 < 8 → (∀ q, q ≠ m + 5 → I1 q = I q) → (∀ i, i < 39 → I1 (m + 5) i = I (m + 5) i) → ml_B I1 (m + 5) b1 B1 → (b1 + 1 = b_n bn ∧ ∀ k, k ≤ b1 → (if k = b1 then dl (vr I (m + 5) m) else B1 k) = b_push B bn (dl (vr I (m + 5) m)) k) → mm_E 123 41 [some (.ref m)] [] I1 r Q := by
    intro I1 b1 B1 hb ho hl hB1 hfin
    have e39 : mm_rd I1 (m + 5) 39 = nI b1 := hB1.1.2
    have ek : (40 : Int32) + 26 * nI b1 = nI (40 + 26 * b1) := by
      rw [show (26 : Int32) = nI 26 from by decide, show (40 : Int32) = nI 40 from by decide, pk_mul, nI_add]
    simp only [e123_41, e123_42, e123_45, e123_46, e123_47, e123_50, e123_52, e123_54, e123_55, e123_58, e123_60, e123_61, e123_62, e123_63, e123_65, mm_pu_n, mm_pu_s, va_rf_s, mm_w8_0, mm_w8_1, mm_w8_2, mm_w8_3, mm_w8_4, mm_c1_n, mm_c1_i, mm_c1_a, mm_ct_a, mm_ct_i, true_and, and_true, and_self, eq_self, if_true, if_false, ite_true, ite_false, bI_t, bI_z, bI_nz, bI_01, true_or, or_true, reduceCtorEq, false_or, or_false, decide_eq_false_iff_not, decide_eq_true_eq, ite_not, hm.s0, hm.p7, hm.i5, c39, d39, e39, ek]
    rw [show (some (Value.int 0) : Option Value) = some (.int (nI 0)) from rfl, show (some (Value.int 26) : Option Value) = some (.int (nI 26)) from rfl]
    refine u_bring hm.i5 hm.i5 (by decide) (by decide) (by decide) (by omega) (by omega) (fun K hKo hKv => ?_)
    have k39 : mm_rd K (m + 5) 39 = nI b1 := by unfold mm_rd; rw [hKv, if_neg (by omega)]; exact e39
    simp only [e123_68, e123_69, e123_72, e123_74, e123_75, e123_76, e123_77, e123_78, e123_79, mm_pu_n, mm_pu_s, va_rf_s, mm_w8_0, mm_w8_1, mm_w8_2, mm_w8_3, mm_w8_4, mm_c1_n, mm_c1_i, mm_c1_a, mm_ct_a, mm_ct_i, true_and, and_true, and_self, eq_self, if_true, if_false, ite_true, ite_false, bI_t, bI_z, bI_nz, bI_01, true_or, or_true, reduceCtorEq, false_or, or_false, decide_eq_false_iff_not, decide_eq_true_eq, ite_not, hm.s0, hm.p7, hm.i5, c39, d39, k39, nI_1]
    refine hq _ (fun q hq => by rw [mu_n hq, hKo q hq]; exact ho q hq) (fun i hi => by rw [mu_j (by omega), hKv, if_neg (by omega)]; exact hl i hi) ⟨⟨by rw [← hfin.1]; omega, by rw [mu_s, hfin.1]⟩, fun k hk q hq i hi hp => ?_⟩
    have hk1 : k ≤ b1 := by omega
    rw [← hfin.2 k hk1, mu_j (by omega), hKv]
    by_cases c : k = b1
    · subst c
      rw [if_pos (by omega), if_pos rfl, show 0 + (40 + 26 * k + ps q i - (40 + 26 * k)) = ps q i by omega, hl _ (by omega), dl_at hq, vr_pos hq hi]
    · rw [if_neg (by omega), if_neg c]
      exact hB1.2 k (by omega) q hq i hi hp
  have e39 : mm_rd I (m + 5) 39 = nI bn := hB.1.2
  simp only [e123_0, e123_1, e123_4, e123_6, e123_7, e123_9, mm_pu_n, mm_pu_s, va_rf_s, mm_w8_0, mm_w8_1, mm_w8_2, mm_w8_3, mm_w8_4, mm_c1_n, mm_c1_i, mm_c1_a, mm_ct_a, mm_ct_i, true_and, and_true, and_self, eq_self, if_true, if_false, ite_true, ite_false, bI_t, bI_z, bI_nz, bI_01, true_or, or_true, reduceCtorEq, false_or, or_false, decide_eq_false_iff_not, decide_eq_true_eq, ite_not, hm.s0, hm.p7, hm.i5, c39, d39, e39]
  by_cases c : bn = 8
  · rw [if_pos (by rw [c]; decide)]
    simp only [e123_12, e123_13, e123_16, e123_18, e123_19, e123_22, e123_24, e123_27, mm_pu_n, mm_pu_s, va_rf_s, mm_w8_0, mm_w8_1, mm_w8_2, mm_w8_3, mm_w8_4, mm_c1_n, mm_c1_i, mm_c1_a, mm_ct_a, mm_ct_i, true_and, and_true, and_self, eq_self, if_true, if_false, ite_true, ite_false, bI_t, bI_z, bI_nz, bI_01, true_or, or_true, reduceCtorEq, false_or, or_false, decide_eq_false_iff_not, decide_eq_true_eq, ite_not, hm.s0, hm.p7]
    rw [show (some (Value.int 66) : Option Value) = some (.int (nI 66)) from rfl, show (some (Value.int 40) : Option Value) = some (.int (nI 40)) from rfl, show (some (Value.int 182) : Option Value) = some (.int (nI 182)) from rfl]
    refine u_bring hm.i5 hm.i5 (by decide) (by decide) (by decide) (by decide) (by omega) (fun K hKo hKv => ?_)
    have k39 : mm_rd K (m + 5) 39 = nI 8 := by unfold mm_rd; rw [hKv, if_neg (by omega), ← c]; exact e39
    simp only [e123_30, e123_31, e123_34, e123_36, e123_37, e123_38, e123_39, e123_40, mm_pu_n, mm_pu_s, va_rf_s, mm_w8_0, mm_w8_1, mm_w8_2, mm_w8_3, mm_w8_4, mm_c1_n, mm_c1_i, mm_c1_a, mm_ct_a, mm_ct_i, true_and, and_true, and_self, eq_self, if_true, if_false, ite_true, ite_false, bI_t, bI_z, bI_nz, bI_01, true_or, or_true, reduceCtorEq, false_or, or_false, decide_eq_false_iff_not, decide_eq_true_eq, ite_not, hm.s0, hm.p7, hm.i5, c39, d39, k39]
    rw [show nI 8 - 1 = nI 7 from by decide]
    refine key _ 7 (fun k => B (k + 1)) (by decide) (fun q hq => by rw [mu_n hq]; exact hKo q hq) (fun i hi => by rw [mu_j (by omega), hKv, if_neg (by omega)]) ⟨⟨by decide, by rw [mu_s]⟩, fun k hk q hq i hi hp => ?_⟩ ⟨by unfold b_n; rw [if_pos c], fun k hk => ?_⟩
    · rw [mu_j (by omega), hKv, if_pos (by omega), show 66 + (40 + 26 * k + ps q i - 40) = 40 + 26 * (k + 1) + ps q i by omega]
      exact hB.2 (k + 1) (by omega) q hq i hi hp
    · unfold b_push
      rw [if_pos c]
  · have hb : bn < 8 := by have := hB.1.1; omega
    rw [if_neg (by rw [show (8 : Int32) = nI 8 from by decide, nI_eq (by omega) (by omega)]; exact c)]
    refine key I bn B hb (fun _ _ => rfl) (fun _ _ => rfl) hB ⟨by unfold b_n; rw [if_neg c], fun k hk => ?_⟩
    unfold b_push
    rw [if_neg c]
theorem u_begin (hm : ml_S r m) (hq : ∀ J, (∀ q, q ≠ m + 6 → q ≠ m + 10 → J q = I q) → (∀ i, i < 248 → J (m + 6) i = I (m + 5) i) → (∀ i, i < 6 → J (m + 10) i = 0) → Q none J r) : mm_E 136 0 [some (.ref m), none] [] I r Q := by
  have loop : ∀ d k J, k + d = 6 → (∀ q, q ≠ m + 6 → q ≠ m + 10 → J q = I q) → (∀ i, i < 248 → J (m + 6) i = I (m + 5) i) → (∀ i, i < k → J (m + 10) i = 0) → mm_E 136 18 [some (.ref m), some (.int (nI k))] [] J r Q := by
    intro d
    induction d with
    | zero =>
      intro k J hk h1 h2 h3
      have : k = 6 := by omega
      subst this
      rw [e136_18]
      simp only [e136_19, e136_21, e136_37, mm_pu_n, mm_pu_s, va_rf_s, mm_w8_0, mm_w8_1, mm_w8_2, mm_w8_3, mm_w8_4, mm_c1_n, mm_c1_i, mm_c1_a, mm_ct_a, mm_ct_i, true_and, and_true, and_self, eq_self, if_true, if_false, ite_true, ite_false, bI_t, bI_z, bI_nz, bI_01, true_or, or_true, reduceCtorEq, false_or, or_false, decide_eq_false_iff_not, decide_eq_true_eq, ite_not, show (6 : Int32) ≤ nI 6 by decide]
      exact hq J h1 h2 h3
    | succ d ih =>
      intro k J hk h1 h2 h3
      have hk6 : k < 6 := by omega
      rw [e136_18]
      simp only [e136_19, e136_21, e136_24, e136_25, e136_28, e136_29, e136_30, e136_31, e136_34, mm_pu_n, mm_pu_s, va_rf_s, mm_w8_0, mm_w8_1, mm_w8_2, mm_w8_3, mm_w8_4, mm_c1_n, mm_c1_i, mm_c1_a, mm_ct_a, mm_ct_i, true_and, and_true, and_self, eq_self, if_true, if_false, ite_true, ite_false, bI_t, bI_z, bI_nz, bI_01, true_or, or_true, reduceCtorEq, false_or, or_false, decide_eq_false_iff_not, decide_eq_true_eq, ite_not, show ¬ (6 : Int32) ≤ nI k from nle6 hk6 (Nat.le_refl 6), hm.s0, hm.p13, hm.i10, in6 hk6, cl_nI hk6, nI_1]
      refine ih (k + 1) _ (by omega) (fun q a b => by rw [mu_n b]; exact h1 q a b) (fun i hi => by rw [mu_n (by omega)]; exact h2 i hi) (fun i hi => ?_)
      by_cases c : i = k
      · subst c; exact mu_s
      · rw [mu_j c]; exact h3 i (by omega)
  simp only [e136_0, e136_1, e136_4, e136_5, e136_6, e136_9, e136_10, e136_13, mm_pu_n, mm_pu_s, va_rf_s, mm_w8_0, mm_w8_1, mm_w8_2, mm_w8_3, mm_w8_4, mm_c1_n, mm_c1_i, mm_c1_a, mm_ct_a, mm_ct_i, true_and, and_true, and_self, eq_self, if_true, if_false, ite_true, ite_false, bI_t, bI_z, bI_nz, bI_01, true_or, or_true, reduceCtorEq, false_or, or_false, decide_eq_false_iff_not, decide_eq_true_eq, ite_not, hm.s0, hm.p7, hm.p8]
  rw [show (some (Value.int 0) : Option Value) = some (.int (nI 0)) from rfl, show (some (Value.int 248) : Option Value) = some (.int (nI 248)) from rfl]
  refine u_bring hm.i5 hm.i6 (by decide) (by decide) (by decide) (by decide) (by omega) (fun K hKo hKv => ?_)
  simp only [mm_pu_n, e136_16, e136_17, mm_pu_n, mm_pu_s, va_rf_s, mm_w8_0, mm_w8_1, mm_w8_2, mm_w8_3, mm_w8_4, mm_c1_n, mm_c1_i, mm_c1_a, mm_ct_a, mm_ct_i, true_and, and_true, and_self, eq_self, if_true, if_false, ite_true, ite_false, bI_t, bI_z, bI_nz, bI_01, true_or, or_true, reduceCtorEq, false_or, or_false, decide_eq_false_iff_not, decide_eq_true_eq, ite_not]
  exact loop 6 0 K (by omega) (fun q a b => hKo q a) (fun i hi => by rw [hKv, if_pos (by omega)]; congr 1; omega) (fun i hi => absurd hi (by omega))
theorem u_goOn (hm : ml_S r m) {n ng t : Nat} (hG : ln_G (vr I (m + 6) m) n ng) (hR : ln_R (vr I (m + 6) m) n ng) (ht : t ≤ 1000) (hq : ∀ J, vr J (m + 6) m = p_nights (vr I (m + 6) m) n ng t → ml_F (m + 6) m I J → Q none J r) : mm_E 137 0 [some (.ref m), some (.int (nI t)), none] [] I r Q := by
  have hs : rw_ok (m + 6) m := ⟨by omega, by omega⟩
  have pR : ∀ k, ln_R (p_nights (vr I (m + 6) m) n ng k) n ng := by
    intro k
    induction k with
    | zero => exact hR
    | succ k ih => exact p_night_R 0 ih (p_nights_G hG k)
  have loop : ∀ d k J, k + d = t → vr J (m + 6) m = p_nights (vr I (m + 6) m) n ng k → ml_F (m + 6) m I J → mm_E 137 2 [some (.ref m), some (.int (nI t)), some (.int (nI k))] [] J r Q := by
    intro d
    induction d with
    | zero =>
      intro k J hk hJ hF
      have : k = t := by omega
      subst this
      rw [e137_2]
      simp only [e137_0, e137_1, e137_3, e137_4, e137_7, e137_8, e137_9, e137_12, e137_13, e137_16, e137_19, e137_22, mm_pu_n, mm_pu_s, va_rf_s, mm_w8_0, mm_w8_1, mm_w8_2, mm_w8_3, mm_w8_4, mm_c1_n, mm_c1_i, mm_c1_a, mm_ct_a, mm_ct_i, true_and, and_true, and_self, eq_self, if_true, if_false, ite_true, ite_false, bI_t, bI_z, bI_nz, bI_01, true_or, or_true, reduceCtorEq, false_or, or_false, decide_eq_false_iff_not, decide_eq_true_eq, ite_not, Int32.le_refl]
      exact hq J hJ hF
    | succ d ih =>
      intro k J hk hJ hF
      rw [e137_2]
      simp only [e137_3, e137_4, e137_7, e137_8, e137_9, e137_12, e137_13, mm_pu_n, mm_pu_s, va_rf_s, mm_w8_0, mm_w8_1, mm_w8_2, mm_w8_3, mm_w8_4, mm_c1_n, mm_c1_i, mm_c1_a, mm_ct_a, mm_ct_i, true_and, and_true, and_self, eq_self, if_true, if_false, ite_true, ite_false, bI_t, bI_z, bI_nz, bI_01, true_or, or_true, reduceCtorEq, false_or, or_false, decide_eq_false_iff_not, decide_eq_true_eq, ite_not, hm.s0, hm.p8, nI_ge (show k < t by omega) (show t < 2 ^ 31 by omega)]
      refine u_nightIn hm hm.i6 hs (by rw [hJ]; exact p_nights_G hG k) (by rw [hJ]; exact pR k) 0 (fun K hK hFK => ?_)
      simp only [mm_pu_n, e137_16, e137_19, mm_c1_i, true_and, nI_1]
      exact ih (k + 1) K (by omega) (by rw [p_nights, hK, hJ]) (hF.tr hFK)
  simp only [e137_0, e137_1, mm_pu_n, mm_pu_s, va_rf_s, mm_w8_0, mm_w8_1, mm_w8_2, mm_w8_3, mm_w8_4, mm_c1_n, mm_c1_i, mm_c1_a, mm_ct_a, mm_ct_i, true_and, and_true, and_self, eq_self, if_true, if_false, ite_true, ite_false, bI_t, bI_z, bI_nz, bI_01, true_or, or_true, reduceCtorEq, false_or, or_false, decide_eq_false_iff_not, decide_eq_true_eq, ite_not]
  exact loop t 0 I (by omega) rfl ml_F.rf
end
