def b_push (B : Nat → mm_I) (bn : Nat) (L : mm_I) : Nat → mm_I := if bn = 8 then fun k => if k = 7 then L else B (k + 1) else fun k => if k = bn then L else B k
def b_n (bn : Nat) : Nat := if bn = 8 then 8 else bn + 1
theorem dl_tk (M L : mm_I) : dl (p_tk M L) = dl L := by
  funext q i
  unfold dl p_tk
  by_cases c : q < 7
  · rw [if_pos c, if_pos c, if_neg (by omega), if_neg (by omega)]
  · rw [if_neg c, if_neg c]
theorem vc_p {I : mm_I} {a p i : Nat} {x : Int32} (h : p < a ∨ a + 9 ≤ p) : vc (mm_uI I p i x) a = vc I a := by
  funext q j
  unfold vc
  by_cases hq : q < 9 ∧ j < wd q
  · rw [if_pos hq, if_pos hq, mu_n (by omega)]
  · rw [if_neg hq, if_neg hq]
theorem vc_eq {I J : mm_I} {a : Nat} (h : ∀ q, a ≤ q → q < a + 9 → J q = I q) : vc J a = vc I a := by
  funext q j
  unfold vc
  by_cases hq : q < 9 ∧ j < wd q
  · rw [if_pos hq, if_pos hq, h _ (by omega) (by omega)]
  · rw [if_neg hq, if_neg hq]
theorem rd_u {I : mm_I} {a k : Nat} {x : Int32} : mm_rd (mm_uI I a k x) a k = x := mu_s
theorem rd_F {I J : mm_I} {a k : Nat} (h : J a = I a) : mm_rd J a k = mm_rd I a k := by unfold mm_rd; rw [h]
section
variable {r : mm_R} {p a : Nat} {sg : Nat → Nat} {I : mm_I} {bn : Nat} {B : Nat → mm_I} {Q : Option Value → mm_I → mm_R → Prop}
theorem t_remember (h : pa_S r p sg) (hv : pa_V I p sg bn B) (ha : ln_S r a) (hd : a + 9 ≤ p ∨ p + 74 ≤ a) (hq : ∀ J r' sg', rP p r r' → pa_S r' p sg' → pa_V J p sg' (b_n bn) (b_push B bn (dl (vc I a))) → pa_F p I J → Q none J r') : mm_E 27 0 [some (.ref p), some (.ref a)] [] I r Q := by
  have key : ∀ (r' : mm_R) (sg' : Nat → Nat) (I1 : mm_I) (b1 : Nat) (B1 : Nat → mm_I), b1 < 8 → rP p r r' → pa_S r' p sg' → pa_V I1 p sg' b1 B1 → pa_F p I I1 → (b1 + 1 = b_n bn ∧ ∀ k, k ≤ b1 → (if k = b1 then dl (vc I a) else B1 k) = b_push B bn (dl (vc I a)) k) → mm_E 27 13 [some (.ref p), some (.ref a)] [] I1 r' Q := by
    intro r' sg' I1 b1 B1 hb hr hS hV hF hfin
    obtain ⟨s0, p0, s1, hl, hp, hi⟩ := id hS
    have haS : ln_S r' a := ln_S_P hr.2.2.1 (hr.2.1 _ (by omega)) ha
    have hla : ln_S r' (p + 2 + 9 * sg' b1) := hl _ (hp b1 hb).1
    have hlt := (hp b1 hb).1
    have hdj : dj (p + 2 + 9 * sg' b1) a := by unfold dj; omega
    simp only [e27_13, e27_14, e27_17, e27_18, e27_21, e27_22, e27_23, mm_pu_n, mm_pu_s, va_rf_s, mm_w8_0, mm_w8_1, mm_w8_2, mm_w8_3, mm_w8_4, mm_c1_n, mm_c1_i, mm_c1_a, mm_ct_a, mm_ct_i, true_and, and_true, and_self, eq_self, if_true, if_false, ite_true, ite_false, bI_t, bI_z, bI_nz, bI_01, true_or, or_true, reduceCtorEq, false_or, or_false, decide_eq_false_iff_not, decide_eq_true_eq, ite_not, s0, p0, hV.1.2, aa_4 s1, in8 hb, cl8 hb, (hp b1 hb).2, hla.s0]
    refine t_takeFrom hla haS hdj (fun K hK hFK => ?_)
    have hK1 : mm_rd K p 1 = nI b1 := by rw [rd_F (hFK p (by omega))]; exact hV.1.2
    simp only [e27_26, e27_27, e27_28, e27_31, e27_32, e27_33, e27_36, mm_pu_n, mm_pu_s, va_rf_s, mm_w8_0, mm_w8_1, mm_w8_2, mm_w8_3, mm_w8_4, mm_c1_n, mm_c1_i, mm_c1_a, mm_ct_a, mm_ct_i, true_and, and_true, and_self, eq_self, if_true, if_false, ite_true, ite_false, bI_t, bI_z, bI_nz, bI_01, true_or, or_true, reduceCtorEq, false_or, or_false, decide_eq_false_iff_not, decide_eq_true_eq, ite_not, s0, hK1, nI_1]
    refine hq _ r' sg' hr hS ⟨⟨by omega, by rw [rd_u, hfin.1]⟩, fun k hk => ?_⟩ ((hF.l hlt hFK).u)
    rw [vc_p (by omega)]
    have hk1 : k ≤ b1 := by omega
    rw [← hfin.2 k hk1]
    by_cases c : k = b1
    · subst c
      rw [if_pos rfl, hK, dl_tk]
      congr 1
      exact vc_eq (fun q h1 h2 => hF q (by omega))
    · rw [if_neg c]
      have hkl := (hp k (by omega)).1
      have hne : sg' k ≠ sg' b1 := fun z => c (hi k b1 (by omega) hb z)
      rw [vc_F (a := p + 2 + 9 * sg' b1) (by unfold dj; omega) hFK]
      exact hV.2 k (by omega)
  obtain ⟨s0, p0, s1, hl, hp, hi⟩ := id h
  simp only [e27_0, e27_1, e27_4, e27_6, e27_9, e27_10, mm_pu_n, mm_pu_s, va_rf_s, mm_w8_0, mm_w8_1, mm_w8_2, mm_w8_3, mm_w8_4, mm_c1_n, mm_c1_i, mm_c1_a, mm_ct_a, mm_ct_i, true_and, and_true, and_self, eq_self, if_true, if_false, ite_true, ite_false, bI_t, bI_z, bI_nz, bI_01, true_or, or_true, reduceCtorEq, false_or, or_false, decide_eq_false_iff_not, decide_eq_true_eq, ite_not, s0, hv.1.2]
  by_cases c : bn = 8
  · rw [if_neg (by rw [c]; decide)]
    refine t_dropOldest h (fun r' hr hS => ?_)
    rw [mm_pu_n]
    refine key r' (rot sg) _ 7 (fun k => B (k + 1)) (by decide) hr hS ⟨⟨by decide, rd_u⟩, fun k hk => ?_⟩ pa_F.rf.u ⟨by unfold b_n; rw [if_pos c], fun k hk => ?_⟩
    · have hkl := (hp (k + 1) (by omega)).1
      rw [vc_p (by omega)]
      unfold rot
      rw [if_neg (by omega)]
      exact hv.2 (k + 1) (by omega)
    · unfold b_push
      rw [if_pos c]
  · have hb : bn < 8 := by have := hv.1.1; omega
    rw [if_pos (by rw [show (8 : Int32) = nI 8 from by decide]; exact nI_lt hb (by decide))]
    refine key r sg I bn B hb rP.rf h hv pa_F.rf ⟨by unfold b_n; rw [if_neg c], fun k hk => ?_⟩
    unfold b_push
    rw [if_neg c]
theorem t_bringBack (h : pa_S r p sg) (hv : pa_V I p sg (bn + 1) B) (ha : ln_S r a) (hd : a + 9 ≤ p ∨ p + 74 ≤ a) (hq : ∀ J, dl (vc J a) = B bn → pa_V J p sg bn B → (∀ q, q ≠ p → (q < a ∨ a + 9 ≤ q) → J q = I q) → Q none J r) : mm_E 29 0 [some (.ref p), some (.ref a)] [] I r Q := by
  obtain ⟨s0, p0, s1, hl, hp, hi⟩ := id h
  have hb : bn < 8 := by have := hv.1.1; omega
  have hla : ln_S r (p + 2 + 9 * sg bn) := hl _ (hp bn hb).1
  have hlt := (hp bn hb).1
  have hdj : dj a (p + 2 + 9 * sg bn) := by unfold dj; omega
  have hr1 : mm_rd (mm_uI I p 1 (nI bn)) p 1 = nI bn := rd_u
  simp only [e29_0, e29_1, e29_4, e29_7, e29_8, e29_9, e29_12, e29_13, e29_14, e29_17, e29_18, e29_19, e29_22, e29_23, e29_26, e29_27, e29_30, mm_pu_n, mm_pu_s, va_rf_s, mm_w8_0, mm_w8_1, mm_w8_2, mm_w8_3, mm_w8_4, mm_c1_n, mm_c1_i, mm_c1_a, mm_ct_a, mm_ct_i, true_and, and_true, and_self, eq_self, if_true, if_false, ite_true, ite_false, bI_t, bI_z, bI_nz, bI_01, true_or, or_true, reduceCtorEq, false_or, or_false, decide_eq_false_iff_not, decide_eq_true_eq, ite_not, s0, hv.1.2, nI_nle (show 0 < bn + 1 by omega) (show bn + 1 < 2 ^ 31 by omega), nI_pred, p0, hr1, aa_4 s1, in8 hb, cl8 hb, (hp bn hb).2, ha.s0]
  refine t_takeFrom ha hla hdj (fun K hK hFK => ?_)
  simp only [mm_pu_n, e29_30]
  have hK1 : mm_rd K p 1 = nI bn := by rw [rd_F (hFK p (by omega))]; exact hr1
  refine hq K ?_ ⟨⟨by omega, hK1⟩, fun k hk => ?_⟩ (fun q h1 h2 => by rw [hFK q h2, mu_n h1])
  · rw [hK, dl_tk, vc_p (by omega)]
    exact hv.2 bn (by omega)
  · have hkl := (hp k (by omega)).1
    rw [vc_F (a := a) (by unfold dj; omega) hFK, vc_p (by omega)]
    exact hv.2 k (by omega)
theorem t_pastFrom {p2 : Nat} {sg2 : Nat → Nat} (h : pa_S r p sg) (h2 : pa_S r p2 sg2) (hv : pa_V I p2 sg2 bn B) (hd : p + 74 ≤ p2 ∨ p2 + 74 ≤ p) (hq : ∀ J, pa_V J p sg bn B → pa_F p I J → Q none J r) : mm_E 30 0 [some (.ref p), some (.ref p2), none] [] I r Q := by
  obtain ⟨s0, p0, s1, hl, hp, hi⟩ := id h
  obtain ⟨t0, q0, t1, gl, gp, gi⟩ := id h2
  have loop : ∀ d k J, k + d = 8 → mm_rd J p 1 = nI bn → (∀ i, i < k → dl (vc J (p + 2 + 9 * sg i)) = dl (vc I (p2 + 2 + 9 * sg2 i))) → pa_F p I J → mm_E 30 10 [some (.ref p), some (.ref p2), some (.int (nI k))] [] J r Q := by
    intro d
    induction d with
    | zero =>
      intro k J hk h1 hJ hF
      have : k = 8 := by omega
      subst this
      rw [e30_10]
      simp only [e30_11, e30_13, e30_37, mm_pu_n, mm_pu_s, va_rf_s, mm_w8_0, mm_w8_1, mm_w8_2, mm_w8_3, mm_w8_4, mm_c1_n, mm_c1_i, mm_c1_a, mm_ct_a, mm_ct_i, true_and, and_true, and_self, eq_self, if_true, if_false, ite_true, ite_false, bI_t, bI_z, bI_nz, bI_01, true_or, or_true, reduceCtorEq, false_or, or_false, decide_eq_false_iff_not, decide_eq_true_eq, ite_not, show (8 : Int32) ≤ nI 8 by decide]
      refine hq J ⟨⟨hv.1.1, h1⟩, fun i hi => ?_⟩ hF
      have := hv.1.1
      rw [hJ i (by omega)]
      exact hv.2 i hi
    | succ d ih =>
      intro k J hk h1 hJ hF
      have hk8 : k < 8 := by omega
      have l1 := (hp k hk8).1
      have l2 := (gp k hk8).1
      rw [e30_10]
      simp only [e30_11, e30_13, e30_16, e30_17, e30_20, e30_21, e30_22, e30_23, e30_26, e30_27, e30_28, mm_pu_n, mm_pu_s, va_rf_s, mm_w8_0, mm_w8_1, mm_w8_2, mm_w8_3, mm_w8_4, mm_c1_n, mm_c1_i, mm_c1_a, mm_ct_a, mm_ct_i, true_and, and_true, and_self, eq_self, if_true, if_false, ite_true, ite_false, bI_t, bI_z, bI_nz, bI_01, true_or, or_true, reduceCtorEq, false_or, or_false, decide_eq_false_iff_not, decide_eq_true_eq, ite_not, show ¬ (8 : Int32) ≤ nI k from nle8 hk8 (Nat.le_refl 8), s0, p0, t0, q0, aa_4 s1, aa_4 t1, in8 hk8, cl8 hk8, (hp k hk8).2, (gp k hk8).2, (hl _ l1).s0]
      refine t_takeFrom (hl _ l1) (gl _ l2) (by unfold dj; omega) (fun K hK hFK => ?_)
      simp only [mm_pu_n, e30_31, e30_34, mm_c1_a, true_and, nI_1]
      refine ih (k + 1) K (by omega) (by rw [rd_F (hFK p (by omega))]; exact h1) (fun i hi2 => ?_) (hF.l l1 hFK)
      by_cases c : i = k
      · subst c
        rw [hK, dl_tk]
        congr 1
        exact vc_eq (fun q h1 h2 => hF q (by omega))
      · have li := (hp i (by omega)).1
        have hne : sg i ≠ sg k := fun z => c (hi i k (by omega) hk8 z)
        rw [vc_F (a := p + 2 + 9 * sg k) (by unfold dj; omega) hFK]
        exact hJ i (by omega)
  simp only [e30_0, e30_1, e30_2, e30_5, e30_8, e30_9, mm_pu_n, mm_pu_s, va_rf_s, mm_w8_0, mm_w8_1, mm_w8_2, mm_w8_3, mm_w8_4, mm_c1_n, mm_c1_i, mm_c1_a, mm_ct_a, mm_ct_i, true_and, and_true, and_self, eq_self, if_true, if_false, ite_true, ite_false, bI_t, bI_z, bI_nz, bI_01, true_or, or_true, reduceCtorEq, false_or, or_false, decide_eq_false_iff_not, decide_eq_true_eq, ite_not, s0, t0, hv.1.2]
  exact loop 8 0 _ (by omega) rd_u (fun i hi => absurd hi (by omega)) pa_F.rf.u
end
