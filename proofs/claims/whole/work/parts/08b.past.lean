/-- the shape of a Past at p: its row at p + 1 names, in the order sg, the eight lanes from p + 2 on -/
def pa_S (r : mm_R) (p : Nat) (sg : Nat → Nat) : Prop := mm_S r p = (1, 2) ∧ mm_P r p 0 = some (p + 1) ∧ mm_S r (p + 1) = (4, 8) ∧ (∀ k, k < 8 → ln_S r (p + 2 + 9 * k)) ∧ (∀ k, k < 8 → sg k < 8 ∧ mm_P r (p + 1) k = some (p + 2 + 9 * sg k)) ∧ ∀ i j, i < 8 → j < 8 → sg i = sg j → i = j
/-- all as it was but for the row at p + 1 of references -/
def rP (p : Nat) (r r' : mm_R) : Prop := mm_G r' = mm_G r ∧ (∀ a, a ≠ p + 1 → mm_P r' a = mm_P r a) ∧ mm_S r' = mm_S r ∧ mm_t r' = mm_t r ∧ mm_n r' = mm_n r
theorem rP.rf {p : Nat} {r : mm_R} : rP p r r := ⟨rfl, fun _ _ => rfl, rfl, rfl, rfl⟩
theorem rP.u {p : Nat} {r r' : mm_R} {k : Nat} {v : Option Nat} (h : rP p r r') : rP p r (mm_uP r' (p + 1) k v) := ⟨h.1, fun a ha => by
  rw [← h.2.1 a ha]
  show (if a = p + 1 then _ else _) = _
  rw [if_neg ha]
  rfl, h.2.2.1, h.2.2.2.1, h.2.2.2.2⟩
theorem ln_S_P {r r' : mm_R} {a : Nat} (hS : mm_S r' = mm_S r) (hP : mm_P r' a = mm_P r a) (h : ln_S r a) : ln_S r' a := by
  unfold ln_S at h ⊢
  rw [hS, hP]
  exact h
theorem uP_at {r : mm_R} {a k : Nat} {v : Option Nat} (i : Nat) : mm_P (mm_uP r a k v) a i = if i = k then v else mm_P r a i := by
  show (if a = a then va_up (r.2.1 a) k v else r.2.1 a) i = _
  rw [if_pos rfl]
  rfl
theorem aa_4 {r : mm_R} {a n : Nat} (h : mm_S r a = (4, n)) (x : Int32) : (((mm_S r a).1 = 4 ∨ (mm_S r a).1 = 5) ∧ vp_in x (mm_S r a).2) = vp_in x n := by rw [h]; simp
theorem aa_5 {r : mm_R} {a n : Nat} (h : mm_S r a = (5, n)) (x : Int32) : (((mm_S r a).1 = 4 ∨ (mm_S r a).1 = 5) ∧ vp_in x (mm_S r a).2) = vp_in x n := by rw [h]; simp
theorem as_4 {r : mm_R} {a n b : Nat} (h : mm_S r a = (4, n)) (hb : mm_S r b = (1, 0)) (x : Int32) : (((mm_S r a).1 = 4 ∧ mm_S r b = (1, 0) ∨ (mm_S r a).1 = 5 ∧ mm_S r b = (1, 3)) ∧ vp_in x (mm_S r a).2) = vp_in x n := by rw [h, hb]; simp
theorem in8 {k : Nat} (h : k < 8) : vp_in (nI k) 8 := vp_in_nI h (by decide)
theorem cl8 {k : Nat} (h : k < 8) : (nI k).toNatClampNeg = k := nI_clamp (by omega)
theorem nle8 {k n : Nat} (h : k < n) (hn : n ≤ 8) : ¬ nI n ≤ nI k := nI_ge h (by omega)
/-- what a Past holds: bn lanes, the day rows of the k-th B k -/
def pa_V (I : mm_I) (p : Nat) (sg : Nat → Nat) (bn : Nat) (B : Nat → mm_I) : Prop := (bn ≤ 8 ∧ mm_rd I p 1 = nI bn) ∧ ∀ k, k < bn → dl (vc I (p + 2 + 9 * sg k)) = B k
/-- the cells of a Past -/
def pa_F (p : Nat) (I J : mm_I) : Prop := ∀ q, (q < p ∨ p + 74 ≤ q) → J q = I q
theorem pa_F.rf {p : Nat} {I : mm_I} : pa_F p I I := fun _ _ => rfl
theorem pa_F.tr {p : Nat} {I J K : mm_I} (h1 : pa_F p I J) (h2 : pa_F p J K) : pa_F p I K := fun q hq => (h2 q hq).trans (h1 q hq)
theorem pa_F.u {p : Nat} {I J : mm_I} {i : Nat} {x : Int32} (h : pa_F p I J) : pa_F p I (mm_uI J p i x) := fun q hq => by rw [mu_n (by omega)]; exact h q hq
theorem pa_F.l {p k : Nat} {I J K : mm_I} (h : pa_F p I J) (hk : k < 8) (hF : ln_F (p + 2 + 9 * k) J K) : pa_F p I K := fun q hq => by rw [hF q (by omega)]; exact h q hq
def rot (sg : Nat → Nat) (k : Nat) : Nat := if k = 7 then sg 0 else sg (k + 1)
section
variable {r : mm_R} {p : Nat} {sg : Nat → Nat} {I : mm_I} {Q : Option Value → mm_I → mm_R → Prop}
theorem t_forget (h : mm_S r p = (1, 2)) : mm_E 26 0 [some (.ref p)] [] I r Q ↔ Q none (mm_uI I p 1 0) r := by
  simp only [e26_0, e26_1, e26_2, e26_5, mm_pu_n, mm_pu_s, va_rf_s, mm_w8_0, mm_w8_1, mm_w8_2, mm_w8_3, mm_w8_4, mm_c1_n, mm_c1_i, mm_c1_a, mm_ct_a, mm_ct_i, true_and, and_true, and_self, eq_self, if_true, if_false, ite_true, ite_false, bI_t, bI_z, bI_nz, bI_01, true_or, or_true, reduceCtorEq, false_or, or_false, decide_eq_false_iff_not, decide_eq_true_eq, ite_not, h]
theorem t_dropOldest (h : pa_S r p sg) (hq : ∀ r', rP p r r' → pa_S r' p (rot sg) → Q none (mm_uI I p 1 7) r') : mm_E 28 0 [some (.ref p), none, none] [] I r Q := by
  obtain ⟨s0, p0, s1, hl, hp, hi⟩ := h
  have loop : ∀ d k r', k + d = 8 → 1 ≤ k → rP p r r' → (∀ i, mm_P r' (p + 1) i = if i + 1 < k then mm_P r (p + 1) (i + 1) else mm_P r (p + 1) i) → mm_E 28 9 [some (.ref p), some (.ref (p + 2 + 9 * sg 0)), some (.int (nI k))] [] I r' Q := by
    intro d
    induction d with
    | zero =>
      intro k r' hk hk1 hr hv
      have : k = 8 := by omega
      subst this
      have s0' : mm_S r' p = (1, 2) := by rw [hr.2.2.1]; exact s0
      have p0' : mm_P r' p 0 = some (p + 1) := by rw [hr.2.1 p (by omega)]; exact p0
      have s1' : mm_S r' (p + 1) = (4, 8) := by rw [hr.2.2.1]; exact s1
      have sl : mm_S r' (p + 2 + 9 * sg 0) = (1, 0) := by rw [hr.2.2.1]; exact (hl _ (hp 0 (by decide)).1).s0
      rw [e28_9]
      simp only [e28_10, e28_12, e28_35, e28_36, e28_39, e28_41, e28_42, mm_pu_n, mm_pu_s, va_rf_s, mm_w8_0, mm_w8_1, mm_w8_2, mm_w8_3, mm_w8_4, mm_c1_n, mm_c1_i, mm_c1_a, mm_ct_a, mm_ct_i, true_and, and_true, and_self, eq_self, if_true, if_false, ite_true, ite_false, bI_t, bI_z, bI_nz, bI_01, true_or, or_true, reduceCtorEq, false_or, or_false, decide_eq_false_iff_not, decide_eq_true_eq, ite_not, show (8 : Int32) ≤ nI 8 by decide, s0', p0', as_4 s1' sl, show vp_in 7 8 from by unfold vp_in; decide, show (7 : Int32).toNatClampNeg = 7 by decide]
      have s0'' : mm_S (mm_uP r' (p + 1) 7 (some (p + 2 + 9 * sg 0))) p = (1, 2) := s0'
      simp only [e28_43, e28_44, e28_46, e28_49, mm_pu_n, mm_pu_s, va_rf_s, mm_w8_0, mm_w8_1, mm_w8_2, mm_w8_3, mm_w8_4, mm_c1_n, mm_c1_i, mm_c1_a, mm_ct_a, mm_ct_i, true_and, and_true, and_self, eq_self, if_true, if_false, ite_true, ite_false, bI_t, bI_z, bI_nz, bI_01, true_or, or_true, reduceCtorEq, false_or, or_false, decide_eq_false_iff_not, decide_eq_true_eq, ite_not, s0'']
      refine hq _ hr.u ⟨s0'', ?_, s1', fun k hk => ?_, fun k hk => ?_, fun i j hi1 hj hij => ?_⟩
      · rw [hr.u.2.1 p (by omega)]; exact p0
      · exact ln_S_P hr.u.2.2.1 (hr.u.2.1 _ (by omega)) (hl k hk)
      · rw [uP_at]
        unfold rot
        by_cases c : k = 7
        · rw [if_pos c, if_pos c]; exact ⟨(hp 0 (by decide)).1, rfl⟩
        · rw [if_neg c, if_neg c, hv, if_pos (by omega)]
          exact hp (k + 1) (by omega)
      · unfold rot at hij
        by_cases c : i = 7
        · rw [if_pos c] at hij
          by_cases d : j = 7
          · omega
          · rw [if_neg d] at hij
            have := hi 0 (j + 1) (by decide) (by omega) hij
            omega
        · rw [if_neg c] at hij
          by_cases d : j = 7
          · rw [if_pos d] at hij
            have := hi (i + 1) 0 (by omega) (by decide) hij
            omega
          · rw [if_neg d] at hij
            have := hi (i + 1) (j + 1) (by omega) (by omega) hij
            omega
    | succ d ih =>
      intro k r' hk hk1 hr hv
      have hk8 : k < 8 := by omega
      have s0' : mm_S r' p = (1, 2) := by rw [hr.2.2.1]; exact s0
      have p0' : mm_P r' p 0 = some (p + 1) := by rw [hr.2.1 p (by omega)]; exact p0
      have s1' : mm_S r' (p + 1) = (4, 8) := by rw [hr.2.2.1]; exact s1
      have sl : mm_S r' (p + 2 + 9 * sg k) = (1, 0) := by rw [hr.2.2.1]; exact (hl _ (hp k hk8).1).s0
      have pk : mm_P r' (p + 1) k = some (p + 2 + 9 * sg k) := by rw [hv, if_neg (by omega)]; exact (hp k hk8).2
      obtain ⟨k', rfl⟩ : ∃ k', k = k' + 1 := ⟨k - 1, by omega⟩
      rw [e28_9]
      simp only [e28_10, e28_12, e28_15, e28_16, e28_19, e28_20, e28_21, e28_22, e28_23, e28_26, e28_27, e28_28, mm_pu_n, mm_pu_s, va_rf_s, mm_w8_0, mm_w8_1, mm_w8_2, mm_w8_3, mm_w8_4, mm_c1_n, mm_c1_i, mm_c1_a, mm_ct_a, mm_ct_i, true_and, and_true, and_self, eq_self, if_true, if_false, ite_true, ite_false, bI_t, bI_z, bI_nz, bI_01, true_or, or_true, reduceCtorEq, false_or, or_false, decide_eq_false_iff_not, decide_eq_true_eq, ite_not, show ¬ (8 : Int32) ≤ nI (k' + 1) from nle8 hk8 (Nat.le_refl 8), s0', p0', aa_4 s1', in8 hk8, cl8 hk8, pk, nI_pred, as_4 s1' sl, in8 (show k' < 8 by omega), cl8 (show k' < 8 by omega)]
      simp only [e28_29, e28_32, mm_pu_n, mm_pu_s, va_rf_s, mm_w8_0, mm_w8_1, mm_w8_2, mm_w8_3, mm_w8_4, mm_c1_n, mm_c1_i, mm_c1_a, mm_ct_a, mm_ct_i, true_and, and_true, and_self, eq_self, if_true, if_false, ite_true, ite_false, bI_t, bI_z, bI_nz, bI_01, true_or, or_true, reduceCtorEq, false_or, or_false, decide_eq_false_iff_not, decide_eq_true_eq, ite_not, nI_1]
      refine ih (k' + 1 + 1) _ (by omega) (by omega) hr.u (fun i => ?_)
      rw [uP_at]
      by_cases c : i = k'
      · subst c
        rw [if_pos rfl, if_pos (by omega)]
        exact (hp (i + 1) hk8).2.symm
      · rw [if_neg c, hv]
        by_cases d : i + 1 < k' + 1
        · rw [if_pos d, if_pos (by omega)]
        · rw [if_neg d, if_neg (by omega)]
  simp only [e28_0, e28_1, e28_4, e28_5, e28_6, e28_7, e28_8, mm_pu_n, mm_pu_s, va_rf_s, mm_w8_0, mm_w8_1, mm_w8_2, mm_w8_3, mm_w8_4, mm_c1_n, mm_c1_i, mm_c1_a, mm_ct_a, mm_ct_i, true_and, and_true, and_self, eq_self, if_true, if_false, ite_true, ite_false, bI_t, bI_z, bI_nz, bI_01, true_or, or_true, reduceCtorEq, false_or, or_false, decide_eq_false_iff_not, decide_eq_true_eq, ite_not, s0, p0, aa_4 s1, show vp_in 0 8 from by unfold vp_in; decide, show (0 : Int32).toNatClampNeg = 0 by decide, (hp 0 (by decide)).2]
  rw [show (1 : Int32) = nI 1 from by decide]
  exact loop 7 1 r (by omega) (by omega) rP.rf (fun i => by rw [if_neg (by omega)])
end
