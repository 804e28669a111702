/-- the first of k, k + 1 .. at which it holds -/
def p_ff (P : Nat → Bool) : Nat → Nat → Int32
  | 0, _ => -4
  | d + 1, k => if P k = true then nI k else p_ff P d (k + 1)
theorem p_ff_t {P : Nat → Bool} {d k : Nat} (h : P k = true) : p_ff P (d + 1) k = nI k := by
  show (if P k = true then nI k else p_ff P d (k + 1)) = nI k
  rw [if_pos h]
theorem p_ff_f {P : Nat → Bool} {d k : Nat} (h : ¬ P k = true) : p_ff P (d + 1) k = p_ff P d (k + 1) := by
  show (if P k = true then nI k else p_ff P d (k + 1)) = p_ff P d (k + 1)
  rw [if_neg h]
/-- the first of k, k - 1 .. 0 -/
def p_fd (P : Nat → Bool) : Nat → Int32
  | 0 => -4
  | k + 1 => if P k = true then nI k else p_fd P k
theorem p_fd_t {P : Nat → Bool} {k : Nat} (h : P k = true) : p_fd P (k + 1) = nI k := by
  show (if P k = true then nI k else p_fd P k) = nI k
  rw [if_pos h]
theorem p_fd_f {P : Nat → Bool} {k : Nat} (h : ¬ P k = true) : p_fd P (k + 1) = p_fd P k := by
  show (if P k = true then nI k else p_fd P k) = p_fd P k
  rw [if_neg h]
theorem z60 {k : Nat} (h : k ≤ 60) : ¬ ((60 : Int32) < nI k) := by
  rw [show (60 : Int32) = nI 60 from by decide]
  exact fun c => absurd ((nI_ltI (by decide) (by omega)).mp c) (by omega)
theorem z20 {k : Nat} (h : k ≤ 20) : ¬ ((20 : Int32) < nI k) := by
  rw [show (20 : Int32) = nI 20 from by decide]
  exact fun c => absurd ((nI_ltI (by decide) (by omega)).mp c) (by omega)
theorem nI_m1 (k : Nat) : nI (k + 1) + -1 = nI k := by
  rw [← nI_1, Int32.add_assoc, show (1 : Int32) + -1 = 0 from by decide, Int32.add_zero]
theorem nI_nn {k : Nat} (h : k < 2 ^ 31) : ¬ (nI k < 0) := fun c => Int32.not_lt.mpr (nI_pos' h) c
def k_lost (L : mm_I) (n ng p k : Nat) : Bool := decide (3 ≤ p_nights L n ng k 3 p)
def k_free (L : mm_I) (n ng p k : Nat) : Bool := decide (p_nights L n ng k 1 p = 0)
def k_keep (L : mm_I) (n ng p t k : Nat) : Bool := decide (¬ 3 ≤ p_nights (mm_uI L 2 p (nI k)) n ng t 3 p)
def k_solv (L : mm_I) (n ng p t k : Nat) : Bool := decide (p_nights (mm_uI L 0 2 (nI k)) n ng t 1 p ≤ L 1 p)
theorem s_lost {L Lr : mm_I} {n ng p : Nat} (h : ag (x6 n ng) L Lr) (hG : ln_G L n ng) (hp : p < n) : k_lost L n ng p = k_lost Lr n ng p := funext fun k => by
  unfold k_lost
  rw [s_nights h hG k 3 p (Or.inl (wc_h (by decide) hp))]
theorem s_free {L Lr : mm_I} {n ng p : Nat} (h : ag (x6 n ng) L Lr) (hG : ln_G L n ng) (hp : p < n) : k_free L n ng p = k_free Lr n ng p := funext fun k => by
  unfold k_free
  rw [s_nights h hG k 1 p (Or.inl (wc_h (by decide) hp))]
theorem s_keep {L Lr : mm_I} {n ng p t : Nat} (h : ag (x6 n ng) L Lr) (hG : gl L n ng) (hp : p < n) : ∀ k, k ≤ 20 → k_keep L n ng p t k = k_keep Lr n ng p t k := fun k hk => by
  have hgk : gl (mm_uI L 2 p (nI k)) n ng := gl_h hG (Or.inr (Or.inl ⟨rfl, k, by omega, rfl⟩))
  unfold k_keep
  rw [s_nights (h.u 2 p rfl) hgk.1 t 3 p (Or.inl (wc_h (by decide) hp))]
theorem s_solv {L Lr : mm_I} {n ng p t : Nat} (h : ag (x6 n ng) L Lr) (hG : gl L n ng) (hp : p < n) : ∀ k, k ≤ 20 → k_solv L n ng p t k = k_solv Lr n ng p t k := fun k hk => by
  have hgk : gl (mm_uI L 0 2 (nI k)) n ng := gl_0 hG (Or.inl rfl) (fun _ => ⟨k, hk, rfl⟩) (fun z => absurd z (by decide))
  unfold k_solv
  rw [s_nights (h.u 0 2 rfl) hgk.1 t 1 p (Or.inl (wc_h (by decide) hp)), h 1 p (Or.inl (wc_h (by decide) hp))]
theorem p_ff_c {P R : Nat → Bool} {N : Nat} (h : ∀ k, k ≤ N → P k = R k) : ∀ d k, k + d ≤ N + 1 → p_ff P d k = p_ff R d k := by
  intro d
  induction d with
  | zero => intro k _; rfl
  | succ d ih =>
    intro k hk
    show (if P k = true then nI k else p_ff P d (k + 1)) = (if R k = true then nI k else p_ff R d (k + 1))
    rw [h k (by omega), ih (k + 1) (by omega)]
theorem p_fd_c {P R : Nat → Bool} {N : Nat} (h : ∀ k, k ≤ N → P k = R k) : ∀ k, k ≤ N + 1 → p_fd P k = p_fd R k := by
  intro k
  induction k with
  | zero => intro _; rfl
  | succ k ih =>
    intro hk
    show (if P k = true then nI k else p_fd P k) = (if R k = true then nI k else p_fd R k)
    rw [h k (by omega), ih (by omega)]
section
variable {r : mm_R} {I : mm_I} {x m : Nat} {Q : Option Value → mm_I → mm_R → Prop}
theorem c_lost {L : mm_I} {n ng p : Nat} (hS : HS r x m) (hp : p < 6) (hG : ln_G L n ng) : ∀ d k J, k + d = 61 → ag (w6 n True) (vc J (x + 10)) (p_nights L n ng k) → fc I J x → (∀ K, fc I K x → Q (some (.int (p_ff (k_lost L n ng p) d k))) K r) → mm_E 69 26 [some (.ref x), some (.int (nI p)), some (.int (nI k))] [] J r Q := by
  obtain ⟨x0, x1, x2, -⟩ := id hS.2.1
  have l2 := hS.2.2.1.2.1
  intro d
  induction d with
  | zero =>
    intro k J hk _ hF hq
    have : k = 61 := by omega
    subst this
    rw [e69_26]
    simp only [e69_27, e69_29, e69_59, e69_61, mm_pu_n, mm_pu_s, va_rf_s, mm_w8_0, mm_w8_1, mm_w8_2, mm_w8_3, mm_w8_4, mm_c1_n, mm_c1_i, mm_c1_a, mm_ct_a, mm_ct_i, true_and, and_true, and_self, eq_self, if_true, if_false, ite_true, ite_false, bI_t, bI_z, bI_nz, bI_01, true_or, or_true, reduceCtorEq, false_or, or_false, decide_eq_false_iff_not, decide_eq_true_eq, ite_not, show ((60 : Int32) < nI 61) = True from eq_true (by decide)]
    exact hq J hF
  | succ d ih =>
    intro k J hk hJ hF hq
    rw [e69_26]
    simp only [e69_27, e69_29, e69_32, e69_33, e69_36, e69_37, e69_40, e69_43, e69_44, mm_pu_n, mm_pu_s, va_rf_s, mm_w8_0, mm_w8_1, mm_w8_2, mm_w8_3, mm_w8_4, mm_c1_n, mm_c1_i, mm_c1_a, mm_ct_a, mm_ct_i, true_and, and_true, and_self, eq_self, if_true, if_false, ite_true, ite_false, bI_t, bI_z, bI_nz, bI_01, true_or, or_true, reduceCtorEq, false_or, or_false, decide_eq_false_iff_not, decide_eq_true_eq, ite_not, x0, x2, l2.s0, l2.p6, l2.p7, l2.p8, l2.p9, l2.p10, l2.p11, l2.p12, l2.p13, l2.i1, l2.i2, l2.i3, l2.i4, l2.i5, l2.i6, l2.i7, l2.i8, z60 (show k ≤ 60 by omega), in6 hp, cl_nI hp, rd_k (a := x + 10) (k := 1) ⟨by decide, hp⟩, t_isLost l2 hp, hJ 3 p (Or.inl (by decide)), hJ 1 p (Or.inl (by decide))]
    by_cases c : k_lost L n ng p k = true
    · rw [if_pos (of_decide_eq_true c)]
      rw [p_ff_t c] at hq
      exact hq J hF
    · rw [if_neg (fun z => c (decide_eq_true z))]
      simp only [e69_45, e69_46, e69_49, e69_50, mm_pu_n, mm_pu_s, va_rf_s, mm_w8_0, mm_w8_1, mm_w8_2, mm_w8_3, mm_w8_4, mm_c1_n, mm_c1_i, mm_c1_a, mm_ct_a, mm_ct_i, true_and, and_true, and_self, eq_self, if_true, if_false, ite_true, ite_false, bI_t, bI_z, bI_nz, bI_01, true_or, or_true, reduceCtorEq, false_or, or_false, decide_eq_false_iff_not, decide_eq_true_eq, ite_not, x0, x2, l2.s0]
      refine f_night hS hJ (p_nights_G hG k) 0 (fun K hK hFK => ?_)
      simp only [mm_pu_n, e69_53, e69_56, mm_pu_n, mm_pu_s, va_rf_s, mm_w8_0, mm_w8_1, mm_w8_2, mm_w8_3, mm_w8_4, mm_c1_n, mm_c1_i, mm_c1_a, mm_ct_a, mm_ct_i, true_and, and_true, and_self, eq_self, if_true, if_false, ite_true, ite_false, bI_t, bI_z, bI_nz, bI_01, true_or, or_true, reduceCtorEq, false_or, or_false, decide_eq_false_iff_not, decide_eq_true_eq, ite_not, nI_1]
      rw [p_ff_f c] at hq
      exact ih (k + 1) K (by omega) (w7_w6 hK) (hF.tr hFK) hq
theorem c_free {L : mm_I} {n ng p : Nat} (hS : HS r x m) (hp : p < 6) (hG : ln_G L n ng) : ∀ d k J, k + d = 61 → ag (w6 n True) (vc J (x + 10)) (p_nights L n ng k) → fc I J x → (∀ K, fc I K x → Q (some (.int (p_ff (k_free L n ng p) d k))) K r) → mm_E 70 26 [some (.ref x), some (.int (nI p)), some (.int (nI k))] [] J r Q := by
  obtain ⟨x0, x1, x2, -⟩ := id hS.2.1
  have l2 := hS.2.2.1.2.1
  intro d
  induction d with
  | zero =>
    intro k J hk _ hF hq
    have : k = 61 := by omega
    subst this
    rw [e70_26]
    simp only [e70_27, e70_29, e70_60, e70_62, mm_pu_n, mm_pu_s, va_rf_s, mm_w8_0, mm_w8_1, mm_w8_2, mm_w8_3, mm_w8_4, mm_c1_n, mm_c1_i, mm_c1_a, mm_ct_a, mm_ct_i, true_and, and_true, and_self, eq_self, if_true, if_false, ite_true, ite_false, bI_t, bI_z, bI_nz, bI_01, true_or, or_true, reduceCtorEq, false_or, or_false, decide_eq_false_iff_not, decide_eq_true_eq, ite_not, show ((60 : Int32) < nI 61) = True from eq_true (by decide)]
    exact hq J hF
  | succ d ih =>
    intro k J hk hJ hF hq
    rw [e70_26]
    simp only [e70_27, e70_29, e70_32, e70_33, e70_36, e70_39, e70_40, e70_41, e70_44, e70_45, mm_pu_n, mm_pu_s, va_rf_s, mm_w8_0, mm_w8_1, mm_w8_2, mm_w8_3, mm_w8_4, mm_c1_n, mm_c1_i, mm_c1_a, mm_ct_a, mm_ct_i, true_and, and_true, and_self, eq_self, if_true, if_false, ite_true, ite_false, bI_t, bI_z, bI_nz, bI_01, true_or, or_true, reduceCtorEq, false_or, or_false, decide_eq_false_iff_not, decide_eq_true_eq, ite_not, x0, x2, l2.s0, l2.p6, l2.p7, l2.p8, l2.p9, l2.p10, l2.p11, l2.p12, l2.p13, l2.i1, l2.i2, l2.i3, l2.i4, l2.i5, l2.i6, l2.i7, l2.i8, z60 (show k ≤ 60 by omega), in6 hp, cl_nI hp, rd_k (a := x + 10) (k := 1) ⟨by decide, hp⟩, t_isLost l2 hp, hJ 3 p (Or.inl (by decide)), hJ 1 p (Or.inl (by decide))]
    by_cases c : k_free L n ng p k = true
    · rw [if_pos (of_decide_eq_true c)]
      rw [p_ff_t c] at hq
      exact hq J hF
    · rw [if_neg (fun z => c (decide_eq_true z))]
      simp only [e70_46, e70_47, e70_50, e70_51, mm_pu_n, mm_pu_s, va_rf_s, mm_w8_0, mm_w8_1, mm_w8_2, mm_w8_3, mm_w8_4, mm_c1_n, mm_c1_i, mm_c1_a, mm_ct_a, mm_ct_i, true_and, and_true, and_self, eq_self, if_true, if_false, ite_true, ite_false, bI_t, bI_z, bI_nz, bI_01, true_or, or_true, reduceCtorEq, false_or, or_false, decide_eq_false_iff_not, decide_eq_true_eq, ite_not, x0, x2, l2.s0]
      refine f_night hS hJ (p_nights_G hG k) 0 (fun K hK hFK => ?_)
      simp only [mm_pu_n, e70_54, e70_57, mm_pu_n, mm_pu_s, va_rf_s, mm_w8_0, mm_w8_1, mm_w8_2, mm_w8_3, mm_w8_4, mm_c1_n, mm_c1_i, mm_c1_a, mm_ct_a, mm_ct_i, true_and, and_true, and_self, eq_self, if_true, if_false, ite_true, ite_false, bI_t, bI_z, bI_nz, bI_01, true_or, or_true, reduceCtorEq, false_or, or_false, decide_eq_false_iff_not, decide_eq_true_eq, ite_not, nI_1]
      rw [p_ff_f c] at hq
      exact ih (k + 1) K (by omega) (w7_w6 hK) (hF.tr hFK) hq
theorem m_lost {L : mm_I} {n ng p : Nat} (hml : ml_S r m) (hp : p < n) (hn : n ≤ 6) (hG : ln_G L n ng) (hR : ln_R L n ng) : ∀ d k J, k + d = 61 → ag (w6 n True) (vr J (m + 6) m) (p_nights L n ng k) → fm I J m → (∀ K, fm I K m → Q (some (.int (p_ff (k_lost L n ng p) d k))) K r) → mm_E 141 16 [some (.ref m), some (.int (nI p)), some (.int (nI k))] [] J r Q := by
  have hp6 : p < 6 := by omega
  intro d
  induction d with
  | zero =>
    intro k J hk _ hF hq
    have : k = 61 := by omega
    subst this
    rw [e141_16]
    simp only [e141_17, e141_19, e141_50, e141_52, mm_pu_n, mm_pu_s, va_rf_s, mm_w8_0, mm_w8_1, mm_w8_2, mm_w8_3, mm_w8_4, mm_c1_n, mm_c1_i, mm_c1_a, mm_ct_a, mm_ct_i, true_and, and_true, and_self, eq_self, if_true, if_false, ite_true, ite_false, bI_t, bI_z, bI_nz, bI_01, true_or, or_true, reduceCtorEq, false_or, or_false, decide_eq_false_iff_not, decide_eq_true_eq, ite_not, show ((60 : Int32) < nI 61) = True from eq_true (by decide)]
    exact hq J hF
  | succ d ih =>
    intro k J hk hJ hF hq
    rw [e141_16]
    simp only [e141_17, e141_19, e141_22, e141_23, e141_26, e141_27, e141_30, e141_33, e141_34, mm_pu_n, mm_pu_s, va_rf_s, mm_w8_0, mm_w8_1, mm_w8_2, mm_w8_3, mm_w8_4, mm_c1_n, mm_c1_i, mm_c1_a, mm_ct_a, mm_ct_i, true_and, and_true, and_self, eq_self, if_true, if_false, ite_true, ite_false, bI_t, bI_z, bI_nz, bI_01, true_or, or_true, reduceCtorEq, false_or, or_false, decide_eq_false_iff_not, decide_eq_true_eq, ite_not, hml.s0, hml.p7, hml.i5, hml.p8, hml.i6, k3, in2 (show 3 + p < 248 by omega), cl2 (show 3 + p < 248 by omega), r3 m hp6, z60 (show k ≤ 60 by omega), u_isLost m hml.i6 hp6, hJ 3 p (Or.inl (by decide)), hJ 1 p (Or.inl (by decide)), (pn_R hG hR k).lk hp]
    by_cases c : k_lost L n ng p k = true
    · rw [if_pos (of_decide_eq_true c)]
      rw [p_ff_t c] at hq
      exact hq J hF
    · rw [if_neg (fun z => c (decide_eq_true z))]
      simp only [e141_35, e141_36, e141_37, e141_40, e141_41, mm_pu_n, mm_pu_s, va_rf_s, mm_w8_0, mm_w8_1, mm_w8_2, mm_w8_3, mm_w8_4, mm_c1_n, mm_c1_i, mm_c1_a, mm_ct_a, mm_ct_i, true_and, and_true, and_self, eq_self, if_true, if_false, ite_true, ite_false, bI_t, bI_z, bI_nz, bI_01, true_or, or_true, reduceCtorEq, false_or, or_false, decide_eq_false_iff_not, decide_eq_true_eq, ite_not, hml.s0, hml.p7, hml.i5, hml.p8]
      refine g_night hml hJ (p_nights_G hG k) (pn_R hG hR k) 0 (fun K hK hFK => ?_)
      simp only [mm_pu_n, e141_44, e141_47, mm_pu_n, mm_pu_s, va_rf_s, mm_w8_0, mm_w8_1, mm_w8_2, mm_w8_3, mm_w8_4, mm_c1_n, mm_c1_i, mm_c1_a, mm_ct_a, mm_ct_i, true_and, and_true, and_self, eq_self, if_true, if_false, ite_true, ite_false, bI_t, bI_z, bI_nz, bI_01, true_or, or_true, reduceCtorEq, false_or, or_false, decide_eq_false_iff_not, decide_eq_true_eq, ite_not, nI_1]
      rw [p_ff_f c] at hq
      exact ih (k + 1) K (by omega) (w7_w6 hK) (hF.tr hFK) hq
theorem m_free {L : mm_I} {n ng p : Nat} (hml : ml_S r m) (hp : p < n) (hn : n ≤ 6) (hG : ln_G L n ng) (hR : ln_R L n ng) : ∀ d k J, k + d = 61 → ag (w6 n True) (vr J (m + 6) m) (p_nights L n ng k) → fm I J m → (∀ K, fm I K m → Q (some (.int (p_ff (k_free L n ng p) d k))) K r) → mm_E 142 16 [some (.ref m), some (.int (nI p)), some (.int (nI k))] [] J r Q := by
  have hp6 : p < 6 := by omega
  intro d
  induction d with
  | zero =>
    intro k J hk _ hF hq
    have : k = 61 := by omega
    subst this
    rw [e142_16]
    simp only [e142_17, e142_19, e142_50, e142_52, mm_pu_n, mm_pu_s, va_rf_s, mm_w8_0, mm_w8_1, mm_w8_2, mm_w8_3, mm_w8_4, mm_c1_n, mm_c1_i, mm_c1_a, mm_ct_a, mm_ct_i, true_and, and_true, and_self, eq_self, if_true, if_false, ite_true, ite_false, bI_t, bI_z, bI_nz, bI_01, true_or, or_true, reduceCtorEq, false_or, or_false, decide_eq_false_iff_not, decide_eq_true_eq, ite_not, show ((60 : Int32) < nI 61) = True from eq_true (by decide)]
    exact hq J hF
  | succ d ih =>
    intro k J hk hJ hF hq
    rw [e142_16]
    simp only [e142_17, e142_19, e142_22, e142_23, e142_26, e142_27, e142_28, e142_29, e142_30, e142_33, e142_34, mm_pu_n, mm_pu_s, va_rf_s, mm_w8_0, mm_w8_1, mm_w8_2, mm_w8_3, mm_w8_4, mm_c1_n, mm_c1_i, mm_c1_a, mm_ct_a, mm_ct_i, true_and, and_true, and_self, eq_self, if_true, if_false, ite_true, ite_false, bI_t, bI_z, bI_nz, bI_01, true_or, or_true, reduceCtorEq, false_or, or_false, decide_eq_false_iff_not, decide_eq_true_eq, ite_not, hml.s0, hml.p7, hml.i5, hml.p8, hml.i6, k3, in2 (show 3 + p < 248 by omega), cl2 (show 3 + p < 248 by omega), r3 m hp6, z60 (show k ≤ 60 by omega), u_isLost m hml.i6 hp6, hJ 3 p (Or.inl (by decide)), hJ 1 p (Or.inl (by decide)), (pn_R hG hR k).lk hp]
    by_cases c : k_free L n ng p k = true
    · rw [if_pos (of_decide_eq_true c)]
      rw [p_ff_t c] at hq
      exact hq J hF
    · rw [if_neg (fun z => c (decide_eq_true z))]
      simp only [e142_35, e142_36, e142_37, e142_40, e142_41, mm_pu_n, mm_pu_s, va_rf_s, mm_w8_0, mm_w8_1, mm_w8_2, mm_w8_3, mm_w8_4, mm_c1_n, mm_c1_i, mm_c1_a, mm_ct_a, mm_ct_i, true_and, and_true, and_self, eq_self, if_true, if_false, ite_true, ite_false, bI_t, bI_z, bI_nz, bI_01, true_or, or_true, reduceCtorEq, false_or, or_false, decide_eq_false_iff_not, decide_eq_true_eq, ite_not, hml.s0, hml.p7, hml.i5, hml.p8]
      refine g_night hml hJ (p_nights_G hG k) (pn_R hG hR k) 0 (fun K hK hFK => ?_)
      simp only [mm_pu_n, e142_44, e142_47, mm_pu_n, mm_pu_s, va_rf_s, mm_w8_0, mm_w8_1, mm_w8_2, mm_w8_3, mm_w8_4, mm_c1_n, mm_c1_i, mm_c1_a, mm_ct_a, mm_ct_i, true_and, and_true, and_self, eq_self, if_true, if_false, ite_true, ite_false, bI_t, bI_z, bI_nz, bI_01, true_or, or_true, reduceCtorEq, false_or, or_false, decide_eq_false_iff_not, decide_eq_true_eq, ite_not, nI_1]
      rw [p_ff_f c] at hq
      exact ih (k + 1) K (by omega) (w7_w6 hK) (hF.tr hFK) hq
theorem a_lost (h : ALL I r x m) (p : Int32) : pr 69 141 [some (.ref x), some (.int p), none] [some (.ref m), some (.int p), none] I r x m := by
  obtain ⟨hS, ⟨sg, L, bn, B, n, ng, Lr, Br, hg⟩, hG2, hG3, hG4⟩ := id h
  obtain ⟨hm, hx, ⟨l1, l2, l3, l4⟩, hip, hpt, htp, hsh, hml⟩ := id hS
  obtain ⟨x0, x1, x2, x3, x4, x5, x6, x7, x8⟩ := id hx
  obtain ⟨⟨hps, hL, hpv⟩, ⟨hR, hB⟩, ⟨⟨⟨hG, hRR, hdr, hnt⟩, hbk⟩, ⟨⟨hG', hRR', hdr', hnt'⟩, hbk'⟩, hsm, hsB⟩⟩ := id hg
  have hLL : dl L = L := by rw [← hL]; exact dl_dl _
  have hLr : dl Lr = Lr := by rw [← hR]; exact dl_dl _
  have hs6 := s_6 hsm hLL hLr
  have vL : ∀ q i, q < 7 → vc I (x + 1) q i = L q i := fun q i hq => by rw [← hL, dl_at hq]
  have vR : ∀ q i, q < 7 → vr I (m + 5) m q i = Lr q i := fun q i hq => by rw [← hR, dl_at hq]
  have vRh : ∀ {k : Nat}, k < n → ∀ q, 1 ≤ q ∧ q ≤ 3 → vr I (m + 5) m q k = L q k := fun hk q hq => (vR q _ (by omega)).trans (hsm q _ (wc_h hq hk)).symm
  have vRg : ∀ {k : Nat}, k < ng → ∀ q, 4 ≤ q ∧ q ≤ 6 → vr I (m + 5) m q k = L q k := fun hk q hq => (vR q _ (by omega)).trans (hsm q _ (wc_g hq hk)).symm
  obtain ⟨⟨hn, e0⟩, ⟨hng, e1⟩, hpl⟩ := id hG
  have f0 : vc I (x + 1) 0 0 = nI n := by rw [vL 0 0 (by decide)]; exact e0
  have f1 : vc I (x + 1) 0 1 = nI ng := by rw [vL 0 1 (by decide)]; exact e1
  have g0 : vr I (m + 5) m 0 0 = nI n := by rw [vR 0 0 (by decide)]; exact hG'.1.2
  have g1 : vr I (m + 5) m 0 1 = nI ng := by rw [vR 0 1 (by decide)]; exact hG'.2.1.2
  unfold pr
  cases hk1 : okh p n with
  | false =>
    simp only [e69_0, e69_1, e69_4, e69_5, e69_8, e69_11, e69_12, e141_0, e141_1, e141_2, e141_5, e141_8, e141_9, mm_pu_n, mm_pu_s, va_rf_s, mm_w8_0, mm_w8_1, mm_w8_2, mm_w8_3, mm_w8_4, mm_c1_n, mm_c1_i, mm_c1_a, mm_ct_a, mm_ct_i, true_and, and_true, and_self, eq_self, if_true, if_false, ite_true, ite_false, bI_t, bI_z, bI_nz, bI_01, true_or, or_true, reduceCtorEq, false_or, or_false, decide_eq_false_iff_not, decide_eq_true_eq, ite_not, x0, x1, x2, x3, x4, x5, x6, x7, x8, l1.s0, l1.p6, l1.p7, l1.p8, l1.p9, l1.p10, l1.p11, l1.p12, l1.p13, l1.i1, l1.i2, l1.i3, l1.i4, l1.i5, l1.i6, l1.i7, l1.i8, hml.s0, hml.p7, hml.i5, t_hasH l1 f0, u_isHouse hml hn g0, hk1, Bool.false_eq_true]
    exact fi_i _ h rfl rfl
  | true =>
    obtain ⟨k, hkn, rfl⟩ := okh_of hk1 hn
    have hk6 : k < 6 := by omega
    simp only [e69_0, e69_1, e69_4, e69_5, e69_8, e69_11, e69_12, e69_13, e69_14, e69_17, e69_18, e69_21, mm_pu_n, mm_pu_s, va_rf_s, mm_w8_0, mm_w8_1, mm_w8_2, mm_w8_3, mm_w8_4, mm_c1_n, mm_c1_i, mm_c1_a, mm_ct_a, mm_ct_i, true_and, and_true, and_self, eq_self, if_true, if_false, ite_true, ite_false, bI_t, bI_z, bI_nz, bI_01, true_or, or_true, reduceCtorEq, false_or, or_false, decide_eq_false_iff_not, decide_eq_true_eq, ite_not, x0, x1, x2, x3, x4, x5, x6, x7, x8, l1.s0, l1.p6, l1.p7, l1.p8, l1.p9, l1.p10, l1.p11, l1.p12, l1.p13, l1.i1, l1.i2, l1.i3, l1.i4, l1.i5, l1.i6, l1.i7, l1.i8, l2.s0, t_hasH l1 f0, hk1, Bool.true_eq_false]
    refine f_take n hS vL hLL (fun J hJ hF => ?_)
    simp only [mm_pu_n, e69_24, e69_25, mm_pu_n, mm_pu_s, va_rf_s, mm_w8_0, mm_w8_1, mm_w8_2, mm_w8_3, mm_w8_4, mm_c1_n, mm_c1_i, mm_c1_a, mm_ct_a, mm_ct_i, true_and, and_true, and_self, eq_self, if_true, if_false, ite_true, ite_false, bI_t, bI_z, bI_nz, bI_01, true_or, or_true, reduceCtorEq, false_or, or_false, decide_eq_false_iff_not, decide_eq_true_eq, ite_not]
    refine c_lost (I := I) hS hk6 hG 61 0 J (by omega) hJ hF (fun K hK => ?_)
    have gJ : vr K (m + 5) m 0 0 = nI n := by rw [vr_q (I := I) (by decide) (fun j _ => by rw [hK _ (by omega)])]; exact g0
    simp only [e141_0, e141_1, e141_2, e141_5, e141_8, e141_9, e141_10, e141_11, mm_pu_n, mm_pu_s, va_rf_s, mm_w8_0, mm_w8_1, mm_w8_2, mm_w8_3, mm_w8_4, mm_c1_n, mm_c1_i, mm_c1_a, mm_ct_a, mm_ct_i, true_and, and_true, and_self, eq_self, if_true, if_false, ite_true, ite_false, bI_t, bI_z, bI_nz, bI_01, true_or, or_true, reduceCtorEq, false_or, or_false, decide_eq_false_iff_not, decide_eq_true_eq, ite_not, hml.s0, hml.p7, hml.i5, u_isHouse hml hn gJ, hk1, Bool.true_eq_false]
    refine g_begin n hn hml (MX.k (I := I) vR (hK _ (by omega))) hLr (fun K2 hK2 hFK => ?_)
    simp only [mm_pu_n, e141_14, e141_15, mm_pu_n, mm_pu_s, va_rf_s, mm_w8_0, mm_w8_1, mm_w8_2, mm_w8_3, mm_w8_4, mm_c1_n, mm_c1_i, mm_c1_a, mm_ct_a, mm_ct_i, true_and, and_true, and_self, eq_self, if_true, if_false, ite_true, ite_false, bI_t, bI_z, bI_nz, bI_01, true_or, or_true, reduceCtorEq, false_or, or_false, decide_eq_false_iff_not, decide_eq_true_eq, ite_not]
    refine m_lost (I := K2) hml hkn hn hG' hRR' 61 0 K2 (by omega) hK2 fm.rf (fun K3 hK3 => ?_)
    rw [s_lost hs6 hG hkn]
    exact fi_i _ (ALL_f h hK (hFK.tr hK3)) rfl rfl
theorem a_free (h : ALL I r x m) (p : Int32) : pr 70 142 [some (.ref x), some (.int p), none] [some (.ref m), some (.int p), none] I r x m := by
  obtain ⟨hS, ⟨sg, L, bn, B, n, ng, Lr, Br, hg⟩, hG2, hG3, hG4⟩ := id h
  obtain ⟨hm, hx, ⟨l1, l2, l3, l4⟩, hip, hpt, htp, hsh, hml⟩ := id hS
  obtain ⟨x0, x1, x2, x3, x4, x5, x6, x7, x8⟩ := id hx
  obtain ⟨⟨hps, hL, hpv⟩, ⟨hR, hB⟩, ⟨⟨⟨hG, hRR, hdr, hnt⟩, hbk⟩, ⟨⟨hG', hRR', hdr', hnt'⟩, hbk'⟩, hsm, hsB⟩⟩ := id hg
  have hLL : dl L = L := by rw [← hL]; exact dl_dl _
  have hLr : dl Lr = Lr := by rw [← hR]; exact dl_dl _
  have hs6 := s_6 hsm hLL hLr
  have vL : ∀ q i, q < 7 → vc I (x + 1) q i = L q i := fun q i hq => by rw [← hL, dl_at hq]
  have vR : ∀ q i, q < 7 → vr I (m + 5) m q i = Lr q i := fun q i hq => by rw [← hR, dl_at hq]
  have vRh : ∀ {k : Nat}, k < n → ∀ q, 1 ≤ q ∧ q ≤ 3 → vr I (m + 5) m q k = L q k := fun hk q hq => (vR q _ (by omega)).trans (hsm q _ (wc_h hq hk)).symm
  have vRg : ∀ {k : Nat}, k < ng → ∀ q, 4 ≤ q ∧ q ≤ 6 → vr I (m + 5) m q k = L q k := fun hk q hq => (vR q _ (by omega)).trans (hsm q _ (wc_g hq hk)).symm
  obtain ⟨⟨hn, e0⟩, ⟨hng, e1⟩, hpl⟩ := id hG
  have f0 : vc I (x + 1) 0 0 = nI n := by rw [vL 0 0 (by decide)]; exact e0
  have f1 : vc I (x + 1) 0 1 = nI ng := by rw [vL 0 1 (by decide)]; exact e1
  have g0 : vr I (m + 5) m 0 0 = nI n := by rw [vR 0 0 (by decide)]; exact hG'.1.2
  have g1 : vr I (m + 5) m 0 1 = nI ng := by rw [vR 0 1 (by decide)]; exact hG'.2.1.2
  unfold pr
  cases hk1 : okh p n with
  | false =>
    simp only [e70_0, e70_1, e70_4, e70_5, e70_8, e70_11, e70_12, e142_0, e142_1, e142_2, e142_5, e142_8, e142_9, mm_pu_n, mm_pu_s, va_rf_s, mm_w8_0, mm_w8_1, mm_w8_2, mm_w8_3, mm_w8_4, mm_c1_n, mm_c1_i, mm_c1_a, mm_ct_a, mm_ct_i, true_and, and_true, and_self, eq_self, if_true, if_false, ite_true, ite_false, bI_t, bI_z, bI_nz, bI_01, true_or, or_true, reduceCtorEq, false_or, or_false, decide_eq_false_iff_not, decide_eq_true_eq, ite_not, x0, x1, x2, x3, x4, x5, x6, x7, x8, l1.s0, l1.p6, l1.p7, l1.p8, l1.p9, l1.p10, l1.p11, l1.p12, l1.p13, l1.i1, l1.i2, l1.i3, l1.i4, l1.i5, l1.i6, l1.i7, l1.i8, hml.s0, hml.p7, hml.i5, t_hasH l1 f0, u_isHouse hml hn g0, hk1, Bool.false_eq_true]
    exact fi_i _ h rfl rfl
  | true =>
    obtain ⟨k, hkn, rfl⟩ := okh_of hk1 hn
    have hk6 : k < 6 := by omega
    simp only [e70_0, e70_1, e70_4, e70_5, e70_8, e70_11, e70_12, e70_13, e70_14, e70_17, e70_18, e70_21, mm_pu_n, mm_pu_s, va_rf_s, mm_w8_0, mm_w8_1, mm_w8_2, mm_w8_3, mm_w8_4, mm_c1_n, mm_c1_i, mm_c1_a, mm_ct_a, mm_ct_i, true_and, and_true, and_self, eq_self, if_true, if_false, ite_true, ite_false, bI_t, bI_z, bI_nz, bI_01, true_or, or_true, reduceCtorEq, false_or, or_false, decide_eq_false_iff_not, decide_eq_true_eq, ite_not, x0, x1, x2, x3, x4, x5, x6, x7, x8, l1.s0, l1.p6, l1.p7, l1.p8, l1.p9, l1.p10, l1.p11, l1.p12, l1.p13, l1.i1, l1.i2, l1.i3, l1.i4, l1.i5, l1.i6, l1.i7, l1.i8, l2.s0, t_hasH l1 f0, hk1, Bool.true_eq_false]
    refine f_take n hS vL hLL (fun J hJ hF => ?_)
    simp only [mm_pu_n, e70_24, e70_25, mm_pu_n, mm_pu_s, va_rf_s, mm_w8_0, mm_w8_1, mm_w8_2, mm_w8_3, mm_w8_4, mm_c1_n, mm_c1_i, mm_c1_a, mm_ct_a, mm_ct_i, true_and, and_true, and_self, eq_self, if_true, if_false, ite_true, ite_false, bI_t, bI_z, bI_nz, bI_01, true_or, or_true, reduceCtorEq, false_or, or_false, decide_eq_false_iff_not, decide_eq_true_eq, ite_not]
    refine c_free (I := I) hS hk6 hG 61 0 J (by omega) hJ hF (fun K hK => ?_)
    have gJ : vr K (m + 5) m 0 0 = nI n := by rw [vr_q (I := I) (by decide) (fun j _ => by rw [hK _ (by omega)])]; exact g0
    simp only [e142_0, e142_1, e142_2, e142_5, e142_8, e142_9, e142_10, e142_11, mm_pu_n, mm_pu_s, va_rf_s, mm_w8_0, mm_w8_1, mm_w8_2, mm_w8_3, mm_w8_4, mm_c1_n, mm_c1_i, mm_c1_a, mm_ct_a, mm_ct_i, true_and, and_true, and_self, eq_self, if_true, if_false, ite_true, ite_false, bI_t, bI_z, bI_nz, bI_01, true_or, or_true, reduceCtorEq, false_or, or_false, decide_eq_false_iff_not, decide_eq_true_eq, ite_not, hml.s0, hml.p7, hml.i5, u_isHouse hml hn gJ, hk1, Bool.true_eq_false]
    refine g_begin n hn hml (MX.k (I := I) vR (hK _ (by omega))) hLr (fun K2 hK2 hFK => ?_)
    simp only [mm_pu_n, e142_14, e142_15, mm_pu_n, mm_pu_s, va_rf_s, mm_w8_0, mm_w8_1, mm_w8_2, mm_w8_3, mm_w8_4, mm_c1_n, mm_c1_i, mm_c1_a, mm_ct_a, mm_ct_i, true_and, and_true, and_self, eq_self, if_true, if_false, ite_true, ite_false, bI_t, bI_z, bI_nz, bI_01, true_or, or_true, reduceCtorEq, false_or, or_false, decide_eq_false_iff_not, decide_eq_true_eq, ite_not]
    refine m_free (I := K2) hml hkn hn hG' hRR' 61 0 K2 (by omega) hK2 fm.rf (fun K3 hK3 => ?_)
    rw [s_free hs6 hG hkn]
    exact fi_i _ (ALL_f h hK (hFK.tr hK3)) rfl rfl
end
