def ws (w : Nat → Nat) (j v : Nat) : Nat → Nat := fun i => if i = j then v else w i
def lp (f : Nat → pt_S → pt_S) : Nat → Nat → pt_S → pt_S
  | 0, _, s => s
  | d + 1, k, s => lp f d (k + 1) (f k s)
def fo (c : Nat) (U : (Nat → Nat) → pt_S → pt_S) : Nat → Nat → (Nat → Nat) → Nat → pt_S → pt_S
  | 0, j, w, s, st => if s ≤ c then U (ws w j (c - s)) st else st
  | m + 1, j, w, s, st => lp (fun d st => fo c U m (j + 1) (ws w j d) (s + d) st) (c + 1) 0 st
theorem lp_id {f : Nat → pt_S → pt_S} {N : Nat} (h : ∀ k s, N ≤ k → f k s = s) : ∀ d k s, N ≤ k → lp f d k s = s := by
  intro d
  induction d with
  | zero => intro k s _; rfl
  | succ d ih =>
    intro k s hk
    show lp f d (k + 1) (f k s) = s
    rw [h k s hk, ih (k + 1) s (by omega)]
theorem fo_big {c : Nat} {U : (Nat → Nat) → pt_S → pt_S} : ∀ m j w s st, c < s → fo c U m j w s st = st := by
  intro m
  induction m with
  | zero =>
    intro j w s st h
    show (if s ≤ c then U (ws w j (c - s)) st else st) = st
    rw [if_neg (by omega)]
  | succ m ih =>
    intro j w s st h
    exact lp_id (N := 0) (fun k s' _ => ih _ _ _ _ (by omega)) (c + 1) 0 st (Nat.le_refl _)
def csm (f : Nat → Nat) : Nat → Nat
  | 0 => f 0
  | r + 1 => f (r + 1) + csm f r
/-- how many ways there are -/
def cv : Nat → Nat → Nat
  | 0 => fun _ => 1
  | m + 1 => csm (cv m)
theorem cv_small : ∀ m, m < 6 → ∀ c, c < 13 → cv m c ≤ 10000 := by decide +kernel
theorem csm_pos {f : Nat → Nat} (h : ∀ r, 0 < f r) : ∀ r, 0 < csm f r := by
  intro r
  cases r with
  | zero => exact h 0
  | succ r => exact Nat.lt_of_lt_of_le (h (r + 1)) (Nat.le_add_right _ _)
theorem cv_pos : ∀ m r, 0 < cv m r := by
  intro m
  induction m with
  | zero => intro r; exact Nat.one_pos
  | succ m ih => exact csm_pos ih
/-- the first and the last way of those that begin with w before j -/
def w0 (w : Nat → Nat) (j n v : Nat) : Nat → Nat := fun i => if i < j then w i else if i = n - 1 then v else 0
def w9 (w : Nat → Nat) (j v : Nat) : Nat → Nat := fun i => if i < j then w i else if i = j then v else 0
theorem pw_c {J : mm_I} {a n : Nat} {w w' : Nat → Nat} (h : pw J a n w) (he : ∀ i, i < n → w i = w' i) : pw J a n w' := fun i hi => by rw [h i hi, he i hi]
section
variable {r : mm_R} {J : mm_I} {x m n : Nat} {Q : Option Value → mm_I → mm_R → Prop}
theorem n_m1 {k : Nat} (h : 0 < k) (hk : k < 2 ^ 31) : nI k - 1 = nI (k - 1) := by rw [show (1 : Int32) = nI 1 from rfl, n_sub (by omega) hk]
theorem t_nextWay {q v : Nat} {W : Nat → Nat} (hS : HS r x m) (hn : n ≤ 6) (hq1 : 1 ≤ q) (hqn : q < n) (hv : 0 < v) (hv2 : v < 100) (hW : W q = v) (hW1 : W (q - 1) < 1000) (hz : ∀ i, q < i → i < n → W i = 0) (h : pw J (x + 93) n W) (hq : ∀ K, (∀ q, q ≠ x + 95 → K q = J q) → pw K (x + 93) n (fun i => if i = n - 1 then v - 1 else if i = q - 1 then W (q - 1) + 1 else if i = q then 0 else W i) → Q (some (.int 1)) K r) : mm_E 24 0 [some (.ref (x + 93)), some (.int (nI n)), none, none] [] J r Q := by
  obtain ⟨p0, p2, p3, p4, p5⟩ := hS.2.2.2.2.1
  have hi5 : ∀ y, mm_ix r (x + 95) 2 y = vp_in y 6 := fun y => mm_ixs p5
  have loop : ∀ d k K (l3 : Option Value), q + d = k → k < n → (∀ q, q ≠ x + 95 → K q = J q) → pw K (x + 93) n W → mm_E 24 4 [some (.ref (x + 93)), some (.int (nI n)), some (.int (nI k)), l3] [] K r Q := by
    intro d
    induction d with
    | zero =>
      intro k K l3 hk hkn hF hK
      have hkq : k = q := by omega
      subst hkq
      have hk6 : k < 6 := by omega
      have rk : mm_rd K (x + 95) k = nI v := by rw [← hW]; exact hK k hkn
      have rk1 : mm_rd (mm_uI K (x + 95) k 0) (x + 95) (k - 1) = nI (W (k - 1)) := by
        show mm_uI K (x + 95) k 0 (x + 95) (k - 1) = _
        rw [mu_j (by omega)]; exact hK (k - 1) (by omega)
      rw [e24_4]
      simp only [e24_5, e24_8, e24_9, e24_12, e24_13, e24_14, e24_15, e24_16, e24_19, e24_20, e24_21, e24_22, e24_23, e24_26, e24_27, e24_30, e24_31, e24_32, e24_33, e24_34, e24_35, e24_36, e24_37, e24_38, e24_39, e24_42, e24_43, e24_44, e24_45, e24_46, e24_47, e24_48, e24_49, e24_50, mm_pu_n, mm_pu_s, va_rf_s, mm_w8_0, mm_w8_1, mm_w8_2, mm_w8_3, mm_w8_4, mm_c1_n, mm_c1_i, mm_c1_a, mm_ct_a, mm_ct_i, true_and, and_true, and_self, eq_self, if_true, if_false, ite_true, ite_false, bI_t, bI_z, bI_nz, bI_01, true_or, or_true, reduceCtorEq, false_or, or_false, decide_eq_false_iff_not, decide_eq_true_eq, ite_not, nI_nle (show 0 < k by omega) (show k < 2 ^ 31 by omega), p0, p3, hi5, in6 hk6, cl_nI hk6, rk, nI_nle hv (show v < 2 ^ 31 by omega), n_m1 (show 0 < k by omega) (show k < 2 ^ 31 by omega), in6 (show k - 1 < 6 by omega), cl_nI (show k - 1 < 6 by omega), rk1, nI_1, n_m1 (show 0 < n by omega) (show n < 2 ^ 31 by omega), in6 (show n - 1 < 6 by omega), cl_nI (show n - 1 < 6 by omega), n_m1 hv (show v < 2 ^ 31 by omega)]
      refine hq _ (fun q hq => by rw [mu_n hq, mu_n hq, mu_n hq]; exact hF q hq) (fun i hi => ?_)
      show mm_uI (mm_uI (mm_uI K (x + 95) k 0) (x + 95) (k - 1) (nI (W (k - 1) + 1))) (x + 95) (n - 1) (nI (v - 1)) (x + 95) i = nI (if i = n - 1 then v - 1 else if i = k - 1 then W (k - 1) + 1 else if i = k then 0 else W i)
      by_cases c1 : i = n - 1
      · subst c1; rw [mu_s, if_pos rfl]
      · rw [mu_j c1, if_neg c1]
        by_cases c2 : i = k - 1
        · subst c2; rw [mu_s, if_pos rfl]
        · rw [mu_j c2, if_neg c2]
          by_cases c3 : i = k
          · subst c3; rw [mu_s, if_pos rfl]; rfl
          · rw [mu_j c3, if_neg c3]; exact hK i hi
    | succ d ih =>
      intro k K l3 hk hkn hF hK
      have hk6 : k < 6 := by omega
      have rk : mm_rd K (x + 95) k = 0 := by
        have := hK k hkn
        rw [hz k (by omega) hkn] at this
        exact this
      rw [e24_4]
      simp only [e24_5, e24_8, e24_9, e24_12, e24_13, e24_14, e24_15, e24_16, e24_19, e24_20, e24_21, e24_22, e24_23, mm_pu_n, mm_pu_s, va_rf_s, mm_w8_0, mm_w8_1, mm_w8_2, mm_w8_3, mm_w8_4, mm_c1_n, mm_c1_i, mm_c1_a, mm_ct_a, mm_ct_i, true_and, and_true, and_self, eq_self, if_true, if_false, ite_true, ite_false, bI_t, bI_z, bI_nz, bI_01, true_or, or_true, reduceCtorEq, false_or, or_false, decide_eq_false_iff_not, decide_eq_true_eq, ite_not, nI_nle (show 0 < k by omega) (show k < 2 ^ 31 by omega), p0, p3, hi5, in6 hk6, cl_nI hk6, rk, Int32.le_refl]
      simp only [e24_51, e24_54, mm_pu_n, mm_pu_s, va_rf_s, mm_w8_0, mm_w8_1, mm_w8_2, mm_w8_3, mm_w8_4, mm_c1_n, mm_c1_i, mm_c1_a, mm_ct_a, mm_ct_i, true_and, and_true, and_self, eq_self, if_true, if_false, ite_true, ite_false, bI_t, bI_z, bI_nz, bI_01, true_or, or_true, reduceCtorEq, false_or, or_false, decide_eq_false_iff_not, decide_eq_true_eq, ite_not]
      rw [show nI k + -1 = nI (k - 1) from by rw [show k = k - 1 + 1 by omega, nI_m1]; rfl]
      refine ih (k - 1) _ _ (by omega) (by omega) (fun q hq => by rw [mu_n hq]; exact hF q hq) (fun i hi => ?_)
      show mm_uI K (x + 95) k 0 (x + 95) i = _
      by_cases c : i = k
      · subst c; rw [mu_s, hz i (by omega) hi]; rfl
      · rw [mu_j c]; exact hK i hi
  simp only [e24_0, e24_1, e24_2, e24_3, mm_pu_n, mm_pu_s, va_rf_s, mm_w8_0, mm_w8_1, mm_w8_2, mm_w8_3, mm_w8_4, mm_c1_n, mm_c1_i, mm_c1_a, mm_ct_a, mm_ct_i, true_and, and_true, and_self, eq_self, if_true, if_false, ite_true, ite_false, bI_t, bI_z, bI_nz, bI_01, true_or, or_true, reduceCtorEq, false_or, or_false, decide_eq_false_iff_not, decide_eq_true_eq, ite_not, n_m1 (show 0 < n by omega) (show n < 2 ^ 31 by omega)]
  exact loop (n - 1 - q) (n - 1) J none (by omega) (by omega) (fun _ _ => rfl) h
theorem t_lastWay {W : Nat → Nat} (hS : HS r x m) (hn0 : 0 < n) (hn : n ≤ 6) (hz : ∀ i, 0 < i → i < n → W i = 0) (h : pw J (x + 93) n W) (hq : ∀ K, (∀ q, q ≠ x + 95 → K q = J q) → Q (some (.int 0)) K r) : mm_E 24 0 [some (.ref (x + 93)), some (.int (nI n)), none, none] [] J r Q := by
  obtain ⟨p0, p2, p3, p4, p5⟩ := hS.2.2.2.2.1
  have hi5 : ∀ y, mm_ix r (x + 95) 2 y = vp_in y 6 := fun y => mm_ixs p5
  have loop : ∀ k K (l3 : Option Value), k < n → (∀ q, q ≠ x + 95 → K q = J q) → pw K (x + 93) n W → mm_E 24 4 [some (.ref (x + 93)), some (.int (nI n)), some (.int (nI k)), l3] [] K r Q := by
    intro k
    induction k with
    | zero =>
      intro K l3 hkn hF hK
      rw [e24_4]
      simp only [e24_5, e24_57, e24_58, mm_pu_n, mm_pu_s, va_rf_s, mm_w8_0, mm_w8_1, mm_w8_2, mm_w8_3, mm_w8_4, mm_c1_n, mm_c1_i, mm_c1_a, mm_ct_a, mm_ct_i, true_and, and_true, and_self, eq_self, if_true, if_false, ite_true, ite_false, bI_t, bI_z, bI_nz, bI_01, true_or, or_true, reduceCtorEq, false_or, or_false, decide_eq_false_iff_not, decide_eq_true_eq, ite_not, show (nI 0 ≤ (0 : Int32)) = True from eq_true (by decide)]
      exact hq K hF
    | succ k ih =>
      intro K l3 hkn hF hK
      have hk6 : k + 1 < 6 := by omega
      have rk : mm_rd K (x + 95) (k + 1) = 0 := by
        have := hK (k + 1) hkn
        rw [hz (k + 1) (by omega) hkn] at this
        exact this
      rw [e24_4]
      simp only [e24_5, e24_8, e24_9, e24_12, e24_13, e24_14, e24_15, e24_16, e24_19, e24_20, e24_21, e24_22, e24_23, mm_pu_n, mm_pu_s, va_rf_s, mm_w8_0, mm_w8_1, mm_w8_2, mm_w8_3, mm_w8_4, mm_c1_n, mm_c1_i, mm_c1_a, mm_ct_a, mm_ct_i, true_and, and_true, and_self, eq_self, if_true, if_false, ite_true, ite_false, bI_t, bI_z, bI_nz, bI_01, true_or, or_true, reduceCtorEq, false_or, or_false, decide_eq_false_iff_not, decide_eq_true_eq, ite_not, nI_nle (show 0 < k + 1 by omega) (show k + 1 < 2 ^ 31 by omega), p0, p3, hi5, in6 hk6, cl_nI hk6, rk, Int32.le_refl]
      simp only [e24_51, e24_54, mm_pu_n, mm_pu_s, va_rf_s, mm_w8_0, mm_w8_1, mm_w8_2, mm_w8_3, mm_w8_4, mm_c1_n, mm_c1_i, mm_c1_a, mm_ct_a, mm_ct_i, true_and, and_true, and_self, eq_self, if_true, if_false, ite_true, ite_false, bI_t, bI_z, bI_nz, bI_01, true_or, or_true, reduceCtorEq, false_or, or_false, decide_eq_false_iff_not, decide_eq_true_eq, ite_not, nI_m1]
      refine ih _ _ (by omega) (fun q hq => by rw [mu_n hq]; exact hF q hq) (fun i hi => ?_)
      show mm_uI K (x + 95) (k + 1) 0 (x + 95) i = _
      by_cases c : i = k + 1
      · subst c; rw [mu_s, hz _ (by omega) hi]; rfl
      · rw [mu_j c]; exact hK i hi
  simp only [e24_0, e24_1, e24_2, e24_3, mm_pu_n, mm_pu_s, va_rf_s, mm_w8_0, mm_w8_1, mm_w8_2, mm_w8_3, mm_w8_4, mm_c1_n, mm_c1_i, mm_c1_a, mm_ct_a, mm_ct_i, true_and, and_true, and_self, eq_self, if_true, if_false, ite_true, ite_false, bI_t, bI_z, bI_nz, bI_01, true_or, or_true, reduceCtorEq, false_or, or_false, decide_eq_false_iff_not, decide_eq_true_eq, ite_not, n_m1 hn0 (show n < 2 ^ 31 by omega)]
  exact loop (n - 1) J none (by omega) (fun _ _ => rfl) h
end
