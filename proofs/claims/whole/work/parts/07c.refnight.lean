def q_nx (L : mm_I) (al : Bool) (n ng p : Nat) : Nat → Nat → Option Nat
  | 0, _ => none
  | d + 1, k => if 3 ≤ L 3 (p_oth n p k) then q_nx L al n ng p d (k + 1) else if al = false ∨ p_gs L (nI (p_oth n p k)) ng = 0 then some (p_oth n p k) else q_nx L al n ng p d (k + 1)
theorem q_nx_lt (L : mm_I) (al : Bool) (n ng p : Nat) (hp : p < n) : ∀ d k, k + d = n → ∀ o, q_nx L al n ng p d k = some o → o < n := by
  intro d
  induction d with
  | zero => intro k _ o h; cases h
  | succ d ih =>
    intro k hk o h
    unfold q_nx at h
    split at h
    · exact ih _ (by omega) o h
    · split at h
      · cases h; exact p_oth_lt hp (by omega)
      · exact ih _ (by omega) o h
theorem p_oth_ne {n p k : Nat} (hp : p < n) (hk : k < n) (h1 : 1 ≤ k) : p_oth n p k ≠ p := by unfold p_oth; split <;> omega
theorem p_oth_m {n p k : Nat} (hp : p < n) (hk : k < n) : (p + k) % n = p_oth n p k := by
  unfold p_oth
  split
  · exact Nat.mod_eq_of_lt (by omega)
  · rw [Nat.mod_eq_sub_mod (by omega), Nat.mod_eq_of_lt (by omega)]
theorem pq_nx (L : mm_I) (shy : Bool) (n ng p : Nat) (hp : p < n) : ∀ d k nx, k + d = n → 1 ≤ k → p_nx L shy n ng p d k nx = (q_nx L shy n ng p d k).getD (if nx = p then (q_nx L false n ng p d k).getD p else nx) := by
  intro d
  induction d with
  | zero =>
    intro k nx _ _
    unfold p_nx q_nx
    by_cases h : nx = p
    · simp [h]
    · simp [h]
  | succ d ih =>
    intro k nx hk hk1
    have hne := p_oth_ne hp (show k < n by omega) hk1
    unfold p_nx q_nx
    by_cases c1 : 3 ≤ L 3 (p_oth n p k)
    · rw [if_pos c1, if_pos c1, if_pos c1]
      exact ih _ _ (by omega) (by omega)
    · rw [if_neg c1, if_neg c1, if_neg c1]
      by_cases c2 : shy = false ∨ p_gs L (nI (p_oth n p k)) ng = 0
      · rw [if_pos c2, if_pos c2]; rfl
      · rw [if_neg c2, if_neg c2, ih _ _ (by omega) (by omega)]
        by_cases c3 : nx = p
        · simp [c3, hne]
        · simp [c3]
theorem p_nxt_q (L : mm_I) {n ng g p : Nat} (hp : p < n) : p_nxt L n ng g p = (q_nx L (p_shy L g) n ng p (n - 1) 1).getD ((q_nx L false n ng p (n - 1) 1).getD p) := by
  unfold p_nxt
  rw [pq_nx L _ n ng p hp _ _ _ (by omega) (Nat.le_refl 1), if_pos rfl]
def oN (o : Option Nat) : Int32 := match o with
  | some k => nI k
  | none => -4
theorem oN_s {k : Nat} (h : k < 6) : (oN (some k) = -4) = False := by
  have : ∀ k, k < 6 → ¬ (nI k = (-4 : Int32)) := by decide
  exact eq_false (this k h)
theorem oN_n : (oN none = -4) = True := eq_true rfl
section
variable {r : mm_R} {I : mm_I} {s m : Nat} {Q : Option Value → mm_I → mm_R → Prop}
theorem u_lostOnes (m : Nat) (h : ∀ x, mm_ix r s 2 x = vp_in x 248) {n : Nat} (hn : n ≤ 6) (h0 : vr I s m 0 0 = nI n) (hl : ∀ k, k < n → (vr I s m 3 k = 3) = (3 ≤ vr I s m 3 k)) : mm_E 119 0 [some (.ref s), none, none] [] I r Q ↔ Q (some (.int (p_ls (vr I s m) n))) I r := by
  have loop : ∀ d k, k + d = n → (mm_E 119 4 [some (.ref s), some (.int (p_ls (vr I s m) k)), some (.int (nI k))] [] I r Q ↔ Q (some (.int (p_ls (vr I s m) n))) I r) := by
    intro d
    induction d with
    | zero =>
      intro k hk
      have : k = n := by omega
      subst this
      rw [e119_4]
      simp only [e119_0, e119_1, e119_2, e119_3, e119_5, e119_6, e119_8, e119_9, e119_12, e119_13, e119_14, e119_15, e119_18, e119_21, e119_22, e119_23, e119_24, e119_27, e119_28, e119_29, e119_30, e119_33, e119_36, e119_37, mm_pu_n, mm_pu_s, va_rf_s, mm_w8_0, mm_w8_1, mm_w8_2, mm_w8_3, mm_w8_4, mm_c1_n, mm_c1_i, mm_c1_a, mm_ct_a, mm_ct_i, true_and, and_true, and_self, eq_self, if_true, if_false, ite_true, ite_false, bI_t, bI_z, bI_nz, bI_01, true_or, or_true, reduceCtorEq, false_or, or_false, decide_eq_false_iff_not, decide_eq_true_eq, ite_not, h, c27.1, d27.1, r27 m, h0, Int32.le_refl]
    | succ d ih =>
      intro k hk
      have hk6 : k < 6 := by omega
      have ih2 := ih (k + 1) (by omega)
      rw [e119_4]
      simp only [e119_5, e119_6, e119_8, e119_9, e119_12, e119_13, e119_14, e119_15, e119_18, e119_21, e119_22, e119_23, e119_24, e119_27, mm_pu_n, mm_pu_s, va_rf_s, mm_w8_0, mm_w8_1, mm_w8_2, mm_w8_3, mm_w8_4, mm_c1_n, mm_c1_i, mm_c1_a, mm_ct_a, mm_ct_i, true_and, and_true, and_self, eq_self, if_true, if_false, ite_true, ite_false, bI_t, bI_z, bI_nz, bI_01, true_or, or_true, reduceCtorEq, false_or, or_false, decide_eq_false_iff_not, decide_eq_true_eq, ite_not, h, c27.1, d27.1, r27 m, h0, u_isLost m h hk6, hl k (by omega), nle6 (show k < n by omega) hn, it_i]
      simp only [e119_28, e119_29, e119_30, e119_33, mm_pu_n, mm_pu_s, va_rf_s, mm_w8_0, mm_w8_1, mm_w8_2, mm_w8_3, mm_w8_4, mm_c1_n, mm_c1_i, mm_c1_a, mm_ct_a, mm_ct_i, true_and, and_true, and_self, eq_self, if_true, if_false, ite_true, ite_false, bI_t, bI_z, bI_nz, bI_01, true_or, or_true, reduceCtorEq, false_or, or_false, decide_eq_false_iff_not, decide_eq_true_eq, ite_not, nI_1]
      rw [p_ls] at ih2
      by_cases c : 3 ≤ vr I s m 3 k
      · rw [if_pos c] at ih2 ⊢; exact ih2
      · rw [if_neg c] at ih2 ⊢
        rw [show p_ls (vr I s m) k ||| 0 = p_ls (vr I s m) k by simp]
        exact ih2
  have := loop n 0 (by omega)
  simp only [e119_0, e119_1, e119_2, e119_3, mm_pu_n, mm_pu_s, va_rf_s, mm_w8_0, mm_w8_1, mm_w8_2, mm_w8_3, mm_w8_4, mm_c1_n, mm_c1_i, mm_c1_a, mm_ct_a, mm_ct_i, true_and, and_true, and_self, eq_self, if_true, if_false, ite_true, ite_false, bI_t, bI_z, bI_nz, bI_01, true_or, or_true, reduceCtorEq, false_or, or_false, decide_eq_false_iff_not, decide_eq_true_eq, ite_not]
  exact this
theorem u_owedBy (m : Nat) (h : ∀ x, mm_ix r s 2 x = vp_in x 248) {n : Nat} (hn : n ≤ 6) (h0 : vr I s m 0 0 = nI n) : mm_E 120 0 [some (.ref s), none, none] [] I r Q ↔ Q (some (.int (p_ow (vr I s m) n))) I r := by
  have loop : ∀ d k, k + d = n → (mm_E 120 4 [some (.ref s), some (.int (p_ow (vr I s m) k)), some (.int (nI k))] [] I r Q ↔ Q (some (.int (p_ow (vr I s m) n))) I r) := by
    intro d
    induction d with
    | zero =>
      intro k hk
      have : k = n := by omega
      subst this
      rw [e120_4]
      simp only [e120_0, e120_1, e120_2, e120_3, e120_5, e120_6, e120_8, e120_9, e120_12, e120_13, e120_14, e120_15, e120_16, e120_17, e120_18, e120_19, e120_20, e120_23, e120_26, e120_27, mm_pu_n, mm_pu_s, va_rf_s, mm_w8_0, mm_w8_1, mm_w8_2, mm_w8_3, mm_w8_4, mm_c1_n, mm_c1_i, mm_c1_a, mm_ct_a, mm_ct_i, true_and, and_true, and_self, eq_self, if_true, if_false, ite_true, ite_false, bI_t, bI_z, bI_nz, bI_01, true_or, or_true, reduceCtorEq, false_or, or_false, decide_eq_false_iff_not, decide_eq_true_eq, ite_not, h, c27.1, d27.1, r27 m, h0, Int32.le_refl]
    | succ d ih =>
      intro k hk
      have hk6 : k < 6 := by omega
      have ih2 := ih (k + 1) (by omega)
      rw [e120_4]
      simp only [e120_0, e120_1, e120_2, e120_3, e120_5, e120_6, e120_8, e120_9, e120_12, e120_13, e120_14, e120_15, e120_16, e120_17, e120_18, e120_19, e120_20, e120_23, e120_26, e120_27, mm_pu_n, mm_pu_s, va_rf_s, mm_w8_0, mm_w8_1, mm_w8_2, mm_w8_3, mm_w8_4, mm_c1_n, mm_c1_i, mm_c1_a, mm_ct_a, mm_ct_i, true_and, and_true, and_self, eq_self, if_true, if_false, ite_true, ite_false, bI_t, bI_z, bI_nz, bI_01, true_or, or_true, reduceCtorEq, false_or, or_false, decide_eq_false_iff_not, decide_eq_true_eq, ite_not, h, c27.1, d27.1, r27 m, h0, k3, in2 (show 3 + k < 248 by omega), cl2 (show 3 + k < 248 by omega), r3 m hk6, nle6 (show k < n by omega) hn, nI_1]
      rw [p_ow] at ih2
      exact ih2
  have := loop n 0 (by omega)
  simp only [e120_0, e120_1, e120_2, e120_3, mm_pu_n, mm_pu_s, va_rf_s, mm_w8_0, mm_w8_1, mm_w8_2, mm_w8_3, mm_w8_4, mm_c1_n, mm_c1_i, mm_c1_a, mm_ct_a, mm_ct_i, true_and, and_true, and_self, eq_self, if_true, if_false, ite_true, ite_false, bI_t, bI_z, bI_nz, bI_01, true_or, or_true, reduceCtorEq, false_or, or_false, decide_eq_false_iff_not, decide_eq_true_eq, ite_not]
  exact this
theorem u_nextOf (m : Nat) (h : ∀ x, mm_ix r s 2 x = vp_in x 248) {n ng g p : Nat} (hG : ln_G (vr I s m) n ng) (hl : ∀ k, k < n → (vr I s m 3 k = 3) = (3 ≤ vr I s m 3 k)) (hg : g < 5) (hp : p < n) (hpl : vr I s m 6 g = nI p) (al : Bool) : mm_E 124 0 [some (.ref s), some (.int (nI g)), some (.int (bI al)), none, none] [] I r Q ↔ Q (some (.int (oN (q_nx (vr I s m) al n ng p (n - 1) 1)))) I r := by
  obtain ⟨⟨hn, h0⟩, ⟨hng, h1⟩, -⟩ := id hG
  have loop : ∀ d k l4, k + d = n → 1 ≤ k → (mm_E 124 2 [some (.ref s), some (.int (nI g)), some (.int (bI al)), some (.int (nI k)), l4] [] I r Q ↔ Q (some (.int (oN (q_nx (vr I s m) al n ng p d k)))) I r) := by
    intro d
    induction d with
    | zero =>
      intro k l4 hk _
      have : k = n := by omega
      subst this
      rw [e124_2]
      simp only [e124_0, e124_1, e124_3, e124_4, e124_6, e124_7, e124_10, e124_11, e124_13, e124_14, e124_15, e124_16, e124_17, e124_18, e124_19, e124_21, e124_22, e124_23, e124_25, e124_26, e124_28, e124_31, e124_34, e124_35, e124_38, e124_39, e124_41, e124_44, e124_47, e124_49, e124_50, e124_53, e124_56, e124_58, mm_pu_n, mm_pu_s, va_rf_s, mm_w8_0, mm_w8_1, mm_w8_2, mm_w8_3, mm_w8_4, mm_c1_n, mm_c1_i, mm_c1_a, mm_ct_a, mm_ct_i, true_and, and_true, and_self, eq_self, if_true, if_false, ite_true, ite_false, bI_t, bI_z, bI_nz, bI_01, true_or, or_true, reduceCtorEq, false_or, or_false, decide_eq_false_iff_not, decide_eq_true_eq, ite_not, h, c27.1, d27.1, r27 m, h0, Int32.le_refl]
      rfl
    | succ d ih =>
      intro k l4 hk hk1
      have hkn : k < n := by omega
      have ho := p_oth_lt hp hkn
      rw [e124_2]
      simp only [e124_3, e124_4, e124_6, e124_7, e124_10, e124_11, e124_13, e124_14, e124_15, e124_16, e124_17, e124_18, e124_19, e124_21, e124_22, e124_23, mm_pu_n, mm_pu_s, va_rf_s, mm_w8_0, mm_w8_1, mm_w8_2, mm_w8_3, mm_w8_4, mm_c1_n, mm_c1_i, mm_c1_a, mm_ct_a, mm_ct_i, true_and, and_true, and_self, eq_self, if_true, if_false, ite_true, ite_false, bI_t, bI_z, bI_nz, bI_01, true_or, or_true, reduceCtorEq, false_or, or_false, decide_eq_false_iff_not, decide_eq_true_eq, ite_not, h, c27.1, d27.1, r27 m, h0, k21, in2 (show 21 + g < 248 by omega), cl2 (show 21 + g < 248 by omega), r21 m hg, hpl, nle6 hkn hn, nI_add, pk_rem (show p + k < 2 ^ 31 by omega) (show 0 < n by omega) (show n < 2 ^ 31 by omega), p_oth_m hp hkn, nI_ne0 (show 0 < n by omega) (show n < 2 ^ 31 by omega), not_false_eq_true]
      simp only [e124_25, e124_26, e124_28, e124_31, e124_34, e124_35, e124_38, e124_39, e124_41, e124_44, e124_47, e124_49, e124_50, e124_53, mm_pu_n, mm_pu_s, va_rf_s, mm_w8_0, mm_w8_1, mm_w8_2, mm_w8_3, mm_w8_4, mm_c1_n, mm_c1_i, mm_c1_a, mm_ct_a, mm_ct_i, true_and, and_true, and_self, eq_self, if_true, if_false, ite_true, ite_false, bI_t, bI_z, bI_nz, bI_01, true_or, or_true, reduceCtorEq, false_or, or_false, decide_eq_false_iff_not, decide_eq_true_eq, ite_not, u_isLost m h (show p_oth n p k < 6 by omega), hl _ ho, u_hogsAt m h _ hng h1, nI_1]
      rw [ih (k + 1) _ (by omega) (by omega)]
      rw [q_nx]
      by_cases c1 : 3 ≤ vr I s m 3 (p_oth n p k)
      · simp [c1]
      · cases al with
        | false => simp [c1]; rfl
        | true =>
          by_cases c2 : p_gs (vr I s m) (nI (p_oth n p k)) ng = 0
          · simp [c1, c2]; rfl
          · simp [c1, c2]
  simp only [e124_0, e124_1, mm_pu_n, mm_pu_s, va_rf_s, mm_w8_0, mm_w8_1, mm_w8_2, mm_w8_3, mm_w8_4, mm_c1_n, mm_c1_i, mm_c1_a, mm_ct_a, mm_ct_i, true_and, and_true, and_self, eq_self, if_true, if_false, ite_true, ite_false, bI_t, bI_z, bI_nz, bI_01, true_or, or_true, reduceCtorEq, false_or, or_false, decide_eq_false_iff_not, decide_eq_true_eq, ite_not]
  rw [show (1 : Int32) = nI 1 from by decide]
  exact loop (n - 1) 1 none (by omega) (by omega)
theorem u_goesOn (m : Nat) (h : ∀ x, mm_ix r s 2 x = vp_in x 248) (hs : rw_ok s m) {n ng g p : Nat} (hG : ln_G (vr I s m) n ng) (hl : ∀ k, k < n → (vr I s m 3 k = 3) = (3 ≤ vr I s m 3 k)) (hg : g < 5) (hp : p < n) (hpl : vr I s m 6 g = nI p) (had : Bool) (hq : ∀ J, vr J s m = (if had = true ∧ (vr I s m 4 g = 1 ∨ vr I s m 4 g = 3) then vr I s m else mm_uI (vr I s m) 6 g (nI (p_nxt (vr I s m) n ng g p))) → ml_F s m I J → Q none J r) : mm_E 125 0 [some (.ref s), some (.int (nI g)), some (.int (bI had)), none, none, none] [] I r Q := by
  have hn := hG.1.1
  simp only [e125_0, e125_1, e125_3, e125_4, e125_5, e125_6, e125_7, e125_8, e125_11, e125_12, e125_13, e125_16, e125_17, e125_18, e125_21, e125_22, e125_25, mm_pu_n, mm_pu_s, va_rf_s, mm_w8_0, mm_w8_1, mm_w8_2, mm_w8_3, mm_w8_4, mm_c1_n, mm_c1_i, mm_c1_a, mm_ct_a, mm_ct_i, true_and, and_true, and_self, eq_self, if_true, if_false, ite_true, ite_false, bI_t, bI_z, bI_nz, bI_01, true_or, or_true, reduceCtorEq, false_or, or_false, decide_eq_false_iff_not, decide_eq_true_eq, ite_not, h, k29, in2 (show 29 + g < 248 by omega), cl2 (show 29 + g < 248 by omega), r29 m hg, it_i]
  have hb : (if had = false then (0 : Int32) else (if vr I s m 4 g = 1 then (1 : Int32) else if vr I s m 4 g = 3 then 1 else 0)) = bI (decide (had = true ∧ (vr I s m 4 g = 1 ∨ vr I s m 4 g = 3))) := by
    cases had
    · simp [bI]
    · by_cases c1 : vr I s m 4 g = 1
      · simp [c1, bI]
      · by_cases c2 : vr I s m 4 g = 3
        · simp [c2, bI]
        · simp [c1, c2, bI]
  rw [hb]
  simp only [e125_26, e125_28, e125_30, e125_33, e125_34, e125_35, e125_36, e125_37, e125_40, e125_41, e125_42, e125_45, e125_46, e125_49, e125_99, mm_pu_n, mm_pu_s, va_rf_s, mm_w8_0, mm_w8_1, mm_w8_2, mm_w8_3, mm_w8_4, mm_c1_n, mm_c1_i, mm_c1_a, mm_ct_a, mm_ct_i, true_and, and_true, and_self, eq_self, if_true, if_false, ite_true, ite_false, bI_t, bI_z, bI_nz, bI_01, true_or, or_true, reduceCtorEq, false_or, or_false, decide_eq_false_iff_not, decide_eq_true_eq, ite_not, it_i]
  by_cases c : had = true ∧ (vr I s m 4 g = 1 ∨ vr I s m 4 g = 3)
  · rw [if_pos c]
    exact hq I (by rw [if_pos c]) ml_F.rf
  · rw [if_neg c]
    have hs2 : (if vr I s m 4 g = 2 then (1 : Int32) else if vr I s m 4 g = 4 then 1 else 0) = bI (p_shy (vr I s m) g) := by
      unfold p_shy
      by_cases c1 : vr I s m 4 g = 2
      · simp [c1, bI]
      · by_cases c2 : vr I s m 4 g = 4
        · simp [c2, bI]
        · simp [c1, c2, bI]
    rw [hs2]
    simp only [e125_50, e125_53, e125_55, e125_57, e125_59, e125_62, e125_63, e125_64, e125_65, e125_68, e125_71, mm_pu_n, mm_pu_s, va_rf_s, mm_w8_0, mm_w8_1, mm_w8_2, mm_w8_3, mm_w8_4, mm_c1_n, mm_c1_i, mm_c1_a, mm_ct_a, mm_ct_i, true_and, and_true, and_self, eq_self, if_true, if_false, ite_true, ite_false, bI_t, bI_z, bI_nz, bI_01, true_or, or_true, reduceCtorEq, false_or, or_false, decide_eq_false_iff_not, decide_eq_true_eq, ite_not, u_nextOf m h hG hl hg hp hpl]
    rw [show (some (Value.int 0) : Option Value) = some (.int (bI false)) from rfl]
    simp only [e125_50, e125_53, e125_55, e125_57, e125_59, e125_62, e125_63, e125_64, e125_65, e125_68, e125_71, mm_pu_n, mm_pu_s, va_rf_s, mm_w8_0, mm_w8_1, mm_w8_2, mm_w8_3, mm_w8_4, mm_c1_n, mm_c1_i, mm_c1_a, mm_ct_a, mm_ct_i, true_and, and_true, and_self, eq_self, if_true, if_false, ite_true, ite_false, bI_t, bI_z, bI_nz, bI_01, true_or, or_true, reduceCtorEq, false_or, or_false, decide_eq_false_iff_not, decide_eq_true_eq, ite_not, u_nextOf m h hG hl hg hp hpl, it_i]
    have fin : ∀ (o : Option Nat) (l3 l5 : Option Value), (∀ k, o = some k → k < 6) → o.getD p = p_nxt (vr I s m) n ng g p → mm_E 125 73 [some (.ref s), some (.int (nI g)), some (.int (bI had)), l3, some (.int (bI (decide (had = true ∧ (vr I s m 4 g = 1 ∨ vr I s m 4 g = 3))))), l5] [.int (oN o)] I r Q := by
      intro o l3 l5 ho he
      simp only [e125_73, e125_75, e125_76, e125_78, e125_79, e125_80, e125_82, e125_84, e125_87, e125_88, e125_90, e125_91, e125_92, e125_93, e125_96, mm_pu_n, mm_pu_s, va_rf_s, mm_w8_0, mm_w8_1, mm_w8_2, mm_w8_3, mm_w8_4, mm_c1_n, mm_c1_i, mm_c1_a, mm_ct_a, mm_ct_i, true_and, and_true, and_self, eq_self, if_true, if_false, ite_true, ite_false, bI_t, bI_z, bI_nz, bI_01, true_or, or_true, reduceCtorEq, false_or, or_false, decide_eq_false_iff_not, decide_eq_true_eq, ite_not, h, k21, in2 (show 21 + g < 248 by omega), cl2 (show 21 + g < 248 by omega), r21 m hg, hpl, it_i]
      have e2 : (if oN o = -4 then nI p else oN o) = nI (p_nxt (vr I s m) n ng g p) := by
        cases o with
        | none => rw [← he]; simp [oN_n]
        | some k => rw [← he]; simp [oN_s (ho k rfl)]; rfl
      have e3 : (if ¬ oN o = -4 then oN o else nI p) = nI (p_nxt (vr I s m) n ng g p) := by
        rw [← e2]; by_cases z : oN o = -4 <;> simp [z]
      first | rw [e2] | rw [e3]
      simp only [e125_98, e125_99, mm_pu_n, mm_pu_s, va_rf_s, mm_w8_0, mm_w8_1, mm_w8_2, mm_w8_3, mm_w8_4, mm_c1_n, mm_c1_i, mm_c1_a, mm_ct_a, mm_ct_i, true_and, and_true, and_self, eq_self, if_true, if_false, ite_true, ite_false, bI_t, bI_z, bI_nz, bI_01, true_or, or_true, reduceCtorEq, false_or, or_false, decide_eq_false_iff_not, decide_eq_true_eq, ite_not, h, in2 (show 21 + g < 248 by omega), cl2 (show 21 + g < 248 by omega)]
      refine hq _ ?_ (ml_F.rf.u (by omega))
      rw [if_neg c]
      exact vr_u (k := 6) hs ⟨by decide, hg⟩
    have hlt : ∀ al k, q_nx (vr I s m) al n ng p (n - 1) 1 = some k → k < 6 := fun al k hk => by
      have := q_nx_lt _ al n ng p hp _ _ (by omega) k hk
      omega
    have hpn := p_nxt_q (vr I s m) (ng := ng) (g := g) hp
    cases hz : q_nx (vr I s m) (p_shy (vr I s m) g) n ng p (n - 1) 1 with
    | some k =>
      rw [hz] at hpn
      have := fin (some k) (some (.int (vr I s m 4 g))) (some (.int (oN (some k)))) (fun k2 e => by cases e; exact hlt _ k hz) hpn.symm
      simpa [oN_s (hlt _ k hz)] using this
    | none =>
      rw [hz] at hpn
      have := fin (q_nx (vr I s m) false n ng p (n - 1) 1) (some (.int (vr I s m 4 g))) (some (.int (oN none))) (fun k2 e => hlt _ k2 e) hpn.symm
      simpa [oN_n] using this
end
