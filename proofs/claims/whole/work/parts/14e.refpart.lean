/-- the sum of the lowest e digits of q by the base B -/
def sd (B q : Nat) : Nat → Nat
  | 0 => 0
  | e + 1 => sd B q e + q / B ^ e % B
theorem dg_up {B q d : Nat} (hd : d < B) (e : Nat) : (q * B + d) / B ^ (e + 1) = q / B ^ e := by
  rw [Nat.pow_succ, Nat.mul_comm (B ^ e) B, ← Nat.div_div_eq_div_mul]
  congr 1
  rw [Nat.mul_comm q B, Nat.mul_add_div (by omega), Nat.div_eq_of_lt hd, Nat.add_zero]
theorem sd_up {B q d : Nat} (hd : d < B) : ∀ e, sd B (q * B + d) (e + 1) = sd B q e + d := by
  intro e
  induction e with
  | zero =>
    show 0 + (q * B + d) / B ^ 0 % B = 0 + d
    rw [Nat.pow_zero, Nat.div_one, Nat.mul_comm q B, Nat.mul_add_mod, Nat.mod_eq_of_lt hd]
  | succ e ih =>
    show sd B (q * B + d) (e + 1) + (q * B + d) / B ^ (e + 1) % B = (sd B q e + q / B ^ e % B) + d
    rw [ih, dg_up hd]; omega
theorem sd_le {B q : Nat} (hB : 0 < B) : ∀ e, sd B q e ≤ e * B := by
  intro e
  induction e with
  | zero => exact Nat.zero_le _
  | succ e ih =>
    show sd B q e + q / B ^ e % B ≤ (e + 1) * B
    have := Nat.mod_lt (q / B ^ e) hB
    rw [Nat.add_mul]
    omega
theorem scw_2 (L : mm_I) (w : Nat → Nat) (i : Nat) : ∀ k, scw L w k 2 i = if i < k then nI (w i) else L 2 i := by
  intro k
  induction k with
  | zero => rw [if_neg (by omega)]; rfl
  | succ k ih =>
    show mm_uI (scw L w k) 2 k (nI (w k)) 2 i = _
    by_cases c : i = k
    · subst c; rw [mu_s, if_pos (by omega)]
    · rw [mu_j c, ih]
      by_cases d : i < k
      · rw [if_pos d, if_pos (by omega)]
      · rw [if_neg d, if_neg (by omega)]
def mo (st : pt_S) : Int32 := match st with
  | none => -4
  | some q => nI q.1
def le (st : pt_S) : Int32 := match st with
  | none => -4
  | some q => q.2.1
def pm_S (J : mm_I) (a n : Nat) (st : pt_S) : Prop := match st with
  | none => True
  | some q => q.1 ≤ n ∧ ∀ h, h < n → J a h = nI (q.2.2 h)
theorem pm_F {J K : mm_I} {a n : Nat} {st : pt_S} (h : pm_S J a n st) (h1 : K a = J a) : pm_S K a n st := by
  cases st with
  | none => trivial
  | some q => exact ⟨h.1, fun i hi => by rw [h1]; exact h.2 i hi⟩
def fq (m : Nat) (I J : mm_I) : Prop := ∀ q, q ≠ m + 6 → q ≠ m + 9 → q ≠ m + 10 → q ≠ m + 11 → q ≠ m + 12 → J q = I q
theorem fq.tr {m : Nat} {I J K : mm_I} (h1 : fq m I J) (h2 : fq m J K) : fq m I K := fun q a b c d e => (h2 q a b c d e).trans (h1 q a b c d e)
theorem fq.m {m : Nat} {I J : mm_I} (h : fm I J m) : fq m I J := fun q a b c _ _ => h q a b c
section
variable {r : mm_R} {I : mm_I} {m n c q : Nat} {Q : Option Value → mm_I → mm_R → Prop}
theorem u_layParts (hml : ml_S r m) (hn0 : 0 < n) (hn : n ≤ 6) (g0 : vr I (m + 5) m 0 0 = nI n) (hc : c ≤ 12) (hq31 : q < 2 ^ 31) (hq : ∀ K, (∀ a, a ≠ m + 11 → K a = I a) → (∀ i, i < n - 1 → K (m + 11) i = nI (q / (c + 1) ^ (n - 2 - i) % (c + 1))) → (sd (c + 1) q (n - 1) ≤ c → K (m + 11) (n - 1) = nI (c - sd (c + 1) q (n - 1))) → Q (some (.int (bI (decide (sd (c + 1) q (n - 1) ≤ c))))) K r) : mm_E 144 0 [some (.ref m), some (.int (nI q)), some (.int (nI c)), none, none, none] [] I r Q := by
  have eB : nI c + 1 = nI (c + 1) := nI_1 c
  have hS : ∀ e, e ≤ 5 → sd (c + 1) q e < 100 := fun e he => by
    have h1 := sd_le (B := c + 1) (q := q) (by omega) e
    have h2 : e * (c + 1) ≤ 5 * 13 := Nat.mul_le_mul he (by omega)
    omega
  have loop : ∀ d e J (y : Int32), d + e = n - 1 → y = nI d + -1 → (∀ a, a ≠ m + 11 → J a = I a) → (∀ i, d ≤ i → i < n - 1 → J (m + 11) i = nI (q / (c + 1) ^ (n - 2 - i) % (c + 1))) → mm_E 144 16 [some (.ref m), some (.int (nI q)), some (.int (nI c)), some (.int (nI (q / (c + 1) ^ e))), some (.int (nI (sd (c + 1) q e))), some (.int y)] [] J r Q := by
    intro d
    induction d with
    | zero =>
      intro e J y hde hy hF hP
      have he : e = n - 1 := by omega
      subst he
      have hy1 : y = -1 := by rw [hy]; decide
      subst hy1
      have gJ : vr J (m + 5) m 0 0 = nI n := by rw [vr_q (I := I) (by decide) (fun j _ => by rw [hF _ (by omega)])]; exact g0
      have hs := hS (n - 1) (by omega)
      rw [e144_16]
      simp only [e144_18, e144_57, e144_58, e144_61, e144_62, e144_65, e144_67, e144_68, e144_69, e144_70, e144_71, e144_73, e144_74, e144_75, e144_77, e144_78, mm_pu_n, mm_pu_s, va_rf_s, mm_w8_0, mm_w8_1, mm_w8_2, mm_w8_3, mm_w8_4, mm_c1_n, mm_c1_i, mm_c1_a, mm_ct_a, mm_ct_i, true_and, and_true, and_self, eq_self, if_true, if_false, ite_true, ite_false, bI_t, bI_z, bI_nz, bI_01, true_or, or_true, reduceCtorEq, false_or, or_false, decide_eq_false_iff_not, decide_eq_true_eq, ite_not, show ((-1 : Int32) < 0) = True from eq_true (by decide), hml.s0, hml.p7, hml.i5, hml.p14, hml.i11, c27.1, d27.1, r27 m, gJ, n_m1 hn0 (show n < 2 ^ 31 by omega), in6 (show n - 1 < 6 by omega), cl_nI (show n - 1 < 6 by omega)]
      have fr : ∀ z : Int32, ∀ a, a ≠ m + 11 → mm_uI J (m + 11) (n - 1) z a = I a := fun z a ha => by rw [mu_n ha]; exact hF a ha
      have pr : ∀ z : Int32, ∀ i, i < n - 1 → mm_uI J (m + 11) (n - 1) z (m + 11) i = nI (q / (c + 1) ^ (n - 2 - i) % (c + 1)) := fun z i hi => by rw [mu_j (by omega)]; exact hP i (Nat.zero_le _) hi
      by_cases hle : sd (c + 1) q (n - 1) ≤ c
      · rw [if_neg (show ¬ nI c < nI (sd (c + 1) q (n - 1)) from nI_nlt hle (by omega))]
        simp only [e144_81, e144_82, e144_85, e144_86, mm_pu_n, mm_pu_s, va_rf_s, mm_w8_0, mm_w8_1, mm_w8_2, mm_w8_3, mm_w8_4, mm_c1_n, mm_c1_i, mm_c1_a, mm_ct_a, mm_ct_i, true_and, and_true, and_self, eq_self, if_true, if_false, ite_true, ite_false, bI_t, bI_z, bI_nz, bI_01, true_or, or_true, reduceCtorEq, false_or, or_false, decide_eq_false_iff_not, decide_eq_true_eq, ite_not]
        have := hq _ (fr (nI c - nI (sd (c + 1) q (n - 1)))) (pr _) (fun _ => by rw [mu_s, n_sub hle (by omega)])
        rw [bI_1 _ _ hle] at this
        exact this
      · rw [if_pos (show nI c < nI (sd (c + 1) q (n - 1)) from nI_lt (by omega) (by omega))]
        simp only [e144_85, e144_86, mm_pu_n, mm_pu_s, va_rf_s, mm_w8_0, mm_w8_1, mm_w8_2, mm_w8_3, mm_w8_4, mm_c1_n, mm_c1_i, mm_c1_a, mm_ct_a, mm_ct_i, true_and, and_true, and_self, eq_self, if_true, if_false, ite_true, ite_false, bI_t, bI_z, bI_nz, bI_01, true_or, or_true, reduceCtorEq, false_or, or_false, decide_eq_false_iff_not, decide_eq_true_eq, ite_not]
        have := hq _ (fr (nI c - nI (sd (c + 1) q (n - 1)))) (pr _) (fun z => absurd z hle)
        rw [bI_0 _ _ hle] at this
        exact this
    | succ d ih =>
      intro e J y hde hy hF hP
      rw [nI_m1] at hy
      subst hy
      have hd6 : d < 6 := by omega
      have hqe : q / (c + 1) ^ e < 2 ^ 31 := Nat.lt_of_le_of_lt (Nat.div_le_self _ _) hq31
      have ed : nI (q / (c + 1) ^ e) / nI (c + 1) = nI (q / (c + 1) ^ (e + 1)) := by rw [pk_div hqe (by omega) (by omega), Nat.div_div_eq_div_mul, ← Nat.pow_succ]
      have er : nI (q / (c + 1) ^ e) - nI (q / (c + 1) ^ e) / nI (c + 1) * nI (c + 1) = nI (q / (c + 1) ^ e % (c + 1)) := pk_rem hqe (by omega) (by omega)
      have nz : (nI (c + 1) = 0) = False := eq_false (nI_ne0 (by omega) (by omega))
      have hn2 : n - 2 - d = e := by omega
      rw [e144_16]
      simp only [e144_18, e144_21, e144_22, e144_25, e144_27, e144_28, e144_29, e144_30, e144_31, e144_32, e144_33, e144_34, e144_35, e144_36, e144_37, e144_38, e144_39, e144_41, e144_42, e144_45, e144_47, e144_48, e144_49, e144_51, mm_pu_n, mm_pu_s, va_rf_s, mm_w8_0, mm_w8_1, mm_w8_2, mm_w8_3, mm_w8_4, mm_c1_n, mm_c1_i, mm_c1_a, mm_ct_a, mm_ct_i, true_and, and_true, and_self, eq_self, if_true, if_false, ite_true, ite_false, bI_t, bI_z, bI_nz, bI_01, true_or, or_true, reduceCtorEq, false_or, or_false, decide_eq_false_iff_not, decide_eq_true_eq, ite_not, nI_nn (show d < 2 ^ 31 by omega), hml.s0, hml.p7, hml.i5, hml.p14, hml.i11, in6 hd6, cl_nI hd6, eB, nz, not_false_eq_true, er, rd_u, nI_add]
      rw [ed]
      simp only [e144_54, mm_pu_n, mm_pu_s, va_rf_s, mm_w8_0, mm_w8_1, mm_w8_2, mm_w8_3, mm_w8_4, mm_c1_n, mm_c1_i, mm_c1_a, mm_ct_a, mm_ct_i, true_and, and_true, and_self, eq_self, if_true, if_false, ite_true, ite_false, bI_t, bI_z, bI_nz, bI_01, true_or, or_true, reduceCtorEq, false_or, or_false, decide_eq_false_iff_not, decide_eq_true_eq, ite_not]
      refine ih (e + 1) _ _ (by omega) rfl (fun a ha => by rw [mu_n ha]; exact hF a ha) (fun i hi hin => ?_)
      by_cases z : i = d
      · subst z; rw [mu_s, hn2]
      · rw [mu_j z]; exact hP i (by omega) hin
  have g0' : mm_rd I (m + 5) 27 = nI n := by rw [r27 m]; exact g0
  have en2 : nI n - 2 = nI (n - 1) + -1 := by
    rw [show nI n = nI (n - 1) + 1 from by rw [nI_1]; congr 1; omega, Int32.sub_eq_add_neg, Int32.add_assoc, show (1 : Int32) + -2 = -1 from by decide]
  have := loop (n - 1) 0 I _ (by omega) rfl (fun _ _ => rfl) (fun i a b => absurd b (by omega))
  simp only [e144_0, e144_1, e144_2, e144_3, e144_5, e144_6, e144_9, e144_11, e144_12, e144_13, e144_14, mm_pu_n, mm_pu_s, va_rf_s, mm_w8_0, mm_w8_1, mm_w8_2, mm_w8_3, mm_w8_4, mm_c1_n, mm_c1_i, mm_c1_a, mm_ct_a, mm_ct_i, true_and, and_true, and_self, eq_self, if_true, if_false, ite_true, ite_false, bI_t, bI_z, bI_nz, bI_01, true_or, or_true, reduceCtorEq, false_or, or_false, decide_eq_false_iff_not, decide_eq_true_eq, ite_not, hml.s0, hml.p7, hml.i5, c27.1, d27.1, g0', en2]
  rw [Nat.pow_zero, Nat.div_one] at this
  exact this
end
