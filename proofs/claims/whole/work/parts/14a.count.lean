def pcn (s : Nat) : Nat := s % 2 + s / 2 % 2 + s / 4 % 2 + s / 8 % 2 + s / 16 % 2 + s / 32 % 2
/-- how many are lost of the first k -/
def lcn (M : mm_I) : Nat → Nat
  | 0 => 0
  | k + 1 => lcn M k + (if 3 ≤ M 3 k then 1 else 0)
theorem lcn_le (M : mm_I) : ∀ k, lcn M k ≤ k := by
  intro k
  induction k with
  | zero => exact Nat.le_refl _
  | succ k ih =>
    show lcn M k + (if 3 ≤ M 3 k then 1 else 0) ≤ k + 1
    split <;> omega
theorem or_bit : ∀ k, k < 6 → ∀ s, s < 2 ^ k → nI s ||| ((1 : Int32) <<< (nI k &&& 31)) = nI (s + 2 ^ k) ∧ pcn (s + 2 ^ k) = pcn s + 1 ∧ s + 2 ^ k < 2 ^ (k + 1) := by decide +kernel
theorem p_ls_c (M : mm_I) : ∀ k, k ≤ 6 → ∃ s, s < 2 ^ k ∧ p_ls M k = nI s ∧ pcn s = lcn M k := by
  intro k
  induction k with
  | zero => intro _; exact ⟨0, by decide, rfl, rfl⟩
  | succ k ih =>
    intro hk
    obtain ⟨s, h1, h2, h3⟩ := ih (by omega)
    obtain ⟨o1, o2, o3⟩ := or_bit k (by omega) s h1
    have e1 : p_ls M (k + 1) = if 3 ≤ M 3 k then p_ls M k ||| ((1 : Int32) <<< (nI k &&& 31)) else p_ls M k := rfl
    have e2 : lcn M (k + 1) = lcn M k + (if 3 ≤ M 3 k then 1 else 0) := rfl
    rw [e1, e2]
    by_cases c : 3 ≤ M 3 k
    · rw [if_pos c, if_pos c]
      exact ⟨s + 2 ^ k, o3, by rw [h2]; exact o1, by rw [o2, h3]⟩
    · rw [if_neg c, if_neg c]
      exact ⟨s, by rw [Nat.pow_succ]; omega, h2, h3⟩
section
variable {r : mm_R} {I : mm_I} {Q : Option Value → mm_I → mm_R → Prop}
def bcI (x : Int32) : Int32 :=
  let a := x - ((x.toUInt32 >>> ((1 : Int32).toUInt32 &&& Int32.toUInt32 31)).toInt32 &&& 1431655765)
  let b := (a &&& 858993459) + ((a.toUInt32 >>> ((2 : Int32).toUInt32 &&& Int32.toUInt32 31)).toInt32 &&& 858993459)
  let c := (b + (b.toUInt32 >>> ((4 : Int32).toUInt32 &&& Int32.toUInt32 31)).toInt32) &&& 252645135
  let d := c + (c.toUInt32 >>> ((8 : Int32).toUInt32 &&& Int32.toUInt32 31)).toInt32
  let e := d + (d.toUInt32 >>> ((16 : Int32).toUInt32 &&& Int32.toUInt32 31)).toInt32
  e &&& 63
theorem bcI_v : ∀ s, s < 64 → bcI (nI s) = nI (pcn s) := by decide +kernel
theorem t_bitCount (x : Int32) : mm_E 163 0 [some (.int x)] [] I r Q ↔ Q (some (.int (bcI x))) I r := by
  simp only [e163_0, e163_1, e163_2, e163_3, e163_4, e163_7, e163_8, e163_9, e163_10, e163_11, e163_14, e163_15, e163_16, e163_17, e163_18, e163_21, e163_22, e163_23, e163_24, e163_25, e163_26, e163_27, e163_28, e163_29, e163_32, e163_33, e163_34, e163_35, e163_36, e163_38, e163_39, e163_40, e163_41, e163_42, e163_43, e163_45, e163_46, e163_47, e163_48, e163_49, e163_51, e163_52, mm_pu_n, mm_pu_s, va_rf_s, mm_w8_0, mm_w8_1, mm_w8_2, mm_w8_3, mm_w8_4, mm_c1_n, mm_c1_i, mm_c1_a, mm_ct_a, mm_ct_i, true_and, and_true, and_self, eq_self, if_true, if_false, ite_true, ite_false, bI_t, bI_z, bI_nz, bI_01, true_or, or_true, reduceCtorEq, false_or, or_false, decide_eq_false_iff_not, decide_eq_true_eq, ite_not]
  rfl
def bsI (x : Int32) : Nat → Int32
  | 0 => 0
  | k + 1 => bsI x k + ((x >>> (nI k &&& 31)) &&& 1)
theorem bsI_v : ∀ s, s < 64 → bsI (nI s) 6 = nI (pcn s) := by decide +kernel
theorem u_bits (x : Int32) : mm_E 95 0 [some (.int x), none, none] [] I r Q ↔ Q (some (.int (bsI x 6))) I r := by
  have loop : ∀ d k, k + d = 6 → (mm_E 95 4 [some (.int x), some (.int (bsI x k)), some (.int (nI k))] [] I r Q ↔ Q (some (.int (bsI x 6))) I r) := by
    intro d
    induction d with
    | zero =>
      intro k hk
      have : k = 6 := by omega
      subst this
      rw [e95_4]
      simp only [e95_5, e95_7, e95_24, e95_25, mm_pu_n, mm_pu_s, va_rf_s, mm_w8_0, mm_w8_1, mm_w8_2, mm_w8_3, mm_w8_4, mm_c1_n, mm_c1_i, mm_c1_a, mm_ct_a, mm_ct_i, true_and, and_true, and_self, eq_self, if_true, if_false, ite_true, ite_false, bI_t, bI_z, bI_nz, bI_01, true_or, or_true, reduceCtorEq, false_or, or_false, decide_eq_false_iff_not, decide_eq_true_eq, ite_not, show ((6 : Int32) ≤ nI 6) = True from eq_true (by decide)]
    | succ d ih =>
      intro k hk
      have h6 : ¬ ((6 : Int32) ≤ nI k) := by
        rw [show (6 : Int32) = nI 6 from rfl]
        exact nI_ge (by omega) (by decide)
      rw [e95_4]
      simp only [e95_5, e95_7, e95_10, e95_11, e95_12, e95_13, e95_14, e95_15, e95_16, e95_17, e95_18, e95_21, mm_pu_n, mm_pu_s, va_rf_s, mm_w8_0, mm_w8_1, mm_w8_2, mm_w8_3, mm_w8_4, mm_c1_n, mm_c1_i, mm_c1_a, mm_ct_a, mm_ct_i, true_and, and_true, and_self, eq_self, if_true, if_false, ite_true, ite_false, bI_t, bI_z, bI_nz, bI_01, true_or, or_true, reduceCtorEq, false_or, or_false, decide_eq_false_iff_not, decide_eq_true_eq, ite_not, h6, nI_1]
      exact ih (k + 1) (by omega)
  simp only [e95_0, e95_1, e95_2, e95_3, mm_pu_n, mm_pu_s, va_rf_s, mm_w8_0, mm_w8_1, mm_w8_2, mm_w8_3, mm_w8_4, mm_c1_n, mm_c1_i, mm_c1_a, mm_ct_a, mm_ct_i, true_and, and_true, and_self, eq_self, if_true, if_false, ite_true, ite_false, bI_t, bI_z, bI_nz, bI_01, true_or, or_true, reduceCtorEq, false_or, or_false, decide_eq_false_iff_not, decide_eq_true_eq, ite_not]
  exact loop 6 0 (by omega)
end
/-- lost for good -/
theorem p_vis_3 {L : mm_I} {n ng g p q : Nat} (h : 3 ≤ L 3 q) : p_vis L n ng g p 3 q = L 3 q := by
  have h1 : p_vis1 L g p 3 q = L 3 q := by
    unfold p_vis1
    by_cases c : 3 ≤ L 3 p
    · rw [if_pos c]
    · rw [if_neg c]
      have hne : q ≠ p := fun z => c (z ▸ h)
      unfold p_eat p_eat4
      have e2 : ∀ d, p_eat3 (p_eat2 (p_eat1 L p d) p d) p d 3 q = L 3 q := by
        intro d
        have e0 : p_eat2 (p_eat1 L p d) p d 3 q = L 3 q := by
          unfold p_eat2 p_eat1
          rw [mu_n (by decide), mu_n (by decide), mu_n (by decide)]
        unfold p_eat3
        split
        · exact e0
        · rw [mu_n (by decide)]; exact e0
      split
      · exact e2 _
      · split
        · exact e2 _
        · rw [mu_j hne]; exact e2 _
  unfold p_vis
  split
  · exact h1
  · rw [mu_n (by decide)]; exact h1
theorem p_hogs_3 {L : mm_I} {n ng q : Nat} (s : Int32) (h : 3 ≤ L 3 q) : ∀ g, p_hogs L n ng s g 3 q = L 3 q := by
  intro g
  induction g with
  | zero => rfl
  | succ g ih =>
    unfold p_hogs
    split
    · rw [p_vis_3 (by rw [ih]; exact h)]; exact ih
    · exact ih
theorem p_night_3 {L : mm_I} {n ng q : Nat} (s : Int32) (h : 3 ≤ L 3 q) : p_night L n ng s 3 q = L 3 q := by
  unfold p_night p_nt
  rw [mu_n (by decide)]
  split
  · rw [p_fill_keep _ _ _ _ (by decide)]
  · have hf : p_fill L false n 3 q = L 3 q := by rw [p_fill_keep _ _ _ _ (by decide)]
    rw [p_int_keep _ _ _ (by decide), p_hogs_3 s (by rw [hf]; exact h)]
    exact hf
theorem lcn_mono {L : mm_I} {n ng : Nat} (s : Int32) : ∀ k, lcn L k ≤ lcn (p_night L n ng s) k := by
  intro k
  induction k with
  | zero => exact Nat.le_refl _
  | succ k ih =>
    show lcn L k + (if 3 ≤ L 3 k then 1 else 0) ≤ lcn (p_night L n ng s) k + (if 3 ≤ p_night L n ng s 3 k then 1 else 0)
    by_cases c : 3 ≤ L 3 k
    · rw [if_pos c, if_pos (by rw [p_night_3 s c]; exact c)]; omega
    · rw [if_neg c]; split <;> omega
theorem lcn_nights {L : mm_I} {n ng : Nat} (k a : Nat) : ∀ d, lcn (p_nights L n ng a) k ≤ lcn (p_nights L n ng (a + d)) k := by
  intro d
  induction d with
  | zero => exact Nat.le_refl _
  | succ d ih => exact Nat.le_trans ih (lcn_mono 0 k)
theorem lcn_c {M N : mm_I} {n ng : Nat} (h : ag (wc n ng) M N) : ∀ k, k ≤ n → lcn M k = lcn N k := by
  intro k
  induction k with
  | zero => intro _; rfl
  | succ k ih =>
    intro hk
    show lcn M k + (if 3 ≤ M 3 k then 1 else 0) = lcn N k + (if 3 ≤ N 3 k then 1 else 0)
    rw [ih (by omega), h 3 k (wc_h (by decide) hk)]
