def p_ls (L : mm_I) : Nat → Int32
  | 0 => 0
  | k + 1 => if 3 ≤ L 3 k then p_ls L k ||| ((1 : Int32) <<< (nI k &&& 31)) else p_ls L k
def p_ow (L : mm_I) : Nat → Int32
  | 0 => 0
  | k + 1 => p_ow L k + L 1 k
def p_gs (L : mm_I) (h : Int32) : Nat → Int32
  | 0 => 0
  | k + 1 => if L 6 k = h then p_gs L h k ||| ((1 : Int32) <<< (nI k &&& 31)) else p_gs L h k
def p_ap (L : mm_I) (g : Nat) : Int32 := if L 4 g = 3 then 2 * L 5 g else if L 4 g = 4 then L 5 g / 2 else L 5 g
theorem nle6 {k n : Nat} (h : k < n) (hn : n ≤ 6) : ¬ nI n ≤ nI k := nI_ge h (by omega)
theorem it_i {j pc : Nat} {ls : mm_L} {x y : Int32} {st : List Value} {I : mm_I} {r : mm_R} {Q : Option Value → mm_I → mm_R → Prop} (c : Prop) [Decidable c] : (if c then mm_E j pc ls (.int x :: st) I r Q else mm_E j pc ls (.int y :: st) I r Q) = mm_E j pc ls (.int (if c then x else y) :: st) I r Q := by split <;> rfl
theorem it_m {j pc : Nat} {ls : mm_L} {st : List Value} {I J : mm_I} {r : mm_R} {Q : Option Value → mm_I → mm_R → Prop} (c : Prop) [Decidable c] : (if c then mm_E j pc ls st I r Q else mm_E j pc ls st J r Q) = mm_E j pc ls st (if c then I else J) r Q := by split <;> rfl
theorem it_v (c : Prop) [Decidable c] (I J : mm_I) (a : Nat) : vc (if c then I else J) a = if c then vc I a else vc J a := by split <;> rfl
theorem it_b (c : Prop) [Decidable c] : (if c then (0 : Int32) else 1) = bI (decide (¬ c)) := by by_cases h : c <;> simp [h, bI]
theorem it_b1 (c : Prop) [Decidable c] : (if c then (1 : Int32) else 0) = bI (decide c) := by by_cases h : c <;> simp [h, bI]
theorem it_F {a : Nat} {I J K : mm_I} {c : Prop} [Decidable c] (h1 : ln_F a I J) (h2 : ln_F a I K) : ln_F a I (if c then J else K) := by split <;> assumption
section
variable {r : mm_R} {a : Nat} {I : mm_I} {Q : Option Value → mm_I → mm_R → Prop}
theorem t_lostSet (h : ln_S r a) {n : Nat} (hn : n ≤ 6) (h0 : vc I a 0 0 = nI n) : mm_E 9 0 [some (.ref a), none, none] [] I r Q ↔ Q (some (.int (p_ls (vc I a) n))) I r := by
  have loop : ∀ d k, k + d = n → (mm_E 9 4 [some (.ref a), some (.int (p_ls (vc I a) k)), some (.int (nI k))] [] I r Q ↔ Q (some (.int (p_ls (vc I a) n))) I r) := by
    intro d
    induction d with
    | zero =>
      intro k hk
      have : k = n := by omega
      subst this
      rw [e9_4]
      simp only [e9_0, e9_1, e9_2, e9_3, e9_5, e9_6, e9_9, e9_12, e9_13, e9_14, e9_17, e9_20, e9_21, e9_22, e9_23, e9_24, e9_25, e9_26, e9_29, e9_32, e9_33, mm_pu_n, mm_pu_s, va_rf_s, mm_w8_0, mm_w8_1, mm_w8_2, mm_w8_3, mm_w8_4, mm_c1_n, mm_c1_i, mm_c1_a, mm_ct_a, mm_ct_i, true_and, and_true, and_self, eq_self, if_true, if_false, ite_true, ite_false, bI_t, bI_z, bI_nz, bI_01, true_or, or_true, reduceCtorEq, false_or, or_false, decide_eq_false_iff_not, decide_eq_true_eq, ite_not, h.s0, rd_0 (a := a) (i := 0) (by decide), h0, Int32.le_refl]
    | succ d ih =>
      intro k hk
      have hk6 : k < 6 := by omega
      have ih2 := ih (k + 1) (by omega)
      rw [e9_4]
      simp only [e9_0, e9_1, e9_2, e9_3, e9_5, e9_6, e9_9, e9_12, e9_13, e9_14, e9_17, e9_20, e9_21, e9_22, e9_23, e9_24, e9_25, e9_26, e9_29, e9_32, e9_33, mm_pu_n, mm_pu_s, va_rf_s, mm_w8_0, mm_w8_1, mm_w8_2, mm_w8_3, mm_w8_4, mm_c1_n, mm_c1_i, mm_c1_a, mm_ct_a, mm_ct_i, true_and, and_true, and_self, eq_self, if_true, if_false, ite_true, ite_false, bI_t, bI_z, bI_nz, bI_01, true_or, or_true, reduceCtorEq, false_or, or_false, decide_eq_false_iff_not, decide_eq_true_eq, ite_not, h.s0, rd_0 (a := a) (i := 0) (by decide), h0, t_isLost h hk6, nle6 (show k < n by omega) hn, nI_1]
      rw [p_ls] at ih2
      by_cases hl : 3 ≤ vc I a 3 k
      · rw [if_pos hl] at ih2 ⊢; exact ih2
      · rw [if_neg hl] at ih2 ⊢; exact ih2
  have := loop n 0 (by omega)
  simp only [e9_0, e9_1, e9_2, e9_3, mm_pu_n, mm_pu_s, va_rf_s, mm_w8_0, mm_w8_1, mm_w8_2, mm_w8_3, mm_w8_4, mm_c1_n, mm_c1_i, mm_c1_a, mm_ct_a, mm_ct_i, true_and, and_true, and_self, eq_self, if_true, if_false, ite_true, ite_false, bI_t, bI_z, bI_nz, bI_01, true_or, or_true, reduceCtorEq, false_or, or_false, decide_eq_false_iff_not, decide_eq_true_eq, ite_not]
  exact this
theorem t_owedByAll (h : ln_S r a) {n : Nat} (hn : n ≤ 6) (h0 : vc I a 0 0 = nI n) : mm_E 10 0 [some (.ref a), none, none] [] I r Q ↔ Q (some (.int (p_ow (vc I a) n))) I r := by
  have loop : ∀ d k, k + d = n → (mm_E 10 4 [some (.ref a), some (.int (p_ow (vc I a) k)), some (.int (nI k))] [] I r Q ↔ Q (some (.int (p_ow (vc I a) n))) I r) := by
    intro d
    induction d with
    | zero =>
      intro k hk
      have : k = n := by omega
      subst this
      rw [e10_4]
      simp only [e10_0, e10_1, e10_2, e10_3, e10_5, e10_6, e10_9, e10_12, e10_13, e10_14, e10_17, e10_18, e10_19, e10_20, e10_21, e10_24, e10_27, e10_28, mm_pu_n, mm_pu_s, va_rf_s, mm_w8_0, mm_w8_1, mm_w8_2, mm_w8_3, mm_w8_4, mm_c1_n, mm_c1_i, mm_c1_a, mm_ct_a, mm_ct_i, true_and, and_true, and_self, eq_self, if_true, if_false, ite_true, ite_false, bI_t, bI_z, bI_nz, bI_01, true_or, or_true, reduceCtorEq, false_or, or_false, decide_eq_false_iff_not, decide_eq_true_eq, ite_not, h.s0, rd_0 (a := a) (i := 0) (by decide), h0, Int32.le_refl]
    | succ d ih =>
      intro k hk
      have hk6 : k < 6 := by omega
      have ih2 := ih (k + 1) (by omega)
      rw [e10_4]
      simp only [e10_0, e10_1, e10_2, e10_3, e10_5, e10_6, e10_9, e10_12, e10_13, e10_14, e10_17, e10_18, e10_19, e10_20, e10_21, e10_24, e10_27, e10_28, mm_pu_n, mm_pu_s, va_rf_s, mm_w8_0, mm_w8_1, mm_w8_2, mm_w8_3, mm_w8_4, mm_c1_n, mm_c1_i, mm_c1_a, mm_ct_a, mm_ct_i, true_and, and_true, and_self, eq_self, if_true, if_false, ite_true, ite_false, bI_t, bI_z, bI_nz, bI_01, true_or, or_true, reduceCtorEq, false_or, or_false, decide_eq_false_iff_not, decide_eq_true_eq, ite_not, h.s0, h.p6, h.p7, h.p8, h.p9, h.p10, h.p11, h.p12, h.p13, h.i1, h.i2, h.i3, h.i4, h.i5, h.i6, h.i7, h.i8, rd_0 (a := a) (i := 0) (by decide), h0, in6 hk6, cl_nI hk6, rd_k (a := a) (k := 1) ⟨by decide, hk6⟩, nle6 (show k < n by omega) hn, nI_1]
      rw [p_ow] at ih2
      exact ih2
  have := loop n 0 (by omega)
  simp only [e10_0, e10_1, e10_2, e10_3, mm_pu_n, mm_pu_s, va_rf_s, mm_w8_0, mm_w8_1, mm_w8_2, mm_w8_3, mm_w8_4, mm_c1_n, mm_c1_i, mm_c1_a, mm_ct_a, mm_ct_i, true_and, and_true, and_self, eq_self, if_true, if_false, ite_true, ite_false, bI_t, bI_z, bI_nz, bI_01, true_or, or_true, reduceCtorEq, false_or, or_false, decide_eq_false_iff_not, decide_eq_true_eq, ite_not]
  exact this
theorem t_guests (h : ln_S r a) (x : Int32) {n : Nat} (hn : n ≤ 5) (h0 : vc I a 0 1 = nI n) : mm_E 11 0 [some (.ref a), some (.int x), none, none] [] I r Q ↔ Q (some (.int (p_gs (vc I a) x n))) I r := by
  have loop : ∀ d k, k + d = n → (mm_E 11 4 [some (.ref a), some (.int x), some (.int (p_gs (vc I a) x k)), some (.int (nI k))] [] I r Q ↔ Q (some (.int (p_gs (vc I a) x n))) I r) := by
    intro d
    induction d with
    | zero =>
      intro k hk
      have : k = n := by omega
      subst this
      rw [e11_4]
      simp only [e11_0, e11_1, e11_2, e11_3, e11_5, e11_6, e11_9, e11_12, e11_13, e11_16, e11_17, e11_18, e11_19, e11_22, e11_23, e11_24, e11_25, e11_26, e11_27, e11_28, e11_31, e11_34, e11_35, mm_pu_n, mm_pu_s, va_rf_s, mm_w8_0, mm_w8_1, mm_w8_2, mm_w8_3, mm_w8_4, mm_c1_n, mm_c1_i, mm_c1_a, mm_ct_a, mm_ct_i, true_and, and_true, and_self, eq_self, if_true, if_false, ite_true, ite_false, bI_t, bI_z, bI_nz, bI_01, true_or, or_true, reduceCtorEq, false_or, or_false, decide_eq_false_iff_not, decide_eq_true_eq, ite_not, h.s0, rd_0 (a := a) (i := 1) (by decide), h0, Int32.le_refl]
    | succ d ih =>
      intro k hk
      have hk5 : k < 5 := by omega
      have ih2 := ih (k + 1) (by omega)
      rw [e11_4]
      simp only [e11_0, e11_1, e11_2, e11_3, e11_5, e11_6, e11_9, e11_12, e11_13, e11_16, e11_17, e11_18, e11_19, e11_22, e11_23, e11_24, e11_25, e11_26, e11_27, e11_28, e11_31, e11_34, e11_35, mm_pu_n, mm_pu_s, va_rf_s, mm_w8_0, mm_w8_1, mm_w8_2, mm_w8_3, mm_w8_4, mm_c1_n, mm_c1_i, mm_c1_a, mm_ct_a, mm_ct_i, true_and, and_true, and_self, eq_self, if_true, if_false, ite_true, ite_false, bI_t, bI_z, bI_nz, bI_01, true_or, or_true, reduceCtorEq, false_or, or_false, decide_eq_false_iff_not, decide_eq_true_eq, ite_not, h.s0, h.p6, h.p7, h.p8, h.p9, h.p10, h.p11, h.p12, h.p13, h.i1, h.i2, h.i3, h.i4, h.i5, h.i6, h.i7, h.i8, rd_0 (a := a) (i := 1) (by decide), h0, in5 hk5, cl_nI (show k < 6 by omega), rd_k (a := a) (k := 6) ⟨by decide, hk5⟩, nle6 (show k < n by omega) (show n ≤ 6 by omega), nI_1]
      rw [p_gs] at ih2
      by_cases hl : vc I a 6 k = x
      · rw [if_pos hl] at ih2 ⊢; exact ih2
      · rw [if_neg hl] at ih2 ⊢; exact ih2
  have := loop n 0 (by omega)
  simp only [e11_0, e11_1, e11_2, e11_3, mm_pu_n, mm_pu_s, va_rf_s, mm_w8_0, mm_w8_1, mm_w8_2, mm_w8_3, mm_w8_4, mm_c1_n, mm_c1_i, mm_c1_a, mm_ct_a, mm_ct_i, true_and, and_true, and_self, eq_self, if_true, if_false, ite_true, ite_false, bI_t, bI_z, bI_nz, bI_01, true_or, or_true, reduceCtorEq, false_or, or_false, decide_eq_false_iff_not, decide_eq_true_eq, ite_not]
  exact this
theorem t_appetite (h : ln_S r a) {g : Nat} (hg : g < 5) : mm_E 12 0 [some (.ref a), some (.int (nI g))] [] I r Q ↔ Q (some (.int (p_ap (vc I a) g))) I r := by
  simp only [e12_0, e12_1, e12_4, e12_5, e12_6, e12_32, e12_33, e12_34, e12_37, e12_38, e12_39, e12_40, e12_41, e12_42, e12_45, e12_46, e12_47, e12_48, e12_49, e12_50, e12_51, e12_54, e12_55, e12_56, mm_pu_n, mm_pu_s, va_rf_s, mm_w8_0, mm_w8_1, mm_w8_2, mm_w8_3, mm_w8_4, mm_c1_n, mm_c1_i, mm_c1_a, mm_ct_a, mm_ct_i, true_and, and_true, and_self, eq_self, if_true, if_false, ite_true, ite_false, bI_t, bI_z, bI_nz, bI_01, true_or, or_true, reduceCtorEq, false_or, or_false, decide_eq_false_iff_not, decide_eq_true_eq, ite_not, h.s0, h.p6, h.p7, h.p8, h.p9, h.p10, h.p11, h.p12, h.p13, h.i1, h.i2, h.i3, h.i4, h.i5, h.i6, h.i7, h.i8, in5 hg, cl_nI (show g < 6 by omega), rd_k (a := a) (k := 4) ⟨by decide, hg⟩, rd_k (a := a) (k := 5) ⟨by decide, hg⟩, show ¬ ((2 : Int32) = 0) by decide, not_false_eq_true]
  unfold p_ap
  split
  · rfl
  · split <;> rfl
theorem t_takeOff (h : ln_S r a) {k : Nat} (hk : k < 6) (d : Int32) : mm_E 13 0 [some (.ref a), some (.int (nI k)), some (.int d)] [] I r Q ↔ Q none (mm_uI I (a + 1) k (if vc I a 1 k ≤ d then 0 else vc I a 1 k - d)) r := by
  simp only [e13_0, e13_1, e13_4, e13_5, e13_6, e13_9, e13_10, e13_11, e13_12, e13_15, e13_16, e13_19, e13_20, e13_21, e13_22, e13_23, e13_26, e13_27, e13_28, mm_pu_n, mm_pu_s, va_rf_s, mm_w8_0, mm_w8_1, mm_w8_2, mm_w8_3, mm_w8_4, mm_c1_n, mm_c1_i, mm_c1_a, mm_ct_a, mm_ct_i, true_and, and_true, and_self, eq_self, if_true, if_false, ite_true, ite_false, bI_t, bI_z, bI_nz, bI_01, true_or, or_true, reduceCtorEq, false_or, or_false, decide_eq_false_iff_not, decide_eq_true_eq, ite_not, h.s0, h.p6, h.p7, h.p8, h.p9, h.p10, h.p11, h.p12, h.p13, h.i1, h.i2, h.i3, h.i4, h.i5, h.i6, h.i7, h.i8, in6 hk, cl_nI hk, rd_k (a := a) (k := 1) ⟨by decide, hk⟩]
  split <;> rfl
def p_had (L : mm_I) (g k : Nat) : Int32 := if L 7 k ≤ p_ap L g then L 7 k else p_ap L g
def p_eat1 (L : mm_I) (k : Nat) (d : Int32) : mm_I := mm_uI (mm_uI L 7 k (L 7 k - d)) 0 4 (mm_uI L 7 k (L 7 k - d) 0 4 + d)
def p_eat2 (L : mm_I) (k : Nat) (d : Int32) : mm_I := mm_uI L 1 k (if L 1 k ≤ d then 0 else L 1 k - d)
def p_eat3 (L : mm_I) (k : Nat) (d : Int32) : mm_I := if d ≤ 0 then L else mm_uI L 8 k (L 8 k + 1)
def p_eat4 (L : mm_I) (k : Nat) (d w : Int32) : mm_I := if w ≤ d then L else if L 1 k ≤ 0 then L else mm_uI L 3 k (L 3 k + 1)
def p_eat (L : mm_I) (g k : Nat) : mm_I := p_eat4 (p_eat3 (p_eat2 (p_eat1 L k (p_had L g k)) k (p_had L g k)) k (p_had L g k)) k (p_had L g k) (p_ap L g)
theorem t_eat (h : ln_S r a) {g k : Nat} (hg : g < 5) (hk : k < 6) (hq : ∀ J, vc J a = p_eat (vc I a) g k → ln_F a I J → Q (some (.int (bI (decide (p_had (vc I a) g k = p_ap (vc I a) g))))) J r) : mm_E 18 0 [some (.ref a), some (.int (nI g)), some (.int (nI k)), none, none] [] I r Q := by
  simp only [e18_0, e18_1, e18_2, e18_5, e18_6, e18_7, e18_8, e18_11, e18_12, e18_13, e18_16, e18_17, e18_20, e18_21, e18_24, e18_25, mm_pu_n, mm_pu_s, va_rf_s, mm_w8_0, mm_w8_1, mm_w8_2, mm_w8_3, mm_w8_4, mm_c1_n, mm_c1_i, mm_c1_a, mm_ct_a, mm_ct_i, true_and, and_true, and_self, eq_self, if_true, if_false, ite_true, ite_false, bI_t, bI_z, bI_nz, bI_01, true_or, or_true, reduceCtorEq, false_or, or_false, decide_eq_false_iff_not, decide_eq_true_eq, ite_not, h.s0, h.p6, h.p7, h.p8, h.p9, h.p10, h.p11, h.p12, h.p13, h.i1, h.i2, h.i3, h.i4, h.i5, h.i6, h.i7, h.i8, t_appetite h hg, in6 hk, cl_nI hk, rd_k (a := a) (k := 7) ⟨by decide, hk⟩, it_i]
  rw [show (if vc I a 7 k ≤ p_ap (vc I a) g then vc I a 7 k else p_ap (vc I a) g) = p_had (vc I a) g k from rfl]
  revert hq
  generalize hw : p_ap (vc I a) g = w
  generalize hd : p_had (vc I a) g k = d
  intro hq
  simp only [e18_26, e18_28, e18_29, e18_32, e18_33, e18_34, e18_35, e18_37, e18_38, e18_39, e18_40, e18_41, e18_44, e18_46, e18_47, e18_50, e18_51, e18_52, e18_54, e18_57, e18_59, e18_62, e18_63, e18_66, e18_67, e18_68, e18_69, e18_70, e18_71, mm_pu_n, mm_pu_s, va_rf_s, mm_w8_0, mm_w8_1, mm_w8_2, mm_w8_3, mm_w8_4, mm_c1_n, mm_c1_i, mm_c1_a, mm_ct_a, mm_ct_i, true_and, and_true, and_self, eq_self, if_true, if_false, ite_true, ite_false, bI_t, bI_z, bI_nz, bI_01, true_or, or_true, reduceCtorEq, false_or, or_false, decide_eq_false_iff_not, decide_eq_true_eq, ite_not, h.s0, h.p6, h.p7, h.p8, h.p9, h.p10, h.p11, h.p12, h.p13, h.i1, h.i2, h.i3, h.i4, h.i5, h.i6, h.i7, h.i8, in6 hk, cl_nI hk, t_takeOff h hk, rd_0 (a := a) (i := 4) (by decide), rd_k (a := a) (k := 7) ⟨by decide, hk⟩, rd_k (a := a) (k := 8) ⟨by decide, hk⟩, vc_u (a := a) (k := 7) (i := k) ⟨by decide, hk⟩, vc_u (a := a) (k := 1) (i := k) ⟨by decide, hk⟩, vc_u0 (a := a) (i := 4) (by decide), it_m]
  generalize hJ : (if d ≤ 0 then _ else _ : mm_I) = J
  have hJ3 : vc J a = p_eat3 (p_eat2 (p_eat1 (vc I a) k d) k d) k d := by
    rw [← hJ, it_v]
    simp only [vc_u (a := a) (k := 7) (i := k) ⟨by decide, hk⟩, vc_u (a := a) (k := 1) (i := k) ⟨by decide, hk⟩, vc_u (a := a) (k := 8) (i := k) ⟨by decide, hk⟩, vc_u0 (a := a) (i := 4) (by decide)]
    rfl
  have hF : ln_F a I J := by
    rw [← hJ]
    exact it_F (((ln_F.rf.u (by decide)).u0).u (by decide)) ((((ln_F.rf.u (by decide)).u0).u (by decide)).u (by decide))
  clear hJ
  simp only [e18_72, e18_74, e18_75, e18_78, e18_79, e18_82, e18_83, e18_84, e18_87, e18_88, e18_91, e18_92, e18_93, e18_94, e18_95, e18_96, mm_pu_n, mm_pu_s, va_rf_s, mm_w8_0, mm_w8_1, mm_w8_2, mm_w8_3, mm_w8_4, mm_c1_n, mm_c1_i, mm_c1_a, mm_ct_a, mm_ct_i, true_and, and_true, and_self, eq_self, if_true, if_false, ite_true, ite_false, bI_t, bI_z, bI_nz, bI_01, true_or, or_true, reduceCtorEq, false_or, or_false, decide_eq_false_iff_not, decide_eq_true_eq, ite_not, h.s0, h.p6, h.p7, h.p8, h.p9, h.p10, h.p11, h.p12, h.p13, h.i1, h.i2, h.i3, h.i4, h.i5, h.i6, h.i7, h.i8, in6 hk, cl_nI hk, rd_k (a := a) (k := 1) ⟨by decide, hk⟩, rd_k (a := a) (k := 3) ⟨by decide, hk⟩, it_m]
  generalize hK : (if w ≤ d then _ else _ : mm_I) = K
  have hK4 : vc K a = p_eat4 (vc J a) k d w := by
    rw [← hK, it_v, it_v]
    simp only [vc_u (a := a) (k := 3) (i := k) ⟨by decide, hk⟩]
    rfl
  have hFK : ln_F a I K := by
    rw [← hK]
    exact it_F hF (it_F hF (hF.u (by decide)))
  clear hK
  simp only [e18_97, e18_99, e18_100, e18_103, e18_104, e18_107, mm_pu_n, mm_pu_s, va_rf_s, mm_w8_0, mm_w8_1, mm_w8_2, mm_w8_3, mm_w8_4, mm_c1_n, mm_c1_i, mm_c1_a, mm_ct_a, mm_ct_i, true_and, and_true, and_self, eq_self, if_true, if_false, ite_true, ite_false, bI_t, bI_z, bI_nz, bI_01, true_or, or_true, reduceCtorEq, false_or, or_false, decide_eq_false_iff_not, decide_eq_true_eq, ite_not, it_i]
  rw [it_b1, e18_108]
  exact ⟨by rw [bI_z, bI_t, bI_nz]; trivial, hq K (by rw [hK4, hJ3]; subst hw; subst hd; rfl) hFK⟩
end
