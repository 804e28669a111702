theorem mu_n {I : mm_I} {a b k : Nat} {x : Int32} (h : b ≠ a) : mm_uI I a k x b = I b := by unfold mm_uI; rw [if_neg h]
theorem mu_s {I : mm_I} {a k : Nat} {x : Int32} : mm_uI I a k x a k = x := by unfold mm_uI upd; simp
theorem mu_j {I : mm_I} {a k j : Nat} {x : Int32} (h : j ≠ k) : mm_uI I a k x a j = I a j := by unfold mm_uI upd; simp [h]
theorem mu_e {I : mm_I} {a k : Nat} {x : Int32} : mm_uI I a k x a = upd (I a) k x := by unfold mm_uI; simp
def p_shy (L : mm_I) (g : Nat) : Bool := decide (L 4 g = 2 ∨ L 4 g = 4)
def p_oth (n p k : Nat) : Nat := if p + k < n then p + k else p + k - n
def p_nx (L : mm_I) (shy : Bool) (n ng p : Nat) : Nat → Nat → Nat → Nat
  | 0, _, nx => nx
  | d + 1, k, nx => if 3 ≤ L 3 (p_oth n p k) then p_nx L shy n ng p d (k + 1) nx else if shy = false ∨ p_gs L (nI (p_oth n p k)) ng = 0 then p_oth n p k else p_nx L shy n ng p d (k + 1) (if nx = p then p_oth n p k else nx)
def p_nxt (L : mm_I) (n ng g p : Nat) : Nat := p_nx L (p_shy L g) n ng p (n - 1) 1 p
theorem p_oth_lt {n p k : Nat} (hp : p < n) (hk : k < n) : p_oth n p k < n := by unfold p_oth; split <;> omega
theorem p_oth_s {n p k : Nat} (hp : p < n) (hk : k < n) (h1 : 1 ≤ k) : p_oth n p k = if p_oth n p (k - 1) + 1 < n then p_oth n p (k - 1) + 1 else 0 := by
  unfold p_oth
  split <;> split <;> split <;> omega
theorem p_nx_lt (L : mm_I) (shy : Bool) (n ng p : Nat) (hp : p < n) : ∀ d k nx, k + d = n → nx < n → p_nx L shy n ng p d k nx < n := by
  intro d
  induction d with
  | zero => intro k nx _ h; exact h
  | succ d ih =>
    intro k nx hk hx
    have ho := p_oth_lt hp (show k < n by omega)
    unfold p_nx
    split
    · exact ih _ _ (by omega) hx
    · split
      · exact ho
      · refine ih _ _ (by omega) ?_
        split <;> assumption
theorem p_nxt_lt (L : mm_I) {n ng g p : Nat} (hp : p < n) : p_nxt L n ng g p < n := p_nx_lt L _ n ng p hp _ _ _ (by omega) hp
theorem nlt6 {a b : Nat} (ha : a ≤ 6) (hb : b ≤ 6) : (nI a < nI b) = (a < b) := propext (nI_ltI (by omega) (by omega))
theorem neq6 {a b : Nat} (ha : a ≤ 6) (hb : b ≤ 6) : (nI a = nI b) = (a = b) := propext (nI_eq (by omega) (by omega))
section
variable {r : mm_R} {a : Nat} {I : mm_I} {Q : Option Value → mm_I → mm_R → Prop}
theorem t_nextHouse (h : ln_S r a) {n ng g p : Nat} (hn : n ≤ 6) (h0 : vc I a 0 0 = nI n) (hng : ng ≤ 5) (h1 : vc I a 0 1 = nI ng) (hg : g < 5) (hp : p < n) : mm_E 19 0 [some (.ref a), some (.int (nI g)), some (.int (nI p)), none, none, none, none] [] I r Q ↔ Q (some (.int (nI (p_nxt (vc I a) n ng g p)))) I r := by
  have loop : ∀ d k nx, k + d = n → 1 ≤ k → nx < n → ∀ shy, (mm_E 19 37 [some (.ref a), some (.int (nI g)), some (.int (nI p)), some (.int (bI shy)), some (.int (nI nx)), some (.int (nI k)), some (.int (nI (p_oth n p (k - 1) + 1)))] [] I r Q ↔ Q (some (.int (nI (p_nx (vc I a) shy n ng p d k nx)))) I r) := by
    intro d
    induction d with
    | zero =>
      intro k nx hk _ hx shy
      have : k = n := by omega
      subst this
      rw [e19_37]
      simp only [e19_0, e19_1, e19_4, e19_5, e19_6, e19_7, e19_10, e19_11, e19_14, e19_15, e19_16, e19_17, e19_20, e19_21, e19_24, e19_25, e19_26, e19_27, e19_29, e19_30, e19_32, e19_33, e19_34, e19_35, e19_39, e19_40, e19_43, e19_46, e19_48, e19_49, e19_52, e19_55, e19_56, e19_58, e19_59, e19_61, e19_64, e19_67, e19_70, e19_71, e19_74, e19_75, e19_77, e19_80, e19_83, e19_85, e19_86, e19_88, e19_89, e19_92, e19_94, e19_96, e19_99, e19_102, e19_105, e19_107, mm_pu_n, mm_pu_s, va_rf_s, mm_w8_0, mm_w8_1, mm_w8_2, mm_w8_3, mm_w8_4, mm_c1_n, mm_c1_i, mm_c1_a, mm_ct_a, mm_ct_i, true_and, and_true, and_self, eq_self, if_true, if_false, ite_true, ite_false, bI_t, bI_z, bI_nz, bI_01, true_or, or_true, reduceCtorEq, false_or, or_false, decide_eq_false_iff_not, decide_eq_true_eq, ite_not, h.s0, rd_0 (a := a) (i := 0) (by decide), h0, Int32.le_refl]
      rfl
    | succ d ih =>
      intro k nx hk hk1 hx shy
      have hkn : k < n := by omega
      have ho := p_oth_lt hp hkn
      have ho1 := p_oth_lt hp (show k - 1 < n by omega)
      have e1 : mm_E 19 37 [some (.ref a), some (.int (nI g)), some (.int (nI p)), some (.int (bI shy)), some (.int (nI nx)), some (.int (nI k)), some (.int (nI (p_oth n p (k - 1) + 1)))] [] I r Q ↔ mm_E 19 58 [some (.ref a), some (.int (nI g)), some (.int (nI p)), some (.int (bI shy)), some (.int (nI nx)), some (.int (nI k)), some (.int (nI (p_oth n p k)))] [] I r Q := by
        simp only [e19_37, e19_39, e19_40, e19_43, e19_46, e19_48, e19_49, e19_52, e19_55, e19_56, mm_pu_n, mm_pu_s, va_rf_s, mm_w8_0, mm_w8_1, mm_w8_2, mm_w8_3, mm_w8_4, mm_c1_n, mm_c1_i, mm_c1_a, mm_ct_a, mm_ct_i, true_and, and_true, and_self, eq_self, if_true, if_false, ite_true, ite_false, bI_t, bI_z, bI_nz, bI_01, true_or, or_true, reduceCtorEq, false_or, or_false, decide_eq_false_iff_not, decide_eq_true_eq, ite_not, h.s0, rd_0 (a := a) (i := 0) (by decide), h0, nle6 hkn hn, nlt6 (show p_oth n p (k - 1) + 1 ≤ 6 by omega) hn]
        rw [p_oth_s hp hkn hk1]
        split
        · rfl
        · rfl
      rw [e1]
      simp only [e19_58, e19_59, e19_61, e19_64, e19_67, e19_70, e19_71, e19_74, e19_75, e19_77, e19_80, e19_83, e19_85, e19_86, e19_88, e19_89, e19_92, e19_94, e19_96, e19_99, e19_102, mm_pu_n, mm_pu_s, va_rf_s, mm_w8_0, mm_w8_1, mm_w8_2, mm_w8_3, mm_w8_4, mm_c1_n, mm_c1_i, mm_c1_a, mm_ct_a, mm_ct_i, true_and, and_true, and_self, eq_self, if_true, if_false, ite_true, ite_false, bI_t, bI_z, bI_nz, bI_01, true_or, or_true, reduceCtorEq, false_or, or_false, decide_eq_false_iff_not, decide_eq_true_eq, ite_not, h.s0, t_isLost h (show p_oth n p k < 6 by omega), t_guests h _ hng h1, nI_1, neq6 (show nx ≤ 6 by omega) (show p ≤ 6 by omega)]
      have i1 := ih (k + 1) nx (by omega) (by omega) hx shy
      have i2 := ih (k + 1) (p_oth n p k) (by omega) (by omega) ho shy
      rw [show k + 1 - 1 = k by omega] at i1 i2
      rw [i1, i2]
      rw [p_nx]
      by_cases c1 : 3 ≤ vc I a 3 (p_oth n p k)
      · rw [if_pos c1, if_pos c1]
      · rw [if_neg c1, if_neg c1]
        cases shy with
        | false => simp [e19_85]
        | true =>
          by_cases c2 : p_gs (vc I a) (nI (p_oth n p k)) ng = 0
          · simp [c2]
          · by_cases c3 : nx = p
            · simp [c2, c3]
            · simp [c2, c3]
  simp only [e19_0, e19_1, e19_4, e19_5, e19_6, e19_7, e19_10, e19_11, e19_14, e19_15, e19_16, e19_17, e19_20, e19_21, e19_24, mm_pu_n, mm_pu_s, va_rf_s, mm_w8_0, mm_w8_1, mm_w8_2, mm_w8_3, mm_w8_4, mm_c1_n, mm_c1_i, mm_c1_a, mm_ct_a, mm_ct_i, true_and, and_true, and_self, eq_self, if_true, if_false, ite_true, ite_false, bI_t, bI_z, bI_nz, bI_01, true_or, or_true, reduceCtorEq, false_or, or_false, decide_eq_false_iff_not, decide_eq_true_eq, ite_not, h.s0, h.p6, h.p7, h.p8, h.p9, h.p10, h.p11, h.p12, h.p13, h.i1, h.i2, h.i3, h.i4, h.i5, h.i6, h.i7, h.i8, in5 hg, cl_nI (show g < 6 by omega), rd_k (a := a) (k := 4) ⟨by decide, hg⟩, it_i]
  have hs : (if vc I a 4 g = 2 then (1 : Int32) else if vc I a 4 g = 4 then 1 else 0) = bI (p_shy (vc I a) g) := by
    unfold p_shy
    by_cases c1 : vc I a 4 g = 2
    · simp [c1, bI]
    · by_cases c2 : vc I a 4 g = 4
      · simp [c2, bI]
      · simp [c1, c2, bI]
  rw [hs]
  simp only [e19_25, e19_26, e19_27, e19_29, e19_30, e19_32, e19_33, e19_34, e19_35, mm_pu_n, mm_pu_s, va_rf_s, mm_w8_0, mm_w8_1, mm_w8_2, mm_w8_3, mm_w8_4, mm_c1_n, mm_c1_i, mm_c1_a, mm_ct_a, mm_ct_i, true_and, and_true, and_self, eq_self, if_true, if_false, ite_true, ite_false, bI_t, bI_z, bI_nz, bI_01, true_or, or_true, reduceCtorEq, false_or, or_false, decide_eq_false_iff_not, decide_eq_true_eq, ite_not, nI_1]
  have := loop (n - 1) 1 p (by omega) (by omega) hp (p_shy (vc I a) g)
  have e0 : p_oth n p 0 = p := by unfold p_oth; rw [if_pos (by omega)]; rfl
  rw [show 1 - 1 = 0 from rfl, e0] at this
  exact this
end
