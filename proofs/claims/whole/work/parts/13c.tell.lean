def lkc (ch : Nat → Nat) (t : Nat) : Nat → Nat → Nat
  | 0, _ => 0
  | d + 1, p => if so ch t 33 p = true then lkc ch t d (se ch t 33 p) + 1 else 0
def lkp (ch : Nat → Nat) (t : Nat) : Nat → Nat → Nat
  | 0, p => p
  | d + 1, p => if so ch t 33 p = true then lkp ch t d (se ch t 33 p) else se ch t 33 p
def h2 (ch : Nat → Nat) (t p : Nat) : Nat := se ch t 46 (ne ch t p)
def h3 (ch : Nat → Nat) (t p : Nat) : Nat := ne ch t (h2 ch t p)
def hw (ch : Nat → Nat) (t p : Nat) : Bool := nok ch t 99 p && so ch t 46 (ne ch t p) && nok ch t 20 (h2 ch t p)
def hf (ch : Nat → Nat) (t p : Nat) : Nat := if nok ch t 99 p = false then sp ch t p else if so ch t 46 (ne ch t p) = false then sp ch t (ne ch t p) else if nok ch t 20 (h2 ch t p) = false then sp ch t (h2 ch t p) else h3 ch t p
def hn (ch : Nat → Nat) (t p : Nat) : Nat := lkp ch t 3 (h3 ch t p)
def hM (ch : Nat → Nat) (t p : Nat) (M : mm_I) (n : Nat) : mm_I := p_adh M n (nI (10 * nv ch t p)) (nI (nv ch t (h2 ch t p))) (nI (lkc ch t 3 (h3 ch t p)))
theorem lkp_le {ch : Nat → Nat} {t : Nat} : ∀ d p, p ≤ t → lkp ch t d p ≤ t := by
  intro d
  induction d with
  | zero => intro p h; exact h
  | succ d ih =>
    intro p h
    have := se_le (ch := ch) (c := 33) h
    unfold lkp
    split
    · exact ih _ this.2
    · exact this.2
theorem lkc_le {ch : Nat → Nat} {t : Nat} : ∀ d p, lkc ch t d p ≤ d := by
  intro d
  induction d with
  | zero => intro p; exact Nat.le_refl _
  | succ d ih =>
    intro p
    have := ih (se ch t 33 p)
    unfold lkc
    split <;> omega
/-- a digit stands there: no sign does -/
theorem so_dg {ch : Nat → Nat} {t p c : Nat} (h : dg ch t p = true) (hc : c < 48 ∨ 57 < c) : so ch t c p = false ∧ se ch t c p = p ∧ sp ch t p = p := by
  have h1 := dg_of h
  have e : sp ch t p = p := sp_n (fun _ => by omega)
  have s : so ch t c p = false := by
    unfold so
    rw [e]
    exact decide_eq_false (fun z => by omega)
  refine ⟨s, ?_, e⟩
  unfold se
  rw [s, e]
  rfl
theorem hn_dg {ch : Nat → Nat} {t p : Nat} (h : dg ch t (h3 ch t p) = true) : hn ch t p = h3 ch t p := by
  have := so_dg (c := 33) h (Or.inl (by decide))
  unfold hn
  show (if so ch t 33 (h3 ch t p) = true then lkp ch t 2 (se ch t 33 (h3 ch t p)) else se ch t 33 (h3 ch t p)) = h3 ch t p
  rw [this.1, this.2.1]
  rfl
/-- the cells that telling may change -/
def ft (a : Nat) (I J : mm_I) : Prop := ∀ q, q ≠ a → ¬ (a + 2 ≤ q ∧ q < a + 11) → J q = I q
theorem ft.tr {a : Nat} {I J K : mm_I} (h1 : ft a I J) (h2 : ft a J K) : ft a I K := fun q a b => (h2 q a b).trans (h1 q a b)
theorem ft.a {a : Nat} {I J : mm_I} (h : ∀ q, q ≠ a → J q = I q) : ft a I J := fun q z _ => h q z
theorem ft.u {a k : Nat} {I : mm_I} {y : Int32} : ft a I (mm_uI I a k y) := fun q z _ => mu_n z
theorem tc_F {J K : mm_I} {a t : Nat} {ch : Nat → Nat} {p : Nat} (h : tc J a t ch p) (h1 : K a = J a) (h2 : K (a + 1) = J (a + 1)) : tc K a t ch p := ⟨⟨(rd_F h1).trans h.1.1, (rd_F h1).trans h.1.2⟩, h.2.1, fun i hi => (rd_F h2).trans (h.2.2 i hi)⟩
section
variable {r : mm_R} {J : mm_I} {a t p : Nat} {ch : Nat → Nat} {Q : Option Value → mm_I → mm_R → Prop}
theorem t_looks (hs : ts r a) (hc : okc ch t) (l1 l2 : Int32) : ∀ d k p J, k + d = 3 → tc J a t ch p → (mm_E 40 66 [some (.ref a), some (.int l1), some (.int l2), some (.int (nI (k + lkc ch t d p)))] [] (mm_uI J a 4 (nI (lkp ch t d p))) r Q) → mm_E 40 46 [some (.ref a), some (.int l1), some (.int l2), some (.int (nI k))] [] J r Q := by
  intro d
  induction d with
  | zero =>
    intro k p J hk h hq
    have : k = 3 := by omega
    subst this
    rw [e40_46]
    simp only [e40_47, e40_48, mm_pu_n, mm_pu_s, va_rf_s, mm_w8_0, mm_w8_1, mm_w8_2, mm_w8_3, mm_w8_4, mm_c1_n, mm_c1_i, mm_c1_a, mm_ct_a, mm_ct_i, true_and, and_true, and_self, eq_self, if_true, if_false, ite_true, ite_false, bI_t, bI_z, bI_nz, bI_01, true_or, or_true, reduceCtorEq, false_or, or_false, decide_eq_false_iff_not, decide_eq_true_eq, ite_not, show ((3 : Int32) ≤ nI 3) = True from eq_true (by decide)]
    have e : mm_uI J a 4 (nI (lkp ch t 0 p)) = J := mu_sf h.1.2
    rw [e] at hq
    exact hq
  | succ d ih =>
    intro k p J hk h hq
    have hle := se_le (ch := ch) (c := 33) h.2.1
    rw [e40_46]
    have h3 : ¬ ((3 : Int32) ≤ nI k) := by
      rw [show (3 : Int32) = nI 3 from rfl]
      exact nI_ge (by omega) (by decide)
    simp only [e40_47, e40_48, e40_51, e40_52, e40_54, mm_pu_n, mm_pu_s, va_rf_s, mm_w8_0, mm_w8_1, mm_w8_2, mm_w8_3, mm_w8_4, mm_c1_n, mm_c1_i, mm_c1_a, mm_ct_a, mm_ct_i, true_and, and_true, and_self, eq_self, if_true, if_false, ite_true, ite_false, bI_t, bI_z, bI_nz, bI_01, true_or, or_true, reduceCtorEq, false_or, or_false, decide_eq_false_iff_not, decide_eq_true_eq, ite_not, h3, hs.1]
    rw [show (33 : Int32) = nI 33 from rfl]
    refine t_takes hs hc h (by decide) ?_
    have e1 : lkc ch t (d + 1) p = if so ch t 33 p = true then lkc ch t d (se ch t 33 p) + 1 else 0 := rfl
    have e2 : lkp ch t (d + 1) p = if so ch t 33 p = true then lkp ch t d (se ch t 33 p) else se ch t 33 p := rfl
    rw [e1, e2] at hq
    cases z : so ch t 33 p with
    | false =>
      rw [z] at hq
      simp only [Bool.false_eq_true, if_false, Nat.add_zero] at hq
      simp only [mm_pu_s, e40_57, mm_pu_n, mm_pu_s, va_rf_s, mm_w8_0, mm_w8_1, mm_w8_2, mm_w8_3, mm_w8_4, mm_c1_n, mm_c1_i, mm_c1_a, mm_ct_a, mm_ct_i, true_and, and_true, and_self, eq_self, if_true, if_false, ite_true, ite_false, bI_t, bI_z, bI_nz, bI_01, true_or, or_true, reduceCtorEq, false_or, or_false, decide_eq_false_iff_not, decide_eq_true_eq, ite_not]
      exact hq
    | true =>
      rw [z] at hq
      simp only [if_true] at hq
      simp only [mm_pu_s, e40_57, e40_60, e40_63, mm_pu_n, mm_pu_s, va_rf_s, mm_w8_0, mm_w8_1, mm_w8_2, mm_w8_3, mm_w8_4, mm_c1_n, mm_c1_i, mm_c1_a, mm_ct_a, mm_ct_i, true_and, and_true, and_self, eq_self, if_true, if_false, ite_true, ite_false, bI_t, bI_z, bI_nz, bI_01, true_or, or_true, reduceCtorEq, false_or, or_false, decide_eq_false_iff_not, decide_eq_true_eq, ite_not, Bool.true_eq_false, nI_1]
      refine ih (k + 1) (se ch t 33 p) _ (by omega) (tc_u h hle.2) ?_
      rw [mu_uu, show k + 1 + lkc ch t d (se ch t 33 p) = k + (lkc ch t d (se ch t 33 p) + 1) by omega]
      exact hq
theorem t_tellHouse {n : Nat} (hs : ts r a) (hl : ln_S r (a + 2)) (hc : okc ch t) (h : tc J a t ch p) (hn6 : n < 6) (h0 : vc J (a + 2) 0 0 = nI n) (hq1 : hw ch t p = true → ∀ K, ft a J K → tc K a t ch (hn ch t p) → vc K (a + 2) = hM ch t p (vc J (a + 2)) n → Q (some (.int 1)) K r) (hq0 : hw ch t p = false → ∀ K, ft a J K → mm_rd K a 1 = -20 - nI (hf ch t p) → Q (some (.int 0)) K r) : mm_E 40 0 [some (.ref a), none, none, none] [] J r Q := by
  have wv : ∀ (I : mm_I) (k : Nat) (y : Int32), vc (mm_uI I a k y) (a + 2) = vc I (a + 2) := fun I k y => vc_p (by omega)
  simp only [e40_0, e40_1, e40_3, mm_pu_n, mm_pu_s, va_rf_s, mm_w8_0, mm_w8_1, mm_w8_2, mm_w8_3, mm_w8_4, mm_c1_n, mm_c1_i, mm_c1_a, mm_ct_a, mm_ct_i, true_and, and_true, and_self, eq_self, if_true, if_false, ite_true, ite_false, bI_t, bI_z, bI_nz, bI_01, true_or, or_true, reduceCtorEq, false_or, or_false, decide_eq_false_iff_not, decide_eq_true_eq, ite_not, hs.1]
  rw [show (99 : Int32) = nI 99 from rfl]
  unfold hw at hq1 hq0
  unfold hf at hq0
  refine t_number hs hc h (by decide) (fun g1 => ?_) (fun g1 K hK hf1 => ?_)
  · have d1 := nok_1 g1
    have v1 := nv_le d1.1
    have le1 := ne_le d1.1
    have h1 := tc_u h le1
    simp only [mm_pu_s, e40_6, e40_7, e40_8, e40_11, e40_12, e40_13, e40_14, e40_16, mm_pu_n, mm_pu_s, va_rf_s, mm_w8_0, mm_w8_1, mm_w8_2, mm_w8_3, mm_w8_4, mm_c1_n, mm_c1_i, mm_c1_a, mm_ct_a, mm_ct_i, true_and, and_true, and_self, eq_self, if_true, if_false, ite_true, ite_false, bI_t, bI_z, bI_nz, bI_01, true_or, or_true, reduceCtorEq, false_or, or_false, decide_eq_false_iff_not, decide_eq_true_eq, ite_not, hs.1, nI_pos' (show nv ch t p < 2 ^ 31 by omega)]
    rw [show (46 : Int32) = nI 46 from rfl]
    refine t_takes hs hc h1 (by decide) ?_
    have le2 := se_le (ch := ch) (c := 46) le1
    have h2' := tc_u h1 le2.2
    rw [mu_uu] at h2' ⊢
    cases z : so ch t 46 (ne ch t p) with
    | false =>
      have e : se ch t 46 (ne ch t p) = sp ch t (ne ch t p) := by unfold se; rw [z]; rfl
      simp only [mm_pu_s, e40_19, e40_22, e40_23, e40_24, e40_27, e40_30, mm_pu_n, mm_pu_s, va_rf_s, mm_w8_0, mm_w8_1, mm_w8_2, mm_w8_3, mm_w8_4, mm_c1_n, mm_c1_i, mm_c1_a, mm_ct_a, mm_ct_i, true_and, and_true, and_self, eq_self, if_true, if_false, ite_true, ite_false, bI_t, bI_z, bI_nz, bI_01, true_or, or_true, reduceCtorEq, false_or, or_false, decide_eq_false_iff_not, decide_eq_true_eq, ite_not, hs.1, h2'.1.2, t_faultAt hs]
      refine hq0 (by rw [g1, z]; rfl) _ (ft.u.tr ft.u) ?_
      rw [g1, z, if_neg (by decide), if_pos rfl, ← e]
      exact rd_u
    | true =>
      simp only [mm_pu_s, e40_19, e40_22, e40_23, e40_24, e40_27, e40_30, e40_31, e40_32, e40_34, mm_pu_n, mm_pu_s, va_rf_s, mm_w8_0, mm_w8_1, mm_w8_2, mm_w8_3, mm_w8_4, mm_c1_n, mm_c1_i, mm_c1_a, mm_ct_a, mm_ct_i, true_and, and_true, and_self, eq_self, if_true, if_false, ite_true, ite_false, bI_t, bI_z, bI_nz, bI_01, true_or, or_true, reduceCtorEq, false_or, or_false, decide_eq_false_iff_not, decide_eq_true_eq, ite_not, hs.1, Bool.true_eq_false]
      rw [show (20 : Int32) = nI 20 from rfl]
      refine t_number hs hc h2' (by decide) (fun g2 => ?_) (fun g2 K hK hf1 => ?_)
      · have d2 := nok_1 g2
        have v2 := nv_le d2.1
        have le3 := ne_le d2.1
        have h3' := tc_u h2' le3
        rw [mu_uu] at h3' ⊢
        simp only [mm_pu_s, e40_37, e40_38, e40_39, e40_42, e40_43, e40_44, e40_45, mm_pu_n, mm_pu_s, va_rf_s, mm_w8_0, mm_w8_1, mm_w8_2, mm_w8_3, mm_w8_4, mm_c1_n, mm_c1_i, mm_c1_a, mm_ct_a, mm_ct_i, true_and, and_true, and_self, eq_self, if_true, if_false, ite_true, ite_false, bI_t, bI_z, bI_nz, bI_01, true_or, or_true, reduceCtorEq, false_or, or_false, decide_eq_false_iff_not, decide_eq_true_eq, ite_not, hs.1, nI_pos' (show nv ch t (se ch t 46 (ne ch t p)) < 2 ^ 31 by omega)]
        rw [show (0 : Int32) = nI 0 from rfl]
        refine t_looks hs hc _ _ 3 0 _ _ (by omega) h3' ?_
        rw [mu_uu, Nat.zero_add]
        have lc := lkc_le (ch := ch) (t := t) 3 (ne ch t (se ch t 46 (ne ch t p)))
        simp only [e40_66, e40_67, e40_70, e40_72, e40_73, e40_74, e40_75, e40_76, mm_pu_n, mm_pu_s, va_rf_s, mm_w8_0, mm_w8_1, mm_w8_2, mm_w8_3, mm_w8_4, mm_c1_n, mm_c1_i, mm_c1_a, mm_ct_a, mm_ct_i, true_and, and_true, and_self, eq_self, if_true, if_false, ite_true, ite_false, bI_t, bI_z, bI_nz, bI_01, true_or, or_true, reduceCtorEq, false_or, or_false, decide_eq_false_iff_not, decide_eq_true_eq, ite_not, hs.1, hs.2.1, hl.s0]
        rw [show (10 : Int32) * nI (nv ch t p) = nI (10 * nv ch t p) from by rw [show (10 : Int32) = nI 10 from rfl, pk_mul]]
        refine t_addHouse hl hn6 (by rw [wv]; exact h0) _ _ _ (fun K hK hF => ?_)
        simp only [mm_pu_s, e40_79, e40_80, e40_81, mm_pu_n, mm_pu_s, va_rf_s, mm_w8_0, mm_w8_1, mm_w8_2, mm_w8_3, mm_w8_4, mm_c1_n, mm_c1_i, mm_c1_a, mm_ct_a, mm_ct_i, true_and, and_true, and_self, eq_self, if_true, if_false, ite_true, ite_false, bI_t, bI_z, bI_nz, bI_01, true_or, or_true, reduceCtorEq, false_or, or_false, decide_eq_false_iff_not, decide_eq_true_eq, ite_not]
        refine hq1 (by unfold h2; rw [g1, z, g2]; rfl) K (fun q z1 z2 => by rw [hF q (by omega), mu_n z1]) ?_ ?_
        · exact tc_F (tc_u h (lkp_le 3 _ le3)) (hF a (by omega)) (hF (a + 1) (by omega))
        · rw [hK, wv]; rfl
      · simp only [mm_pu_s, e40_37, e40_38, e40_39, e40_42, e40_43, mm_pu_n, mm_pu_s, va_rf_s, mm_w8_0, mm_w8_1, mm_w8_2, mm_w8_3, mm_w8_4, mm_c1_n, mm_c1_i, mm_c1_a, mm_ct_a, mm_ct_i, true_and, and_true, and_self, eq_self, if_true, if_false, ite_true, ite_false, bI_t, bI_z, bI_nz, bI_01, true_or, or_true, reduceCtorEq, false_or, or_false, decide_eq_false_iff_not, decide_eq_true_eq, ite_not, show ((0 : Int32) ≤ -1) = False from eq_false (by decide)]
        refine hq0 (by unfold h2; rw [g1, z, g2]; rfl) K (ft.u.tr (ft.a hK)) ?_
        rw [g1, z, if_neg (by decide), if_neg (by decide), if_pos (by unfold h2; exact g2)]
        exact hf1
  · simp only [mm_pu_s, e40_6, e40_7, e40_8, e40_11, e40_12, mm_pu_n, mm_pu_s, va_rf_s, mm_w8_0, mm_w8_1, mm_w8_2, mm_w8_3, mm_w8_4, mm_c1_n, mm_c1_i, mm_c1_a, mm_ct_a, mm_ct_i, true_and, and_true, and_self, eq_self, if_true, if_false, ite_true, ite_false, bI_t, bI_z, bI_nz, bI_01, true_or, or_true, reduceCtorEq, false_or, or_false, decide_eq_false_iff_not, decide_eq_true_eq, ite_not, show ((0 : Int32) ≤ -1) = False from eq_false (by decide)]
    refine hq0 (by rw [g1]; rfl) K (ft.a hK) ?_
    rw [g1, if_pos rfl]
    exact hf1
end
