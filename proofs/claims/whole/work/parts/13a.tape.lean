/-! the tape: ch its letters, t how many -/
def skb (ch : Nat → Nat) : Nat → Nat → Nat
  | 0, p => p
  | d + 1, p => if ch p = 32 then skb ch d (p + 1) else p
def sp (ch : Nat → Nat) (t p : Nat) : Nat := skb ch (t - p) p
theorem skb_le (ch : Nat → Nat) : ∀ d p, p ≤ skb ch d p ∧ skb ch d p ≤ p + d := by
  intro d
  induction d with
  | zero => intro p; exact ⟨Nat.le_refl _, Nat.le_refl _⟩
  | succ d ih =>
    intro p
    have := ih (p + 1)
    unfold skb
    split <;> omega
theorem sp_le {ch : Nat → Nat} {t p : Nat} (h : p ≤ t) : p ≤ sp ch t p ∧ sp ch t p ≤ t := by
  have := skb_le ch (t - p) p
  unfold sp
  omega
theorem sp_s {ch : Nat → Nat} {t p : Nat} (h : p < t) (hc : ch p = 32) : sp ch t p = sp ch t (p + 1) := by
  unfold sp
  rw [show t - p = t - (p + 1) + 1 by omega]
  show (if ch p = 32 then skb ch (t - (p + 1)) (p + 1) else p) = _
  rw [if_pos hc]
theorem sp_n {ch : Nat → Nat} {t p : Nat} (hc : p < t → ¬ ch p = 32) : sp ch t p = p := by
  unfold sp
  by_cases c : p < t
  · rw [show t - p = t - (p + 1) + 1 by omega]
    show (if ch p = 32 then skb ch (t - (p + 1)) (p + 1) else p) = _
    rw [if_neg (hc c)]
  · rw [show t - p = 0 by omega]
    rfl
theorem mu_uu {I : mm_I} {a k : Nat} {x y : Int32} : mm_uI (mm_uI I a k x) a k y = mm_uI I a k y := by
  funext q j
  by_cases c : q = a
  · subst c
    by_cases d : j = k
    · subst d; rw [mu_s, mu_s]
    · rw [mu_j d, mu_j d, mu_j d]
  · rw [mu_n c, mu_n c, mu_n c]
theorem mu_sf {I : mm_I} {a k : Nat} {x : Int32} (h : mm_rd I a k = x) : mm_uI I a k x = I := by
  rw [← h]
  exact mu_self
def cc (ch : Nat → Nat) (t : Nat) (e : Int32) (p : Nat) : Int32 := if p < t then nI (ch p) else e
/-- the letters -/
def okc (ch : Nat → Nat) (t : Nat) : Prop := t ≤ 80 ∧ ∀ i, i < t → 32 ≤ ch i ∧ ch i ≤ 126
def dg (ch : Nat → Nat) (t p : Nat) : Bool := decide (p < t ∧ 48 ≤ ch p ∧ ch p ≤ 57)
/-- the class's tape at a: its place is p -/
def tc (J : mm_I) (a t : Nat) (ch : Nat → Nat) (p : Nat) : Prop := (mm_rd J a 0 = nI t ∧ mm_rd J a 4 = nI p) ∧ p ≤ t ∧ ∀ i, i < t → mm_rd J (a + 1) i = nI (ch i)
def ts (r : mm_R) (a : Nat) : Prop := mm_S r a = (1, 4) ∧ mm_P r a 2 = some (a + 2) ∧ mm_P r a 3 = some (a + 1) ∧ mm_S r (a + 1) = (2, 80)
theorem tc_u {J : mm_I} {a t : Nat} {ch : Nat → Nat} {p q : Nat} (h : tc J a t ch p) (hq : q ≤ t) : tc (mm_uI J a 4 (nI q)) a t ch q := by
  obtain ⟨⟨h1, h2⟩, h3, h4⟩ := h
  refine ⟨⟨?_, rd_u⟩, hq, fun i hi => ?_⟩
  · unfold mm_rd; rw [mu_j (by decide)]; exact h1
  · rw [rd_F (mu_n (by omega))]; exact h4 i hi
section
variable {r : mm_R} {J : mm_I} {a t p : Nat} {ch : Nat → Nat} {Q : Option Value → mm_I → mm_R → Prop}
theorem t_look (hs : ts r a) (hc : okc ch t) (h : tc J a t ch p) (hq : Q (some (.int (cc ch t (-1) (sp ch t p)))) (mm_uI J a 4 (nI (sp ch t p))) r) : mm_E 46 0 [some (.ref a)] [] J r Q := by
  have hi : ∀ y, mm_ix r (a + 1) 2 y = vp_in y 80 := fun y => mm_ixs hs.2.2.2
  have key : ∀ d p J, p + d = t → tc J a t ch p → Q (some (.int (cc ch t (-1) (sp ch t p)))) (mm_uI J a 4 (nI (sp ch t p))) r → mm_E 46 0 [some (.ref a)] [] J r Q := by
    intro d
    induction d with
    | zero =>
      intro p J hp h hq
      have : p = t := by omega
      subst this
      rw [sp_n (fun z => absurd z (by omega)), mu_sf h.1.2] at hq
      unfold cc at hq
      rw [if_neg (by omega)] at hq
      rw [e46_0]
      simp only [e46_1, e46_4, e46_5, e46_8, e46_11, e46_12, e46_15, e46_16, e46_19, e46_20, e46_22, e46_25, e46_26, e46_27, e46_30, e46_31, e46_32, e46_35, e46_38, e46_39, e46_42, e46_43, e46_46, e46_49, e46_50, e46_53, e46_54, e46_57, e46_58, e46_61, mm_pu_n, mm_pu_s, va_rf_s, mm_w8_0, mm_w8_1, mm_w8_2, mm_w8_3, mm_w8_4, mm_c1_n, mm_c1_i, mm_c1_a, mm_ct_a, mm_ct_i, true_and, and_true, and_self, eq_self, if_true, if_false, ite_true, ite_false, bI_t, bI_z, bI_nz, bI_01, true_or, or_true, reduceCtorEq, false_or, or_false, decide_eq_false_iff_not, decide_eq_true_eq, ite_not, hs.1, h.1.1, h.1.2, Int32.le_refl]
      rw [e46_62]
      exact hq
    | succ d ih =>
      intro p J hp h hq
      have ht := hc.1
      have hpt : p < t := by omega
      have hch := hc.2 p hpt
      rw [e46_0]
      by_cases c : ch p = 32
      · simp only [e46_1, e46_4, e46_5, e46_8, e46_11, e46_12, e46_15, e46_16, e46_19, e46_20, e46_22, e46_25, e46_26, e46_27, e46_30, e46_31, e46_32, e46_35, mm_pu_n, mm_pu_s, va_rf_s, mm_w8_0, mm_w8_1, mm_w8_2, mm_w8_3, mm_w8_4, mm_c1_n, mm_c1_i, mm_c1_a, mm_ct_a, mm_ct_i, true_and, and_true, and_self, eq_self, if_true, if_false, ite_true, ite_false, bI_t, bI_z, bI_nz, bI_01, true_or, or_true, reduceCtorEq, false_or, or_false, decide_eq_false_iff_not, decide_eq_true_eq, ite_not, hs.1, hs.2.2.1, h.1.1, h.1.2, nI_ge hpt (show t < 2 ^ 31 by omega), hi, in80 (show p < 80 by omega), cl2 (show p < 248 by omega), h.2.2 p hpt, c, show (nI 32 = (32 : Int32)) = True from eq_true rfl, nI_1]
        refine ih (p + 1) _ (by omega) (tc_u h (by omega)) ?_
        rw [mu_uu, ← sp_s hpt c]
        exact hq
      · rw [sp_n (fun _ => c), mu_sf h.1.2] at hq
        unfold cc at hq
        rw [if_pos hpt] at hq
        have hne : ¬ (nI (ch p) = (32 : Int32)) := by
          rw [show (32 : Int32) = nI 32 from rfl]
          exact fun z => c ((nI_eq (by omega) (by decide)).mp z)
        simp only [e46_1, e46_4, e46_5, e46_8, e46_11, e46_12, e46_15, e46_16, e46_19, e46_20, e46_22, e46_25, e46_26, e46_27, e46_30, e46_31, e46_32, e46_35, e46_38, e46_39, e46_42, e46_43, e46_46, e46_49, e46_50, e46_53, e46_54, e46_57, e46_58, e46_61, mm_pu_n, mm_pu_s, va_rf_s, mm_w8_0, mm_w8_1, mm_w8_2, mm_w8_3, mm_w8_4, mm_c1_n, mm_c1_i, mm_c1_a, mm_ct_a, mm_ct_i, true_and, and_true, and_self, eq_self, if_true, if_false, ite_true, ite_false, bI_t, bI_z, bI_nz, bI_01, true_or, or_true, reduceCtorEq, false_or, or_false, decide_eq_false_iff_not, decide_eq_true_eq, ite_not, hs.1, hs.2.2.1, h.1.1, h.1.2, nI_ge hpt (show t < 2 ^ 31 by omega), hi, in80 (show p < 80 by omega), cl2 (show p < 248 by omega), h.2.2 p hpt, hne]
        rw [e46_62]
        exact hq
  have := h.2.1
  exact key (t - p) p J (by omega) h hq
/-- the sign c stands next -/
def so (ch : Nat → Nat) (t c p : Nat) : Bool := decide (sp ch t p < t ∧ ch (sp ch t p) = c)
def se (ch : Nat → Nat) (t c p : Nat) : Nat := if so ch t c p = true then sp ch t p + 1 else sp ch t p
theorem se_le {c : Nat} (h : p ≤ t) : p ≤ se ch t c p ∧ se ch t c p ≤ t := by
  have := sp_le (ch := ch) h
  unfold se
  by_cases z : so ch t c p = true
  · rw [if_pos z]
    have := (of_decide_eq_true z).1
    omega
  · rw [if_neg z]; omega
theorem cc_eq {c : Nat} {e : Int32} (hc : okc ch t) (hc2 : c < 2 ^ 31) (he : ¬ e = nI c) : (cc ch t e (sp ch t p) = nI c) = (so ch t c p = true) := by
  unfold cc so
  rw [decide_eq_true_eq]
  by_cases z : sp ch t p < t
  · have := hc.2 _ z
    rw [if_pos z]
    exact propext ⟨fun y => ⟨z, (nI_eq (by omega) hc2).mp y⟩, fun y => by rw [y.2]⟩
  · rw [if_neg z]
    exact propext ⟨fun y => absurd y he, fun y => absurd y.1 z⟩
theorem t_takes {c : Nat} (hs : ts r a) (hc : okc ch t) (h : tc J a t ch p) (hc2 : c < 1000) (hq : Q (some (.int (bI (so ch t c p)))) (mm_uI J a 4 (nI (se ch t c p))) r) : mm_E 47 0 [some (.ref a), some (.int (nI c))] [] J r Q := by
  have hle := sp_le (ch := ch) h.2.1
  simp only [e47_0, e47_1, mm_pu_n, mm_pu_s, va_rf_s, mm_w8_0, mm_w8_1, mm_w8_2, mm_w8_3, mm_w8_4, mm_c1_n, mm_c1_i, mm_c1_a, mm_ct_a, mm_ct_i, true_and, and_true, and_self, eq_self, if_true, if_false, ite_true, ite_false, bI_t, bI_z, bI_nz, bI_01, true_or, or_true, reduceCtorEq, false_or, or_false, decide_eq_false_iff_not, decide_eq_true_eq, ite_not, hs.1]
  refine t_look hs hc h ?_
  unfold se at hq
  have hne : ¬ ((-1 : Int32) = nI c) := fun z => absurd (nI_pos' (show c < 2 ^ 31 by omega)) (by rw [← z]; decide)
  simp only [mm_pu_s, e47_4, e47_5, mm_pu_n, mm_pu_s, va_rf_s, mm_w8_0, mm_w8_1, mm_w8_2, mm_w8_3, mm_w8_4, mm_c1_n, mm_c1_i, mm_c1_a, mm_ct_a, mm_ct_i, true_and, and_true, and_self, eq_self, if_true, if_false, ite_true, ite_false, bI_t, bI_z, bI_nz, bI_01, true_or, or_true, reduceCtorEq, false_or, or_false, decide_eq_false_iff_not, decide_eq_true_eq, ite_not, cc_eq hc (show c < 2 ^ 31 by omega) hne]
  by_cases z : so ch t c p = true
  · rw [if_pos z]
    rw [if_pos z, z] at hq
    have h4 : mm_rd (mm_uI J a 4 (nI (sp ch t p))) a 4 = nI (sp ch t p) := rd_u
    simp only [e47_10, e47_11, e47_12, e47_15, e47_16, e47_17, e47_20, e47_21, mm_pu_n, mm_pu_s, va_rf_s, mm_w8_0, mm_w8_1, mm_w8_2, mm_w8_3, mm_w8_4, mm_c1_n, mm_c1_i, mm_c1_a, mm_ct_a, mm_ct_i, true_and, and_true, and_self, eq_self, if_true, if_false, ite_true, ite_false, bI_t, bI_z, bI_nz, bI_01, true_or, or_true, reduceCtorEq, false_or, or_false, decide_eq_false_iff_not, decide_eq_true_eq, ite_not, hs.1, h4, nI_1, mu_uu]
    exact hq
  · rw [if_neg z]
    rw [if_neg z] at hq
    simp only [Bool.not_eq_true] at z
    rw [z] at hq
    simp only [e47_8, e47_9, mm_pu_n, mm_pu_s, va_rf_s, mm_w8_0, mm_w8_1, mm_w8_2, mm_w8_3, mm_w8_4, mm_c1_n, mm_c1_i, mm_c1_a, mm_ct_a, mm_ct_i, true_and, and_true, and_self, eq_self, if_true, if_false, ite_true, ite_false, bI_t, bI_z, bI_nz, bI_01, true_or, or_true, reduceCtorEq, false_or, or_false, decide_eq_false_iff_not, decide_eq_true_eq, ite_not]
    exact hq
theorem t_faultAt (hs : ts r a) (y : Int32) : mm_E 48 0 [some (.ref a), some (.int y)] [] J r Q ↔ Q (some (.int 0)) (mm_uI J a 1 (-20 - y)) r := by
  simp only [e48_0, e48_1, e48_3, e48_4, e48_5, e48_8, e48_9, mm_pu_n, mm_pu_s, va_rf_s, mm_w8_0, mm_w8_1, mm_w8_2, mm_w8_3, mm_w8_4, mm_c1_n, mm_c1_i, mm_c1_a, mm_ct_a, mm_ct_i, true_and, and_true, and_self, eq_self, if_true, if_false, ite_true, ite_false, bI_t, bI_z, bI_nz, bI_01, true_or, or_true, reduceCtorEq, false_or, or_false, decide_eq_false_iff_not, decide_eq_true_eq, ite_not, hs.1]
end
