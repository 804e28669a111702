/-- Euclid's steps -/
def eu : Nat → Nat → Nat → Nat
  | 0, x, _ => x
  | f + 1, x, y => if y = 0 then x else eu f y (x % y)
theorem eu_0 (f x : Nat) : eu f x 0 = x := by cases f <;> rfl
theorem mod_half {y z : Nat} (h0 : 0 < z) (h1 : z < y) : 2 * (y % z) < y := by
  have a := Nat.mod_lt y h0
  have b : y % z = (y - z) % z := Nat.mod_eq_sub_mod (by omega)
  have c := Nat.mod_le (y - z) z
  omega
theorem eu_gcd : ∀ b f x y, y < 2 ^ b → 2 * b ≤ f → eu f x y = Nat.gcd x y := by
  intro b
  induction b with
  | zero =>
    intro f x y hy _
    have : y = 0 := by omega
    subst this
    rw [eu_0, Nat.gcd_zero_right]
  | succ b ih =>
    intro f x y hy hf
    obtain ⟨f, rfl⟩ : ∃ g, f = g + 2 := ⟨f - 2, by omega⟩
    by_cases c : y = 0
    · subst c
      rw [eu_0, Nat.gcd_zero_right]
    · have e1 : eu (f + 2) x y = eu (f + 1) y (x % y) := by
        show (if y = 0 then x else eu (f + 1) y (x % y)) = _
        rw [if_neg c]
      have g1 : Nat.gcd x y = Nat.gcd y (x % y) := by rw [Nat.gcd_comm x y, Nat.gcd_rec y x, Nat.gcd_comm]
      by_cases c2 : x % y = 0
      · rw [e1, g1, c2, eu_0, Nat.gcd_zero_right]
      · have e2 : eu (f + 1) y (x % y) = eu f (x % y) (y % (x % y)) := by
          show (if x % y = 0 then y else eu f (x % y) (y % (x % y))) = _
          rw [if_neg c2]
        have g2 : Nat.gcd y (x % y) = Nat.gcd (x % y) (y % (x % y)) := by rw [Nat.gcd_comm y (x % y), Nat.gcd_rec (x % y) y, Nat.gcd_comm]
        have hl := Nat.mod_lt x (show 0 < y by omega)
        have hh := mod_half (y := y) (z := x % y) (by omega) hl
        have hp : 2 ^ (b + 1) = 2 * 2 ^ b := by rw [Nat.pow_succ]; omega
        rw [e1, e2, g1, g2]
        exact ih f _ _ (by omega) (by omega)
/-- that k sleeps in the set a -/
def sb (a k : Nat) : Bool := decide ((nI a >>> (nI k &&& 31)) &&& 1 = 1)
def p_wt (c a : Nat) : Nat → Nat
  | 0 => 1
  | k + 1 => p_wt c a k * (if sb a k = true then c else 10 - c)
def p_dn (c ng : Nat) : Nat → Nat
  | 0 => 0
  | a + 1 => p_dn c ng a + p_wt c a ng
def p_up (L : mm_I) (n ng p c : Nat) : Nat → Nat
  | 0 => 0
  | a + 1 => p_up L n ng p c a + (if L 3 p < p_night L n ng (nI a) 3 p then p_wt c a ng else 0)
theorem sb_t : ∀ a, a < 32 → ∀ k, k < 5 → sb a k = Nat.testBit a k := by decide
def q_wt (c a : Nat) : Nat → Nat
  | 0 => 1
  | k + 1 => q_wt c a k * (if Nat.testBit a k = true then c else 10 - c)
def q_dn (c ng : Nat) : Nat → Nat
  | 0 => 0
  | a + 1 => q_dn c ng a + q_wt c a ng
theorem p_wt_q {c a : Nat} (ha : a < 32) : ∀ k, k ≤ 5 → p_wt c a k = q_wt c a k := by
  intro k
  induction k with
  | zero => intro _; rfl
  | succ k ih =>
    intro hk
    show p_wt c a k * (if sb a k = true then c else 10 - c) = q_wt c a k * (if Nat.testBit a k = true then c else 10 - c)
    rw [ih (by omega), sb_t a ha k (by omega)]
theorem p_dn_q {c ng : Nat} (h : ng ≤ 5) : ∀ a, a ≤ 32 → p_dn c ng a = q_dn c ng a := by
  intro a
  induction a with
  | zero => intro _; rfl
  | succ a ih =>
    intro ha
    show p_dn c ng a + p_wt c a ng = q_dn c ng a + q_wt c a ng
    rw [ih (by omega), p_wt_q (by omega) ng h]
theorem q_dn_all : ∀ ng, ng < 6 → ∀ c, c < 11 → q_dn c ng (2 ^ ng) = 10 ^ ng := by decide +kernel
theorem p_dn_all {c ng : Nat} (h : ng ≤ 5) (hc : c ≤ 10) : p_dn c ng (2 ^ ng) = 10 ^ ng := by
  have : ∀ ng, ng < 6 → 2 ^ ng ≤ 32 := by decide
  rw [p_dn_q h _ (this ng (by omega)), q_dn_all ng (by omega) c (by omega)]
theorem p_dn_mono {c ng a b : Nat} (h : a ≤ b) : p_dn c ng a ≤ p_dn c ng b := by
  induction h with
  | refl => exact Nat.le_refl _
  | step _ ih => exact Nat.le_trans ih (Nat.le_add_right _ _)
theorem p_up_dn (L : mm_I) (n ng p c : Nat) : ∀ a, p_up L n ng p c a ≤ p_dn c ng a := by
  intro a
  induction a with
  | zero => exact Nat.le_refl _
  | succ a ih =>
    show p_up L n ng p c a + (if L 3 p < p_night L n ng (nI a) 3 p then p_wt c a ng else 0) ≤ p_dn c ng a + p_wt c a ng
    split <;> omega
theorem p_up_c {L Lr : mm_I} {n ng p c : Nat} (hs : ag (x6 n ng) L Lr) (hG : ln_G L n ng) (hp : p < n) : ∀ a, p_up L n ng p c a = p_up Lr n ng p c a := by
  intro a
  induction a with
  | zero => rfl
  | succ a ih =>
    show p_up L n ng p c a + (if L 3 p < p_night L n ng (nI a) 3 p then p_wt c a ng else 0) = p_up Lr n ng p c a + (if Lr 3 p < p_night Lr n ng (nI a) 3 p then p_wt c a ng else 0)
    rw [ih, s_night hs (nI a) hG 3 p (Or.inl (wc_h (by decide) hp)), hs 3 p (Or.inl (wc_h (by decide) hp))]
theorem sh_1 : ∀ ng, ng < 6 → (1 : Int32) <<< (nI ng &&& 31) = nI (2 ^ ng) := by decide
theorem m_10 : ∀ c, c < 11 → (10 : Int32) - nI c = nI (10 - c) := by decide
theorem p32 : ∀ ng, ng < 6 → 2 ^ ng ≤ 32 ∧ 10 ^ ng ≤ 100000 ∧ 0 < 10 ^ ng := by decide
section
variable {r : mm_R} {I : mm_I} {x m : Nat} {Q : Option Value → mm_I → mm_R → Prop}
theorem t_cd (a : Option Value) (b : Int32) : ∀ f k y z l5, k + f = 64 → y < 2 ^ 31 → z < 2 ^ 31 → Q (some (.int (nI (eu f y z)))) I r → mm_E 90 7 [a, some (.int b), some (.int (nI y)), some (.int (nI z)), some (.int (nI k)), l5] [] I r Q := by
  intro f
  induction f with
  | zero =>
    intro k y z l5 hk hy hz hq
    have : k = 64 := by omega
    subst this
    rw [e90_7]
    simp only [e90_9, e90_11, e90_34, e90_35, mm_pu_n, mm_pu_s, va_rf_s, mm_w8_0, mm_w8_1, mm_w8_2, mm_w8_3, mm_w8_4, mm_c1_n, mm_c1_i, mm_c1_a, mm_ct_a, mm_ct_i, true_and, and_true, and_self, eq_self, if_true, if_false, ite_true, ite_false, bI_t, bI_z, bI_nz, bI_01, true_or, or_true, reduceCtorEq, false_or, or_false, decide_eq_false_iff_not, decide_eq_true_eq, ite_not, show ((64 : Int32) ≤ nI 64) = True from eq_true (by decide)]
    exact hq
  | succ f ih =>
    intro k y z l5 hk hy hz hq
    rw [e90_7]
    have hk64 : ¬ ((64 : Int32) ≤ nI k) := by
      rw [show (64 : Int32) = nI 64 from by decide]
      exact fun c => absurd ((nI_leI (by decide) (by omega)).mp c) (by omega)
    by_cases c : z = 0
    · subst c
      rw [eu_0] at hq
      simp only [e90_9, e90_11, e90_14, e90_15, e90_34, e90_35, mm_pu_n, mm_pu_s, va_rf_s, mm_w8_0, mm_w8_1, mm_w8_2, mm_w8_3, mm_w8_4, mm_c1_n, mm_c1_i, mm_c1_a, mm_ct_a, mm_ct_i, true_and, and_true, and_self, eq_self, if_true, if_false, ite_true, ite_false, bI_t, bI_z, bI_nz, bI_01, true_or, or_true, reduceCtorEq, false_or, or_false, decide_eq_false_iff_not, decide_eq_true_eq, ite_not, hk64, show (nI 0 ≤ (0 : Int32)) = True from eq_true (by decide)]
      exact hq
    · have e : eu (f + 1) y z = eu f z (y % z) := by
        show (if z = 0 then y else eu f z (y % z)) = _
        rw [if_neg c]
      rw [e] at hq
      have hl := Nat.mod_lt y (show 0 < z by omega)
      simp only [e90_9, e90_11, e90_14, e90_15, e90_18, e90_19, e90_20, e90_21, e90_23, e90_24, e90_25, e90_27, e90_28, e90_31, mm_pu_n, mm_pu_s, va_rf_s, mm_w8_0, mm_w8_1, mm_w8_2, mm_w8_3, mm_w8_4, mm_c1_n, mm_c1_i, mm_c1_a, mm_ct_a, mm_ct_i, true_and, and_true, and_self, eq_self, if_true, if_false, ite_true, ite_false, bI_t, bI_z, bI_nz, bI_01, true_or, or_true, reduceCtorEq, false_or, or_false, decide_eq_false_iff_not, decide_eq_true_eq, ite_not, hk64, nI_nle (show 0 < z by omega) hz, nI_ne0 (show 0 < z by omega) hz, not_false_eq_true, pk_rem hy (show 0 < z by omega) hz, nI_1]
      exact ih (k + 1) z (y % z) _ (by omega) hz (by omega) hq
theorem t_commonDivisor {y z : Nat} (hy : y < 2 ^ 31) (hz : z < 2 ^ 31) (hq : Q (some (.int (nI (Nat.gcd y z)))) I r) : mm_E 90 0 [some (.int (nI y)), some (.int (nI z)), none, none, none, none] [] I r Q := by
  simp only [e90_0, e90_1, e90_2, e90_3, e90_4, e90_5, mm_pu_n, mm_pu_s, va_rf_s, mm_w8_0, mm_w8_1, mm_w8_2, mm_w8_3, mm_w8_4, mm_c1_n, mm_c1_i, mm_c1_a, mm_ct_a, mm_ct_i, true_and, and_true, and_self, eq_self, if_true, if_false, ite_true, ite_false, bI_t, bI_z, bI_nz, bI_01, true_or, or_true, reduceCtorEq, false_or, or_false, decide_eq_false_iff_not, decide_eq_true_eq, ite_not]
  refine t_cd _ _ 64 0 y z none (by omega) hy hz ?_
  rw [eu_gcd 31 64 y z hz (by omega)]
  exact hq
theorem t_chance {ng c a : Nat} (hS : HS r x m) (hng : ng ≤ 5) (hc : c ≤ 10) (f1 : vc I (x + 1) 0 1 = nI ng) (hq : Q (some (.int (nI (p_wt c a ng)))) I r) : mm_E 88 0 [some (.ref x), some (.int (nI a)), some (.int (nI c)), none, none] [] I r Q := by
  obtain ⟨x0, x1, x2, -⟩ := id hS.2.1
  have l1 := hS.2.2.1.1
  have loop : ∀ d k, k + d = ng → mm_E 88 5 [some (.ref x), some (.int (nI a)), some (.int (nI c)), some (.int (nI (p_wt c a k))), some (.int (nI k))] [] I r Q := by
    intro d
    induction d with
    | zero =>
      intro k hk
      have : k = ng := by omega
      subst this
      rw [e88_5]
      simp only [e88_7, e88_8, e88_11, e88_14, e88_44, e88_45, mm_pu_n, mm_pu_s, va_rf_s, mm_w8_0, mm_w8_1, mm_w8_2, mm_w8_3, mm_w8_4, mm_c1_n, mm_c1_i, mm_c1_a, mm_ct_a, mm_ct_i, true_and, and_true, and_self, eq_self, if_true, if_false, ite_true, ite_false, bI_t, bI_z, bI_nz, bI_01, true_or, or_true, reduceCtorEq, false_or, or_false, decide_eq_false_iff_not, decide_eq_true_eq, ite_not, x0, x1, l1.s0, rd_0 (a := x + 1) (i := 1) (by decide), f1, Int32.le_refl]
      exact hq
    | succ d ih =>
      intro k hk
      rw [e88_5]
      simp only [e88_7, e88_8, e88_11, e88_14, e88_17, e88_18, e88_19, e88_21, e88_22, e88_23, e88_24, e88_25, e88_28, e88_29, e88_32, e88_34, e88_35, mm_pu_n, mm_pu_s, va_rf_s, mm_w8_0, mm_w8_1, mm_w8_2, mm_w8_3, mm_w8_4, mm_c1_n, mm_c1_i, mm_c1_a, mm_ct_a, mm_ct_i, true_and, and_true, and_self, eq_self, if_true, if_false, ite_true, ite_false, bI_t, bI_z, bI_nz, bI_01, true_or, or_true, reduceCtorEq, false_or, or_false, decide_eq_false_iff_not, decide_eq_true_eq, ite_not, x0, x1, l1.s0, rd_0 (a := x + 1) (i := 1) (by decide), f1, nI_ge (show k < ng by omega) (show ng < 2 ^ 31 by omega), m_10 c (by omega), it_i, it_n]
      simp only [e88_36, e88_37, e88_38, e88_41, mm_pu_n, mm_pu_s, va_rf_s, mm_w8_0, mm_w8_1, mm_w8_2, mm_w8_3, mm_w8_4, mm_c1_n, mm_c1_i, mm_c1_a, mm_ct_a, mm_ct_i, true_and, and_true, and_self, eq_self, if_true, if_false, ite_true, ite_false, bI_t, bI_z, bI_nz, bI_01, true_or, or_true, reduceCtorEq, false_or, or_false, decide_eq_false_iff_not, decide_eq_true_eq, ite_not, nI_1, pk_mul]
      have e : p_wt c a (k + 1) = p_wt c a k * (if (nI a >>> (nI k &&& 31)) &&& 1 = 1 then c else 10 - c) := by
        show p_wt c a k * (if sb a k = true then c else 10 - c) = _
        unfold sb
        simp only [decide_eq_true_eq]
      rw [← e]
      exact ih (k + 1) (by omega)
  simp only [e88_0, e88_1, e88_2, e88_3, mm_pu_n, mm_pu_s, va_rf_s, mm_w8_0, mm_w8_1, mm_w8_2, mm_w8_3, mm_w8_4, mm_c1_n, mm_c1_i, mm_c1_a, mm_ct_a, mm_ct_i, true_and, and_true, and_self, eq_self, if_true, if_false, ite_true, ite_false, bI_t, bI_z, bI_nz, bI_01, true_or, or_true, reduceCtorEq, false_or, or_false, decide_eq_false_iff_not, decide_eq_true_eq, ite_not]
  exact loop ng 0 (by omega)
theorem t_looksMore {L : mm_I} {n ng p a : Nat} (hS : HS r x m) (hc : CX I x L) (hL : dl L = L) (hG : ln_G L n ng) (hp : p < 6) (hq : ∀ J, fc I J x → Q (some (.int (bI (decide (L 3 p < p_night L n ng (nI a) 3 p))))) J r) : mm_E 89 0 [some (.ref x), some (.int (nI p)), some (.int (nI a))] [] I r Q := by
  obtain ⟨x0, x1, x2, -⟩ := id hS.2.1
  have l1 := hS.2.2.1.1
  have l2 := hS.2.2.1.2.1
  simp only [e89_0, e89_1, e89_4, e89_5, e89_8, mm_pu_n, mm_pu_s, va_rf_s, mm_w8_0, mm_w8_1, mm_w8_2, mm_w8_3, mm_w8_4, mm_c1_n, mm_c1_i, mm_c1_a, mm_ct_a, mm_ct_i, true_and, and_true, and_self, eq_self, if_true, if_false, ite_true, ite_false, bI_t, bI_z, bI_nz, bI_01, true_or, or_true, reduceCtorEq, false_or, or_false, decide_eq_false_iff_not, decide_eq_true_eq, ite_not, x0, x1, x2, l2.s0]
  refine f_take n hS hc hL (fun J hJ hF => ?_)
  simp only [mm_pu_n, e89_11, e89_12, e89_15, e89_16, mm_pu_n, mm_pu_s, va_rf_s, mm_w8_0, mm_w8_1, mm_w8_2, mm_w8_3, mm_w8_4, mm_c1_n, mm_c1_i, mm_c1_a, mm_ct_a, mm_ct_i, true_and, and_true, and_self, eq_self, if_true, if_false, ite_true, ite_false, bI_t, bI_z, bI_nz, bI_01, true_or, or_true, reduceCtorEq, false_or, or_false, decide_eq_false_iff_not, decide_eq_true_eq, ite_not, x0, x1, x2, l2.s0]
  refine f_night hS hJ hG (nI a) (fun K hK hFK => ?_)
  have hcK := CX.k hc (hF.tr hFK)
  simp only [mm_pu_n, e89_19, e89_20, e89_23, e89_26, e89_27, e89_28, e89_29, e89_32, e89_35, e89_36, e89_37, e89_40, e89_41, e89_44, mm_pu_n, mm_pu_s, va_rf_s, mm_w8_0, mm_w8_1, mm_w8_2, mm_w8_3, mm_w8_4, mm_c1_n, mm_c1_i, mm_c1_a, mm_ct_a, mm_ct_i, true_and, and_true, and_self, eq_self, if_true, if_false, ite_true, ite_false, bI_t, bI_z, bI_nz, bI_01, true_or, or_true, reduceCtorEq, false_or, or_false, decide_eq_false_iff_not, decide_eq_true_eq, ite_not, x0, x1, x2, l1.s0, l1.p6, l1.p7, l1.p8, l1.p9, l1.p10, l1.p11, l1.p12, l1.p13, l1.i1, l1.i2, l1.i3, l1.i4, l1.i5, l1.i6, l1.i7, l1.i8, l2.s0, l2.p6, l2.p7, l2.p8, l2.p9, l2.p10, l2.p11, l2.p12, l2.p13, l2.i1, l2.i2, l2.i3, l2.i4, l2.i5, l2.i6, l2.i7, l2.i8, in6 hp, cl_nI hp, rd_k (a := x + 10) (k := 3) ⟨by decide, hp⟩, rd_k (a := x + 1) (k := 3) ⟨by decide, hp⟩, hK 3 p (Or.inl (by decide)), hcK 3 p (by decide), it_i]
  have e : (if p_night L n ng (nI a) 3 p ≤ L 3 p then (0 : Int32) else 1) = bI (decide (L 3 p < p_night L n ng (nI a) 3 p)) := by
    by_cases c : p_night L n ng (nI a) 3 p ≤ L 3 p
    · rw [if_pos c, bI_0 _ _ (fun z => Int32.not_lt.mpr c z)]
    · rw [if_neg c, bI_1 _ _ (Int32.not_le.mp c)]
  rw [e]
  simp only [e89_45, mm_pu_n, mm_pu_s, va_rf_s, mm_w8_0, mm_w8_1, mm_w8_2, mm_w8_3, mm_w8_4, mm_c1_n, mm_c1_i, mm_c1_a, mm_ct_a, mm_ct_i, true_and, and_true, and_self, eq_self, if_true, if_false, ite_true, ite_false, bI_t, bI_z, bI_nz, bI_01, true_or, or_true, reduceCtorEq, false_or, or_false, decide_eq_false_iff_not, decide_eq_true_eq, ite_not]
  exact ⟨(Decidable.em _).symm, hq K (hF.tr hFK)⟩
theorem c_slp {L : mm_I} {n ng p c : Nat} {w : Int32} (hS : HS r x m) (hc : CX I x L) (hLL : dl L = L) (hp : p < 6) (hG : ln_G L n ng) (hc10 : c ≤ 10) : ∀ d k J l7, k + d = 2 ^ ng → fc I J x → (∀ K l6 l7, fc I K x → mm_E 76 99 [some (.ref x), some (.int (nI p)), some (.int (nI c)), some (.int w), some (.int (nI (p_up L n ng p c (2 ^ ng)))), some (.int (nI (p_dn c ng (2 ^ ng)))), l6, l7] [] K r Q) → mm_E 76 41 [some (.ref x), some (.int (nI p)), some (.int (nI c)), some (.int w), some (.int (nI (p_up L n ng p c k))), some (.int (nI (p_dn c ng k))), some (.int (nI k)), l7] [] J r Q := by
  obtain ⟨x0, x1, x2, -⟩ := id hS.2.1
  have l1 := hS.2.2.1.1
  have hng := hG.2.1.1
  have h32 := p32 ng (by omega)
  intro d
  induction d with
  | zero =>
    intro k J l7 hk hF hq
    have : k = 2 ^ ng := by omega
    subst this
    have f1 : vc J (x + 1) 0 1 = nI ng := by rw [CX.k hc hF 0 1 (by decide)]; exact hG.2.1.2
    rw [e76_41]
    simp only [e76_43, e76_44, e76_45, e76_48, e76_51, e76_52, mm_pu_n, mm_pu_s, va_rf_s, mm_w8_0, mm_w8_1, mm_w8_2, mm_w8_3, mm_w8_4, mm_c1_n, mm_c1_i, mm_c1_a, mm_ct_a, mm_ct_i, true_and, and_true, and_self, eq_self, if_true, if_false, ite_true, ite_false, bI_t, bI_z, bI_nz, bI_01, true_or, or_true, reduceCtorEq, false_or, or_false, decide_eq_false_iff_not, decide_eq_true_eq, ite_not, x0, x1, l1.s0, rd_0 (a := x + 1) (i := 1) (by decide), f1, sh_1 ng (show ng < 6 by omega), Int32.le_refl]
    exact hq J _ l7 hF
  | succ d ih =>
    intro k J l7 hk hF hq
    have f1 : vc J (x + 1) 0 1 = nI ng := by rw [CX.k hc hF 0 1 (by decide)]; exact hG.2.1.2
    rw [e76_41]
    simp only [e76_43, e76_44, e76_45, e76_48, e76_51, e76_52, e76_55, e76_56, e76_58, e76_59, mm_pu_n, mm_pu_s, va_rf_s, mm_w8_0, mm_w8_1, mm_w8_2, mm_w8_3, mm_w8_4, mm_c1_n, mm_c1_i, mm_c1_a, mm_ct_a, mm_ct_i, true_and, and_true, and_self, eq_self, if_true, if_false, ite_true, ite_false, bI_t, bI_z, bI_nz, bI_01, true_or, or_true, reduceCtorEq, false_or, or_false, decide_eq_false_iff_not, decide_eq_true_eq, ite_not, x0, x1, l1.s0, rd_0 (a := x + 1) (i := 1) (by decide), f1, sh_1 ng (show ng < 6 by omega), nI_ge (show k < 2 ^ ng by omega) (show 2 ^ ng < 2 ^ 31 by omega)]
    refine t_chance hS hng hc10 f1 ?_
    have hdn : p_dn c ng (k + 1) ≤ p_dn c ng (2 ^ ng) := p_dn_mono (by omega)
    rw [p_dn_all hng hc10] at hdn
    have hw : p_wt c k ng ≤ 100000 := by
      have : p_dn c ng (k + 1) = p_dn c ng k + p_wt c k ng := rfl
      omega
    simp only [mm_pu_s, e76_62, e76_64, e76_66, e76_68, e76_69, e76_71, e76_73, mm_pu_n, mm_pu_s, va_rf_s, mm_w8_0, mm_w8_1, mm_w8_2, mm_w8_3, mm_w8_4, mm_c1_n, mm_c1_i, mm_c1_a, mm_ct_a, mm_ct_i, true_and, and_true, and_self, eq_self, if_true, if_false, ite_true, ite_false, bI_t, bI_z, bI_nz, bI_01, true_or, or_true, reduceCtorEq, false_or, or_false, decide_eq_false_iff_not, decide_eq_true_eq, ite_not, nI_add]
    have e1 : p_dn c ng k + p_wt c k ng = p_dn c ng (k + 1) := rfl
    have e2 : p_up L n ng p c (k + 1) = p_up L n ng p c k + (if L 3 p < p_night L n ng (nI k) 3 p then p_wt c k ng else 0) := rfl
    rw [e1]
    by_cases z : p_wt c k ng = 0
    · rw [z, if_pos (by decide)]
      have e3 : p_up L n ng p c k = p_up L n ng p c (k + 1) := by rw [e2, z]; split <;> rfl
      rw [e3]
      simp only [e76_93, e76_96, mm_pu_n, mm_pu_s, va_rf_s, mm_w8_0, mm_w8_1, mm_w8_2, mm_w8_3, mm_w8_4, mm_c1_n, mm_c1_i, mm_c1_a, mm_ct_a, mm_ct_i, true_and, and_true, and_self, eq_self, if_true, if_false, ite_true, ite_false, bI_t, bI_z, bI_nz, bI_01, true_or, or_true, reduceCtorEq, false_or, or_false, decide_eq_false_iff_not, decide_eq_true_eq, ite_not, nI_1]
      exact ih (k + 1) J _ (by omega) hF hq
    · rw [if_neg (nI_nle (by omega) (by omega))]
      simp only [e76_76, e76_77, e76_78, e76_80, mm_pu_n, mm_pu_s, va_rf_s, mm_w8_0, mm_w8_1, mm_w8_2, mm_w8_3, mm_w8_4, mm_c1_n, mm_c1_i, mm_c1_a, mm_ct_a, mm_ct_i, true_and, and_true, and_self, eq_self, if_true, if_false, ite_true, ite_false, bI_t, bI_z, bI_nz, bI_01, true_or, or_true, reduceCtorEq, false_or, or_false, decide_eq_false_iff_not, decide_eq_true_eq, ite_not, x0]
      refine t_looksMore hS (CX.k hc hF) hLL hG hp (fun J2 hF2 => ?_)
      simp only [mm_pu_s, e76_83, mm_pu_n, mm_pu_s, va_rf_s, mm_w8_0, mm_w8_1, mm_w8_2, mm_w8_3, mm_w8_4, mm_c1_n, mm_c1_i, mm_c1_a, mm_ct_a, mm_ct_i, true_and, and_true, and_self, eq_self, if_true, if_false, ite_true, ite_false, bI_t, bI_z, bI_nz, bI_01, true_or, or_true, reduceCtorEq, false_or, or_false, decide_eq_false_iff_not, decide_eq_true_eq, ite_not]
      by_cases z2 : L 3 p < p_night L n ng (nI k) 3 p
      · rw [if_pos z2]
        simp only [e76_86, e76_88, e76_90, e76_91, e76_93, e76_96, mm_pu_n, mm_pu_s, va_rf_s, mm_w8_0, mm_w8_1, mm_w8_2, mm_w8_3, mm_w8_4, mm_c1_n, mm_c1_i, mm_c1_a, mm_ct_a, mm_ct_i, true_and, and_true, and_self, eq_self, if_true, if_false, ite_true, ite_false, bI_t, bI_z, bI_nz, bI_01, true_or, or_true, reduceCtorEq, false_or, or_false, decide_eq_false_iff_not, decide_eq_true_eq, ite_not, nI_1, nI_add]
        rw [if_pos z2] at e2
        rw [← e2]
        exact ih (k + 1) J2 _ (by omega) (hF.tr hF2) hq
      · rw [if_neg z2]
        simp only [e76_93, e76_96, mm_pu_n, mm_pu_s, va_rf_s, mm_w8_0, mm_w8_1, mm_w8_2, mm_w8_3, mm_w8_4, mm_c1_n, mm_c1_i, mm_c1_a, mm_ct_a, mm_ct_i, true_and, and_true, and_self, eq_self, if_true, if_false, ite_true, ite_false, bI_t, bI_z, bI_nz, bI_01, true_or, or_true, reduceCtorEq, false_or, or_false, decide_eq_false_iff_not, decide_eq_true_eq, ite_not, nI_1]
        have e3 : p_up L n ng p c k = p_up L n ng p c (k + 1) := by rw [e2, if_neg z2]; rfl
        rw [e3]
        exact ih (k + 1) J2 _ (by omega) (hF.tr hF2) hq
theorem m_slp {L : mm_I} {n ng p c dn : Nat} {w : Int32} (hml : ml_S r m) (hc : MX I m L) (hLL : dl L = L) (hp : p < 6) (hG : ln_G L n ng) (hR : ln_R L n ng) (hc10 : c ≤ 10) : ∀ d k J l7 l8, k + d = 2 ^ ng → fm I J m → (∀ K l6 l7 l8, fm I K m → mm_E 149 179 [some (.ref m), some (.int (nI p)), some (.int (nI c)), some (.int w), some (.int (nI (p_up L n ng p c (2 ^ ng)))), some (.int (nI dn)), l6, l7, l8] [] K r Q) → mm_E 149 66 [some (.ref m), some (.int (nI p)), some (.int (nI c)), some (.int w), some (.int (nI (p_up L n ng p c k))), some (.int (nI dn)), some (.int (nI k)), l7, l8] [] J r Q := by
  have hn := hG.1.1
  have hng := hG.2.1.1
  have h32 := p32 ng (by omega)
  intro d
  induction d with
  | zero =>
    intro k J l7 l8 hk hF hq
    have : k = 2 ^ ng := by omega
    subst this
    have f1 : vr J (m + 5) m 0 1 = nI ng := by rw [MX.k hc (hF _ (by omega) (by omega) (by omega)) 0 1 (by decide)]; exact hG.2.1.2
    rw [e149_66]
    simp only [e149_68, e149_69, e149_70, e149_73, e149_75, e149_76, e149_77, mm_pu_n, mm_pu_s, va_rf_s, mm_w8_0, mm_w8_1, mm_w8_2, mm_w8_3, mm_w8_4, mm_c1_n, mm_c1_i, mm_c1_a, mm_ct_a, mm_ct_i, true_and, and_true, and_self, eq_self, if_true, if_false, ite_true, ite_false, bI_t, bI_z, bI_nz, bI_01, true_or, or_true, reduceCtorEq, false_or, or_false, decide_eq_false_iff_not, decide_eq_true_eq, ite_not, hml.s0, hml.p7, hml.i5, c27.2.1, d27.2.1, r28 m, f1, sh_1 ng (show ng < 6 by omega), Int32.le_refl]
    exact hq J _ l7 l8 hF
  | succ d ih =>
    intro k J l7 l8 hk hF hq
    have hcJ := MX.k hc (hF _ (by omega) (by omega) (by omega))
    have f1 : vr J (m + 5) m 0 1 = nI ng := by rw [hcJ 0 1 (by decide)]; exact hG.2.1.2
    rw [e149_66]
    simp only [e149_68, e149_69, e149_70, e149_73, e149_75, e149_76, e149_77, e149_80, e149_81, e149_83, e149_84, mm_pu_n, mm_pu_s, va_rf_s, mm_w8_0, mm_w8_1, mm_w8_2, mm_w8_3, mm_w8_4, mm_c1_n, mm_c1_i, mm_c1_a, mm_ct_a, mm_ct_i, true_and, and_true, and_self, eq_self, if_true, if_false, ite_true, ite_false, bI_t, bI_z, bI_nz, bI_01, true_or, or_true, reduceCtorEq, false_or, or_false, decide_eq_false_iff_not, decide_eq_true_eq, ite_not, hml.s0, hml.p7, hml.i5, c27.2.1, d27.2.1, r28 m, f1, sh_1 ng (show ng < 6 by omega), nI_ge (show k < 2 ^ ng by omega) (show 2 ^ ng < 2 ^ 31 by omega)]
    have inner : ∀ d g, g + d = ng → mm_E 149 86 [some (.ref m), some (.int (nI p)), some (.int (nI c)), some (.int w), some (.int (nI (p_up L n ng p c k))), some (.int (nI dn)), some (.int (nI k)), some (.int (nI (p_wt c k g))), some (.int (nI g))] [] J r Q := by
      intro d2
      induction d2 with
      | zero =>
        intro g hg
        have : g = ng := by omega
        subst this
        rw [e149_86]
        simp only [e149_88, e149_89, e149_92, e149_94, e149_95, e149_127, e149_128, mm_pu_n, mm_pu_s, va_rf_s, mm_w8_0, mm_w8_1, mm_w8_2, mm_w8_3, mm_w8_4, mm_c1_n, mm_c1_i, mm_c1_a, mm_ct_a, mm_ct_i, true_and, and_true, and_self, eq_self, if_true, if_false, ite_true, ite_false, bI_t, bI_z, bI_nz, bI_01, true_or, or_true, reduceCtorEq, false_or, or_false, decide_eq_false_iff_not, decide_eq_true_eq, ite_not, hml.s0, hml.p7, hml.i5, c27.2.1, d27.2.1, r28 m, f1, Int32.le_refl]
        refine g_begin n hn hml hcJ hLL (fun J1 hJ1 hF1 => ?_)
        simp only [mm_pu_n, e149_131, e149_132, e149_133, e149_136, e149_138, mm_pu_n, mm_pu_s, va_rf_s, mm_w8_0, mm_w8_1, mm_w8_2, mm_w8_3, mm_w8_4, mm_c1_n, mm_c1_i, mm_c1_a, mm_ct_a, mm_ct_i, true_and, and_true, and_self, eq_self, if_true, if_false, ite_true, ite_false, bI_t, bI_z, bI_nz, bI_01, true_or, or_true, reduceCtorEq, false_or, or_false, decide_eq_false_iff_not, decide_eq_true_eq, ite_not, hml.s0, hml.p7, hml.i5, hml.p8]
        refine g_night hml hJ1 hG hR (nI k) (fun J2 hJ2 hF2 => ?_)
        have hF3 : fm I J2 m := (hF.tr hF1).tr hF2
        have hc3 := MX.k hc (hF3 _ (by omega) (by omega) (by omega))
        simp only [mm_pu_n, e149_141, e149_143, e149_144, e149_147, e149_149, e149_150, e149_151, e149_152, e149_153, e149_156, e149_158, e149_159, e149_160, e149_161, e149_164, e149_166, e149_169, mm_pu_n, mm_pu_s, va_rf_s, mm_w8_0, mm_w8_1, mm_w8_2, mm_w8_3, mm_w8_4, mm_c1_n, mm_c1_i, mm_c1_a, mm_ct_a, mm_ct_i, true_and, and_true, and_self, eq_self, if_true, if_false, ite_true, ite_false, bI_t, bI_z, bI_nz, bI_01, true_or, or_true, reduceCtorEq, false_or, or_false, decide_eq_false_iff_not, decide_eq_true_eq, ite_not, hml.s0, hml.p7, hml.i5, hml.p8, hml.i6, k15, in2 (show 15 + p < 248 by omega), cl2 (show 15 + p < 248 by omega), r15 m hp, hJ2 3 p (Or.inl (by decide)), hc3 3 p (by decide), it_i]
        have e : (if p_night L n g (nI k) 3 p ≤ L 3 p then (0 : Int32) else nI (p_wt c k g)) = nI (if L 3 p < p_night L n g (nI k) 3 p then p_wt c k g else 0) := by
          by_cases z : p_night L n g (nI k) 3 p ≤ L 3 p
          · rw [if_pos z, if_neg (fun y => Int32.not_lt.mpr z y)]; rfl
          · rw [if_neg z, if_pos (Int32.not_le.mp z)]
        rw [e]
        simp only [e149_170, e149_171, e149_173, e149_176, mm_pu_n, mm_pu_s, va_rf_s, mm_w8_0, mm_w8_1, mm_w8_2, mm_w8_3, mm_w8_4, mm_c1_n, mm_c1_i, mm_c1_a, mm_ct_a, mm_ct_i, true_and, and_true, and_self, eq_self, if_true, if_false, ite_true, ite_false, bI_t, bI_z, bI_nz, bI_01, true_or, or_true, reduceCtorEq, false_or, or_false, decide_eq_false_iff_not, decide_eq_true_eq, ite_not, nI_1, nI_add]
        exact ih (k + 1) J2 _ _ (by omega) hF3 hq
      | succ d2 ih2 =>
        intro g hg
        rw [e149_86]
        simp only [e149_88, e149_89, e149_92, e149_94, e149_95, e149_98, e149_100, e149_102, e149_104, e149_107, e149_110, e149_111, e149_114, e149_116, e149_117, mm_pu_n, mm_pu_s, va_rf_s, mm_w8_0, mm_w8_1, mm_w8_2, mm_w8_3, mm_w8_4, mm_c1_n, mm_c1_i, mm_c1_a, mm_ct_a, mm_ct_i, true_and, and_true, and_self, eq_self, if_true, if_false, ite_true, ite_false, bI_t, bI_z, bI_nz, bI_01, true_or, or_true, reduceCtorEq, false_or, or_false, decide_eq_false_iff_not, decide_eq_true_eq, ite_not, hml.s0, hml.p7, hml.i5, c27.2.1, d27.2.1, r28 m, f1, nI_ge (show g < ng by omega) (show ng < 2 ^ 31 by omega), u_has, m_10 c (show c < 11 by omega), it_i, it_n]
        simp only [e149_118, e149_119, e149_121, e149_124, mm_pu_n, mm_pu_s, va_rf_s, mm_w8_0, mm_w8_1, mm_w8_2, mm_w8_3, mm_w8_4, mm_c1_n, mm_c1_i, mm_c1_a, mm_ct_a, mm_ct_i, true_and, and_true, and_self, eq_self, if_true, if_false, ite_true, ite_false, bI_t, bI_z, bI_nz, bI_01, true_or, or_true, reduceCtorEq, false_or, or_false, decide_eq_false_iff_not, decide_eq_true_eq, ite_not, nI_1, pk_mul]
        have e : p_wt c k (g + 1) = p_wt c k g * (if (nI k >>> (nI g &&& 31)) &&& 1 = 1 then c else 10 - c) := by
          show p_wt c k g * (if sb k g = true then c else 10 - c) = _
          unfold sb
          simp only [decide_eq_true_eq]
        rw [← e]
        exact ih2 (g + 1) (by omega)
    exact inner ng 0 (by omega)
theorem m_ten {ng : Nat} (hng : ng ≤ 5) (hml : ml_S r m) (f1 : vr I (m + 5) m 0 1 = nI ng) (l7 l8 : Option Value) (p c d u : Int32) : ∀ e k, k + e = ng → mm_E 149 63 [some (.ref m), some (.int p), some (.int c), some (.int d), some (.int u), some (.int (nI (10 ^ ng))), some (.int (nI ng)), l7, l8] [] I r Q → mm_E 149 38 [some (.ref m), some (.int p), some (.int c), some (.int d), some (.int u), some (.int (nI (10 ^ k))), some (.int (nI k)), l7, l8] [] I r Q := by
  intro e
  induction e with
  | zero =>
    intro k hk hq
    have : k = ng := by omega
    subst this
    rw [e149_38]
    simp only [e149_40, e149_41, e149_44, e149_46, e149_47, mm_pu_n, mm_pu_s, va_rf_s, mm_w8_0, mm_w8_1, mm_w8_2, mm_w8_3, mm_w8_4, mm_c1_n, mm_c1_i, mm_c1_a, mm_ct_a, mm_ct_i, true_and, and_true, and_self, eq_self, if_true, if_false, ite_true, ite_false, bI_t, bI_z, bI_nz, bI_01, true_or, or_true, reduceCtorEq, false_or, or_false, decide_eq_false_iff_not, decide_eq_true_eq, ite_not, hml.s0, hml.p7, hml.i5, c27.2.1, d27.2.1, r28 m, f1, Int32.le_refl]
    exact hq
  | succ e ih =>
    intro k hk hq
    rw [e149_38]
    simp only [e149_40, e149_41, e149_44, e149_46, e149_47, e149_50, e149_52, e149_54, e149_55, e149_57, e149_60, mm_pu_n, mm_pu_s, va_rf_s, mm_w8_0, mm_w8_1, mm_w8_2, mm_w8_3, mm_w8_4, mm_c1_n, mm_c1_i, mm_c1_a, mm_ct_a, mm_ct_i, true_and, and_true, and_self, eq_self, if_true, if_false, ite_true, ite_false, bI_t, bI_z, bI_nz, bI_01, true_or, or_true, reduceCtorEq, false_or, or_false, decide_eq_false_iff_not, decide_eq_true_eq, ite_not, hml.s0, hml.p7, hml.i5, c27.2.1, d27.2.1, r28 m, f1, nI_ge (show k < ng by omega) (show ng < 2 ^ 31 by omega), nI_1]
    rw [show nI (10 ^ k) * 10 = nI (10 ^ (k + 1)) from by rw [show (10 : Int32) = nI 10 from by decide, pk_mul]; rfl]
    exact ih (k + 1) (by omega) hq
theorem m_cd (p c d u : Option Value) (v : Int32) : ∀ z y l8, y < 2 ^ 31 → z < 2 ^ 31 → (∀ l7 l8, mm_E 149 210 [some (.ref m), p, c, d, u, some (.int v), some (.int (nI (Nat.gcd y z))), l7, l8] [] I r Q) → mm_E 149 187 [some (.ref m), p, c, d, u, some (.int v), some (.int (nI y)), some (.int (nI z)), l8] [] I r Q := by
  intro z
  induction z using Nat.strongRecOn with
  | ind z ih =>
    intro y l8 hy hz hq
    rw [e149_187]
    by_cases c0 : z = 0
    · subst c0
      simp only [e149_189, mm_pu_n, mm_pu_s, va_rf_s, mm_w8_0, mm_w8_1, mm_w8_2, mm_w8_3, mm_w8_4, mm_c1_n, mm_c1_i, mm_c1_a, mm_ct_a, mm_ct_i, true_and, and_true, and_self, eq_self, if_true, if_false, ite_true, ite_false, bI_t, bI_z, bI_nz, bI_01, true_or, or_true, reduceCtorEq, false_or, or_false, decide_eq_false_iff_not, decide_eq_true_eq, ite_not, show (nI 0 ≤ (0 : Int32)) = True from eq_true (by decide)]
      have := hq (some (.int (nI 0))) l8
      rw [Nat.gcd_zero_right] at this
      exact this
    · have hl := Nat.mod_lt y (show 0 < z by omega)
      simp only [e149_189, e149_192, e149_194, e149_196, e149_197, e149_199, e149_201, e149_203, e149_205, e149_207, mm_pu_n, mm_pu_s, va_rf_s, mm_w8_0, mm_w8_1, mm_w8_2, mm_w8_3, mm_w8_4, mm_c1_n, mm_c1_i, mm_c1_a, mm_ct_a, mm_ct_i, true_and, and_true, and_self, eq_self, if_true, if_false, ite_true, ite_false, bI_t, bI_z, bI_nz, bI_01, true_or, or_true, reduceCtorEq, false_or, or_false, decide_eq_false_iff_not, decide_eq_true_eq, ite_not, nI_nle (show 0 < z by omega) hz, nI_ne0 (show 0 < z by omega) hz, not_false_eq_true, pk_rem hy (show 0 < z by omega) hz]
      refine ih (y % z) hl z _ hz (by omega) (fun l7 l8 => ?_)
      rw [show Nat.gcd z (y % z) = Nat.gcd y z from by rw [Nat.gcd_comm y z, Nat.gcd_rec z y, Nat.gcd_comm]]
      exact hq l7 l8
theorem a_sleep (h : ALL I r x m) (p c w : Int32) : pr 76 149 [some (.ref x), some (.int p), some (.int c), some (.int w), none, none, none, none] [some (.ref m), some (.int p), some (.int c), some (.int w), none, none, none, none, none] I r x m := by
  obtain ⟨hS, ⟨sg, L, bn, B, n, ng, Lr, Br, hg⟩, hG2, hG3, hG4⟩ := id h
  obtain ⟨hm, hx, ⟨l1, l2, l3, l4⟩, hip, hpt, htp, hsh, hml⟩ := id hS
  obtain ⟨x0, x1, x2, x3, x4, x5, x6, x7, x8⟩ := id hx
  obtain ⟨⟨hps, hL, hpv⟩, ⟨hR, hB⟩, ⟨⟨⟨hG, hRR, hdr, hnt⟩, hbk⟩, ⟨⟨hG', hRR', hdr', hnt'⟩, hbk'⟩, hsm, hsB⟩⟩ := id hg
  have hLL : dl L = L := by rw [← hL]; exact dl_dl _
  have hLr : dl Lr = Lr := by rw [← hR]; exact dl_dl _
  have hs6 := s_6 hsm hLL hLr
  have vL : ∀ q i, q < 7 → vc I (x + 1) q i = L q i := fun q i hq => by rw [← hL, dl_at hq]
  have vR : ∀ q i, q < 7 → vr I (m + 5) m q i = Lr q i := fun q i hq => by rw [← hR, dl_at hq]
  have vRh : ∀ {k : Nat}, k < n → ∀ q, 1 ≤ q ∧ q ≤ 3 → vr I (m + 5) m q k = L q k := fun hk q hq => (vR q _ (by omega)).trans (hsm q _ (wc_h hq hk)).symm
  have vRg : ∀ {k : Nat}, k < ng → ∀ q, 4 ≤ q ∧ q ≤ 6 → vr I (m + 5) m q k = L q k := fun hk q hq => (vR q _ (by omega)).trans (hsm q _ (wc_g hq hk)).symm
  obtain ⟨⟨hn, e0⟩, ⟨hng, e1⟩, hpl⟩ := id hG
  have f0 : vc I (x + 1) 0 0 = nI n := by rw [vL 0 0 (by decide)]; exact e0
  have f1 : vc I (x + 1) 0 1 = nI ng := by rw [vL 0 1 (by decide)]; exact e1
  have g0 : vr I (m + 5) m 0 0 = nI n := by rw [vR 0 0 (by decide)]; exact hG'.1.2
  have g1 : vr I (m + 5) m 0 1 = nI ng := by rw [vR 0 1 (by decide)]; exact hG'.2.1.2
  unfold pr
  cases hk1 : okh p n with
  | false =>
    simp only [e76_0, e76_1, e76_4, e76_5, e76_8, e76_11, e76_12, e76_13, e76_15, e76_18, e76_21, e76_22, e76_23, e76_24, e76_27, e76_30, e76_31, e149_0, e149_1, e149_2, e149_5, e149_8, e149_9, e149_10, e149_12, e149_15, e149_18, e149_19, e149_20, e149_21, e149_24, e149_27, e149_28, mm_pu_n, mm_pu_s, va_rf_s, mm_w8_0, mm_w8_1, mm_w8_2, mm_w8_3, mm_w8_4, mm_c1_n, mm_c1_i, mm_c1_a, mm_ct_a, mm_ct_i, true_and, and_true, and_self, eq_self, if_true, if_false, ite_true, ite_false, bI_t, bI_z, bI_nz, bI_01, true_or, or_true, reduceCtorEq, false_or, or_false, decide_eq_false_iff_not, decide_eq_true_eq, ite_not, x0, x1, x2, x3, x4, x5, x6, x7, x8, l1.s0, l1.p6, l1.p7, l1.p8, l1.p9, l1.p10, l1.p11, l1.p12, l1.p13, l1.i1, l1.i2, l1.i3, l1.i4, l1.i5, l1.i6, l1.i7, l1.i8, hml.s0, hml.p7, hml.i5, t_hasH l1 f0, u_isHouse hml hn g0, hk1, Bool.false_eq_true]
    exact fi_i _ h rfl rfl
  | true =>
    cases hk2 : wth c 0 10 with
    | false =>
      simp only [e76_0, e76_1, e76_4, e76_5, e76_8, e76_11, e76_12, e76_13, e76_15, e76_18, e76_21, e76_22, e76_23, e76_24, e76_27, e76_30, e76_31, e149_0, e149_1, e149_2, e149_5, e149_8, e149_9, e149_10, e149_12, e149_15, e149_18, e149_19, e149_20, e149_21, e149_24, e149_27, e149_28, mm_pu_n, mm_pu_s, va_rf_s, mm_w8_0, mm_w8_1, mm_w8_2, mm_w8_3, mm_w8_4, mm_c1_n, mm_c1_i, mm_c1_a, mm_ct_a, mm_ct_i, true_and, and_true, and_self, eq_self, if_true, if_false, ite_true, ite_false, bI_t, bI_z, bI_nz, bI_01, true_or, or_true, reduceCtorEq, false_or, or_false, decide_eq_false_iff_not, decide_eq_true_eq, ite_not, x0, x1, x2, x3, x4, x5, x6, x7, x8, l1.s0, l1.p6, l1.p7, l1.p8, l1.p9, l1.p10, l1.p11, l1.p12, l1.p13, l1.i1, l1.i2, l1.i3, l1.i4, l1.i5, l1.i6, l1.i7, l1.i8, hml.s0, hml.p7, hml.i5, t_hasH l1 f0, u_isHouse hml hn g0, t_within, u_inw, hk1, hk2, Bool.true_eq_false]
      exact fi_i _ h rfl rfl
    | true =>
      cases hk3 : wth w 0 1 with
      | false =>
        simp only [e76_0, e76_1, e76_4, e76_5, e76_8, e76_11, e76_12, e76_13, e76_15, e76_18, e76_21, e76_22, e76_23, e76_24, e76_27, e76_30, e76_31, e149_0, e149_1, e149_2, e149_5, e149_8, e149_9, e149_10, e149_12, e149_15, e149_18, e149_19, e149_20, e149_21, e149_24, e149_27, e149_28, mm_pu_n, mm_pu_s, va_rf_s, mm_w8_0, mm_w8_1, mm_w8_2, mm_w8_3, mm_w8_4, mm_c1_n, mm_c1_i, mm_c1_a, mm_ct_a, mm_ct_i, true_and, and_true, and_self, eq_self, if_true, if_false, ite_true, ite_false, bI_t, bI_z, bI_nz, bI_01, true_or, or_true, reduceCtorEq, false_or, or_false, decide_eq_false_iff_not, decide_eq_true_eq, ite_not, x0, x1, x2, x3, x4, x5, x6, x7, x8, l1.s0, l1.p6, l1.p7, l1.p8, l1.p9, l1.p10, l1.p11, l1.p12, l1.p13, l1.i1, l1.i2, l1.i3, l1.i4, l1.i5, l1.i6, l1.i7, l1.i8, hml.s0, hml.p7, hml.i5, t_hasH l1 f0, u_isHouse hml hn g0, t_within, u_inw, hk1, hk2, hk3, Bool.true_eq_false]
        exact fi_i _ h rfl rfl
      | true =>
        obtain ⟨k, hkn, rfl⟩ := okh_of hk1 hn
        obtain ⟨c', -, hc, rfl⟩ := wth_of hk2 (a := 0) (b := 10) (by decide) (by decide) (by decide) (by decide)
        have hk6 : k < 6 := by omega
        have h32 := p32 ng (by omega)
        have hup : p_up L n ng k c' (2 ^ ng) ≤ 10 ^ ng := by
          have := p_up_dn L n ng k c' (2 ^ ng)
          rw [p_dn_all hng hc] at this
          exact this
        have hgd : 0 < Nat.gcd (p_up L n ng k c' (2 ^ ng)) (10 ^ ng) := Nat.gcd_pos_of_pos_right _ h32.2.2
        have hgl : Nat.gcd (p_up L n ng k c' (2 ^ ng)) (10 ^ ng) ≤ 10 ^ ng := Nat.gcd_le_right _ h32.2.2
        have hg1 : ¬ (nI (Nat.gcd (p_up L n ng k c' (2 ^ ng)) (10 ^ ng)) < 1) := by
          rw [show (1 : Int32) = nI 1 from rfl]
          exact fun z => absurd ((nI_ltI (by omega) (by decide)).mp z) (by omega)
        simp only [e76_0, e76_1, e76_4, e76_5, e76_8, e76_11, e76_12, e76_13, e76_15, e76_18, e76_21, e76_22, e76_23, e76_24, e76_27, e76_30, e76_31, e76_32, e76_33, e76_35, e76_36, e76_38, e76_39, mm_pu_n, mm_pu_s, va_rf_s, mm_w8_0, mm_w8_1, mm_w8_2, mm_w8_3, mm_w8_4, mm_c1_n, mm_c1_i, mm_c1_a, mm_ct_a, mm_ct_i, true_and, and_true, and_self, eq_self, if_true, if_false, ite_true, ite_false, bI_t, bI_z, bI_nz, bI_01, true_or, or_true, reduceCtorEq, false_or, or_false, decide_eq_false_iff_not, decide_eq_true_eq, ite_not, x0, x1, x2, x3, x4, x5, x6, x7, x8, l1.s0, l1.p6, l1.p7, l1.p8, l1.p9, l1.p10, l1.p11, l1.p12, l1.p13, l1.i1, l1.i2, l1.i3, l1.i4, l1.i5, l1.i6, l1.i7, l1.i8, t_hasH l1 f0, t_within, hk1, hk2, hk3, Bool.true_eq_false]
        refine c_slp (I := I) (c := c') (w := w) hS vL hLL hk6 hG hc (2 ^ ng) 0 I none (by omega) fc.rf (fun K l6 l7 hK => ?_)
        rw [p_dn_all hng hc]
        simp only [e76_99, e76_101, e76_103, mm_pu_n, mm_pu_s, va_rf_s, mm_w8_0, mm_w8_1, mm_w8_2, mm_w8_3, mm_w8_4, mm_c1_n, mm_c1_i, mm_c1_a, mm_ct_a, mm_ct_i, true_and, and_true, and_self, eq_self, if_true, if_false, ite_true, ite_false, bI_t, bI_z, bI_nz, bI_01, true_or, or_true, reduceCtorEq, false_or, or_false, decide_eq_false_iff_not, decide_eq_true_eq, ite_not]
        refine t_commonDivisor (by omega) (by omega) ?_
        simp only [mm_pu_s, e76_106, e76_108, e76_110, e76_111, e76_114, e76_115, e76_116, e76_117, e76_120, e76_122, e76_125, mm_pu_n, mm_pu_s, va_rf_s, mm_w8_0, mm_w8_1, mm_w8_2, mm_w8_3, mm_w8_4, mm_c1_n, mm_c1_i, mm_c1_a, mm_ct_a, mm_ct_i, true_and, and_true, and_self, eq_self, if_true, if_false, ite_true, ite_false, bI_t, bI_z, bI_nz, bI_01, true_or, or_true, reduceCtorEq, false_or, or_false, decide_eq_false_iff_not, decide_eq_true_eq, ite_not, Int32.not_lt.mp hg1, it_i]
        simp only [e76_127, e76_129, e76_130, mm_pu_n, mm_pu_s, va_rf_s, mm_w8_0, mm_w8_1, mm_w8_2, mm_w8_3, mm_w8_4, mm_c1_n, mm_c1_i, mm_c1_a, mm_ct_a, mm_ct_i, true_and, and_true, and_self, eq_self, if_true, if_false, ite_true, ite_false, bI_t, bI_z, bI_nz, bI_01, true_or, or_true, reduceCtorEq, false_or, or_false, decide_eq_false_iff_not, decide_eq_true_eq, ite_not, nI_ne0 hgd (show Nat.gcd (p_up L n ng k c' (2 ^ ng)) (10 ^ ng) < 2 ^ 31 by omega), not_false_eq_true]
        have gJ : vr K (m + 5) m 0 0 = nI n := by rw [vr_q (I := I) (by decide) (fun j _ => by rw [hK _ (by omega)])]; exact g0
        have gJ1 : vr K (m + 5) m 0 1 = nI ng := by rw [vr_q (I := I) (by decide) (fun j _ => by rw [hK _ (by omega)])]; exact g1
        simp only [e149_0, e149_1, e149_2, e149_5, e149_8, e149_9, e149_10, e149_12, e149_15, e149_18, e149_19, e149_20, e149_21, e149_24, e149_27, e149_28, e149_29, e149_30, e149_32, e149_33, e149_35, e149_36, mm_pu_n, mm_pu_s, va_rf_s, mm_w8_0, mm_w8_1, mm_w8_2, mm_w8_3, mm_w8_4, mm_c1_n, mm_c1_i, mm_c1_a, mm_ct_a, mm_ct_i, true_and, and_true, and_self, eq_self, if_true, if_false, ite_true, ite_false, bI_t, bI_z, bI_nz, bI_01, true_or, or_true, reduceCtorEq, false_or, or_false, decide_eq_false_iff_not, decide_eq_true_eq, ite_not, hml.s0, hml.p7, hml.i5, u_isHouse hml hn gJ, u_inw, hk1, hk2, hk3, Bool.true_eq_false]
        refine m_ten hng hml gJ1 none none (nI k) (nI c') w 0 ng 0 (by omega) ?_
        simp only [e149_63, e149_64, mm_pu_n, mm_pu_s, va_rf_s, mm_w8_0, mm_w8_1, mm_w8_2, mm_w8_3, mm_w8_4, mm_c1_n, mm_c1_i, mm_c1_a, mm_ct_a, mm_ct_i, true_and, and_true, and_self, eq_self, if_true, if_false, ite_true, ite_false, bI_t, bI_z, bI_nz, bI_01, true_or, or_true, reduceCtorEq, false_or, or_false, decide_eq_false_iff_not, decide_eq_true_eq, ite_not]
        refine m_slp (I := K) (c := c') (w := w) (dn := 10 ^ ng) hml (MX.k (I := I) vR (hK _ (by omega))) hLr hk6 hG' hRR' hc (2 ^ ng) 0 K none none (by omega) fm.rf (fun K2 l6 l7 l8 hK2 => ?_)
        rw [← p_up_c hs6 hG hkn (2 ^ ng)]
        simp only [e149_179, e149_181, e149_183, e149_185, mm_pu_n, mm_pu_s, va_rf_s, mm_w8_0, mm_w8_1, mm_w8_2, mm_w8_3, mm_w8_4, mm_c1_n, mm_c1_i, mm_c1_a, mm_ct_a, mm_ct_i, true_and, and_true, and_self, eq_self, if_true, if_false, ite_true, ite_false, bI_t, bI_z, bI_nz, bI_01, true_or, or_true, reduceCtorEq, false_or, or_false, decide_eq_false_iff_not, decide_eq_true_eq, ite_not]
        refine m_cd _ _ _ _ _ (10 ^ ng) (p_up L n ng k c' (2 ^ ng)) l8 (by omega) (by omega) (fun l7 l8 => ?_)
        simp only [e149_210, e149_211, e149_214, e149_216, e149_219, mm_pu_n, mm_pu_s, va_rf_s, mm_w8_0, mm_w8_1, mm_w8_2, mm_w8_3, mm_w8_4, mm_c1_n, mm_c1_i, mm_c1_a, mm_ct_a, mm_ct_i, true_and, and_true, and_self, eq_self, if_true, if_false, ite_true, ite_false, bI_t, bI_z, bI_nz, bI_01, true_or, or_true, reduceCtorEq, false_or, or_false, decide_eq_false_iff_not, decide_eq_true_eq, ite_not, it_i]
        simp only [e149_221, e149_223, e149_224, mm_pu_n, mm_pu_s, va_rf_s, mm_w8_0, mm_w8_1, mm_w8_2, mm_w8_3, mm_w8_4, mm_c1_n, mm_c1_i, mm_c1_a, mm_ct_a, mm_ct_i, true_and, and_true, and_self, eq_self, if_true, if_false, ite_true, ite_false, bI_t, bI_z, bI_nz, bI_01, true_or, or_true, reduceCtorEq, false_or, or_false, decide_eq_false_iff_not, decide_eq_true_eq, ite_not, nI_ne0 hgd (show Nat.gcd (p_up L n ng k c' (2 ^ ng)) (10 ^ ng) < 2 ^ 31 by omega), not_false_eq_true]
        exact fi_i _ (ALL_f h hK hK2) rfl rfl
end
