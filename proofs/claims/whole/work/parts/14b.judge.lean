abbrev pt_S : Type := Option (Nat × Int32 × (Nat → Nat))
def scw (L : mm_I) (w : Nat → Nat) : Nat → mm_I
  | 0 => L
  | k + 1 => mm_uI (scw L w k) 2 k (nI (w k))
def pE (L : mm_I) (n ng t : Nat) (w : Nat → Nat) : mm_I := p_nights (scw L w n) n ng t
def pU (L : mm_I) (n ng t : Nat) (w : Nat → Nat) (st : pt_S) : pt_S := match st with
  | none => some (n - lcn (pE L n ng t w) n, p_ow (pE L n ng t w) n, w)
  | some q => if q.1 < n - lcn (pE L n ng t w) n ∨ (q.1 = n - lcn (pE L n ng t w) n ∧ p_ow (pE L n ng t w) n < q.2.1) then some (n - lcn (pE L n ng t w) n, p_ow (pE L n ng t w) n, w) else some q
theorem scw_k (L : mm_I) (w : Nat → Nat) (q i : Nat) (h : q ≠ 2) : ∀ k, scw L w k q i = L q i := by
  intro k
  induction k with
  | zero => rfl
  | succ k ih =>
    show mm_uI (scw L w k) 2 k (nI (w k)) q i = L q i
    rw [mu_n h]; exact ih
theorem scw_G {L : mm_I} {n ng : Nat} (h : ln_G L n ng) (w : Nat → Nat) (k : Nat) : ln_G (scw L w k) n ng := ln_G_keep h (scw_k _ _ _ _ (by decide) _) (scw_k _ _ _ _ (by decide) _) (funext fun i => scw_k _ _ _ _ (by decide) _)
theorem scw_gl {L : mm_I} {n ng : Nat} (h : gl L n ng) (w : Nat → Nat) : ∀ k, (∀ i, i < k → w i ≤ 20) → gl (scw L w k) n ng := by
  intro k
  induction k with
  | zero => intro _; exact h
  | succ k ih => intro hw; exact gl_h (ih (fun i hi => hw i (by omega))) (Or.inr (Or.inl ⟨rfl, w k, hw k (by omega), rfl⟩))
theorem scw_c {L Lr : mm_I} {n ng : Nat} (h : ag (x6 n ng) L Lr) (w : Nat → Nat) : ∀ k, ag (x6 n ng) (scw L w k) (scw Lr w k) := by
  intro k
  induction k with
  | zero => exact h
  | succ k ih => exact ih.u 2 k rfl
theorem pU_c {L Lr : mm_I} {n ng t : Nat} (h : ag (x6 n ng) L Lr) (hG : ln_G L n ng) : pU L n ng t = pU Lr n ng t := by
  funext w st
  have e := s_nights (scw_c h w n) (scw_G hG w n) t
  have e1 : lcn (pE L n ng t w) n = lcn (pE Lr n ng t w) n := lcn_c (x6_c e) n (Nat.le_refl _)
  have e2 : p_ow (pE L n ng t w) n = p_ow (pE Lr n ng t w) n := s_ow (x6_c e) n (Nat.le_refl _)
  unfold pU
  rw [e1, e2]
def pc_S (J : mm_I) (a n : Nat) (st : pt_S) : Prop := match st with
  | none => mm_rd J a 0 = -1
  | some q => (mm_rd J a 0 = nI q.1 ∧ mm_rd J a 1 = q.2.1) ∧ q.1 ≤ n ∧ ∀ h, h < n → J (a + 1) h = nI (q.2.2 h)
def pw (J : mm_I) (a n : Nat) (w : Nat → Nat) : Prop := ∀ h, h < n → J (a + 2) h = nI (w h)
def fp (x : Nat) (I J : mm_I) : Prop := ∀ q, ¬ (x + 10 ≤ q ∧ q < x + 19) → ¬ (x + 93 ≤ q ∧ q < x + 96) → J q = I q
theorem fp.tr {x : Nat} {I J K : mm_I} (h1 : fp x I J) (h2 : fp x J K) : fp x I K := fun q a b => (h2 q a b).trans (h1 q a b)
theorem fp.c {x : Nat} {I J : mm_I} (h : fc I J x) : fp x I J := fun q a _ => h q a
theorem pc_F {J K : mm_I} {a n : Nat} {st : pt_S} (h : pc_S J a n st) (h1 : K a = J a) (h2 : K (a + 1) = J (a + 1)) : pc_S K a n st := by
  cases st with
  | none => exact (rd_F h1).trans h
  | some q => exact ⟨⟨(rd_F h1).trans h.1.1, (rd_F h1).trans h.1.2⟩, h.2.1, fun i hi => by rw [h2]; exact h.2.2 i hi⟩
section
variable {r : mm_R} {J : mm_I} {x m n ng t : Nat} {L : mm_I} {w : Nat → Nat} {st : pt_S} {Q : Option Value → mm_I → mm_R → Prop}
theorem j_lay (hS : HS r x m) (hn : n ≤ 6) : ∀ d k K, k + d = n → ag (w6 n True) (vc K (x + 10)) (scw L w k) → pw K (x + 93) n w → (∀ K2, fc K K2 x → ag (w6 n True) (vc K2 (x + 10)) (scw L w n) → mm_E 23 41 [some (.ref (x + 93)), some (.ref (x + 1)), some (.ref (x + 10)), some (.int (nI t)), some (.int (nI n)), some (.int (nI n)), none, none] [] K2 r Q) → mm_E 23 14 [some (.ref (x + 93)), some (.ref (x + 1)), some (.ref (x + 10)), some (.int (nI t)), some (.int (nI n)), some (.int (nI k)), none, none] [] K r Q := by
  have l2 := hS.2.2.1.2.1
  obtain ⟨p0, p2, p3, p4, p5⟩ := hS.2.2.2.2.1
  have hi : ∀ y, mm_ix r (x + 95) 2 y = vp_in y 6 := fun y => mm_ixs p5
  intro d
  induction d with
  | zero =>
    intro k K hk ha hw hq
    have : k = n := by omega
    subst this
    rw [e23_14]
    simp only [e23_16, e23_18, mm_pu_n, mm_pu_s, va_rf_s, mm_w8_0, mm_w8_1, mm_w8_2, mm_w8_3, mm_w8_4, mm_c1_n, mm_c1_i, mm_c1_a, mm_ct_a, mm_ct_i, true_and, and_true, and_self, eq_self, if_true, if_false, ite_true, ite_false, bI_t, bI_z, bI_nz, bI_01, true_or, or_true, reduceCtorEq, false_or, or_false, decide_eq_false_iff_not, decide_eq_true_eq, ite_not, Int32.le_refl]
    exact hq K fc.rf ha
  | succ d ih =>
    intro k K hk ha hw hq
    have hk6 : k < 6 := by omega
    have ew : mm_rd K (x + 95) k = nI (w k) := hw k (by omega)
    rw [e23_14]
    simp only [e23_16, e23_18, e23_21, e23_22, e23_25, e23_27, e23_28, e23_31, e23_33, e23_34, e23_35, e23_38, mm_pu_n, mm_pu_s, va_rf_s, mm_w8_0, mm_w8_1, mm_w8_2, mm_w8_3, mm_w8_4, mm_c1_n, mm_c1_i, mm_c1_a, mm_ct_a, mm_ct_i, true_and, and_true, and_self, eq_self, if_true, if_false, ite_true, ite_false, bI_t, bI_z, bI_nz, bI_01, true_or, or_true, reduceCtorEq, false_or, or_false, decide_eq_false_iff_not, decide_eq_true_eq, ite_not, nI_ge (show k < n by omega) (show n < 2 ^ 31 by omega), l2.s0, l2.p6, l2.p7, l2.p8, l2.p9, l2.p10, l2.p11, l2.p12, l2.p13, l2.i1, l2.i2, l2.i3, l2.i4, l2.i5, l2.i6, l2.i7, l2.i8, p0, p3, hi, in6 hk6, cl_nI hk6, ew, nI_1]
    have fr : fc K (mm_uI K (x + 10 + 2) k (nI (w k))) x := fun q hq => mu_n (by omega)
    refine ih (k + 1) _ (by omega) ?_ (fun h hh => by rw [mu_n (by omega)]; exact hw h hh) (fun K2 w1 w2 => hq K2 (fr.tr w1) w2)
    have e : vc (mm_uI K (x + 10 + 2) k (nI (w k))) (x + 10) = mm_uI (vc K (x + 10)) 2 k (nI (w k)) := vc_u ⟨by decide, hk6⟩
    rw [e]
    exact ag6_u ha
/-- the nights of a judgement: it may stop when too many are lost -/
theorem j_nights {M : mm_I} {kp : Int32} (hS : HS r x m) (hG : ln_G M n ng) (hk1 : kp = -1 ∨ ∃ k0, k0 ≤ n ∧ kp = nI k0) : ∀ d k sd K, k + d = t → t ≤ 100 → ((k = 0 ∧ 0 < t ∧ sd = n) ∨ (0 < k ∧ sd = n - lcn (p_nights M n ng k) n)) → ag (w6 n True) (vc K (x + 10)) (p_nights M n ng k) → mm_rd K (x + 93) 0 = kp → (∀ K2 sd l6, fc K K2 x → ((sd = n - lcn (p_nights M n ng t) n ∧ ag (w6 n True) (vc K2 (x + 10)) (p_nights M n ng t)) ∨ (n - lcn (p_nights M n ng t) n ≤ sd ∧ sd ≤ n ∧ (∃ k0, k0 ≤ n ∧ kp = nI k0 ∧ sd < k0) ∧ ∃ k, ag (w6 n True) (vc K2 (x + 10)) (p_nights M n ng k))) → mm_E 23 86 [some (.ref (x + 93)), some (.ref (x + 1)), some (.ref (x + 10)), some (.int (nI t)), some (.int (nI n)), some (.int (nI sd)), some (.int l6), none] [] K2 r Q) → mm_E 23 48 [some (.ref (x + 93)), some (.ref (x + 1)), some (.ref (x + 10)), some (.int (nI t)), some (.int (nI n)), some (.int (nI sd)), some (.int (nI k)), none] [] K r Q := by
  have l2 := hS.2.2.1.2.1
  have p0 := hS.2.2.2.2.1.1
  have hn := hG.1.1
  intro d
  induction d with
  | zero =>
    intro k sd K hk ht hsd ha hkp hq
    have : k = t := by omega
    subst this
    rw [e23_48]
    simp only [e23_50, e23_51, mm_pu_n, mm_pu_s, va_rf_s, mm_w8_0, mm_w8_1, mm_w8_2, mm_w8_3, mm_w8_4, mm_c1_n, mm_c1_i, mm_c1_a, mm_ct_a, mm_ct_i, true_and, and_true, and_self, eq_self, if_true, if_false, ite_true, ite_false, bI_t, bI_z, bI_nz, bI_01, true_or, or_true, reduceCtorEq, false_or, or_false, decide_eq_false_iff_not, decide_eq_true_eq, ite_not, Int32.le_refl]
    exact hq K sd _ fc.rf (Or.inl ⟨by omega, ha⟩)
  | succ d ih =>
    intro k sd K hk ht hsd ha hkp hq
    have hl := lcn_le (p_nights M n ng k) n
    rw [e23_48]
    simp only [e23_50, e23_51, e23_54, e23_56, e23_57, e23_60, mm_pu_n, mm_pu_s, va_rf_s, mm_w8_0, mm_w8_1, mm_w8_2, mm_w8_3, mm_w8_4, mm_c1_n, mm_c1_i, mm_c1_a, mm_ct_a, mm_ct_i, true_and, and_true, and_self, eq_self, if_true, if_false, ite_true, ite_false, bI_t, bI_z, bI_nz, bI_01, true_or, or_true, reduceCtorEq, false_or, or_false, decide_eq_false_iff_not, decide_eq_true_eq, ite_not, nI_ge (show k < t by omega) (show t < 2 ^ 31 by omega), p0, hkp]
    by_cases c : nI sd < kp
    · rw [if_pos c]
      rcases hk1 with rfl | ⟨k0, hk0, rfl⟩
      · exact absurd c (fun z => by
          have := Int32.lt_trans z (show (-1 : Int32) < 0 by decide)
          exact nI_nn (show sd < 2 ^ 31 by omega) this)
      · have hlt := (nI_ltI (show sd < 2 ^ 31 by omega) (show k0 < 2 ^ 31 by omega)).mp c
        have hk0' : 0 < k := by omega
        have hm := lcn_nights (L := M) (n := n) (ng := ng) n k (d + 1)
        rw [hk] at hm
        exact hq K sd _ fc.rf (Or.inr ⟨by omega, by omega, ⟨k0, hk0, rfl, hlt⟩, k, ha⟩)
    · rw [if_neg c]
      simp only [e23_63, e23_64, e23_65, mm_pu_n, mm_pu_s, va_rf_s, mm_w8_0, mm_w8_1, mm_w8_2, mm_w8_3, mm_w8_4, mm_c1_n, mm_c1_i, mm_c1_a, mm_ct_a, mm_ct_i, true_and, and_true, and_self, eq_self, if_true, if_false, ite_true, ite_false, bI_t, bI_z, bI_nz, bI_01, true_or, or_true, reduceCtorEq, false_or, or_false, decide_eq_false_iff_not, decide_eq_true_eq, ite_not, l2.s0]
      refine f_night hS ha (p_nights_G hG k) 0 (fun K2 hK2 hF2 => ?_)
      have hG2 := p_nights_G hG (k + 1)
      have f0 : vc K2 (x + 10) 0 0 = nI n := by rw [hK2 0 0 (Or.inl (by decide))]; exact hG2.1.2
      obtain ⟨s, s1, s2, s3⟩ := p_ls_c (p_nights M n ng (k + 1)) n hn
      have e2 : p_ls (vc K2 (x + 10)) n = nI s := by rw [← s2]; exact ag_ls (fun i => hK2 3 i (Or.inl (by decide))) n
      have hs64 : s < 64 := Nat.lt_of_lt_of_le s1 (Nat.pow_le_pow_right (by decide) hn)
      have hl2 := lcn_le (p_nights M n ng (k + 1)) n
      have e3 : nI n - nI (pcn s) = nI (n - lcn (p_nights M n ng (k + 1)) n) := by rw [s3, n_sub hl2 (by omega)]
      simp only [mm_pu_n, e23_68, e23_70, e23_71, e23_74, e23_77, e23_78, e23_80, e23_83, mm_pu_n, mm_pu_s, va_rf_s, mm_w8_0, mm_w8_1, mm_w8_2, mm_w8_3, mm_w8_4, mm_c1_n, mm_c1_i, mm_c1_a, mm_ct_a, mm_ct_i, true_and, and_true, and_self, eq_self, if_true, if_false, ite_true, ite_false, bI_t, bI_z, bI_nz, bI_01, true_or, or_true, reduceCtorEq, false_or, or_false, decide_eq_false_iff_not, decide_eq_true_eq, ite_not, l2.s0, t_lostSet l2 hn f0, e2, t_bitCount, bcI_v s hs64, e3, nI_1]
      exact ih (k + 1) _ K2 (by omega) ht (Or.inr ⟨by omega, rfl⟩) (w7_w6 hK2) (by rw [rd_F (hF2 _ (by omega))]; exact hkp) (fun K3 sd l6 w1 w2 => hq K3 sd l6 (hF2.tr w1) w2)
theorem j_best (hS : HS r x m) (hn : n ≤ 6) {l3 l5 l6 : Int32} : ∀ d k K, k + d = n → pw K (x + 93) n w → (∀ h, h < k → K (x + 94) h = nI (w h)) → (∀ K2, (∀ q, q ≠ x + 94 → K2 q = K q) → (∀ h, h < n → K2 (x + 94) h = nI (w h)) → Q none K2 r) → mm_E 23 134 [some (.ref (x + 93)), some (.ref (x + 1)), some (.ref (x + 10)), some (.int l3), some (.int (nI n)), some (.int l5), some (.int l6), some (.int (nI k))] [] K r Q := by
  obtain ⟨p0, p2, p3, p4, p5⟩ := hS.2.2.2.2.1
  have hi4 : ∀ y, mm_ix r (x + 94) 2 y = vp_in y 6 := fun y => mm_ixs p4
  have hi5 : ∀ y, mm_ix r (x + 95) 2 y = vp_in y 6 := fun y => mm_ixs p5
  intro d
  induction d with
  | zero =>
    intro k K hk hw hb hq
    have : k = n := by omega
    subst this
    rw [e23_134]
    simp only [e23_136, e23_138, e23_161, mm_pu_n, mm_pu_s, va_rf_s, mm_w8_0, mm_w8_1, mm_w8_2, mm_w8_3, mm_w8_4, mm_c1_n, mm_c1_i, mm_c1_a, mm_ct_a, mm_ct_i, true_and, and_true, and_self, eq_self, if_true, if_false, ite_true, ite_false, bI_t, bI_z, bI_nz, bI_01, true_or, or_true, reduceCtorEq, false_or, or_false, decide_eq_false_iff_not, decide_eq_true_eq, ite_not, Int32.le_refl]
    exact hq K (fun _ _ => rfl) hb
  | succ d ih =>
    intro k K hk hw hb hq
    have hk6 : k < 6 := by omega
    have ew : mm_rd K (x + 95) k = nI (w k) := hw k (by omega)
    rw [e23_134]
    simp only [e23_136, e23_138, e23_141, e23_142, e23_145, e23_147, e23_148, e23_151, e23_153, e23_154, e23_155, e23_158, mm_pu_n, mm_pu_s, va_rf_s, mm_w8_0, mm_w8_1, mm_w8_2, mm_w8_3, mm_w8_4, mm_c1_n, mm_c1_i, mm_c1_a, mm_ct_a, mm_ct_i, true_and, and_true, and_self, eq_self, if_true, if_false, ite_true, ite_false, bI_t, bI_z, bI_nz, bI_01, true_or, or_true, reduceCtorEq, false_or, or_false, decide_eq_false_iff_not, decide_eq_true_eq, ite_not, nI_ge (show k < n by omega) (show n < 2 ^ 31 by omega), p0, p2, p3, hi4, hi5, in6 hk6, cl_nI hk6, ew, nI_1]
    refine ih (k + 1) _ (by omega) (fun h hh => by rw [mu_n (by omega)]; exact hw h hh) (fun h hh => ?_) (fun K2 w1 w2 => hq K2 (fun q z => by rw [w1 q z, mu_n z]) w2)
    by_cases c : h = k
    · subst c; exact mu_s
    · rw [mu_j c]; exact hb h (by omega)
theorem t_judge (hS : HS r x m) (hc : CX J x L) (hLL : dl L = L) (hG : ln_G L n ng) (ht0 : 0 < t) (ht : t ≤ 30) (hw : pw J (x + 93) n w) (hst : pc_S J (x + 93) n st) (hq : ∀ K, fp x J K → K (x + 95) = J (x + 95) → pc_S K (x + 93) n (pU L n ng t w st) → Q none K r) : mm_E 23 0 [some (.ref (x + 93)), some (.ref (x + 1)), some (.ref (x + 10)), some (.int (nI t)), none, none, none, none] [] J r Q := by
  obtain ⟨x0, x1, x2, -⟩ := id hS.2.1
  have l1 := hS.2.2.1.1
  have l2 := hS.2.2.1.2.1
  obtain ⟨p0, p2, p3, p4, p5⟩ := hS.2.2.2.2.1
  have hn := hG.1.1
  have f0 : vc J (x + 1) 0 0 = nI n := by rw [hc 0 0 (by decide)]; exact hG.1.2
  simp only [e23_0, e23_1, e23_4, e23_6, e23_7, e23_8, mm_pu_n, mm_pu_s, va_rf_s, mm_w8_0, mm_w8_1, mm_w8_2, mm_w8_3, mm_w8_4, mm_c1_n, mm_c1_i, mm_c1_a, mm_ct_a, mm_ct_i, true_and, and_true, and_self, eq_self, if_true, if_false, ite_true, ite_false, bI_t, bI_z, bI_nz, bI_01, true_or, or_true, reduceCtorEq, false_or, or_false, decide_eq_false_iff_not, decide_eq_true_eq, ite_not, l1.s0, l2.s0, rd_0 (a := x + 1) (i := 0) (by decide), f0]
  refine f_take n hS hc hLL (fun J1 hJ1 hF1 => ?_)
  simp only [mm_pu_n, e23_11, e23_12, mm_pu_n, mm_pu_s, va_rf_s, mm_w8_0, mm_w8_1, mm_w8_2, mm_w8_3, mm_w8_4, mm_c1_n, mm_c1_i, mm_c1_a, mm_ct_a, mm_ct_i, true_and, and_true, and_self, eq_self, if_true, if_false, ite_true, ite_false, bI_t, bI_z, bI_nz, bI_01, true_or, or_true, reduceCtorEq, false_or, or_false, decide_eq_false_iff_not, decide_eq_true_eq, ite_not]
  rw [show (0 : Int32) = nI 0 from rfl]
  refine j_lay (w := w) (L := L) hS hn n 0 J1 (by omega) hJ1 (fun h hh => by rw [hF1 _ (by omega)]; exact hw h hh) (fun K2 hF2 hK2 => ?_)
  have hF12 := hF1.tr hF2
  have hG2 := scw_G hG w n
  simp only [e23_41, e23_43, e23_45, e23_46, mm_pu_n, mm_pu_s, va_rf_s, mm_w8_0, mm_w8_1, mm_w8_2, mm_w8_3, mm_w8_4, mm_c1_n, mm_c1_i, mm_c1_a, mm_ct_a, mm_ct_i, true_and, and_true, and_self, eq_self, if_true, if_false, ite_true, ite_false, bI_t, bI_z, bI_nz, bI_01, true_or, or_true, reduceCtorEq, false_or, or_false, decide_eq_false_iff_not, decide_eq_true_eq, ite_not]
  rw [show (0 : Int32) = nI 0 from rfl]
  have hst2 : pc_S K2 (x + 93) n st := pc_F hst (hF12 _ (by omega)) (hF12 _ (by omega))
  have hkp : ∃ kp, mm_rd K2 (x + 93) 0 = kp ∧ (kp = -1 ∨ ∃ k0, k0 ≤ n ∧ kp = nI k0) ∧ (st = none → kp = -1) ∧ (∀ q, st = some q → kp = nI q.1) := by
    cases st with
    | none => exact ⟨-1, hst2, Or.inl rfl, fun _ => rfl, fun q z => by cases z⟩
    | some q => exact ⟨nI q.1, hst2.1.1, Or.inr ⟨q.1, hst2.2.1, rfl⟩, fun z => by (cases z), fun q' z => by (cases z; rfl)⟩
  obtain ⟨kp, k1, k2, k3, k4⟩ := hkp
  refine j_nights (M := scw L w n) hS hG2 k2 t 0 n K2 (by omega) (by omega) (Or.inl ⟨rfl, ht0, rfl⟩) hK2 k1 (fun K3 sd l6 hF3 hout => ?_)
  have hF123 := hF12.tr hF3
  have hGt := p_nights_G hG2
  have hst3 : pc_S K3 (x + 93) n st := pc_F hst2 (hF3 _ (by omega)) (hF3 _ (by omega))
  have hkp3 : mm_rd K3 (x + 93) 0 = kp := by rw [rd_F (hF3 _ (by omega))]; exact k1
  have hl := lcn_le (p_nights (scw L w n) n ng t) n
  have hw3 : pw K3 (x + 93) n w := fun h hh => by rw [hF123 _ (by omega)]; exact hw h hh
  have h95 : K3 (x + 95) = J (x + 95) := hF123 _ (by omega)
  rcases hout with ⟨rfl, ha⟩ | ⟨h1, h1', ⟨k0, hk0, ek0, hlt⟩, k, ha⟩
  · have g0 : vc K3 (x + 10) 0 0 = nI n := by rw [ha 0 0 (Or.inl (by decide))]; exact (hGt t).1.2
    have eo : p_ow (vc K3 (x + 10)) n = p_ow (pE L n ng t w) n := ag_ow (fun i => ha 1 i (Or.inl (by decide))) n
    have take : pc_S K3 (x + 93) n st → mm_E 23 119 [some (.ref (x + 93)), some (.ref (x + 1)), some (.ref (x + 10)), some (.int (nI t)), some (.int (nI n)), some (.int (nI (n - lcn (p_nights (scw L w n) n ng t) n))), some (.int (p_ow (pE L n ng t w) n)), none] [] K3 r (fun v K r' => v = none ∧ r' = r ∧ (fp x J K ∧ K (x + 95) = J (x + 95)) ∧ pc_S K (x + 93) n (some (n - lcn (pE L n ng t w) n, p_ow (pE L n ng t w) n, w))) := by
      intro _
      simp only [e23_119, e23_120, e23_122, e23_125, e23_126, e23_128, e23_131, e23_132, mm_pu_n, mm_pu_s, va_rf_s, mm_w8_0, mm_w8_1, mm_w8_2, mm_w8_3, mm_w8_4, mm_c1_n, mm_c1_i, mm_c1_a, mm_ct_a, mm_ct_i, true_and, and_true, and_self, eq_self, if_true, if_false, ite_true, ite_false, bI_t, bI_z, bI_nz, bI_01, true_or, or_true, reduceCtorEq, false_or, or_false, decide_eq_false_iff_not, decide_eq_true_eq, ite_not, p0]
      rw [show (0 : Int32) = nI 0 from rfl]
      refine j_best hS hn n 0 _ (by omega) (fun h hh => by rw [mu_n (by omega), mu_n (by omega)]; exact hw3 h hh) (fun h hh => absurd hh (by omega)) (fun K4 w1 w2 => ⟨rfl, rfl, ⟨?_, ?_⟩, ⟨⟨?_, ?_⟩, Nat.sub_le _ _, w2⟩⟩)
      · exact (fp.c hF123).tr (fun q z1 z2 => by rw [w1 q (by omega), mu_n (by omega), mu_n (by omega)])
      · rw [w1 _ (by omega), mu_n (by omega), mu_n (by omega)]; exact h95
      · rw [rd_F (w1 _ (by omega))]; show mm_uI (mm_uI K3 (x + 93) 0 _) (x + 93) 1 _ (x + 93) 0 = _; rw [mu_j (by decide), mu_s]; rfl
      · rw [rd_F (w1 _ (by omega))]; exact rd_u
    have done : ∀ pc, pU L n ng t w st = some (n - lcn (pE L n ng t w) n, p_ow (pE L n ng t w) n, w) → pc = 119 → mm_E 23 pc [some (.ref (x + 93)), some (.ref (x + 1)), some (.ref (x + 10)), some (.int (nI t)), some (.int (nI n)), some (.int (nI (n - lcn (p_nights (scw L w n) n ng t) n))), some (.int (p_ow (pE L n ng t w) n)), none] [] K3 r Q := by
      intro pc he hpc
      subst hpc
      refine mm_E_mono (take hst3) ?_
      rintro v K r' ⟨rfl, rfl, ⟨a, b⟩, c⟩
      exact hq K a b (by rw [he]; exact c)
    simp only [e23_86, e23_87, e23_90, e23_92, e23_94, e23_95, e23_98, mm_pu_n, mm_pu_s, va_rf_s, mm_w8_0, mm_w8_1, mm_w8_2, mm_w8_3, mm_w8_4, mm_c1_n, mm_c1_i, mm_c1_a, mm_ct_a, mm_ct_i, true_and, and_true, and_self, eq_self, if_true, if_false, ite_true, ite_false, bI_t, bI_z, bI_nz, bI_01, true_or, or_true, reduceCtorEq, false_or, or_false, decide_eq_false_iff_not, decide_eq_true_eq, ite_not, l2.s0, t_owedByAll l2 hn g0, eo, p0, hkp3]
    cases st with
    | none =>
      rw [k3 rfl, if_pos (show (-1 : Int32) < nI (n - lcn (p_nights (scw L w n) n ng t) n) from Int32.lt_of_lt_of_le (by decide) (nI_pos' (by omega)))]
      exact done 119 rfl rfl
    | some q =>
      rw [k4 q rfl]
      have hq6 := hst3.2.1
      have eU : pU L n ng t w (some q) = if q.1 < n - lcn (pE L n ng t w) n ∨ (q.1 = n - lcn (pE L n ng t w) n ∧ p_ow (pE L n ng t w) n < q.2.1) then some (n - lcn (pE L n ng t w) n, p_ow (pE L n ng t w) n, w) else some q := rfl
      have hE : p_nights (scw L w n) n ng t = pE L n ng t w := rfl
      by_cases c1 : q.1 < n - lcn (pE L n ng t w) n
      · rw [if_pos (show nI q.1 < nI (n - lcn (p_nights (scw L w n) n ng t) n) from nI_lt c1 (by omega))]
        exact done 119 (by rw [eU, if_pos (Or.inl c1)]) rfl
      · have nlt : ¬ nI q.1 < nI (n - lcn (p_nights (scw L w n) n ng t) n) := fun z => c1 ((nI_ltI (by omega) (by omega)).mp z)
        rw [if_neg nlt]
        simp only [e23_101, e23_103, e23_104, e23_107, mm_pu_n, mm_pu_s, va_rf_s, mm_w8_0, mm_w8_1, mm_w8_2, mm_w8_3, mm_w8_4, mm_c1_n, mm_c1_i, mm_c1_a, mm_ct_a, mm_ct_i, true_and, and_true, and_self, eq_self, if_true, if_false, ite_true, ite_false, bI_t, bI_z, bI_nz, bI_01, true_or, or_true, reduceCtorEq, false_or, or_false, decide_eq_false_iff_not, decide_eq_true_eq, ite_not, p0, hkp3, k4 q rfl]
        by_cases c2 : q.1 = n - lcn (pE L n ng t w) n
        · rw [if_pos (by rw [hE, ← c2])]
          simp only [e23_110, e23_112, e23_113, e23_116, mm_pu_n, mm_pu_s, va_rf_s, mm_w8_0, mm_w8_1, mm_w8_2, mm_w8_3, mm_w8_4, mm_c1_n, mm_c1_i, mm_c1_a, mm_ct_a, mm_ct_i, true_and, and_true, and_self, eq_self, if_true, if_false, ite_true, ite_false, bI_t, bI_z, bI_nz, bI_01, true_or, or_true, reduceCtorEq, false_or, or_false, decide_eq_false_iff_not, decide_eq_true_eq, ite_not, p0, hst3.1.2]
          by_cases c3 : q.2.1 ≤ p_ow (pE L n ng t w) n
          · rw [if_pos c3]
            simp only [e23_161, mm_pu_n, mm_pu_s, va_rf_s, mm_w8_0, mm_w8_1, mm_w8_2, mm_w8_3, mm_w8_4, mm_c1_n, mm_c1_i, mm_c1_a, mm_ct_a, mm_ct_i, true_and, and_true, and_self, eq_self, if_true, if_false, ite_true, ite_false, bI_t, bI_z, bI_nz, bI_01, true_or, or_true, reduceCtorEq, false_or, or_false, decide_eq_false_iff_not, decide_eq_true_eq, ite_not]
            exact hq K3 (fp.c hF123) h95 (by rw [eU, if_neg (fun z => z.elim c1 (fun y => Int32.not_lt.mpr c3 y.2))]; exact hst3)
          · rw [if_neg c3]
            exact done 119 (by rw [eU, if_pos (Or.inr ⟨c2, Int32.not_le.mp c3⟩)]) rfl
        · have neq : ¬ nI (n - lcn (p_nights (scw L w n) n ng t) n) = nI q.1 := fun z => c2 ((nI_eq (by omega) (by omega)).mp z).symm
          rw [if_neg neq]
          simp only [e23_161, mm_pu_n, mm_pu_s, va_rf_s, mm_w8_0, mm_w8_1, mm_w8_2, mm_w8_3, mm_w8_4, mm_c1_n, mm_c1_i, mm_c1_a, mm_ct_a, mm_ct_i, true_and, and_true, and_self, eq_self, if_true, if_false, ite_true, ite_false, bI_t, bI_z, bI_nz, bI_01, true_or, or_true, reduceCtorEq, false_or, or_false, decide_eq_false_iff_not, decide_eq_true_eq, ite_not]
          exact hq K3 (fp.c hF123) h95 (by rw [eU, if_neg (fun z => z.elim c1 (fun y => c2 y.1))]; exact hst3)
  · have g0 : vc K3 (x + 10) 0 0 = nI n := by rw [ha 0 0 (Or.inl (by decide))]; exact (hGt k).1.2
    simp only [e23_86, e23_87, e23_90, e23_92, e23_94, e23_95, e23_98, mm_pu_n, mm_pu_s, va_rf_s, mm_w8_0, mm_w8_1, mm_w8_2, mm_w8_3, mm_w8_4, mm_c1_n, mm_c1_i, mm_c1_a, mm_ct_a, mm_ct_i, true_and, and_true, and_self, eq_self, if_true, if_false, ite_true, ite_false, bI_t, bI_z, bI_nz, bI_01, true_or, or_true, reduceCtorEq, false_or, or_false, decide_eq_false_iff_not, decide_eq_true_eq, ite_not, l2.s0, t_owedByAll l2 hn g0, p0, hkp3]
    cases st with
    | none =>
      have := k3 rfl
      rw [ek0] at this
      exact absurd (nI_pos' (show k0 < 2 ^ 31 by omega)) (by rw [this]; decide)
    | some q =>
      have e1 := k4 q rfl
      have hq6 := hst3.2.1
      have eq0 : k0 = q.1 := by
        rw [ek0] at e1
        exact (nI_eq (by omega) (by omega)).mp e1
      have eU : pU L n ng t w (some q) = if q.1 < n - lcn (pE L n ng t w) n ∨ (q.1 = n - lcn (pE L n ng t w) n ∧ p_ow (pE L n ng t w) n < q.2.1) then some (n - lcn (pE L n ng t w) n, p_ow (pE L n ng t w) n, w) else some q := rfl
      have hle : n - lcn (pE L n ng t w) n ≤ sd := h1
      rw [e1, if_neg (fun z => absurd ((nI_ltI (by omega) (by omega)).mp z) (by omega))]
      simp only [e23_101, e23_103, e23_104, e23_107, mm_pu_n, mm_pu_s, va_rf_s, mm_w8_0, mm_w8_1, mm_w8_2, mm_w8_3, mm_w8_4, mm_c1_n, mm_c1_i, mm_c1_a, mm_ct_a, mm_ct_i, true_and, and_true, and_self, eq_self, if_true, if_false, ite_true, ite_false, bI_t, bI_z, bI_nz, bI_01, true_or, or_true, reduceCtorEq, false_or, or_false, decide_eq_false_iff_not, decide_eq_true_eq, ite_not, p0, hkp3, e1]
      rw [if_neg (fun z => absurd ((nI_eq (by omega) (by omega)).mp z) (by omega))]
      simp only [e23_161, mm_pu_n, mm_pu_s, va_rf_s, mm_w8_0, mm_w8_1, mm_w8_2, mm_w8_3, mm_w8_4, mm_c1_n, mm_c1_i, mm_c1_a, mm_ct_a, mm_ct_i, true_and, and_true, and_self, eq_self, if_true, if_false, ite_true, ite_false, bI_t, bI_z, bI_nz, bI_01, true_or, or_true, reduceCtorEq, false_or, or_false, decide_eq_false_iff_not, decide_eq_true_eq, ite_not]
      exact hq K3 (fp.c hF123) h95 (by rw [eU, if_neg (fun z => by omega)]; exact hst3)
end
