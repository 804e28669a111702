abbrev dv_T : Type := Option (Nat × Int32 × Int32)
def dB (s : dv_T) : Int32 := match s with
  | none => -4
  | some q => nI q.1
def cL (z : Int32) (s : dv_T) : Int32 := match s with
  | none => z
  | some q => q.2.1
def cO (z : Int32) (s : dv_T) : Int32 := match s with
  | none => z
  | some q => q.2.2
def dv_s (L : mm_I) (n ng p t : Nat) (s : dv_T) (g h : Nat) : dv_T := if L 6 g = nI h then s else match s with
  | none => some (10 * g + h, p_nights (mm_uI L 6 g (nI h)) n ng t 3 p, p_nights (mm_uI L 6 g (nI h)) n ng t 1 p)
  | some q => if p_nights (mm_uI L 6 g (nI h)) n ng t 3 p < q.2.1 ∨ (p_nights (mm_uI L 6 g (nI h)) n ng t 3 p = q.2.1 ∧ p_nights (mm_uI L 6 g (nI h)) n ng t 1 p < q.2.2) then some (10 * g + h, p_nights (mm_uI L 6 g (nI h)) n ng t 3 p, p_nights (mm_uI L 6 g (nI h)) n ng t 1 p) else some q
def dv_h (L : mm_I) (n ng p t g : Nat) : Nat → Nat → dv_T → dv_T
  | 0, _, s => s
  | d + 1, h, s => dv_h L n ng p t g d (h + 1) (dv_s L n ng p t s g h)
def dv_g (L : mm_I) (n ng p t : Nat) : Nat → Nat → dv_T → dv_T
  | 0, _, s => s
  | d + 1, g, s => dv_g L n ng p t d (g + 1) (dv_h L n ng p t g n 0 s)
def dv_ok (s : dv_T) : Prop := ∀ q, s = some q → q.1 < 100
theorem dv_s_ok {L : mm_I} {n ng p t g h : Nat} {s : dv_T} (hs : dv_ok s) (hg : g < 5) (hh : h < 6) : dv_ok (dv_s L n ng p t s g h) := by
  intro q hq
  unfold dv_s at hq
  by_cases c : L 6 g = nI h
  · rw [if_pos c] at hq
    exact hs q hq
  · rw [if_neg c] at hq
    cases s with
    | none => cases hq; show 10 * g + h < 100; omega
    | some z =>
      dsimp only at hq
      split at hq
      · cases hq; show 10 * g + h < 100; omega
      · exact hs q hq
theorem dv_h_ok {L : mm_I} {n ng p t g : Nat} (hg : g < 5) (hn : n ≤ 6) : ∀ d h s, h + d = n → dv_ok s → dv_ok (dv_h L n ng p t g d h s) := by
  intro d
  induction d with
  | zero => intro h s _ hs; exact hs
  | succ d ih => intro h s hk hs; exact ih (h + 1) _ (by omega) (dv_s_ok hs hg (by omega))
theorem dv_s_c {L Lr : mm_I} {n ng p t g h : Nat} (hs : ag (x6 n ng) L Lr) (hg : gl L n ng) (hp : p < n) (hgg : g < ng) (hh : h < n) (s : dv_T) : dv_s L n ng p t s g h = dv_s Lr n ng p t s g h := by
  have hgk : gl (mm_uI L 6 g (nI h)) n ng := gl_h hg (Or.inr (Or.inr (Or.inr ⟨rfl, h, hh, rfl⟩)))
  have e : ag (x6 n ng) (p_nights (mm_uI L 6 g (nI h)) n ng t) (p_nights (mm_uI Lr 6 g (nI h)) n ng t) := s_nights (hs.u 6 g rfl) hgk.1 t
  unfold dv_s
  rw [hs 6 g (Or.inl (wc_g (by decide) hgg)), e 3 p (Or.inl (wc_h (by decide) hp)), e 1 p (Or.inl (wc_h (by decide) hp))]
theorem dv_h_c {L Lr : mm_I} {n ng p t g : Nat} (hs : ag (x6 n ng) L Lr) (hg : gl L n ng) (hp : p < n) (hgg : g < ng) : ∀ d h s, h + d = n → dv_h L n ng p t g d h s = dv_h Lr n ng p t g d h s := by
  intro d
  induction d with
  | zero => intro h s _; rfl
  | succ d ih =>
    intro h s hk
    show dv_h L n ng p t g d (h + 1) (dv_s L n ng p t s g h) = dv_h Lr n ng p t g d (h + 1) (dv_s Lr n ng p t s g h)
    rw [dv_s_c hs hg hp hgg (by omega), ih (h + 1) _ (by omega)]
theorem dv_g_c {L Lr : mm_I} {n ng p t : Nat} (hs : ag (x6 n ng) L Lr) (hg : gl L n ng) (hp : p < n) : ∀ d g s, g + d = ng → dv_g L n ng p t d g s = dv_g Lr n ng p t d g s := by
  intro d
  induction d with
  | zero => intro h s _; rfl
  | succ d ih =>
    intro g s hk
    show dv_g L n ng p t d (g + 1) (dv_h L n ng p t g n 0 s) = dv_g Lr n ng p t d (g + 1) (dv_h Lr n ng p t g n 0 s)
    rw [dv_h_c hs hg hp (by omega) n 0 s (by omega), ih (g + 1) _ (by omega)]
theorem fw_v (l l0 o o0 : Int32) : (if l < l0 then (1 : Int32) else if l = l0 then (if o0 ≤ o then 0 else 1) else 0) = bI (decide (l < l0 ∨ (l = l0 ∧ o < o0))) := by
  by_cases c1 : l < l0
  · rw [if_pos c1, bI_1 _ _ (Or.inl c1)]
  · rw [if_neg c1]
    by_cases c2 : l = l0
    · rw [if_pos c2]
      by_cases c3 : o0 ≤ o
      · rw [if_pos c3, bI_0 _ _ (fun z => z.elim c1 (fun y => Int32.not_lt.mpr c3 y.2))]
      · rw [if_neg c3, bI_1 _ _ (Or.inr ⟨c2, Int32.not_le.mp c3⟩)]
    · rw [if_neg c2, bI_0 _ _ (fun z => z.elim c1 (fun y => c2 y.1))]
theorem k10 (g h : Nat) : (10 : Int32) * nI g + nI h = nI (10 * g + h) := by rw [show (10 : Int32) = nI 10 from by decide, show nI 10 * nI g = nI (10 * g) from (Int32.ofNat_mul 10 g).symm, nI_add]
section
variable {r : mm_R} {I : mm_I} {x m : Nat} {Q : Option Value → mm_I → mm_R → Prop}
theorem t_driven {L : mm_I} {n ng t g h : Nat} (hS : HS r x m) (hc : CX I x L) (hL : dl L = L) (hg5 : g < 5) (hh : h < n) (hg : gl L n ng) (ht : t ≤ 1000) (hq : ∀ J, ag (w6 n True) (vc J (x + 10)) (p_nights (mm_uI L 6 g (nI h)) n ng t) → fc I J x → Q none J r) : mm_E 87 0 [some (.ref x), some (.int (nI g)), some (.int (nI h)), some (.int (nI t))] [] I r Q := by
  obtain ⟨x0, x1, x2, -⟩ := id hS.2.1
  have l2 := hS.2.2.1.2.1
  have hgk : gl (mm_uI L 6 g (nI h)) n ng := gl_h hg (Or.inr (Or.inr (Or.inr ⟨rfl, h, hh, rfl⟩)))
  simp only [e87_0, e87_1, e87_4, e87_5, e87_8, mm_pu_n, mm_pu_s, va_rf_s, mm_w8_0, mm_w8_1, mm_w8_2, mm_w8_3, mm_w8_4, mm_c1_n, mm_c1_i, mm_c1_a, mm_ct_a, mm_ct_i, true_and, and_true, and_self, eq_self, if_true, if_false, ite_true, ite_false, bI_t, bI_z, bI_nz, bI_01, true_or, or_true, reduceCtorEq, false_or, or_false, decide_eq_false_iff_not, decide_eq_true_eq, ite_not, x0, x1, x2, l2.s0]
  refine f_take n hS hc hL (fun J2 hJ2 hF2 => ?_)
  simp only [mm_pu_n, e87_11, e87_12, e87_15, e87_18, e87_19, e87_20, e87_21, e87_22, e87_25, e87_26, mm_pu_n, mm_pu_s, va_rf_s, mm_w8_0, mm_w8_1, mm_w8_2, mm_w8_3, mm_w8_4, mm_c1_n, mm_c1_i, mm_c1_a, mm_ct_a, mm_ct_i, true_and, and_true, and_self, eq_self, if_true, if_false, ite_true, ite_false, bI_t, bI_z, bI_nz, bI_01, true_or, or_true, reduceCtorEq, false_or, or_false, decide_eq_false_iff_not, decide_eq_true_eq, ite_not, x0, x1, x2, l2.s0, l2.p6, l2.p7, l2.p8, l2.p9, l2.p10, l2.p11, l2.p12, l2.p13, l2.i1, l2.i2, l2.i3, l2.i4, l2.i5, l2.i6, l2.i7, l2.i8, in5 hg5, cl_nI (show g < 6 by omega)]
  refine f_nights (M := mm_uI L 6 g (nI h)) hS ?_ hgk.1 (by omega) (fun K hK hFK => ?_)
  · have e : vc (mm_uI J2 (x + 10 + 6) g (nI h)) (x + 10) = mm_uI (vc J2 (x + 10)) 6 g (nI h) := vc_u ⟨by decide, hg5⟩
    rw [e]
    exact ag6_u hJ2
  simp only [mm_pu_n, e87_29]
  exact hq K hK (hF2.tr (fun q hq => by rw [hFK q hq, mu_n (by omega)]))
theorem c_drh {L : mm_I} {n ng p t g : Nat} {w : Int32} (hS : HS r x m) (hc : CX I x L) (hLL : dl L = L) (hp : p < 6) (hg5 : g < 5) (hg : gl L n ng) (ht : t ≤ 40) : ∀ d k s J l9 l10, k + d = n → dv_ok s → fc I J x → (∀ K l8 l9 l10, fc I K x → mm_E 73 173 [some (.ref x), some (.int (nI p)), some (.int (nI t)), some (.int w), some (.int (dB (dv_h L n ng p t g d k s))), some (.int (cL 0 (dv_h L n ng p t g d k s))), some (.int (cO 0 (dv_h L n ng p t g d k s))), some (.int (nI g)), l8, l9, l10] [] K r Q) → mm_E 73 60 [some (.ref x), some (.int (nI p)), some (.int (nI t)), some (.int w), some (.int (dB s)), some (.int (cL 0 s)), some (.int (cO 0 s)), some (.int (nI g)), some (.int (nI k)), l9, l10] [] J r Q := by
  obtain ⟨x0, x1, x2, -⟩ := id hS.2.1
  have l1 := hS.2.2.1.1
  have l2 := hS.2.2.1.2.1
  have hn := hg.1.1.1
  intro d
  induction d with
  | zero =>
    intro k s J l9 l10 hk hs hF hq
    have : k = n := by omega
    subst this
    have f0 : vc J (x + 1) 0 0 = nI k := by rw [CX.k hc hF 0 0 (by decide)]; exact hg.1.1.2
    rw [e73_60]
    simp only [e73_62, e73_63, e73_66, e73_69, mm_pu_n, mm_pu_s, va_rf_s, mm_w8_0, mm_w8_1, mm_w8_2, mm_w8_3, mm_w8_4, mm_c1_n, mm_c1_i, mm_c1_a, mm_ct_a, mm_ct_i, true_and, and_true, and_self, eq_self, if_true, if_false, ite_true, ite_false, bI_t, bI_z, bI_nz, bI_01, true_or, or_true, reduceCtorEq, false_or, or_false, decide_eq_false_iff_not, decide_eq_true_eq, ite_not, x0, x1, l1.s0, rd_0 (a := x + 1) (i := 0) (by decide), f0, Int32.le_refl]
    exact hq J _ l9 l10 hF
  | succ d ih =>
    intro k s J l9 l10 hk hs hF hq
    have hcJ := CX.k hc hF
    have f0 : vc J (x + 1) 0 0 = nI n := by rw [hcJ 0 0 (by decide)]; exact hg.1.1.2
    rw [e73_60]
    simp only [e73_62, e73_63, e73_66, e73_69, e73_72, e73_73, e73_76, e73_79, e73_81, e73_82, e73_84, e73_87, mm_pu_n, mm_pu_s, va_rf_s, mm_w8_0, mm_w8_1, mm_w8_2, mm_w8_3, mm_w8_4, mm_c1_n, mm_c1_i, mm_c1_a, mm_ct_a, mm_ct_i, true_and, and_true, and_self, eq_self, if_true, if_false, ite_true, ite_false, bI_t, bI_z, bI_nz, bI_01, true_or, or_true, reduceCtorEq, false_or, or_false, decide_eq_false_iff_not, decide_eq_true_eq, ite_not, x0, x1, l1.s0, l1.p6, l1.p7, l1.p8, l1.p9, l1.p10, l1.p11, l1.p12, l1.p13, l1.i1, l1.i2, l1.i3, l1.i4, l1.i5, l1.i6, l1.i7, l1.i8, rd_0 (a := x + 1) (i := 0) (by decide), f0, nI_ge (show k < n by omega) (show n < 2 ^ 31 by omega), in5 hg5, cl_nI (show g < 6 by omega), rd_k (a := x + 1) (k := 6) ⟨by decide, hg5⟩, hcJ 6 g (by decide)]
    have hs' := dv_s_ok (L := L) (n := n) (ng := ng) (p := p) (t := t) hs hg5 (show k < 6 by omega)
    have hst : ∀ J2 l9 l10, fc I J2 x → mm_E 73 167 [some (.ref x), some (.int (nI p)), some (.int (nI t)), some (.int w), some (.int (dB (dv_s L n ng p t s g k))), some (.int (cL 0 (dv_s L n ng p t s g k))), some (.int (cO 0 (dv_s L n ng p t s g k))), some (.int (nI g)), some (.int (nI k)), l9, l10] [] J2 r Q := by
      intro J2 l9 l10 hF2
      simp only [e73_167, e73_170, mm_pu_n, mm_pu_s, va_rf_s, mm_w8_0, mm_w8_1, mm_w8_2, mm_w8_3, mm_w8_4, mm_c1_n, mm_c1_i, mm_c1_a, mm_ct_a, mm_ct_i, true_and, and_true, and_self, eq_self, if_true, if_false, ite_true, ite_false, bI_t, bI_z, bI_nz, bI_01, true_or, or_true, reduceCtorEq, false_or, or_false, decide_eq_false_iff_not, decide_eq_true_eq, ite_not, nI_1]
      exact ih (k + 1) _ J2 l9 l10 (by omega) hs' hF2 hq
    by_cases c : L 6 g = nI k
    · rw [if_pos c]
      have := hst J l9 l10 hF
      unfold dv_s at this
      rw [if_pos c] at this
      exact this
    · rw [if_neg c]
      simp only [e73_90, e73_91, e73_93, e73_95, e73_96, mm_pu_n, mm_pu_s, va_rf_s, mm_w8_0, mm_w8_1, mm_w8_2, mm_w8_3, mm_w8_4, mm_c1_n, mm_c1_i, mm_c1_a, mm_ct_a, mm_ct_i, true_and, and_true, and_self, eq_self, if_true, if_false, ite_true, ite_false, bI_t, bI_z, bI_nz, bI_01, true_or, or_true, reduceCtorEq, false_or, or_false, decide_eq_false_iff_not, decide_eq_true_eq, ite_not, x0]
      refine t_driven hS hcJ hLL hg5 (by omega) hg (by omega) (fun J2 hJ2 hF2 => ?_)
      have hst2 := hst J2 (some (.int (p_nights (mm_uI L 6 g (nI k)) n ng t 3 p))) (some (.int (p_nights (mm_uI L 6 g (nI k)) n ng t 1 p))) (hF.tr hF2)
      unfold dv_s at hst2
      rw [if_neg c] at hst2
      simp only [mm_pu_n, e73_99, e73_100, e73_103, e73_106, e73_107, e73_108, e73_110, e73_111, e73_114, e73_117, e73_118, e73_119, e73_121, e73_123, mm_pu_n, mm_pu_s, va_rf_s, mm_w8_0, mm_w8_1, mm_w8_2, mm_w8_3, mm_w8_4, mm_c1_n, mm_c1_i, mm_c1_a, mm_ct_a, mm_ct_i, true_and, and_true, and_self, eq_self, if_true, if_false, ite_true, ite_false, bI_t, bI_z, bI_nz, bI_01, true_or, or_true, reduceCtorEq, false_or, or_false, decide_eq_false_iff_not, decide_eq_true_eq, ite_not, x0, x2, l2.s0, l2.p6, l2.p7, l2.p8, l2.p9, l2.p10, l2.p11, l2.p12, l2.p13, l2.i1, l2.i2, l2.i3, l2.i4, l2.i5, l2.i6, l2.i7, l2.i8, in6 hp, cl_nI hp, rd_k (a := x + 10) (k := 1) ⟨by decide, hp⟩, rd_k (a := x + 10) (k := 3) ⟨by decide, hp⟩, hJ2 3 p (Or.inl (by decide)), hJ2 1 p (Or.inl (by decide))]
      cases s with
      | none =>
        simp only [e73_125, e73_149, e73_151, e73_153, e73_154, e73_156, e73_157, e73_159, e73_161, e73_163, e73_165, mm_pu_n, mm_pu_s, va_rf_s, mm_w8_0, mm_w8_1, mm_w8_2, mm_w8_3, mm_w8_4, mm_c1_n, mm_c1_i, mm_c1_a, mm_ct_a, mm_ct_i, true_and, and_true, and_self, eq_self, if_true, if_false, ite_true, ite_false, bI_t, bI_z, bI_nz, bI_01, true_or, or_true, reduceCtorEq, false_or, or_false, decide_eq_false_iff_not, decide_eq_true_eq, ite_not, show dB none = -4 from rfl, k10]
        exact hst2
      | some q =>
        have hq100 := hs q rfl
        dsimp only at hst2
        simp only [e73_125, e73_128, e73_130, e73_132, e73_135, e73_137, e73_139, e73_142, e73_144, e73_146, mm_pu_n, mm_pu_s, va_rf_s, mm_w8_0, mm_w8_1, mm_w8_2, mm_w8_3, mm_w8_4, mm_c1_n, mm_c1_i, mm_c1_a, mm_ct_a, mm_ct_i, true_and, and_true, and_self, eq_self, if_true, if_false, ite_true, ite_false, bI_t, bI_z, bI_nz, bI_01, true_or, or_true, reduceCtorEq, false_or, or_false, decide_eq_false_iff_not, decide_eq_true_eq, ite_not, show dB (some q) = nI q.1 from rfl, show cL 0 (some q) = q.2.1 from rfl, show cO 0 (some q) = q.2.2 from rfl, nI_n4 (show q.1 < 2 ^ 31 by omega)]
        by_cases c1 : p_nights (mm_uI L 6 g (nI k)) n ng t 3 p < q.2.1
        · rw [if_pos (Or.inl c1)] at hst2
          rw [if_pos c1]
          simp only [e73_149, e73_151, e73_153, e73_154, e73_156, e73_157, e73_159, e73_161, e73_163, e73_165, mm_pu_n, mm_pu_s, va_rf_s, mm_w8_0, mm_w8_1, mm_w8_2, mm_w8_3, mm_w8_4, mm_c1_n, mm_c1_i, mm_c1_a, mm_ct_a, mm_ct_i, true_and, and_true, and_self, eq_self, if_true, if_false, ite_true, ite_false, bI_t, bI_z, bI_nz, bI_01, true_or, or_true, reduceCtorEq, false_or, or_false, decide_eq_false_iff_not, decide_eq_true_eq, ite_not, k10]
          exact hst2
        · rw [if_neg c1]
          by_cases c2 : p_nights (mm_uI L 6 g (nI k)) n ng t 3 p = q.2.1
          · rw [if_pos c2]
            by_cases c3 : q.2.2 ≤ p_nights (mm_uI L 6 g (nI k)) n ng t 1 p
            · rw [if_pos c3]
              rw [if_neg (fun z => z.elim c1 (fun y => Int32.not_lt.mpr c3 y.2))] at hst2
              exact hst2
            · rw [if_neg c3]
              rw [if_pos (Or.inr ⟨c2, Int32.not_le.mp c3⟩)] at hst2
              simp only [e73_149, e73_151, e73_153, e73_154, e73_156, e73_157, e73_159, e73_161, e73_163, e73_165, mm_pu_n, mm_pu_s, va_rf_s, mm_w8_0, mm_w8_1, mm_w8_2, mm_w8_3, mm_w8_4, mm_c1_n, mm_c1_i, mm_c1_a, mm_ct_a, mm_ct_i, true_and, and_true, and_self, eq_self, if_true, if_false, ite_true, ite_false, bI_t, bI_z, bI_nz, bI_01, true_or, or_true, reduceCtorEq, false_or, or_false, decide_eq_false_iff_not, decide_eq_true_eq, ite_not, k10]
              exact hst2
          · rw [if_neg c2]
            rw [if_neg (fun z => z.elim c1 (fun y => c2 y.1))] at hst2
            exact hst2
theorem m_drh {L : mm_I} {n ng p t g : Nat} {w : Int32} (hml : ml_S r m) (hc : MX I m L) (hLL : dl L = L) (hp : p < 6) (hg5 : g < 5) (hg : gl L n ng) (ht : t ≤ 40) : ∀ d k s J l9, k + d = n → dv_ok s → fm I J m → (∀ K l8 l9, fm I K m → mm_E 146 204 [some (.ref m), some (.int (nI p)), some (.int (nI t)), some (.int w), some (.int (dB (dv_h L n ng p t g d k s))), some (.int (cL (-4) (dv_h L n ng p t g d k s))), some (.int (cO (-4) (dv_h L n ng p t g d k s))), some (.int (nI g)), l8, l9] [] K r Q) → mm_E 146 59 [some (.ref m), some (.int (nI p)), some (.int (nI t)), some (.int w), some (.int (dB s)), some (.int (cL (-4) s)), some (.int (cO (-4) s)), some (.int (nI g)), some (.int (nI k)), l9] [] J r Q := by
  have hn := hg.1.1.1
  intro d
  induction d with
  | zero =>
    intro k s J l9 hk hs hF hq
    have : k = n := by omega
    subst this
    have f0 : vr J (m + 5) m 0 0 = nI k := by rw [MX.k hc (hF _ (by omega) (by omega) (by omega)) 0 0 (by decide)]; exact hg.1.1.2
    rw [e146_59]
    simp only [e146_61, e146_62, e146_65, e146_67, e146_68, mm_pu_n, mm_pu_s, va_rf_s, mm_w8_0, mm_w8_1, mm_w8_2, mm_w8_3, mm_w8_4, mm_c1_n, mm_c1_i, mm_c1_a, mm_ct_a, mm_ct_i, true_and, and_true, and_self, eq_self, if_true, if_false, ite_true, ite_false, bI_t, bI_z, bI_nz, bI_01, true_or, or_true, reduceCtorEq, false_or, or_false, decide_eq_false_iff_not, decide_eq_true_eq, ite_not, hml.s0, hml.p7, hml.i5, c27.1, d27.1, r27 m, f0, Int32.le_refl]
    exact hq J _ l9 hF
  | succ d ih =>
    intro k s J l9 hk hs hF hq
    have hcJ := MX.k hc (hF _ (by omega) (by omega) (by omega))
    have f0 : vr J (m + 5) m 0 0 = nI n := by rw [hcJ 0 0 (by decide)]; exact hg.1.1.2
    rw [e146_59]
    simp only [e146_61, e146_62, e146_65, e146_67, e146_68, e146_71, e146_73, e146_74, e146_77, e146_79, e146_81, e146_82, e146_83, mm_pu_n, mm_pu_s, va_rf_s, mm_w8_0, mm_w8_1, mm_w8_2, mm_w8_3, mm_w8_4, mm_c1_n, mm_c1_i, mm_c1_a, mm_ct_a, mm_ct_i, true_and, and_true, and_self, eq_self, if_true, if_false, ite_true, ite_false, bI_t, bI_z, bI_nz, bI_01, true_or, or_true, reduceCtorEq, false_or, or_false, decide_eq_false_iff_not, decide_eq_true_eq, ite_not, hml.s0, hml.p7, hml.i5, c27.1, d27.1, r27 m, f0, nI_ge (show k < n by omega) (show n < 2 ^ 31 by omega), k21, in2 (show 21 + g < 248 by omega), cl2 (show 21 + g < 248 by omega), r21 m hg5, hcJ 6 g (by decide)]
    have hs' := dv_s_ok (L := L) (n := n) (ng := ng) (p := p) (t := t) hs hg5 (show k < 6 by omega)
    have hst : ∀ J2 l9, fm I J2 m → mm_E 146 198 [some (.ref m), some (.int (nI p)), some (.int (nI t)), some (.int w), some (.int (dB (dv_s L n ng p t s g k))), some (.int (cL (-4) (dv_s L n ng p t s g k))), some (.int (cO (-4) (dv_s L n ng p t s g k))), some (.int (nI g)), some (.int (nI k)), l9] [] J2 r Q := by
      intro J2 l9 hF2
      simp only [e146_198, e146_201, mm_pu_n, mm_pu_s, va_rf_s, mm_w8_0, mm_w8_1, mm_w8_2, mm_w8_3, mm_w8_4, mm_c1_n, mm_c1_i, mm_c1_a, mm_ct_a, mm_ct_i, true_and, and_true, and_self, eq_self, if_true, if_false, ite_true, ite_false, bI_t, bI_z, bI_nz, bI_01, true_or, or_true, reduceCtorEq, false_or, or_false, decide_eq_false_iff_not, decide_eq_true_eq, ite_not, nI_1]
      exact ih (k + 1) _ J2 l9 (by omega) hs' hF2 hq
    by_cases c : nI k = L 6 g
    · rw [if_pos c]
      have := hst J l9 hF
      unfold dv_s at this
      rw [if_pos c.symm] at this
      exact this
    · rw [if_neg c]
      simp only [e146_86, e146_87, mm_pu_n, mm_pu_s, va_rf_s, mm_w8_0, mm_w8_1, mm_w8_2, mm_w8_3, mm_w8_4, mm_c1_n, mm_c1_i, mm_c1_a, mm_ct_a, mm_ct_i, true_and, and_true, and_self, eq_self, if_true, if_false, ite_true, ite_false, bI_t, bI_z, bI_nz, bI_01, true_or, or_true, reduceCtorEq, false_or, or_false, decide_eq_false_iff_not, decide_eq_true_eq, ite_not, hml.s0, hml.p7, hml.i5]
      have hgk : gl (mm_uI L 6 g (nI k)) n ng := gl_h hg (Or.inr (Or.inr (Or.inr ⟨rfl, k, by omega, rfl⟩)))
      refine g_begin n hn hml hcJ hLL (fun J1 hJ1 hF1 => ?_)
      simp only [mm_pu_n, e146_90, e146_91, e146_94, e146_96, e146_98, e146_99, e146_101, e146_102, e146_103, e146_104, mm_pu_n, mm_pu_s, va_rf_s, mm_w8_0, mm_w8_1, mm_w8_2, mm_w8_3, mm_w8_4, mm_c1_n, mm_c1_i, mm_c1_a, mm_ct_a, mm_ct_i, true_and, and_true, and_self, eq_self, if_true, if_false, ite_true, ite_false, bI_t, bI_z, bI_nz, bI_01, true_or, or_true, reduceCtorEq, false_or, or_false, decide_eq_false_iff_not, decide_eq_true_eq, ite_not, hml.s0, hml.p7, hml.i5, hml.p8, hml.i6, k21, in2 (show 21 + g < 248 by omega), cl2 (show 21 + g < 248 by omega)]
      refine g_goOn (M := mm_uI L 6 g (nI k)) hml ?_ hgk.1 hgk.2.1 (by omega) (fun J2 hJ2 hF2 => ?_)
      · have e : vr (mm_uI J1 (m + 6) (21 + g) (nI k)) (m + 6) m = mm_uI (vr J1 (m + 6) m) 6 g (nI k) := vr_u (k := 6) ⟨by omega, by omega⟩ ⟨by decide, hg5⟩
        rw [e]
        exact ag6_u hJ1
      have hFJ2 : fm I J2 m := (hF.tr hF1).tr (fun q a b c => by rw [hF2 q a b c, mu_n a])
      have hst2 := fun l9 => hst J2 l9 hFJ2
      unfold dv_s at hst2
      rw [if_neg (fun z => c z.symm)] at hst2
      simp only [mm_pu_n, e146_107, e146_108, e146_111, e146_113, e146_114, e146_115, e146_116, e146_118, e146_121, e146_122, e146_125, e146_127, e146_128, e146_129, e146_130, e146_132, e146_135, e146_136, e146_139, e146_140, e146_141, e146_142, e146_143, e146_145, e146_148, e146_149, e146_152, mm_pu_n, mm_pu_s, va_rf_s, mm_w8_0, mm_w8_1, mm_w8_2, mm_w8_3, mm_w8_4, mm_c1_n, mm_c1_i, mm_c1_a, mm_ct_a, mm_ct_i, true_and, and_true, and_self, eq_self, if_true, if_false, ite_true, ite_false, bI_t, bI_z, bI_nz, bI_01, true_or, or_true, reduceCtorEq, false_or, or_false, decide_eq_false_iff_not, decide_eq_true_eq, ite_not, hml.s0, hml.p7, hml.i5, hml.p8, hml.i6, k3, k15, in2 (show 3 + p < 248 by omega), cl2 (show 3 + p < 248 by omega), in2 (show 15 + p < 248 by omega), cl2 (show 15 + p < 248 by omega), r3 m hp, r15 m hp, hJ2 3 p (Or.inl (by decide)), hJ2 1 p (Or.inl (by decide)), it_i, fw_v]
      cases s with
      | none =>
        simp only [e146_153, e146_155, e146_157, e146_159, e146_162, e146_164, e146_167, e146_169, e146_171, e146_172, e146_174, e146_175, e146_177, e146_178, e146_181, e146_183, e146_184, e146_185, e146_186, e146_188, e146_189, e146_192, e146_193, e146_194, e146_195, e146_196, mm_pu_n, mm_pu_s, va_rf_s, mm_w8_0, mm_w8_1, mm_w8_2, mm_w8_3, mm_w8_4, mm_c1_n, mm_c1_i, mm_c1_a, mm_ct_a, mm_ct_i, true_and, and_true, and_self, eq_self, if_true, if_false, ite_true, ite_false, bI_t, bI_z, bI_nz, bI_01, true_or, or_true, reduceCtorEq, false_or, or_false, decide_eq_false_iff_not, decide_eq_true_eq, ite_not, hml.s0, hml.p7, hml.i5, show dB none = -4 from rfl, k10, hml.p8, hml.i6, k3, k15, in2 (show 3 + p < 248 by omega), cl2 (show 3 + p < 248 by omega), in2 (show 15 + p < 248 by omega), cl2 (show 15 + p < 248 by omega), r3 m hp, r15 m hp, hJ2 3 p (Or.inl (by decide)), hJ2 1 p (Or.inl (by decide))]
        exact hst2 _
      | some q =>
        have hq100 := hs q rfl
        dsimp only at hst2
        simp only [e146_153, e146_155, e146_157, e146_159, e146_162, e146_164, mm_pu_n, mm_pu_s, va_rf_s, mm_w8_0, mm_w8_1, mm_w8_2, mm_w8_3, mm_w8_4, mm_c1_n, mm_c1_i, mm_c1_a, mm_ct_a, mm_ct_i, true_and, and_true, and_self, eq_self, if_true, if_false, ite_true, ite_false, bI_t, bI_z, bI_nz, bI_01, true_or, or_true, reduceCtorEq, false_or, or_false, decide_eq_false_iff_not, decide_eq_true_eq, ite_not, show dB (some q) = nI q.1 from rfl, show cL (-4) (some q) = q.2.1 from rfl, show cO (-4) (some q) = q.2.2 from rfl, nI_n4 (show q.1 < 2 ^ 31 by omega)]
        by_cases c1 : p_nights (mm_uI L 6 g (nI k)) n ng t 3 p < q.2.1 ∨ (p_nights (mm_uI L 6 g (nI k)) n ng t 3 p = q.2.1 ∧ p_nights (mm_uI L 6 g (nI k)) n ng t 1 p < q.2.2)
        · rw [if_pos c1] at hst2
          rw [if_pos c1]
          simp only [e146_167, e146_169, e146_171, e146_172, e146_174, e146_175, e146_177, e146_178, e146_181, e146_183, e146_184, e146_185, e146_186, e146_188, e146_189, e146_192, e146_193, e146_194, e146_195, e146_196, mm_pu_n, mm_pu_s, va_rf_s, mm_w8_0, mm_w8_1, mm_w8_2, mm_w8_3, mm_w8_4, mm_c1_n, mm_c1_i, mm_c1_a, mm_ct_a, mm_ct_i, true_and, and_true, and_self, eq_self, if_true, if_false, ite_true, ite_false, bI_t, bI_z, bI_nz, bI_01, true_or, or_true, reduceCtorEq, false_or, or_false, decide_eq_false_iff_not, decide_eq_true_eq, ite_not, hml.s0, hml.p7, hml.i5, k10, hml.p8, hml.i6, k3, k15, in2 (show 3 + p < 248 by omega), cl2 (show 3 + p < 248 by omega), in2 (show 15 + p < 248 by omega), cl2 (show 15 + p < 248 by omega), r3 m hp, r15 m hp, hJ2 3 p (Or.inl (by decide)), hJ2 1 p (Or.inl (by decide))]
          exact hst2 _
        · rw [if_neg c1] at hst2
          rw [if_neg c1]
          exact hst2 _
theorem c_drg {L : mm_I} {n ng p t : Nat} {w : Int32} (hS : HS r x m) (hc : CX I x L) (hLL : dl L = L) (hp : p < 6) (hg : gl L n ng) (ht : t ≤ 40) : ∀ d k s J l8 l9 l10, k + d = ng → dv_ok s → fc I J x → (∀ K l7 l8 l9 l10, fc I K x → mm_E 73 179 [some (.ref x), some (.int (nI p)), some (.int (nI t)), some (.int w), some (.int (dB (dv_g L n ng p t d k s))), some (.int (cL 0 (dv_g L n ng p t d k s))), some (.int (cO 0 (dv_g L n ng p t d k s))), l7, l8, l9, l10] [] K r Q) → mm_E 73 45 [some (.ref x), some (.int (nI p)), some (.int (nI t)), some (.int w), some (.int (dB s)), some (.int (cL 0 s)), some (.int (cO 0 s)), some (.int (nI k)), l8, l9, l10] [] J r Q := by
  obtain ⟨x0, x1, x2, -⟩ := id hS.2.1
  have l1 := hS.2.2.1.1
  have hn := hg.1.1.1
  have hng := hg.1.2.1.1
  intro d
  induction d with
  | zero =>
    intro k s J l8 l9 l10 hk hs hF hq
    have : k = ng := by omega
    subst this
    have f1 : vc J (x + 1) 0 1 = nI k := by rw [CX.k hc hF 0 1 (by decide)]; exact hg.1.2.1.2
    rw [e73_45]
    simp only [e73_47, e73_48, e73_51, e73_54, mm_pu_n, mm_pu_s, va_rf_s, mm_w8_0, mm_w8_1, mm_w8_2, mm_w8_3, mm_w8_4, mm_c1_n, mm_c1_i, mm_c1_a, mm_ct_a, mm_ct_i, true_and, and_true, and_self, eq_self, if_true, if_false, ite_true, ite_false, bI_t, bI_z, bI_nz, bI_01, true_or, or_true, reduceCtorEq, false_or, or_false, decide_eq_false_iff_not, decide_eq_true_eq, ite_not, x0, x1, l1.s0, rd_0 (a := x + 1) (i := 1) (by decide), f1, Int32.le_refl]
    exact hq J _ l8 l9 l10 hF
  | succ d ih =>
    intro k s J l8 l9 l10 hk hs hF hq
    have f1 : vc J (x + 1) 0 1 = nI ng := by rw [CX.k hc hF 0 1 (by decide)]; exact hg.1.2.1.2
    rw [e73_45]
    simp only [e73_47, e73_48, e73_51, e73_54, e73_57, e73_58, mm_pu_n, mm_pu_s, va_rf_s, mm_w8_0, mm_w8_1, mm_w8_2, mm_w8_3, mm_w8_4, mm_c1_n, mm_c1_i, mm_c1_a, mm_ct_a, mm_ct_i, true_and, and_true, and_self, eq_self, if_true, if_false, ite_true, ite_false, bI_t, bI_z, bI_nz, bI_01, true_or, or_true, reduceCtorEq, false_or, or_false, decide_eq_false_iff_not, decide_eq_true_eq, ite_not, x0, x1, l1.s0, rd_0 (a := x + 1) (i := 1) (by decide), f1, nI_ge (show k < ng by omega) (show ng < 2 ^ 31 by omega)]
    rw [show (0 : Int32) = nI 0 from rfl]
    refine c_drh (I := I) hS hc hLL hp (show k < 5 by omega) hg ht n 0 s J l9 l10 (by omega) hs hF (fun K l8 l9 l10 hK => ?_)
    simp only [e73_173, e73_176, mm_pu_n, mm_pu_s, va_rf_s, mm_w8_0, mm_w8_1, mm_w8_2, mm_w8_3, mm_w8_4, mm_c1_n, mm_c1_i, mm_c1_a, mm_ct_a, mm_ct_i, true_and, and_true, and_self, eq_self, if_true, if_false, ite_true, ite_false, bI_t, bI_z, bI_nz, bI_01, true_or, or_true, reduceCtorEq, false_or, or_false, decide_eq_false_iff_not, decide_eq_true_eq, ite_not, nI_1]
    exact ih (k + 1) _ K l8 l9 l10 (by omega) (dv_h_ok (by omega) hn n 0 s (by omega) hs) hK hq
theorem m_drg {L : mm_I} {n ng p t : Nat} {w : Int32} (hml : ml_S r m) (hc : MX I m L) (hLL : dl L = L) (hp : p < 6) (hg : gl L n ng) (ht : t ≤ 40) : ∀ d k s J l8 l9, k + d = ng → dv_ok s → fm I J m → (∀ K l7 l8 l9, fm I K m → mm_E 146 210 [some (.ref m), some (.int (nI p)), some (.int (nI t)), some (.int w), some (.int (dB (dv_g L n ng p t d k s))), some (.int (cL (-4) (dv_g L n ng p t d k s))), some (.int (cO (-4) (dv_g L n ng p t d k s))), l7, l8, l9] [] K r Q) → mm_E 146 44 [some (.ref m), some (.int (nI p)), some (.int (nI t)), some (.int w), some (.int (dB s)), some (.int (cL (-4) s)), some (.int (cO (-4) s)), some (.int (nI k)), l8, l9] [] J r Q := by
  have hn := hg.1.1.1
  have hng := hg.1.2.1.1
  intro d
  induction d with
  | zero =>
    intro k s J l8 l9 hk hs hF hq
    have : k = ng := by omega
    subst this
    have f1 : vr J (m + 5) m 0 1 = nI k := by rw [MX.k hc (hF _ (by omega) (by omega) (by omega)) 0 1 (by decide)]; exact hg.1.2.1.2
    rw [e146_44]
    simp only [e146_46, e146_47, e146_50, e146_52, e146_53, mm_pu_n, mm_pu_s, va_rf_s, mm_w8_0, mm_w8_1, mm_w8_2, mm_w8_3, mm_w8_4, mm_c1_n, mm_c1_i, mm_c1_a, mm_ct_a, mm_ct_i, true_and, and_true, and_self, eq_self, if_true, if_false, ite_true, ite_false, bI_t, bI_z, bI_nz, bI_01, true_or, or_true, reduceCtorEq, false_or, or_false, decide_eq_false_iff_not, decide_eq_true_eq, ite_not, hml.s0, hml.p7, hml.i5, c27.2.1, d27.2.1, r28 m, f1, Int32.le_refl]
    exact hq J _ l8 l9 hF
  | succ d ih =>
    intro k s J l8 l9 hk hs hF hq
    have f1 : vr J (m + 5) m 0 1 = nI ng := by rw [MX.k hc (hF _ (by omega) (by omega) (by omega)) 0 1 (by decide)]; exact hg.1.2.1.2
    rw [e146_44]
    simp only [e146_46, e146_47, e146_50, e146_52, e146_53, e146_56, e146_57, mm_pu_n, mm_pu_s, va_rf_s, mm_w8_0, mm_w8_1, mm_w8_2, mm_w8_3, mm_w8_4, mm_c1_n, mm_c1_i, mm_c1_a, mm_ct_a, mm_ct_i, true_and, and_true, and_self, eq_self, if_true, if_false, ite_true, ite_false, bI_t, bI_z, bI_nz, bI_01, true_or, or_true, reduceCtorEq, false_or, or_false, decide_eq_false_iff_not, decide_eq_true_eq, ite_not, hml.s0, hml.p7, hml.i5, c27.2.1, d27.2.1, r28 m, f1, nI_ge (show k < ng by omega) (show ng < 2 ^ 31 by omega)]
    rw [show (0 : Int32) = nI 0 from rfl]
    refine m_drh (I := I) hml hc hLL hp (show k < 5 by omega) hg ht n 0 s J l9 (by omega) hs hF (fun K l8 l9 hK => ?_)
    simp only [e146_204, e146_207, mm_pu_n, mm_pu_s, va_rf_s, mm_w8_0, mm_w8_1, mm_w8_2, mm_w8_3, mm_w8_4, mm_c1_n, mm_c1_i, mm_c1_a, mm_ct_a, mm_ct_i, true_and, and_true, and_self, eq_self, if_true, if_false, ite_true, ite_false, bI_t, bI_z, bI_nz, bI_01, true_or, or_true, reduceCtorEq, false_or, or_false, decide_eq_false_iff_not, decide_eq_true_eq, ite_not, nI_1]
    exact ih (k + 1) _ K l8 l9 (by omega) (dv_h_ok (by omega) hn n 0 s (by omega) hs) hK hq
theorem a_drives (h : ALL I r x m) (p t w : Int32) : pr 73 146 [some (.ref x), some (.int p), some (.int t), some (.int w), none, none, none, none, none, none, none] [some (.ref m), some (.int p), some (.int t), some (.int w), none, none, none, none, none, none] I r x m := by
  obtain ⟨hS, ⟨sg, L, bn, B, n, ng, Lr, Br, hg⟩, hG2, hG3, hG4⟩ := id h
  obtain ⟨hm, hx, ⟨l1, l2, l3, l4⟩, hip, hpt, htp, hsh, hml⟩ := id hS
  obtain ⟨x0, x1, x2, x3, x4, x5, x6, x7, x8⟩ := id hx
  obtain ⟨⟨hps, hL, hpv⟩, ⟨hR, hB⟩, ⟨⟨⟨hG, hRR, hdr, hnt⟩, hbk⟩, ⟨⟨hG', hRR', hdr', hnt'⟩, hbk'⟩, hsm, hsB⟩⟩ := id hg
  have hLL : dl L = L := by rw [← hL]; exact dl_dl _
  have hLr : dl Lr = Lr := by rw [← hR]; exact dl_dl _
  have hs6 := s_6 hsm hLL hLr
  have vL : ∀ q i, q < 7 → vc I (x + 1) q i = L q i := fun q i hq => by rw [← hL, dl_at hq]
  have vR : ∀ q i, q < 7 → vr I (m + 5) m q i = Lr q i := fun q i hq => by rw [← hR, dl_at hq]
  have vRh : ∀ {k : Nat}, k < n → ∀ q, 1 ≤ q ∧ q ≤ 3 → vr I (m + 5) m q k = L q k := fun hk q hq => (vR q _ (by omega)).trans (hsm q _ (wc_h hq hk)).symm
  have vRg : ∀ {k : Nat}, k < ng → ∀ q, 4 ≤ q ∧ q ≤ 6 → vr I (m + 5) m q k = L q k := fun hk q hq => (vR q _ (by omega)).trans (hsm q _ (wc_g hq hk)).symm
  obtain ⟨⟨hn, e0⟩, ⟨hng, e1⟩, hpl⟩ := id hG
  have f0 : vc I (x + 1) 0 0 = nI n := by rw [vL 0 0 (by decide)]; exact e0
  have f1 : vc I (x + 1) 0 1 = nI ng := by rw [vL 0 1 (by decide)]; exact e1
  have g0 : vr I (m + 5) m 0 0 = nI n := by rw [vR 0 0 (by decide)]; exact hG'.1.2
  have g1 : vr I (m + 5) m 0 1 = nI ng := by rw [vR 0 1 (by decide)]; exact hG'.2.1.2
  unfold pr
  cases hk1 : okh p n with
  | false =>
    simp only [e73_0, e73_1, e73_4, e73_5, e73_8, e73_11, e73_12, e73_13, e73_15, e73_18, e73_21, e73_22, e73_23, e73_24, e73_27, e73_30, e73_31, e146_0, e146_1, e146_2, e146_5, e146_8, e146_9, e146_10, e146_12, e146_15, e146_18, e146_19, e146_20, e146_21, e146_24, e146_27, e146_28, mm_pu_n, mm_pu_s, va_rf_s, mm_w8_0, mm_w8_1, mm_w8_2, mm_w8_3, mm_w8_4, mm_c1_n, mm_c1_i, mm_c1_a, mm_ct_a, mm_ct_i, true_and, and_true, and_self, eq_self, if_true, if_false, ite_true, ite_false, bI_t, bI_z, bI_nz, bI_01, true_or, or_true, reduceCtorEq, false_or, or_false, decide_eq_false_iff_not, decide_eq_true_eq, ite_not, x0, x1, x2, x3, x4, x5, x6, x7, x8, l1.s0, l1.p6, l1.p7, l1.p8, l1.p9, l1.p10, l1.p11, l1.p12, l1.p13, l1.i1, l1.i2, l1.i3, l1.i4, l1.i5, l1.i6, l1.i7, l1.i8, hml.s0, hml.p7, hml.i5, t_hasH l1 f0, u_isHouse hml hn g0, hk1, Bool.false_eq_true]
    exact fi_i _ h rfl rfl
  | true =>
    cases hk2 : wth t 1 40 with
    | false =>
      simp only [e73_0, e73_1, e73_4, e73_5, e73_8, e73_11, e73_12, e73_13, e73_15, e73_18, e73_21, e73_22, e73_23, e73_24, e73_27, e73_30, e73_31, e146_0, e146_1, e146_2, e146_5, e146_8, e146_9, e146_10, e146_12, e146_15, e146_18, e146_19, e146_20, e146_21, e146_24, e146_27, e146_28, mm_pu_n, mm_pu_s, va_rf_s, mm_w8_0, mm_w8_1, mm_w8_2, mm_w8_3, mm_w8_4, mm_c1_n, mm_c1_i, mm_c1_a, mm_ct_a, mm_ct_i, true_and, and_true, and_self, eq_self, if_true, if_false, ite_true, ite_false, bI_t, bI_z, bI_nz, bI_01, true_or, or_true, reduceCtorEq, false_or, or_false, decide_eq_false_iff_not, decide_eq_true_eq, ite_not, x0, x1, x2, x3, x4, x5, x6, x7, x8, l1.s0, l1.p6, l1.p7, l1.p8, l1.p9, l1.p10, l1.p11, l1.p12, l1.p13, l1.i1, l1.i2, l1.i3, l1.i4, l1.i5, l1.i6, l1.i7, l1.i8, hml.s0, hml.p7, hml.i5, t_hasH l1 f0, u_isHouse hml hn g0, t_within, u_inw, hk1, hk2, Bool.true_eq_false]
      exact fi_i _ h rfl rfl
    | true =>
      cases hk3 : wth w 0 1 with
      | false =>
        simp only [e73_0, e73_1, e73_4, e73_5, e73_8, e73_11, e73_12, e73_13, e73_15, e73_18, e73_21, e73_22, e73_23, e73_24, e73_27, e73_30, e73_31, e146_0, e146_1, e146_2, e146_5, e146_8, e146_9, e146_10, e146_12, e146_15, e146_18, e146_19, e146_20, e146_21, e146_24, e146_27, e146_28, mm_pu_n, mm_pu_s, va_rf_s, mm_w8_0, mm_w8_1, mm_w8_2, mm_w8_3, mm_w8_4, mm_c1_n, mm_c1_i, mm_c1_a, mm_ct_a, mm_ct_i, true_and, and_true, and_self, eq_self, if_true, if_false, ite_true, ite_false, bI_t, bI_z, bI_nz, bI_01, true_or, or_true, reduceCtorEq, false_or, or_false, decide_eq_false_iff_not, decide_eq_true_eq, ite_not, x0, x1, x2, x3, x4, x5, x6, x7, x8, l1.s0, l1.p6, l1.p7, l1.p8, l1.p9, l1.p10, l1.p11, l1.p12, l1.p13, l1.i1, l1.i2, l1.i3, l1.i4, l1.i5, l1.i6, l1.i7, l1.i8, hml.s0, hml.p7, hml.i5, t_hasH l1 f0, u_isHouse hml hn g0, t_within, u_inw, hk1, hk2, hk3, Bool.true_eq_false]
        exact fi_i _ h rfl rfl
      | true =>
        obtain ⟨k, hkn, rfl⟩ := okh_of hk1 hn
        obtain ⟨t', -, ht, rfl⟩ := wth_of hk2 (a := 1) (b := 40) (by decide) (by decide) (by decide) (by decide)
        have hk6 : k < 6 := by omega
        have hgl : gl L n ng := ⟨hG, hRR, hdr, hnt⟩
        have hgl' : gl Lr n ng := ⟨hG', hRR', hdr', hnt'⟩
        have hok : dv_ok none := fun q z => by cases z
        simp only [e73_0, e73_1, e73_4, e73_5, e73_8, e73_11, e73_12, e73_13, e73_15, e73_18, e73_21, e73_22, e73_23, e73_24, e73_27, e73_30, e73_31, e73_32, e73_34, e73_36, e73_37, e73_39, e73_40, e73_42, e73_43, mm_pu_n, mm_pu_s, va_rf_s, mm_w8_0, mm_w8_1, mm_w8_2, mm_w8_3, mm_w8_4, mm_c1_n, mm_c1_i, mm_c1_a, mm_ct_a, mm_ct_i, true_and, and_true, and_self, eq_self, if_true, if_false, ite_true, ite_false, bI_t, bI_z, bI_nz, bI_01, true_or, or_true, reduceCtorEq, false_or, or_false, decide_eq_false_iff_not, decide_eq_true_eq, ite_not, x0, x1, x2, x3, x4, x5, x6, x7, x8, l1.s0, l1.p6, l1.p7, l1.p8, l1.p9, l1.p10, l1.p11, l1.p12, l1.p13, l1.i1, l1.i2, l1.i3, l1.i4, l1.i5, l1.i6, l1.i7, l1.i8, t_hasH l1 f0, t_within, hk1, hk2, hk3, Bool.true_eq_false]
        refine c_drg (I := I) (w := w) hS vL hLL hk6 hgl ht ng 0 none I none none none (by omega) hok fc.rf (fun K l7 l8 l9 l10 hK => ?_)
        have gJ : vr K (m + 5) m 0 0 = nI n := by rw [vr_q (I := I) (by decide) (fun j _ => by rw [hK _ (by omega)])]; exact g0
        have ref : mm_E 146 0 [some (.ref m), some (.int (nI k)), some (.int (nI t')), some (.int w), none, none, none, none, none, none] [] K r (fun v2 I2 r2 => fi r x m (some (.int (if w = 0 then dB (dv_g L n ng k t' ng 0 none) else cL (-4) (dv_g L n ng k t' ng 0 none)))) v2 I2 r2) := by
          rw [dv_g_c hs6 hgl hkn ng 0 none (by omega)]
          simp only [e146_0, e146_1, e146_2, e146_5, e146_8, e146_9, e146_10, e146_12, e146_15, e146_18, e146_19, e146_20, e146_21, e146_24, e146_27, e146_28, e146_29, e146_31, e146_33, e146_35, e146_37, e146_39, e146_41, e146_42, mm_pu_n, mm_pu_s, va_rf_s, mm_w8_0, mm_w8_1, mm_w8_2, mm_w8_3, mm_w8_4, mm_c1_n, mm_c1_i, mm_c1_a, mm_ct_a, mm_ct_i, true_and, and_true, and_self, eq_self, if_true, if_false, ite_true, ite_false, bI_t, bI_z, bI_nz, bI_01, true_or, or_true, reduceCtorEq, false_or, or_false, decide_eq_false_iff_not, decide_eq_true_eq, ite_not, hml.s0, hml.p7, hml.i5, u_isHouse hml hn gJ, u_inw, hk1, hk2, hk3, Bool.true_eq_false]
          refine m_drg (I := K) (w := w) hml (MX.k (I := I) vR (hK _ (by omega))) hLr hk6 hgl' ht ng 0 none K none none (by omega) hok fm.rf (fun K2 l7 l8 l9 hK2 => ?_)
          simp only [e146_210, e146_211, e146_214, e146_216, e146_219, mm_pu_n, mm_pu_s, va_rf_s, mm_w8_0, mm_w8_1, mm_w8_2, mm_w8_3, mm_w8_4, mm_c1_n, mm_c1_i, mm_c1_a, mm_ct_a, mm_ct_i, true_and, and_true, and_self, eq_self, if_true, if_false, ite_true, ite_false, bI_t, bI_z, bI_nz, bI_01, true_or, or_true, reduceCtorEq, false_or, or_false, decide_eq_false_iff_not, decide_eq_true_eq, ite_not, it_i]
          rw [e146_221]
          exact fi_i _ (ALL_f h hK hK2) rfl rfl
        simp only [e73_179, e73_180, e73_183, e73_185, e73_187, e73_190, e73_192, e73_195, mm_pu_n, mm_pu_s, va_rf_s, mm_w8_0, mm_w8_1, mm_w8_2, mm_w8_3, mm_w8_4, mm_c1_n, mm_c1_i, mm_c1_a, mm_ct_a, mm_ct_i, true_and, and_true, and_self, eq_self, if_true, if_false, ite_true, ite_false, bI_t, bI_z, bI_nz, bI_01, true_or, or_true, reduceCtorEq, false_or, or_false, decide_eq_false_iff_not, decide_eq_true_eq, ite_not, it_i]
        rw [e73_197]
        have e : (if w = 0 then dB (dv_g L n ng k t' ng 0 none) else if dB (dv_g L n ng k t' ng 0 none) = -4 then dB (dv_g L n ng k t' ng 0 none) else cL 0 (dv_g L n ng k t' ng 0 none)) = (if w = 0 then dB (dv_g L n ng k t' ng 0 none) else cL (-4) (dv_g L n ng k t' ng 0 none)) := by
          have key : ∀ s : dv_T, dv_ok s → (if w = 0 then dB s else if dB s = -4 then dB s else cL 0 s) = (if w = 0 then dB s else cL (-4) s) := by
            intro s hs
            cases s with
            | none => rfl
            | some q =>
              have := hs q rfl
              rw [if_neg (show ¬ (dB (some q) = -4) from nI_n4 (show q.1 < 2 ^ 31 by omega))]
              rfl
          refine key _ ?_
          have gen : ∀ d g s, g + d = ng → dv_ok s → dv_ok (dv_g L n ng k t' d g s) := by
            intro d
            induction d with
            | zero => intro g s _ hs; exact hs
            | succ d ih => intro g s hk hs; exact ih (g + 1) _ (by omega) (dv_h_ok (by omega) hn n 0 s (by omega) hs)
          exact gen ng 0 none (by omega) hok
        rw [e]
        exact ref
end
