section
variable {r : mm_R} {I : mm_I} {x m n ng t c : Nat} {L : mm_I} {Q : Option Value → mm_I → mm_R → Prop}
theorem c_blk (hS : HS r x m) (hc : CX I x L) (hLL : dl L = L) (hG : ln_G L n ng) (ht0 : 0 < t) (ht : t ≤ 30) (hc12 : c ≤ 12) : ∀ M j w s k J st, j + M + 1 = n → s ≤ c → k + cv M (c - s) ≤ 10000 → (∀ i, i < j → w i ≤ 12) → fp x I J → pw J (x + 93) n (w0 w j n (c - s)) → pc_S J (x + 93) n st → (∀ K, fp x I K → pw K (x + 93) n (w9 w j (c - s)) → pc_S K (x + 93) n (fo c (pU L n ng t) M j w s st) → mm_E 22 79 [some (.ref (x + 93)), some (.ref (x + 1)), some (.ref (x + 10)), some (.int (nI c)), some (.int (nI t)), some (.int (nI n)), some (.int 1), some (.int (nI (k + cv M (c - s) - 1)))] [] K r Q) → mm_E 22 58 [some (.ref (x + 93)), some (.ref (x + 1)), some (.ref (x + 10)), some (.int (nI c)), some (.int (nI t)), some (.int (nI n)), some (.int 1), some (.int (nI k))] [] J r Q := by
  have p0 := hS.2.2.2.2.1.1
  have hn := hG.1.1
  intro M
  induction M with
  | zero =>
    intro j w s k J st hj hs hk hw12 hF hw hst hq
    have hk1 : k < 10000 := by
      have : cv 0 (c - s) = 1 := rfl
      omega
    have h10 : ¬ ((10000 : Int32) ≤ nI k) := by
      rw [show (10000 : Int32) = nI 10000 from rfl]
      exact nI_ge hk1 (by decide)
    rw [e22_58]
    simp only [e22_60, e22_63, e22_65, e22_68, e22_71, e22_72, e22_73, e22_74, e22_76, mm_pu_n, mm_pu_s, va_rf_s, mm_w8_0, mm_w8_1, mm_w8_2, mm_w8_3, mm_w8_4, mm_c1_n, mm_c1_i, mm_c1_a, mm_ct_a, mm_ct_i, true_and, and_true, and_self, eq_self, if_true, if_false, ite_true, ite_false, bI_t, bI_z, bI_nz, bI_01, true_or, or_true, reduceCtorEq, false_or, or_false, decide_eq_false_iff_not, decide_eq_true_eq, ite_not, bI_01, h10, p0]
    have hw' : pw J (x + 93) n (ws w j (c - s)) := pw_c hw (fun i hi => by unfold w0 ws; by_cases z : i < j; (rw [if_pos z, if_neg (by omega)]); rw [if_neg z, if_pos (by omega), if_pos (by omega)])
    refine t_judge hS (fun q i hq => by rw [vc_eq (I := I) (fun q a b => hF q (by omega) (by omega))]; exact hc q i hq) hLL hG ht0 ht hw' hst (fun K w1 w2 w3 => ?_)
    simp only [mm_pu_n]
    have e1 : k + cv 0 (c - s) - 1 = k := by show k + 1 - 1 = k; omega
    rw [e1] at hq
    have e2 : fo c (pU L n ng t) 0 j w s st = pU L n ng t (ws w j (c - s)) st := by
      show (if s ≤ c then pU L n ng t (ws w j (c - s)) st else st) = _
      rw [if_pos hs]
    rw [e2] at hq
    refine hq K (hF.tr w1) (fun i hi => ?_) w3
    have := hw' i hi
    rw [show K (x + 93 + 2) = J (x + 93 + 2) from w2, this]
    unfold ws w9
    by_cases z : i = j
    · rw [if_pos z, if_neg (by omega), if_pos z]
    · rw [if_neg z, if_pos (by omega)]
  | succ M ih =>
    intro j w s k J st hj hs hk hw12 hF hw hst hq
    have inner : ∀ e d k J st, d + e = c - s → k + csm (cv M) e ≤ 10000 → fp x I J → pw J (x + 93) n (w0 (ws w j d) (j + 1) n e) → pc_S J (x + 93) n st → (∀ K, fp x I K → pw K (x + 93) n (w9 w j (c - s)) → pc_S K (x + 93) n (lp (fun d st => fo c (pU L n ng t) M (j + 1) (ws w j d) (s + d) st) (c + 1 - d) d st) → mm_E 22 79 [some (.ref (x + 93)), some (.ref (x + 1)), some (.ref (x + 10)), some (.int (nI c)), some (.int (nI t)), some (.int (nI n)), some (.int 1), some (.int (nI (k + csm (cv M) e - 1)))] [] K r Q) → mm_E 22 58 [some (.ref (x + 93)), some (.ref (x + 1)), some (.ref (x + 10)), some (.int (nI c)), some (.int (nI t)), some (.int (nI n)), some (.int 1), some (.int (nI k))] [] J r Q := by
      intro e
      induction e with
      | zero =>
        intro d k J st hd hk hF hw hst hq
        have e0 : c - (s + d) = 0 := by omega
        have hw' : pw J (x + 93) n (w0 (ws w j d) (j + 1) n (c - (s + d))) := by rw [e0]; exact hw
        refine ih (j + 1) (ws w j d) (s + d) k J st (by omega) (by omega) (by rw [e0]; exact hk) (fun i hi => by unfold ws; split; (omega); exact hw12 i (by omega)) hF hw' hst (fun K w1 w2 w3 => ?_)
        rw [e0] at w2 ⊢
        have el : lp (fun d st => fo c (pU L n ng t) M (j + 1) (ws w j d) (s + d) st) (c + 1 - d) d st = fo c (pU L n ng t) M (j + 1) (ws w j d) (s + d) st := by
          rw [show c + 1 - d = (c - d) + 1 by omega]
          show lp _ (c - d) (d + 1) _ = _
          exact lp_id (N := d + 1) (fun k s' hk => fo_big _ _ _ _ _ (by omega)) _ _ _ (Nat.le_refl _)
        rw [el] at hq
        refine hq K w1 (pw_c w2 (fun i hi => ?_)) w3
        unfold w9 ws
        by_cases z1 : i < j
        · rw [if_pos (by omega), if_neg (by omega), if_pos z1]
        · by_cases z2 : i = j
          · rw [if_pos (by omega), if_pos z2, if_neg z1, if_pos z2]; omega
          · rw [if_neg (by omega), if_neg z1, if_neg z2, ite_self]
      | succ e ihe =>
        intro d k J st hd hk hF hw hst hq
        have e0 : c - (s + d) = e + 1 := by omega
        have hcs : csm (cv M) (e + 1) = cv M (e + 1) + csm (cv M) e := rfl
        have hpos := csm_pos (cv_pos M) e
        have hpos2 := cv_pos M (e + 1)
        have hw' : pw J (x + 93) n (w0 (ws w j d) (j + 1) n (c - (s + d))) := by rw [e0]; exact hw
        refine ih (j + 1) (ws w j d) (s + d) k J st (by omega) (by omega) (by rw [e0]; omega) (fun i hi => by unfold ws; split; (omega); exact hw12 i (by omega)) hF hw' hst (fun K w1 w2 w3 => ?_)
        rw [e0] at w2 ⊢
        simp only [e22_79, e22_80, e22_82, mm_pu_n, mm_pu_s, va_rf_s, mm_w8_0, mm_w8_1, mm_w8_2, mm_w8_3, mm_w8_4, mm_c1_n, mm_c1_i, mm_c1_a, mm_ct_a, mm_ct_i, true_and, and_true, and_self, eq_self, if_true, if_false, ite_true, ite_false, bI_t, bI_z, bI_nz, bI_01, true_or, or_true, reduceCtorEq, false_or, or_false, decide_eq_false_iff_not, decide_eq_true_eq, ite_not, p0]
        refine t_nextWay (q := j + 1) (v := e + 1) (W := w9 (ws w j d) (j + 1) (e + 1)) hS hn (by omega) (by omega) (by omega) (by omega) ?_ ?_ (fun i hi hin => ?_) w2 (fun K2 z1 z2 => ?_)
        · unfold w9; rw [if_neg (by omega), if_pos rfl]
        · unfold w9 ws; rw [if_pos (by omega), if_pos (by omega)]; omega
        · unfold w9; rw [if_neg (by omega), if_neg (by omega)]
        · have ek : nI (k + cv M (e + 1) - 1) + 1 = nI (k + cv M (e + 1)) := by
            rw [nI_1]; congr 1; omega
          simp only [mm_pu_s, e22_85, e22_87, e22_90, mm_pu_n, mm_pu_s, va_rf_s, mm_w8_0, mm_w8_1, mm_w8_2, mm_w8_3, mm_w8_4, mm_c1_n, mm_c1_i, mm_c1_a, mm_ct_a, mm_ct_i, true_and, and_true, and_self, eq_self, if_true, if_false, ite_true, ite_false, bI_t, bI_z, bI_nz, bI_01, true_or, or_true, reduceCtorEq, false_or, or_false, decide_eq_false_iff_not, decide_eq_true_eq, ite_not, ek]
          have el : lp (fun d st => fo c (pU L n ng t) M (j + 1) (ws w j d) (s + d) st) (c + 1 - d) d st = lp (fun d st => fo c (pU L n ng t) M (j + 1) (ws w j d) (s + d) st) (c + 1 - (d + 1)) (d + 1) (fo c (pU L n ng t) M (j + 1) (ws w j d) (s + d) st) := by
            rw [show c + 1 - d = (c + 1 - (d + 1)) + 1 by omega]; rfl
          rw [el] at hq
          refine ihe (d + 1) (k + cv M (e + 1)) K2 _ (by omega) (by omega) (w1.tr (fun q a b => z1 q (by omega))) (pw_c z2 (fun i hi => ?_)) (pc_F w3 (z1 _ (by omega)) (z1 _ (by omega))) (fun K3 y1 y2 y3 => ?_)
          · unfold w9 w0 ws
            by_cases y1 : i = n - 1
            · rw [if_pos y1, if_neg (by omega), if_pos y1]; omega
            · rw [if_neg y1]
              by_cases y2 : i = j
              · rw [if_pos (by omega), if_pos (by omega), if_pos (by omega), if_pos (by omega), if_pos y2]
              · rw [if_neg (by omega)]
                by_cases y3 : i = j + 1
                · rw [if_pos y3, if_neg (by omega), if_neg y1]
                · rw [if_neg y3]
                  by_cases y4 : i < j
                  · rw [if_pos (by omega), if_neg y2, if_pos (by omega), if_neg y2]
                  · rw [if_neg (by omega), if_neg y3, if_neg (by omega), if_neg y1]
          · have := hq K3 y1 y2 y3
            rw [hcs, show k + (cv M (e + 1) + csm (cv M) e) - 1 = k + cv M (e + 1) + csm (cv M) e - 1 by omega] at this
            exact this
    refine inner (c - s) 0 k J st (by omega) hk hF (pw_c hw (fun i hi => ?_)) hst hq
    unfold w0 ws
    by_cases z1 : i < j
    · rw [if_pos z1, if_pos (by omega), if_neg (by omega)]
    · rw [if_neg z1]
      by_cases z2 : i = j
      · rw [if_neg (by omega), if_pos (by omega), if_pos z2]
      · rw [if_neg (show ¬ i < j + 1 by omega)]
def fnd (L : mm_I) (n ng t c : Nat) : pt_S := fo c (pU L n ng t) (n - 1) 0 (fun _ => 0) 0 none
theorem t_find (hS : HS r x m) (hc : CX I x L) (hLL : dl L = L) (hG : ln_G L n ng) (hn0 : 0 < n) (ht0 : 0 < t) (ht : t ≤ 30) (hc12 : c ≤ 12) (hq : ∀ K, fp x I K → pc_S K (x + 93) n (fnd L n ng t c) → Q none K r) : mm_E 22 0 [some (.ref (x + 93)), some (.ref (x + 1)), some (.ref (x + 10)), some (.int (nI c)), some (.int (nI t)), none, none, none] [] I r Q := by
  obtain ⟨p0, p2, p3, p4, p5⟩ := hS.2.2.2.2.1
  have hi5 : ∀ y, mm_ix r (x + 95) 2 y = vp_in y 6 := fun y => mm_ixs p5
  have l1 := hS.2.2.1.1
  have hn := hG.1.1
  have f0 : vc I (x + 1) 0 0 = nI n := by rw [hc 0 0 (by decide)]; exact hG.1.2
  have h1n : (1 : Int32) ≤ nI n := nI_le (a := 1) (by omega) (by omega)
  have zl : ∀ d k J, k + d = n → (∀ q, q ≠ x + 95 → J q = mm_uI I (x + 93) 0 (-1) q) → (∀ i, i < k → J (x + 95) i = 0) → mm_E 22 21 [some (.ref (x + 93)), some (.ref (x + 1)), some (.ref (x + 10)), some (.int (nI c)), some (.int (nI t)), some (.int (nI n)), some (.int (nI k)), none] [] J r Q := by
    intro d
    induction d with
    | zero =>
      intro k J hk hF hz
      have : k = n := by omega
      subst this
      rw [e22_21]
      simp only [e22_23, e22_25, e22_42, e22_43, e22_46, e22_48, e22_49, e22_50, e22_51, e22_52, e22_53, e22_55, e22_56, mm_pu_n, mm_pu_s, va_rf_s, mm_w8_0, mm_w8_1, mm_w8_2, mm_w8_3, mm_w8_4, mm_c1_n, mm_c1_i, mm_c1_a, mm_ct_a, mm_ct_i, true_and, and_true, and_self, eq_self, if_true, if_false, ite_true, ite_false, bI_t, bI_z, bI_nz, bI_01, true_or, or_true, reduceCtorEq, false_or, or_false, decide_eq_false_iff_not, decide_eq_true_eq, ite_not, Int32.le_refl, p0, p3, n_m1 hn0 (show k < 2 ^ 31 by omega), hi5, in6 (show k - 1 < 6 by omega), cl_nI (show k - 1 < 6 by omega)]
      have frJ : fp x I (mm_uI J (x + 95) (k - 1) (nI c)) := fun q a b => by rw [mu_n (by omega), hF q (by omega), mu_n (by omega)]
      have hcv := cv_small (k - 1) (by omega) c (by omega)
      rw [show (0 : Int32) = nI 0 from rfl]
      refine c_blk (I := I) hS hc hLL hG ht0 ht hc12 (k - 1) 0 (fun _ => 0) 0 0 _ none (by omega) (Nat.zero_le _) (by rw [Nat.sub_zero]; omega) (fun i hi => absurd hi (by omega)) frJ (fun i hi => ?_) ?_ (fun K w1 w2 w3 => ?_)
      · show mm_uI J (x + 95) (k - 1) (nI c) (x + 95) i = _
        unfold w0
        rw [if_neg (by omega)]
        by_cases z : i = k - 1
        · subst z; rw [mu_s, if_pos rfl, Nat.sub_zero]
        · rw [mu_j z, if_neg z, hz i hi]; rfl
      · show mm_rd (mm_uI J (x + 95) (k - 1) (nI c)) (x + 93) 0 = -1
        rw [rd_F (mu_n (by omega)), rd_F (hF _ (by omega))]; exact rd_u
      · simp only [e22_79, e22_80, e22_82, mm_pu_n, mm_pu_s, va_rf_s, mm_w8_0, mm_w8_1, mm_w8_2, mm_w8_3, mm_w8_4, mm_c1_n, mm_c1_i, mm_c1_a, mm_ct_a, mm_ct_i, true_and, and_true, and_self, eq_self, if_true, if_false, ite_true, ite_false, bI_t, bI_z, bI_nz, bI_01, true_or, or_true, reduceCtorEq, false_or, or_false, decide_eq_false_iff_not, decide_eq_true_eq, ite_not, p0]
        refine t_lastWay hS hn0 hn (fun i hi hik => ?_) w2 (fun K2 y1 => ?_)
        · unfold w9; rw [if_neg (by omega), if_neg (by omega)]
        · simp only [mm_pu_s, e22_85, e22_87, e22_90, mm_pu_n, mm_pu_s, va_rf_s, mm_w8_0, mm_w8_1, mm_w8_2, mm_w8_3, mm_w8_4, mm_c1_n, mm_c1_i, mm_c1_a, mm_ct_a, mm_ct_i, true_and, and_true, and_self, eq_self, if_true, if_false, ite_true, ite_false, bI_t, bI_z, bI_nz, bI_01, true_or, or_true, reduceCtorEq, false_or, or_false, decide_eq_false_iff_not, decide_eq_true_eq, ite_not]
          rw [e22_58]
          simp only [e22_60, e22_93, mm_pu_n, mm_pu_s, va_rf_s, mm_w8_0, mm_w8_1, mm_w8_2, mm_w8_3, mm_w8_4, mm_c1_n, mm_c1_i, mm_c1_a, mm_ct_a, mm_ct_i, true_and, and_true, and_self, eq_self, if_true, if_false, ite_true, ite_false, bI_t, bI_z, bI_nz, bI_01, true_or, or_true, reduceCtorEq, false_or, or_false, decide_eq_false_iff_not, decide_eq_true_eq, ite_not]
          exact hq K2 (w1.tr (fun q a b => y1 q (by omega))) (pc_F w3 (y1 _ (by omega)) (y1 _ (by omega)))
    | succ d ih =>
      intro k J hk hF hz
      rw [e22_21]
      simp only [e22_23, e22_25, e22_28, e22_29, e22_32, e22_34, e22_35, e22_36, e22_39, mm_pu_n, mm_pu_s, va_rf_s, mm_w8_0, mm_w8_1, mm_w8_2, mm_w8_3, mm_w8_4, mm_c1_n, mm_c1_i, mm_c1_a, mm_ct_a, mm_ct_i, true_and, and_true, and_self, eq_self, if_true, if_false, ite_true, ite_false, bI_t, bI_z, bI_nz, bI_01, true_or, or_true, reduceCtorEq, false_or, or_false, decide_eq_false_iff_not, decide_eq_true_eq, ite_not, nI_ge (show k < n by omega) (show n < 2 ^ 31 by omega), p0, p3, hi5, in6 (show k < 6 by omega), cl_nI (show k < 6 by omega), nI_1]
      refine ih (k + 1) _ (by omega) (fun q hq => by rw [mu_n hq]; exact hF q hq) (fun i hi => ?_)
      by_cases z : i = k
      · subst z; exact mu_s
      · rw [mu_j z]; exact hz i (by omega)
  simp only [e22_0, e22_1, e22_4, e22_6, e22_8, e22_9, e22_12, e22_13, e22_14, e22_15, e22_18, e22_19, mm_pu_n, mm_pu_s, va_rf_s, mm_w8_0, mm_w8_1, mm_w8_2, mm_w8_3, mm_w8_4, mm_c1_n, mm_c1_i, mm_c1_a, mm_ct_a, mm_ct_i, true_and, and_true, and_self, eq_self, if_true, if_false, ite_true, ite_false, bI_t, bI_z, bI_nz, bI_01, true_or, or_true, reduceCtorEq, false_or, or_false, decide_eq_false_iff_not, decide_eq_true_eq, ite_not, l1.s0, rd_0 (a := x + 1) (i := 0) (by decide), f0, h1n, p0]
  rw [show (some (Value.int 0) : Option Value) = some (.int (nI 0)) from rfl]
  exact zl n 0 _ (by omega) (fun q _ => rfl) (fun i hi => absurd hi (by omega))
end
