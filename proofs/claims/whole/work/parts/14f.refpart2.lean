theorem ps_out {q i : Nat} (hq : q < 7) (hq2 : q ≠ 2) (hi : i < wd q) : ¬ (9 ≤ ps q i ∧ ps q i < 15) := fun h => by
  have h1 : ps q i - 9 < wd 2 := by show _ < 6; omega
  have h2 : ps q i = ps 2 (ps q i - 9) := by show _ = 9 + (ps q i - 9); omega
  exact hq2 (ps_inj hq hi (by decide) h1 h2).1
theorem pw13 {c n : Nat} (hc : c ≤ 12) (hn : n ≤ 6) : (c + 1) ^ (n - 1) ≤ 371293 := Nat.le_trans (Nat.pow_le_pow_left (show c + 1 ≤ 13 by omega) (n - 1)) (Nat.le_trans (Nat.pow_le_pow_right (by decide) (show n - 1 ≤ 5 by omega)) (by decide))
section
variable {r : mm_R} {I : mm_I} {m n ng t c : Nat} {L : mm_I} {kk : Int32} {Q : Option Value → mm_I → mm_R → Prop}
theorem u_try (hml : ml_S r m) (hcx : MX I m L) (hLL : dl L = L) (hg : gl L n ng) (hn0 : 0 < n) (ht : t ≤ 30) (hc12 : c ≤ 12) {q : Nat} {w : Nat → Nat} {st : pt_S} {J : mm_I} {l8 l9 : Option Value} (hqB : q < (c + 1) ^ (n - 1)) (hw : ∀ i, i < n - 1 → w i = q / (c + 1) ^ (n - 2 - i) % (c + 1)) (hF : fq m I J) (hst : pm_S J (m + 12) n st)
    (hk : ∀ K l8 l9 st', st' = (if sd (c + 1) q (n - 1) ≤ c then pU L n ng t (ws w (n - 1) (c - sd (c + 1) q (n - 1))) st else st) → fq m I K → pm_S K (m + 12) n st' → mm_E 145 71 [some (.ref m), some (.int (nI c)), some (.int (nI t)), some (.int kk), some (.int (nI ((c + 1) ^ (n - 1)))), some (.int (mo st')), some (.int (le st')), some (.int (nI (q + 1))), l8, l9] [] K r Q) :
    mm_E 145 71 [some (.ref m), some (.int (nI c)), some (.int (nI t)), some (.int kk), some (.int (nI ((c + 1) ^ (n - 1)))), some (.int (mo st)), some (.int (le st)), some (.int (nI q)), l8, l9] [] J r Q := by
  have hn := hg.1.1.1
  have hp := pw13 hc12 hn
  have gJ : vr J (m + 5) m 0 0 = nI n := by rw [vr_q (I := I) (by decide) (fun j _ => by rw [hF _ (by omega) (by omega) (by omega) (by omega) (by omega)])]; rw [hcx 0 0 (by decide)]; exact hg.1.1.2
  rw [e145_71]
  simp only [e145_73, e145_75, e145_78, e145_79, e145_82, e145_84, e145_85, e145_88, e145_89, e145_91, mm_pu_n, mm_pu_s, va_rf_s, mm_w8_0, mm_w8_1, mm_w8_2, mm_w8_3, mm_w8_4, mm_c1_n, mm_c1_i, mm_c1_a, mm_ct_a, mm_ct_i, true_and, and_true, and_self, eq_self, if_true, if_false, ite_true, ite_false, bI_t, bI_z, bI_nz, bI_01, true_or, or_true, reduceCtorEq, false_or, or_false, decide_eq_false_iff_not, decide_eq_true_eq, ite_not, nI_ge hqB (show (c + 1) ^ (n - 1) < 2 ^ 31 by omega), hml.s0, hml.p7, hml.i5, c27.1, d27.1, r27 m, gJ, nI_nle hn0 (show n < 2 ^ 31 by omega)]
  simp only [e145_92, mm_pu_n, mm_pu_s, va_rf_s, mm_w8_0, mm_w8_1, mm_w8_2, mm_w8_3, mm_w8_4, mm_c1_n, mm_c1_i, mm_c1_a, mm_ct_a, mm_ct_i, true_and, and_true, and_self, eq_self, if_true, if_false, ite_true, ite_false, bI_t, bI_z, bI_nz, bI_01, true_or, or_true, reduceCtorEq, false_or, or_false, decide_eq_false_iff_not, decide_eq_true_eq, ite_not, hml.s0, hml.p7, hml.i5]
  refine u_layParts hml hn0 hn gJ hc12 (by omega) (fun K1 f1 f2 f3 => ?_)
  have hF1 : fq m I K1 := hF.tr (fun q a b c d e => f1 q d)
  have hst1 : pm_S K1 (m + 12) n st := pm_F hst (f1 _ (by omega))
  by_cases hle : sd (c + 1) q (n - 1) ≤ c
  · rw [bI_1 _ _ hle]
    have hW : ∀ i, i < n → K1 (m + 11) i = nI (ws w (n - 1) (c - sd (c + 1) q (n - 1)) i) := fun i hi => by
      unfold ws
      by_cases z : i = n - 1
      · rw [if_pos z, z]; exact f3 hle
      · rw [if_neg z, f2 i (by omega), hw i (by omega)]
    have hW20 : ∀ i, i < n → ws w (n - 1) (c - sd (c + 1) q (n - 1)) i ≤ 20 := fun i hi => by
      unfold ws
      by_cases z : i = n - 1
      · rw [if_pos z]; omega
      · rw [if_neg z, hw i (by omega)]
        have := Nat.mod_lt (q / (c + 1) ^ (n - 2 - i)) (show 0 < c + 1 by omega)
        omega
    generalize ws w (n - 1) (c - sd (c + 1) q (n - 1)) = W at hW hW20 hk
    have hst' : ∀ st', st' = pU L n ng t W st → st' = (if sd (c + 1) q (n - 1) ≤ c then pU L n ng t W st else st) := fun st' h => by rw [if_pos hle]; exact h
    simp only [mm_pu_s, e145_95, e145_98, mm_pu_n, mm_pu_s, va_rf_s, mm_w8_0, mm_w8_1, mm_w8_2, mm_w8_3, mm_w8_4, mm_c1_n, mm_c1_i, mm_c1_a, mm_ct_a, mm_ct_i, true_and, and_true, and_self, eq_self, if_true, if_false, ite_true, ite_false, bI_t, bI_z, bI_nz, bI_01, true_or, or_true, reduceCtorEq, false_or, or_false, decide_eq_false_iff_not, decide_eq_true_eq, ite_not, hml.s0, hml.p7, hml.i5]
    simp only [e145_99, mm_pu_n, mm_pu_s, va_rf_s, mm_w8_0, mm_w8_1, mm_w8_2, mm_w8_3, mm_w8_4, mm_c1_n, mm_c1_i, mm_c1_a, mm_ct_a, mm_ct_i, true_and, and_true, and_self, eq_self, if_true, if_false, ite_true, ite_false, bI_t, bI_z, bI_nz, bI_01, true_or, or_true, reduceCtorEq, false_or, or_false, decide_eq_false_iff_not, decide_eq_true_eq, ite_not, hml.s0, hml.p7, hml.i5]
    refine g_begin n hn hml (MX.k hcx (hF1 _ (by omega) (by omega) (by omega) (by omega) (by omega))) hLL (fun K2 hK2 hF2 => ?_)
    have gK2 : vr K2 (m + 5) m 0 0 = nI n := by rw [vr_q (I := J) (by decide) (fun j _ => by rw [hF2 _ (by omega) (by omega) (by omega), f1 _ (by omega)])]; exact gJ
    simp only [mm_pu_n, e145_102, e145_103, e145_106, e145_107, e145_108, e145_111, e145_113, e145_114, e145_117, e145_119, e145_120, mm_pu_n, mm_pu_s, va_rf_s, mm_w8_0, mm_w8_1, mm_w8_2, mm_w8_3, mm_w8_4, mm_c1_n, mm_c1_i, mm_c1_a, mm_ct_a, mm_ct_i, true_and, and_true, and_self, eq_self, if_true, if_false, ite_true, ite_false, bI_t, bI_z, bI_nz, bI_01, true_or, or_true, reduceCtorEq, false_or, or_false, decide_eq_false_iff_not, decide_eq_true_eq, ite_not, hml.s0, hml.p7, hml.i5, hml.p14, hml.p8, c27.1, d27.1, r27 m, gK2]
    rw [show (some (Value.int 0) : Option Value) = some (.int (nI 0)) from rfl, show (some (Value.int 9) : Option Value) = some (.int (nI 9)) from rfl]
    refine u_bring hml.i11 hml.i6 (by decide) (by decide) (i := 0) (j := 9) (n := n) (by omega) (by omega) (Or.inl (by omega)) (fun K3 o3 v3 => ?_)
    simp only [mm_pu_n, e145_123, e145_124, e145_125, mm_pu_n, mm_pu_s, va_rf_s, mm_w8_0, mm_w8_1, mm_w8_2, mm_w8_3, mm_w8_4, mm_c1_n, mm_c1_i, mm_c1_a, mm_ct_a, mm_ct_i, true_and, and_true, and_self, eq_self, if_true, if_false, ite_true, ite_false, bI_t, bI_z, bI_nz, bI_01, true_or, or_true, reduceCtorEq, false_or, or_false, decide_eq_false_iff_not, decide_eq_true_eq, ite_not, hml.s0, hml.p7, hml.i5]
    have hag : ag (w6 n True) (vr K3 (m + 6) m) (scw L W n) := by
      intro a i hai
      rcases hai with h7 | ⟨h8, -, hin⟩
      · by_cases hi : i < wd a
        · rw [vr_pos h7 hi, v3]
          by_cases h2 : a = 2
          · subst h2
            rw [scw_2]
            by_cases z : i < n
            · rw [if_pos (show 9 ≤ ps 2 i ∧ ps 2 i < 9 + n from ⟨by show 9 ≤ 9 + i; omega, by show 9 + i < 9 + n; omega⟩), if_pos z, show 0 + (ps 2 i - 9) = i from by show 0 + (9 + i - 9) = i; omega, hF2 _ (by omega) (by omega) (by omega)]
              exact hW i z
            · rw [if_neg (show ¬ (9 ≤ ps 2 i ∧ ps 2 i < 9 + n) from fun y => by have : ps 2 i = 9 + i := rfl; omega), if_neg z, ← vr_pos (I := K2) (s := m + 6) (m := m) h7 hi]
              exact hK2 2 i (Or.inl h7)
          · rw [if_neg (fun y => ps_out h7 h2 hi ⟨y.1, by omega⟩), scw_k _ _ _ _ h2, ← vr_pos (I := K2) (s := m + 6) (m := m) h7 hi]
            exact hK2 a i (Or.inl h7)
        · have e : ∀ K : mm_I, vr K (m + 6) m a i = 0 := fun K => by unfold vr; rw [if_neg (fun y => hi y.2)]
          rw [e K3, ← e K2, hK2 a i (Or.inl h7)]
          by_cases h2 : a = 2
          · subst h2
            rw [scw_2, if_neg (fun z => hi (show i < 6 by omega))]
          · rw [scw_k _ _ _ _ h2]
      · subst h8
        rw [scw_k _ _ _ _ (by decide), ← hK2 8 i (Or.inr ⟨rfl, trivial, hin⟩), ← rr_8 (s := m + 6) (m := m) (show i < 6 by omega), ← rr_8 (s := m + 6) (m := m) (show i < 6 by omega)]
        exact rd_F (o3 _ (by omega))
    have hgW := scw_gl hg W n hW20
    refine g_goOn (M := scw L W n) hml hag hgW.1 hgW.2.1 (by omega) (fun K4 hK4 hF4 => ?_)
    have hGt := p_nights_G hgW.1 t
    have hRt := pn_R hgW.1 hgW.2.1 t
    have hF14 : fq m I K4 := hF1.tr (fun q a b c d e => by rw [hF4 q a b c, o3 q a, hF2 q a b c])
    have gK4 : vr K4 (m + 5) m 0 0 = nI n := by rw [vr_q (I := I) (by decide) (fun j _ => by rw [hF14 _ (by omega) (by omega) (by omega) (by omega) (by omega)])]; rw [hcx 0 0 (by decide)]; exact hg.1.1.2
    have k0 : vr K4 (m + 6) m 0 0 = nI n := by rw [hK4 0 0 (Or.inl (by decide))]; exact hGt.1.2
    have hlk : ∀ i, i < n → (vr K4 (m + 6) m 3 i = 3) = (3 ≤ vr K4 (m + 6) m 3 i) := fun i hi => (ag_R hK4 hRt).lk hi
    obtain ⟨s, s1, s2, s3⟩ := p_ls_c (p_nights (scw L W n) n ng t) n hn
    have e2 : p_ls (vr K4 (m + 6) m) n = nI s := by rw [← s2]; exact ag_ls (fun i => hK4 3 i (Or.inl (by decide))) n
    have hs64 : s < 64 := Nat.lt_of_lt_of_le s1 (Nat.pow_le_pow_right (by decide) hn)
    have hl2 := lcn_le (p_nights (scw L W n) n ng t) n
    have e3 : nI n - nI (pcn s) = nI (n - lcn (p_nights (scw L W n) n ng t) n) := by rw [s3, n_sub hl2 (by omega)]
    have eo : p_ow (vr K4 (m + 6) m) n = p_ow (p_nights (scw L W n) n ng t) n := ag_ow (fun i => hK4 1 i (Or.inl (by decide))) n
    have hW4 : ∀ i, i < n → K4 (m + 11) i = nI (W i) := fun i hi => by rw [hF4 _ (by omega) (by omega) (by omega), o3 _ (by omega), hF2 _ (by omega) (by omega) (by omega)]; exact hW i hi
    have hst4 : pm_S K4 (m + 12) n st := pm_F hst1 (by rw [hF4 _ (by omega) (by omega) (by omega), o3 _ (by omega), hF2 _ (by omega) (by omega) (by omega)])
    simp only [mm_pu_n, e145_128, e145_129, e145_132, e145_134, e145_135, e145_136, e145_139, e145_142, e145_145, e145_146, e145_148, e145_149, e145_152, e145_155, mm_pu_n, mm_pu_s, va_rf_s, mm_w8_0, mm_w8_1, mm_w8_2, mm_w8_3, mm_w8_4, mm_c1_n, mm_c1_i, mm_c1_a, mm_ct_a, mm_ct_i, true_and, and_true, and_self, eq_self, if_true, if_false, ite_true, ite_false, bI_t, bI_z, bI_nz, bI_01, true_or, or_true, reduceCtorEq, false_or, or_false, decide_eq_false_iff_not, decide_eq_true_eq, ite_not, hml.s0, hml.p7, hml.i5, hml.p8, hml.i6, c27.1, d27.1, r27 m, gK4, u_lostOnes m hml.i6 hn k0 hlk, e2, u_bits, bsI_v s hs64, e3, u_owedBy m hml.i6 hn k0, eo]
    have hE : p_nights (scw L W n) n ng t = pE L n ng t W := rfl
    rw [hE] at hl2 ⊢
    have take : pU L n ng t W st = some (n - lcn (pE L n ng t W) n, p_ow (pE L n ng t W) n, W) → mm_E 145 178 [some (.ref m), some (.int (nI c)), some (.int (nI t)), some (.int kk), some (.int (nI ((c + 1) ^ (n - 1)))), some (.int (mo st)), some (.int (le st)), some (.int (nI q)), some (.int (nI (n - lcn (pE L n ng t W) n))), some (.int (p_ow (pE L n ng t W) n))] [] K4 r Q := by
      intro he
      simp only [e145_178, e145_180, e145_182, e145_184, e145_186, e145_187, e145_190, e145_191, e145_192, e145_195, e145_196, e145_198, mm_pu_n, mm_pu_s, va_rf_s, mm_w8_0, mm_w8_1, mm_w8_2, mm_w8_3, mm_w8_4, mm_c1_n, mm_c1_i, mm_c1_a, mm_ct_a, mm_ct_i, true_and, and_true, and_self, eq_self, if_true, if_false, ite_true, ite_false, bI_t, bI_z, bI_nz, bI_01, true_or, or_true, reduceCtorEq, false_or, or_false, decide_eq_false_iff_not, decide_eq_true_eq, ite_not, hml.s0, hml.p7, hml.i5, hml.p14, hml.p15]
      rw [show (some (Value.int 0) : Option Value) = some (.int (nI 0)) from rfl, show (some (Value.int 6) : Option Value) = some (.int (nI 6)) from rfl]
      refine u_bring hml.i11 hml.i12 (by decide) (by decide) (i := 0) (j := 0) (n := 6) (by omega) (by omega) (Or.inl (by omega)) (fun K5 o5 v5 => ?_)
      simp only [mm_pu_n, e145_201, e145_204, mm_pu_n, mm_pu_s, va_rf_s, mm_w8_0, mm_w8_1, mm_w8_2, mm_w8_3, mm_w8_4, mm_c1_n, mm_c1_i, mm_c1_a, mm_ct_a, mm_ct_i, true_and, and_true, and_self, eq_self, if_true, if_false, ite_true, ite_false, bI_t, bI_z, bI_nz, bI_01, true_or, or_true, reduceCtorEq, false_or, or_false, decide_eq_false_iff_not, decide_eq_true_eq, ite_not, nI_1]
      refine hk K5 _ _ (some (n - lcn (pE L n ng t W) n, p_ow (pE L n ng t W) n, W)) (hst' _ he.symm) (hF14.tr (fun q a b c d e => o5 q e)) ⟨Nat.sub_le _ _, fun h hh => ?_⟩
      rw [v5, if_pos (by omega), show 0 + (h - 0) = h by omega]
      exact hW4 h hh
    have skip : pU L n ng t W st = st → mm_E 145 201 [some (.ref m), some (.int (nI c)), some (.int (nI t)), some (.int kk), some (.int (nI ((c + 1) ^ (n - 1)))), some (.int (mo st)), some (.int (le st)), some (.int (nI q)), some (.int (nI (n - lcn (pE L n ng t W) n))), some (.int (p_ow (pE L n ng t W) n))] [] K4 r Q := by
      intro he
      simp only [e145_201, e145_204, mm_pu_n, mm_pu_s, va_rf_s, mm_w8_0, mm_w8_1, mm_w8_2, mm_w8_3, mm_w8_4, mm_c1_n, mm_c1_i, mm_c1_a, mm_ct_a, mm_ct_i, true_and, and_true, and_self, eq_self, if_true, if_false, ite_true, ite_false, bI_t, bI_z, bI_nz, bI_01, true_or, or_true, reduceCtorEq, false_or, or_false, decide_eq_false_iff_not, decide_eq_true_eq, ite_not, nI_1]
      exact hk K4 _ _ st (hst' _ he.symm) hF14 hst4
    simp only [e145_157, e145_159, e145_161, mm_pu_n, mm_pu_s, va_rf_s, mm_w8_0, mm_w8_1, mm_w8_2, mm_w8_3, mm_w8_4, mm_c1_n, mm_c1_i, mm_c1_a, mm_ct_a, mm_ct_i, true_and, and_true, and_self, eq_self, if_true, if_false, ite_true, ite_false, bI_t, bI_z, bI_nz, bI_01, true_or, or_true, reduceCtorEq, false_or, or_false, decide_eq_false_iff_not, decide_eq_true_eq, ite_not]
    cases st with
    | none =>
      rw [if_pos (show mo none < nI (n - lcn (pE L n ng t W) n) from Int32.lt_of_lt_of_le (show (-4 : Int32) < 0 by decide) (nI_pos' (by omega)))]
      exact take rfl
    | some z =>
      have hz6 := hst4.1
      have eU : pU L n ng t W (some z) = if z.1 < n - lcn (pE L n ng t W) n ∨ (z.1 = n - lcn (pE L n ng t W) n ∧ p_ow (pE L n ng t W) n < z.2.1) then some (n - lcn (pE L n ng t W) n, p_ow (pE L n ng t W) n, W) else some z := rfl
      by_cases c1 : z.1 < n - lcn (pE L n ng t W) n
      · rw [if_pos (show mo (some z) < nI (n - lcn (pE L n ng t W) n) from nI_lt c1 (by omega))]
        exact take (by rw [eU, if_pos (Or.inl c1)])
      · rw [if_neg (show ¬ mo (some z) < nI (n - lcn (pE L n ng t W) n) from fun y => c1 ((nI_ltI (show z.1 < 2 ^ 31 by omega) (by omega)).mp y))]
        simp only [e145_164, e145_166, e145_168, mm_pu_n, mm_pu_s, va_rf_s, mm_w8_0, mm_w8_1, mm_w8_2, mm_w8_3, mm_w8_4, mm_c1_n, mm_c1_i, mm_c1_a, mm_ct_a, mm_ct_i, true_and, and_true, and_self, eq_self, if_true, if_false, ite_true, ite_false, bI_t, bI_z, bI_nz, bI_01, true_or, or_true, reduceCtorEq, false_or, or_false, decide_eq_false_iff_not, decide_eq_true_eq, ite_not]
        by_cases c2 : z.1 = n - lcn (pE L n ng t W) n
        · rw [if_pos (show nI (n - lcn (pE L n ng t W) n) = mo (some z) from by rw [← c2]; rfl)]
          simp only [e145_171, e145_173, e145_175, mm_pu_n, mm_pu_s, va_rf_s, mm_w8_0, mm_w8_1, mm_w8_2, mm_w8_3, mm_w8_4, mm_c1_n, mm_c1_i, mm_c1_a, mm_ct_a, mm_ct_i, true_and, and_true, and_self, eq_self, if_true, if_false, ite_true, ite_false, bI_t, bI_z, bI_nz, bI_01, true_or, or_true, reduceCtorEq, false_or, or_false, decide_eq_false_iff_not, decide_eq_true_eq, ite_not]
          by_cases c3 : z.2.1 ≤ p_ow (pE L n ng t W) n
          · rw [if_pos (show le (some z) ≤ p_ow (pE L n ng t W) n from c3)]
            exact skip (by rw [eU, if_neg (fun y => y.elim c1 (fun y => Int32.not_lt.mpr c3 y.2))])
          · rw [if_neg (show ¬ le (some z) ≤ p_ow (pE L n ng t W) n from c3)]
            exact take (by rw [eU, if_pos (Or.inr ⟨c2, Int32.not_le.mp c3⟩)])
        · rw [if_neg (show ¬ nI (n - lcn (pE L n ng t W) n) = mo (some z) from fun y => c2 ((nI_eq (show n - lcn (pE L n ng t W) n < 2 ^ 31 by omega) (show z.1 < 2 ^ 31 by omega)).mp y).symm)]
          exact skip (by rw [eU, if_neg (fun y => y.elim c1 (fun y => c2 y.1))])
  · rw [bI_0 _ _ hle]
    simp only [mm_pu_s, e145_95, e145_201, e145_204, mm_pu_n, mm_pu_s, va_rf_s, mm_w8_0, mm_w8_1, mm_w8_2, mm_w8_3, mm_w8_4, mm_c1_n, mm_c1_i, mm_c1_a, mm_ct_a, mm_ct_i, true_and, and_true, and_self, eq_self, if_true, if_false, ite_true, ite_false, bI_t, bI_z, bI_nz, bI_01, true_or, or_true, reduceCtorEq, false_or, or_false, decide_eq_false_iff_not, decide_eq_true_eq, ite_not, nI_1]
    exact hk K1 _ _ st (by rw [if_neg hle]) hF1 hst1
end
