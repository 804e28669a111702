theorem and1 (x : Int32) : (x &&& 1 = 1) = ¬ (x &&& 1 = 0) := by
  obtain ⟨k, hk, e⟩ := pk_andE x (m := 1) 1 (by decide)
  rw [e]
  have : k = 0 ∨ k = 1 := by omega
  rcases this with rfl | rfl
  · exact propext ⟨fun h => absurd h (by decide), fun h => absurd rfl h⟩
  · exact propext ⟨fun _ => by decide, fun _ => by decide⟩
def p_clr (x : Int32) : Int32 := if x ≤ 9999 then x else 9999
theorem p_clr_c (x : Int32) : p_clr x = p_clamp x := by
  unfold p_clr p_clamp
  exact mn_le 9999 x
theorem p_clr_i {o : Nat} (h : o ≤ 9999) : p_clr (nI o) = nI o := by
  unfold p_clr
  rw [if_pos (by rw [show (9999 : Int32) = nI 9999 from by decide]; exact nI_le h (by omega))]
def p_r3a (M : mm_I) (k : Nat) : mm_I := mm_uI M 7 k (if 3 ≤ M 3 k then 0 else M 7 k)
def p_r3 (L : mm_I) (w : Bool) : Nat → mm_I
  | 0 => L
  | k + 1 => mm_uI (p_r3a (p_r3 L w k) k) 1 k (p_clr (if w = true ∨ 3 ≤ p_r3a (p_r3 L w k) k 3 k then p_r3a (p_r3 L w k) k 1 k else p_r3a (p_r3 L w k) k 1 k + p_r3a (p_r3 L w k) k 1 k * p_r3a (p_r3 L w k) k 0 2 / 100))
theorem p_r3_keep (L : mm_I) (w : Bool) : ∀ k q, q ≠ 1 → q ≠ 7 → p_r3 L w k q = L q := by
  intro k
  induction k with
  | zero => intro q _ _; rfl
  | succ k ih => intro q h1 h7; unfold p_r3 p_r3a; rw [mu_n h1, mu_n h7]; exact ih q h1 h7
theorem p_int_hi (L : mm_I) : ∀ k i, k ≤ i → p_int L k 1 i = L 1 i := by
  intro k
  induction k with
  | zero => intro i _; rfl
  | succ k ih =>
    intro i hi
    unfold p_int
    split
    · exact ih i (by omega)
    · rw [mu_j (by omega)]; exact ih i (by omega)
theorem p_r3_eq {L : mm_I} {n ng : Nat} (h : ln_E L n ng) (w : Bool) : ∀ k, k ≤ n → p_r3 L w k = if w = true then L else p_int L k := by
  intro k
  induction k with
  | zero => intro _; split <;> rfl
  | succ k ih =>
    intro hk
    obtain ⟨lk, ow, lf, a1, a2, a3, a4, a5, a6, a7⟩ := h.1 k (by omega)
    have e0 := ih (by omega)
    have r3e : p_r3 L w k 3 k = nI lk := by rw [p_r3_keep _ _ _ _ (by decide) (by decide)]; exact a4
    have r7e : p_r3 L w k 7 k = nI lf := by
      rw [e0]; split
      · exact a6
      · rw [p_int_keep _ _ _ (by decide)]; exact a6
    have r1e : p_r3 L w k 1 k = nI ow := by
      rw [e0]; split
      · exact a5
      · rw [p_int_hi _ _ _ (Nat.le_refl _)]; exact a5
    have ea : p_r3a (p_r3 L w k) k = p_r3 L w k := by
      unfold p_r3a
      have : (if 3 ≤ p_r3 L w k 3 k then (0 : Int32) else p_r3 L w k 7 k) = p_r3 L w k 7 k := by
        split
        · rename_i hc
          rw [r3e, lk_3 a1] at hc
          rw [r7e, a7 hc]; rfl
        · rfl
      rw [this, mu_self]
    rw [p_r3, ea]
    cases w with
    | true =>
      rw [if_pos (Or.inl rfl), r1e, p_clr_i a2, ← r1e, mu_self, e0]
      rfl
    | false =>
      have e1 : p_r3 L false k = p_int L k := by rw [e0, if_neg (by decide)]
      rw [if_neg (show ¬ (false = true) by decide), p_int, ← e1]
      by_cases c : 3 ≤ p_r3 L false k 3 k
      · rw [if_pos (Or.inr c), if_pos c, r1e, p_clr_i a2, ← r1e, mu_self]
      · rw [if_neg (by rintro (z | z); (cases z); exact c z), if_neg c, p_clr_c]
section
variable {r : mm_R} {I : mm_I} {s m : Nat} {Q : Option Value → mm_I → mm_R → Prop}
theorem u_nightIn (hm : ml_S r m) (h : ∀ x, mm_ix r s 2 x = vp_in x 248) (hs : rw_ok s m) {n ng : Nat} (hG : ln_G (vr I s m) n ng) (hR : ln_R (vr I s m) n ng) (a : Int32) (hq : ∀ J, vr J s m = p_night (vr I s m) n ng a → ml_F s m I J → Q none J r) : mm_E 127 0 [some (.ref m), some (.ref s), some (.int a), none, none, none] [] I r Q := by
  obtain ⟨⟨hn, h0⟩, ⟨hng, h1⟩, -⟩ := id hG
  have gf : ∀ w, ln_G (p_fill (vr I s m) w n) n ng := fun w => ln_G_keep hG (by rw [p_fill_keep _ _ _ _ (by decide)]) (by rw [p_fill_keep _ _ _ _ (by decide)]) (p_fill_keep _ _ _ _ (by decide))
  -- the third loop, over the evening's state L
  have loop3 : ∀ (L : mm_I) (w : Bool), ln_E L n ng → ln_G L n ng → ((if w = true then L else p_int L n) = if p_win (vr I s m) = true then p_fill (vr I s m) true n else p_int (p_hogs (p_fill (vr I s m) false n) n ng a ng) n) → ∀ d k J l5, k + d = n → vr J s m = p_r3 L w k → ml_F s m I J → mm_E 127 95 [some (.ref m), some (.ref s), some (.int a), some (.int (bI w)), some (.int (nI k)), l5] [] J r Q := by
    intro L w hEL hGL hfin d
    induction d with
    | zero =>
      intro k J l5 hk hJ hF
      have : k = n := by omega
      subst this
      have hJ0 : vr J s m 0 0 = nI k := by rw [hJ, p_r3_keep _ _ _ _ (by decide) (by decide)]; exact hGL.1.2
      rw [e127_95]
      simp only [e127_97, e127_98, e127_100, e127_101, e127_208, e127_209, e127_210, e127_211, e127_212, e127_213, e127_214, e127_215, mm_pu_n, mm_pu_s, va_rf_s, mm_w8_0, mm_w8_1, mm_w8_2, mm_w8_3, mm_w8_4, mm_c1_n, mm_c1_i, mm_c1_a, mm_ct_a, mm_ct_i, true_and, and_true, and_self, eq_self, if_true, if_false, ite_true, ite_false, bI_t, bI_z, bI_nz, bI_01, true_or, or_true, reduceCtorEq, false_or, or_false, decide_eq_false_iff_not, decide_eq_true_eq, ite_not, h, c27.1, d27.1, r27 m, hJ0, Int32.le_refl, c27.2.2.2.1, d27.2.2.2.1, r0 m]
      refine hq _ ?_ (hF.u (by decide))
      have v0 : ∀ (N : mm_I) (x : Int32), vr (mm_uI N s 0 x) s m = mm_uI (vr N s m) 0 3 x := fun N x => vr_u (k := 0) (i := 3) hs ⟨by decide, by decide⟩
      rw [v0, hJ, p_r3_eq hEL w k (Nat.le_refl _), hfin]
      rfl
    | succ d ih =>
      intro k J l5 hk hJ hF
      have hk6 : k < 6 := by omega
      have hkn : k < n := by omega
      have hJ0 : vr J s m 0 0 = nI n := by rw [hJ, p_r3_keep _ _ _ _ (by decide) (by decide)]; exact hGL.1.2
      have hJl : (vr J s m 3 k = 3) = (3 ≤ vr J s m 3 k) := by rw [hJ, p_r3_keep _ _ _ _ (by decide) (by decide)]; exact hEL.lk hkn
      rw [e127_95]
      simp only [e127_97, e127_98, e127_100, e127_101, e127_104, e127_105, e127_108, e127_110, e127_111, e127_113, e127_116, e127_119, e127_120, e127_123, e127_124, e127_127, e127_129, mm_pu_n, mm_pu_s, va_rf_s, mm_w8_0, mm_w8_1, mm_w8_2, mm_w8_3, mm_w8_4, mm_c1_n, mm_c1_i, mm_c1_a, mm_ct_a, mm_ct_i, true_and, and_true, and_self, eq_self, if_true, if_false, ite_true, ite_false, bI_t, bI_z, bI_nz, bI_01, true_or, or_true, reduceCtorEq, false_or, or_false, decide_eq_false_iff_not, decide_eq_true_eq, ite_not, h, hm.s0, hm.p12, hm.i9, c27.1, d27.1, r27 m, hJ0, in6 hk6, cl_nI hk6, rr_7 (s := s) (m := m) hk6, u_isLost m h hk6, hJl, nle6 hkn hn, it_i]
      simp only [e127_130, e127_131, e127_132, e127_133, e127_135, e127_136, e127_137, e127_138, e127_139, e127_141, e127_142, e127_143, e127_144, e127_146, e127_147, e127_148, e127_150, e127_151, e127_152, e127_154, e127_155, e127_158, e127_159, e127_161, e127_164, e127_167, e127_168, e127_169, e127_171, e127_172, e127_173, e127_176, mm_pu_n, mm_pu_s, va_rf_s, mm_w8_0, mm_w8_1, mm_w8_2, mm_w8_3, mm_w8_4, mm_c1_n, mm_c1_i, mm_c1_a, mm_ct_a, mm_ct_i, true_and, and_true, and_self, eq_self, if_true, if_false, ite_true, ite_false, bI_t, bI_z, bI_nz, bI_01, true_or, or_true, reduceCtorEq, false_or, or_false, decide_eq_false_iff_not, decide_eq_true_eq, ite_not, h, hm.i9, in6 hk6, cl_nI hk6, u_isLost m h hk6, k3, in2 (show 3 + k < 248 by omega), cl2 (show 3 + k < 248 by omega), r3 m hk6, c27.2.2.1, d27.2.2.1, r26 m, show ¬ ((100 : Int32) = 0) by decide, not_false_eq_true, vr_7 hs hk6, it_i]
      generalize hJa : mm_uI J (m + 9) k _ = Ja
      have hva : vr Ja s m = p_r3a (vr J s m) k := by rw [← hJa, vr_7 hs hk6]; rfl
      have hFa : ml_F s m I Ja := by rw [← hJa]; exact ml_F.w7 hs hF
      have hval : mm_uI (vr J s m) 7 k (if 3 ≤ vr J s m 3 k then 0 else vr J s m 7 k) = vr Ja s m := by rw [hva]; rfl
      rw [hval]
      have hla : (vr Ja s m 3 k = 3) = (3 ≤ vr Ja s m 3 k) := by
        rw [hva]; unfold p_r3a; rw [mu_n (by decide)]; exact hJl
      simp only [hla]
      clear hJa hval
      generalize hx : vr Ja s m 1 k + vr Ja s m 1 k * vr Ja s m 0 2 / 100 = x
      have ex : (if w = false then (if 3 ≤ vr Ja s m 3 k then vr Ja s m 1 k else x) else vr Ja s m 1 k) = (if w = true ∨ 3 ≤ vr Ja s m 3 k then vr Ja s m 1 k else x) := by
        cases w <;> simp
      rw [ex]
      generalize hy : (if w = true ∨ 3 ≤ vr Ja s m 3 k then vr Ja s m 1 k else x) = y
      simp only [e127_178, e127_180, e127_181, e127_182, e127_184, e127_185, e127_187, e127_190, e127_193, e127_196, e127_199, mm_pu_n, mm_pu_s, va_rf_s, mm_w8_0, mm_w8_1, mm_w8_2, mm_w8_3, mm_w8_4, mm_c1_n, mm_c1_i, mm_c1_a, mm_ct_a, mm_ct_i, true_and, and_true, and_self, eq_self, if_true, if_false, ite_true, ite_false, bI_t, bI_z, bI_nz, bI_01, true_or, or_true, reduceCtorEq, false_or, or_false, decide_eq_false_iff_not, decide_eq_true_eq, ite_not, k3, it_i]
      rw [show (if y ≤ 9999 then y else 9999) = p_clr y from rfl]
      simp only [e127_201, e127_202, e127_205, mm_pu_n, mm_pu_s, va_rf_s, mm_w8_0, mm_w8_1, mm_w8_2, mm_w8_3, mm_w8_4, mm_c1_n, mm_c1_i, mm_c1_a, mm_ct_a, mm_ct_i, true_and, and_true, and_self, eq_self, if_true, if_false, ite_true, ite_false, bI_t, bI_z, bI_nz, bI_01, true_or, or_true, reduceCtorEq, false_or, or_false, decide_eq_false_iff_not, decide_eq_true_eq, ite_not, h, in2 (show 3 + k < 248 by omega), cl2 (show 3 + k < 248 by omega), nI_1]
      refine ih (k + 1) _ _ (by omega) ?_ (hFa.u (by omega))
      have v3 : ∀ (N : mm_I) (x : Int32), vr (mm_uI N s (3 + k) x) s m = mm_uI (vr N s m) 1 k x := fun N x => vr_u (k := 1) hs ⟨by decide, hk6⟩
      rw [v3, p_r3, ← hJ, ← hva, hx, hy]
  -- the second loop
  have loop2 : p_win (vr I s m) = false → ∀ d g J l5, g + d = ng → vr J s m = p_hogs (p_fill (vr I s m) false n) n ng a g → ml_F s m I J → mm_E 127 57 [some (.ref m), some (.ref s), some (.int a), some (.int (bI false)), some (.int (nI g)), l5] [] J r Q := by
    intro hw d
    induction d with
    | zero =>
      intro g J l5 hg hJ hF
      have : g = ng := by omega
      subst this
      have hGJ : ln_G (vr J s m) n g := by rw [hJ]; exact p_hogs_G a (gf false) g (Nat.le_refl _)
      rw [e127_57]
      simp only [e127_59, e127_60, e127_62, e127_63, e127_66, e127_67, e127_70, e127_71, e127_73, e127_76, e127_79, e127_80, e127_81, e127_83, e127_86, e127_89, e127_92, e127_93, mm_pu_n, mm_pu_s, va_rf_s, mm_w8_0, mm_w8_1, mm_w8_2, mm_w8_3, mm_w8_4, mm_c1_n, mm_c1_i, mm_c1_a, mm_ct_a, mm_ct_i, true_and, and_true, and_self, eq_self, if_true, if_false, ite_true, ite_false, bI_t, bI_z, bI_nz, bI_01, true_or, or_true, reduceCtorEq, false_or, or_false, decide_eq_false_iff_not, decide_eq_true_eq, ite_not, h, c27.2.1, d27.2.1, r28 m, hGJ.2.1.2, Int32.le_refl]
      refine loop3 (p_hogs (p_fill (vr I s m) false n) n g a g) false (p_hogs_E a (p_fill_E false hR) (gf false) g (Nat.le_refl _)) (p_hogs_G a (gf false) g (Nat.le_refl _)) (by rw [hw]; rfl) n 0 J l5 (by omega) hJ hF
    | succ d ih =>
      intro g J l5 hg hJ hF
      have hg6 : g < 6 := by omega
      have hGJ : ln_G (vr J s m) n ng := by rw [hJ]; exact p_hogs_G a (gf false) g (by omega)
      have hEJ : ln_E (vr J s m) n ng := by rw [hJ]; exact p_hogs_E a (p_fill_E false hR) (gf false) g (by omega)
      rw [e127_57]
      simp only [e127_59, e127_60, e127_62, e127_63, e127_66, e127_67, e127_70, e127_71, e127_73, e127_76, e127_79, e127_80, e127_81, e127_83, mm_pu_n, mm_pu_s, va_rf_s, mm_w8_0, mm_w8_1, mm_w8_2, mm_w8_3, mm_w8_4, mm_c1_n, mm_c1_i, mm_c1_a, mm_ct_a, mm_ct_i, true_and, and_true, and_self, eq_self, if_true, if_false, ite_true, ite_false, bI_t, bI_z, bI_nz, bI_01, true_or, or_true, reduceCtorEq, false_or, or_false, decide_eq_false_iff_not, decide_eq_true_eq, ite_not, h, hm.s0, c27.2.1, d27.2.1, r28 m, hGJ.2.1.2, nle6 (show g < ng by omega) (show ng ≤ 6 by omega), show (bI false = 0) = True from eq_true rfl, u_has]
      simp only [and1, ite_not]
      by_cases c : (a >>> (nI g &&& 31)) &&& 1 = 0
      · rw [if_pos c]
        obtain ⟨p, hp, hpl⟩ := hGJ.2.2 g (by omega)
        refine u_turnIn hm h hs hGJ hEJ (by omega) hp hpl (fun K hK hFK => ?_)
        simp only [mm_pu_n, e127_86, e127_89, mm_c1_i, true_and, nI_1]
        refine ih (g + 1) K l5 (by omega) ?_ (hF.tr hFK)
        rw [p_hogs, if_pos c, hK, ← hJ, hpl, cl_nI (by omega)]
      · rw [if_neg c]
        simp only [e127_86, e127_89, mm_c1_i, true_and, nI_1]
        refine ih (g + 1) J l5 (by omega) ?_ hF
        rw [p_hogs, if_neg c, hJ]
  have loop1 : ∀ d k J, k + d = n → vr J s m = p_fill (vr I s m) (p_win (vr I s m)) k → ml_F s m I J → mm_E 127 8 [some (.ref m), some (.ref s), some (.int a), some (.int (bI (p_win (vr I s m)))), some (.int (nI k)), none] [] J r Q := by
    intro d
    induction d with
    | zero =>
      intro k J hk hJ hF
      have : k = n := by omega
      subst this
      have hJ0 : vr J s m 0 0 = nI k := by rw [hJ, p_fill_keep _ _ _ _ (by decide)]; exact h0
      rw [e127_8]
      simp only [e127_10, e127_11, e127_13, e127_14, e127_54, e127_55, mm_pu_n, mm_pu_s, va_rf_s, mm_w8_0, mm_w8_1, mm_w8_2, mm_w8_3, mm_w8_4, mm_c1_n, mm_c1_i, mm_c1_a, mm_ct_a, mm_ct_i, true_and, and_true, and_self, eq_self, if_true, if_false, ite_true, ite_false, bI_t, bI_z, bI_nz, bI_01, true_or, or_true, reduceCtorEq, false_or, or_false, decide_eq_false_iff_not, decide_eq_true_eq, ite_not, h, c27.1, d27.1, r27 m, hJ0, Int32.le_refl]
      cases hw : p_win (vr I s m) with
      | false =>
        rw [hw] at hJ
        exact loop2 hw ng 0 J none (by omega) hJ hF
      | true =>
        rw [hw] at hJ
        have hJ1 : vr J s m 0 1 = nI ng := by rw [hJ, p_fill_keep _ _ _ _ (by decide)]; exact h1
        simp only [e127_57, e127_59, e127_60, e127_62, e127_63, e127_66, e127_67, e127_92, e127_93, mm_pu_n, mm_pu_s, va_rf_s, mm_w8_0, mm_w8_1, mm_w8_2, mm_w8_3, mm_w8_4, mm_c1_n, mm_c1_i, mm_c1_a, mm_ct_a, mm_ct_i, true_and, and_true, and_self, eq_self, if_true, if_false, ite_true, ite_false, bI_t, bI_z, bI_nz, bI_01, true_or, or_true, reduceCtorEq, false_or, or_false, decide_eq_false_iff_not, decide_eq_true_eq, ite_not, h, c27.2.1, d27.2.1, r28 m, hJ1, show (bI true = 0) = False from eq_false (by decide)]
        have := loop3 (p_fill (vr I s m) true k) true (p_fill_E true hR) (gf true) (by rw [hw]; rfl) k 0 J none (by omega) hJ hF
        split <;> exact this
    | succ d ih =>
      intro k J hk hJ hF
      have hk6 : k < 6 := by omega
      have hJ0 : vr J s m 0 0 = nI n := by rw [hJ, p_fill_keep _ _ _ _ (by decide)]; exact h0
      have hJl : (vr J s m 3 k = 3) = (3 ≤ vr J s m 3 k) := by rw [hJ, p_fill_keep _ _ _ _ (by decide)]; exact hR.lk (by omega)
      rw [e127_8]
      simp only [e127_10, e127_11, e127_13, e127_14, e127_17, e127_18, e127_21, e127_23, e127_24, e127_27, e127_28, e127_30, e127_33, e127_36, e127_37, e127_40, e127_41, e127_43, e127_45, e127_46, mm_pu_n, mm_pu_s, va_rf_s, mm_w8_0, mm_w8_1, mm_w8_2, mm_w8_3, mm_w8_4, mm_c1_n, mm_c1_i, mm_c1_a, mm_ct_a, mm_ct_i, true_and, and_true, and_self, eq_self, if_true, if_false, ite_true, ite_false, bI_t, bI_z, bI_nz, bI_01, true_or, or_true, reduceCtorEq, false_or, or_false, decide_eq_false_iff_not, decide_eq_true_eq, ite_not, h, hm.s0, hm.p12, c27.1, d27.1, r27 m, hJ0, nle6 (show k < n by omega) hn, u_isLost m h hk6, hJl, k9, in2 (show 9 + k < 248 by omega), cl2 (show 9 + k < 248 by omega), r9 m hk6, it_i]
      simp only [e127_47, e127_48, e127_51, mm_pu_n, mm_pu_s, va_rf_s, mm_w8_0, mm_w8_1, mm_w8_2, mm_w8_3, mm_w8_4, mm_c1_n, mm_c1_i, mm_c1_a, mm_ct_a, mm_ct_i, true_and, and_true, and_self, eq_self, if_true, if_false, ite_true, ite_false, bI_t, bI_z, bI_nz, bI_01, true_or, or_true, reduceCtorEq, false_or, or_false, decide_eq_false_iff_not, decide_eq_true_eq, ite_not, hm.i9, in6 hk6, cl_nI hk6, nI_1]
      refine ih (k + 1) _ (by omega) ?_ (ml_F.w7 hs hF)
      rw [vr_7 hs hk6, p_fill, ← hJ]
      congr 1
      cases hw : p_win (vr I s m) with
      | false => simp
      | true => simp
  simp only [e127_0, e127_1, e127_4, e127_5, e127_6, mm_pu_n, mm_pu_s, va_rf_s, mm_w8_0, mm_w8_1, mm_w8_2, mm_w8_3, mm_w8_4, mm_c1_n, mm_c1_i, mm_c1_a, mm_ct_a, mm_ct_i, true_and, and_true, and_self, eq_self, if_true, if_false, ite_true, ite_false, bI_t, bI_z, bI_nz, bI_01, true_or, or_true, reduceCtorEq, false_or, or_false, decide_eq_false_iff_not, decide_eq_true_eq, ite_not, u_isWinter m h]
  exact loop1 n 0 I (by omega) rfl ml_F.rf
end
