theorem s_dr {n ng : Nat} {M N : mm_I} (h : ag (wc n ng) M N) (d : Nat) : ag (wc n ng) (p_dr M n d) (p_dr N n d) := by
  unfold p_dr
  exact ag.ite rfl (h.u 0 5 rfl) ((h.u 0 5 rfl).u 2 _ rfl)
theorem d_df_stq {n ng : Nat} : stq (fun M => d_df M n ng) n ng := fun M N hg h1 h2 h => by
  have e : (N 0 5).toNatClampNeg = (M 0 5).toNatClampNeg := by rw [h 0 5 wc_0]
  refine ⟨?_, dl_dl _, dl_dl _⟩
  show ag (wc n ng) (d_nt (p_dr M n (dr (M 0 5).toNatClampNeg)) n ng 0) (d_nt (p_dr N n (dr (N 0 5).toNatClampNeg)) n ng 0)
  rw [e]
  exact s_d_nt (s_dr h _) (by rw [dl_dr, h1]) (by rw [dl_dr, h2]) 0 (p_dr_gl hg (dr_lt _)).1.1
theorem d_df_eq {M : mm_I} {n ng d : Nat} (h : M 0 5 = nI d) (hd : d < 2 ^ 31) : d_df M n ng = d_nt (p_dr M n (dr d)) n ng 0 := by unfold d_df; rw [h, nI_clamp hd]
section
variable {r : mm_R} {I : mm_I} {a x m : Nat} {Q : Option Value → mm_I → mm_R → Prop}
theorem c_drift {sg : Nat → Nat} {L : mm_I} {bn : Nat} {B : Nat → mm_I} {n ng t : Nat} (hS : HS r x m) (hps : pa_S r (x + 19) sg) (hL : dl (vc I (x + 1)) = L) (hpv : pa_V I (x + 19) sg bn B) (hgd : ∀ k, k ≤ t → gl (nL (fun M => d_df M n ng) L k) n ng) (ht : t ≤ 40) (hq : ∀ J r' sg', rP (x + 19) r r' → pa_S r' (x + 19) sg' → dl (vc J (x + 1)) = nL (fun M => d_df M n ng) L t → pa_V J (x + 19) sg' (nb bn t) (nB (fun M => d_df M n ng) L B bn t) → (∀ q, ¬ (x + 1 ≤ q ∧ q < x + 93) → J q = I q) → Q (some (.int (p_ls (nL (fun M => d_df M n ng) L t) n))) J r') : mm_E 63 30 [some (.ref x), some (.int (nI t)), none] [] I r Q := by
  have loop : ∀ d k J r' sg', k + d = t → rP (x + 19) r r' → pa_S r' (x + 19) sg' → dl (vc J (x + 1)) = nL (fun M => d_df M n ng) L k → pa_V J (x + 19) sg' (nb bn k) (nB (fun M => d_df M n ng) L B bn k) → (∀ q, ¬ (x + 1 ≤ q ∧ q < x + 93) → J q = I q) → mm_E 63 32 [some (.ref x), some (.int (nI t)), some (.int (nI k))] [] J r' Q := by
    intro d
    induction d with
    | zero =>
      intro k J r' sg' hk hr hs1 hJ hV hF
      have : k = t := by omega
      subst this
      have hS2 := HS_P hS hr
      obtain ⟨y0, y1, -⟩ := id hS2.2.1
      have l1 := hS2.2.2.1.1
      have hG := (hgd k (Nat.le_refl _)).1
      have f0 : vc J (x + 1) 0 0 = nI n := by rw [← dl_at (M := vc J (x + 1)) (show 0 < 7 by decide), hJ]; exact hG.1.2
      rw [e63_32]
      simp only [e63_33, e63_34, e63_69, e63_70, e63_73, e63_76, mm_pu_n, mm_pu_s, va_rf_s, mm_w8_0, mm_w8_1, mm_w8_2, mm_w8_3, mm_w8_4, mm_c1_n, mm_c1_i, mm_c1_a, mm_ct_a, mm_ct_i, true_and, and_true, and_self, eq_self, if_true, if_false, ite_true, ite_false, bI_t, bI_z, bI_nz, bI_01, true_or, or_true, reduceCtorEq, false_or, or_false, decide_eq_false_iff_not, decide_eq_true_eq, ite_not, Int32.le_refl, y0, y1, l1.s0, t_lostSet l1 hG.1.1 f0]
      rw [ag_ls (N := nL (fun M => d_df M n ng) L k) (fun i => by rw [← hJ, dl_at (by decide)])]
      exact hq J r' sg' hr hs1 hJ hV hF
    | succ d ih =>
      intro k J r' sg' hk hr hs1 hJ hV hF
      have hS2 := HS_P hS hr
      obtain ⟨y0, y1, y2, y3, -⟩ := id hS2.2.1
      have l1 := hS2.2.2.1.1
      rw [e63_32]
      simp only [e63_33, e63_34, e63_37, e63_38, e63_41, e63_42, e63_45, mm_pu_n, mm_pu_s, va_rf_s, mm_w8_0, mm_w8_1, mm_w8_2, mm_w8_3, mm_w8_4, mm_c1_n, mm_c1_i, mm_c1_a, mm_ct_a, mm_ct_i, true_and, and_true, and_self, eq_self, if_true, if_false, ite_true, ite_false, bI_t, bI_z, bI_nz, bI_01, true_or, or_true, reduceCtorEq, false_or, or_false, decide_eq_false_iff_not, decide_eq_true_eq, ite_not, nI_ge (show k < t by omega) (show t < 2 ^ 31 by omega), y0, y1, y3, hs1.1]
      refine t_remember hs1 hV l1 (by omega) (fun J2 r2 sg2 hr2 hs2 hV2 hF2 => ?_)
      have hS3 := HS_P hS2 hr2
      obtain ⟨z0, z1, -⟩ := id hS3.2.1
      have l3 := hS3.2.2.1.1
      simp only [mm_pu_n, e63_48, e63_49, e63_52, mm_pu_n, mm_pu_s, va_rf_s, mm_w8_0, mm_w8_1, mm_w8_2, mm_w8_3, mm_w8_4, mm_c1_n, mm_c1_i, mm_c1_a, mm_ct_a, mm_ct_i, true_and, and_true, and_self, eq_self, if_true, if_false, ite_true, ite_false, bI_t, bI_z, bI_nz, bI_01, true_or, or_true, reduceCtorEq, false_or, or_false, decide_eq_false_iff_not, decide_eq_true_eq, ite_not, z0, z1, l3.s0]
      have eJ2 : vc J2 (x + 1) = vc J (x + 1) := vc_eq (fun q a b => hF2 q (by omega))
      have eL : ∀ q i, q < 7 → vc J2 (x + 1) q i = nL (fun M => d_df M n ng) L k q i := fun q i hq => by rw [eJ2, ← hJ, dl_at hq]
      have hgk := hgd k (by omega)
      obtain ⟨dd, hdd, edd⟩ := hgk.2.2.1
      refine t_drawSaucer l3 hgk.1.1.1 (by rw [eL 0 0 (by decide)]; exact hgk.1.1.2) hdd (by rw [eL 0 5 (by decide)]; exact edd) (fun J3 hJ3 hF3 => ?_)
      simp only [mm_pu_n, e63_55, e63_56, e63_59, e63_60, mm_pu_n, mm_pu_s, va_rf_s, mm_w8_0, mm_w8_1, mm_w8_2, mm_w8_3, mm_w8_4, mm_c1_n, mm_c1_i, mm_c1_a, mm_ct_a, mm_ct_i, true_and, and_true, and_self, eq_self, if_true, if_false, ite_true, ite_false, bI_t, bI_z, bI_nz, bI_01, true_or, or_true, reduceCtorEq, false_or, or_false, decide_eq_false_iff_not, decide_eq_true_eq, ite_not, z0, z1, l3.s0]
      have e3 : dl (vc J3 (x + 1)) = p_dr (nL (fun M => d_df M n ng) L k) n (dr dd) := by rw [hJ3, dl_dr, eJ2, hJ]
      have hG3 : ln_G (vc J3 (x + 1)) n ng := dl_G.mp (by rw [e3]; exact (p_dr_gl hgk (dr_lt dd)).1.1)
      refine t_passNight l3 hG3 0 (fun K hK hFK => ?_)
      simp only [mm_pu_n, e63_63, e63_66, mm_pu_n, mm_pu_s, va_rf_s, mm_w8_0, mm_w8_1, mm_w8_2, mm_w8_3, mm_w8_4, mm_c1_n, mm_c1_i, mm_c1_a, mm_ct_a, mm_ct_i, true_and, and_true, and_self, eq_self, if_true, if_false, ite_true, ite_false, bI_t, bI_z, bI_nz, bI_01, true_or, or_true, reduceCtorEq, false_or, or_false, decide_eq_false_iff_not, decide_eq_true_eq, ite_not, nI_1]
      refine ih (k + 1) K r2 sg2 (by omega) (hr.tr hr2) hs2 ?_ ⟨⟨hV2.1.1, ?_⟩, fun i hi => ?_⟩ (fun q hq => by rw [hFK q (by omega), hF3 q (by omega), hF2 q (by omega)]; exact hF q hq)
      · rw [hK, d_nt_dl 0 hG3, e3]
        exact (d_df_eq edd hdd).symm
      · rw [rd_F (hFK _ (by omega)), rd_F (hF3 _ (by omega))]; exact hV2.1.2
      · have hle := hV2.1.1
        have hi' : i < b_n (nb bn k) := hi
        have l2 := (hs2.2.2.2.2.1 i (by omega)).1
        rw [vc_F (a := x + 1) (by unfold dj; omega) hFK, vc_F (a := x + 1) (by unfold dj; omega) hF3, hV2.2 i hi', hJ]
        rfl
  simp only [e63_30, e63_31, mm_pu_n, mm_pu_s, va_rf_s, mm_w8_0, mm_w8_1, mm_w8_2, mm_w8_3, mm_w8_4, mm_c1_n, mm_c1_i, mm_c1_a, mm_ct_a, mm_ct_i, true_and, and_true, and_self, eq_self, if_true, if_false, ite_true, ite_false, bI_t, bI_z, bI_nz, bI_01, true_or, or_true, reduceCtorEq, false_or, or_false, decide_eq_false_iff_not, decide_eq_true_eq, ite_not]
  exact loop t 0 I r sg (by omega) rP.rf hps hL hpv (fun _ _ => rfl)
theorem m_drift {L : mm_I} {bn : Nat} {B : Nat → mm_I} {n ng t : Nat} (hml : ml_S r m) (hR : dl (vr I (m + 5) m) = L) (hB : ml_B I (m + 5) bn B) (hgd : ∀ k, k ≤ t → gl (nL (fun M => d_df M n ng) L k) n ng) (ht : t ≤ 40) (hq : ∀ J, dl (vr J (m + 5) m) = nL (fun M => d_df M n ng) L t → ml_B J (m + 5) (nb bn t) (nB (fun M => d_df M n ng) L B bn t) → (∀ q, q ≠ m + 5 → q ≠ m + 9 → q ≠ m + 10 → J q = I q) → Q (some (.int (p_ls (nL (fun M => d_df M n ng) L t) n))) J r) : mm_E 133 29 [some (.ref m), some (.int (nI t)), none] [] I r Q := by
  have hsr : rw_ok (m + 5) m := ⟨by omega, by omega⟩
  have loop : ∀ d k J, k + d = t → dl (vr J (m + 5) m) = nL (fun M => d_df M n ng) L k → ml_B J (m + 5) (nb bn k) (nB (fun M => d_df M n ng) L B bn k) → (∀ q, q ≠ m + 5 → q ≠ m + 9 → q ≠ m + 10 → J q = I q) → mm_E 133 31 [some (.ref m), some (.int (nI t)), some (.int (nI k))] [] J r Q := by
    intro d
    induction d with
    | zero =>
      intro k J hk hJ hV hF
      have : k = t := by omega
      subst this
      have hgk := hgd k (Nat.le_refl _)
      have f0 : vr J (m + 5) m 0 0 = nI n := by rw [← dl_at (M := vr J (m + 5) m) (show 0 < 7 by decide), hJ]; exact hgk.1.1.2
      have hlk : ∀ i, i < n → (vr J (m + 5) m 3 i = 3) = (3 ≤ vr J (m + 5) m 3 i) := fun i hi => (dl_R.mp (by rw [hJ]; exact hgk.2.1)).lk hi
      rw [e133_31]
      simp only [e133_32, e133_33, e133_129, e133_130, e133_133, e133_136, mm_pu_n, mm_pu_s, va_rf_s, mm_w8_0, mm_w8_1, mm_w8_2, mm_w8_3, mm_w8_4, mm_c1_n, mm_c1_i, mm_c1_a, mm_ct_a, mm_ct_i, true_and, and_true, and_self, eq_self, if_true, if_false, ite_true, ite_false, bI_t, bI_z, bI_nz, bI_01, true_or, or_true, reduceCtorEq, false_or, or_false, decide_eq_false_iff_not, decide_eq_true_eq, ite_not, Int32.le_refl, hml.s0, hml.p7, u_lostOnes m hml.i5 hgk.1.1.1 f0 hlk]
      rw [ag_ls (N := nL (fun M => d_df M n ng) L k) (fun i => by rw [← hJ, dl_at (by decide)])]
      exact hq J hJ hV hF
    | succ d ih =>
      intro k J hk hJ hV hF
      have hgk := hgd k (by omega)
      have hn := hgk.1.1.1
      obtain ⟨dd, hdd, edd⟩ := hgk.2.2.1
      have hdr := dr_lt dd
      rw [e133_31]
      simp only [e133_32, e133_33, e133_36, e133_37, mm_pu_n, mm_pu_s, va_rf_s, mm_w8_0, mm_w8_1, mm_w8_2, mm_w8_3, mm_w8_4, mm_c1_n, mm_c1_i, mm_c1_a, mm_ct_a, mm_ct_i, true_and, and_true, and_self, eq_self, if_true, if_false, ite_true, ite_false, bI_t, bI_z, bI_nz, bI_01, true_or, or_true, reduceCtorEq, false_or, or_false, decide_eq_false_iff_not, decide_eq_true_eq, ite_not, nI_ge (show k < t by omega) (show t < 2 ^ 31 by omega), hml.s0]
      refine u_note hml hV (fun J2 h1 h2 h3 => ?_)
      have e2 : dl (vr J2 (m + 5) m) = nL (fun M => d_df M n ng) L k := by rw [← hJ]; exact vr_row h2
      have eL : ∀ q i, q < 7 → vr J2 (m + 5) m q i = nL (fun M => d_df M n ng) L k q i := fun q i hq => by rw [← e2, dl_at hq]
      have f0 : vr J2 (m + 5) m 0 0 = nI n := by rw [eL 0 0 (by decide)]; exact hgk.1.1.2
      have f5 : vr J2 (m + 5) m 0 5 = nI dd := by rw [eL 0 5 (by decide)]; exact edd
      have v1 : ∀ (N : mm_I) (y : Int32), vr (mm_uI N (m + 5) 1 y) (m + 5) m = mm_uI (vr N (m + 5) m) 0 5 y := fun N y => vr_u (k := 0) (i := 5) hsr ⟨by decide, by decide⟩
      have f01 : ∀ y : Int32, mm_uI (vr J2 (m + 5) m) 0 5 y 0 0 = nI n := fun y => by rw [mu_j (by decide)]; exact f0
      have key : ∀ J3 : mm_I, dl (vr J3 (m + 5) m) = p_dr (nL (fun M => d_df M n ng) L k) n (dr dd) → (∀ q, q ≠ m + 5 → J3 q = J2 q) → (∀ i, 39 ≤ i → J3 (m + 5) i = J2 (m + 5) i) → mm_E 133 114 [some (.ref m), some (.int (nI t)), some (.int (nI k))] [] J3 r Q := by
        intro J3 e3 o3 b3
        simp only [e133_114, e133_115, e133_116, e133_119, e133_120, mm_pu_n, mm_pu_s, va_rf_s, mm_w8_0, mm_w8_1, mm_w8_2, mm_w8_3, mm_w8_4, mm_c1_n, mm_c1_i, mm_c1_a, mm_ct_a, mm_ct_i, true_and, and_true, and_self, eq_self, if_true, if_false, ite_true, ite_false, bI_t, bI_z, bI_nz, bI_01, true_or, or_true, reduceCtorEq, false_or, or_false, decide_eq_false_iff_not, decide_eq_true_eq, ite_not, hml.s0, hml.p7]
        have hg3 := (p_dr_gl hgk (dr_lt dd)).1
        have hG3 : ln_G (vr J3 (m + 5) m) n ng := dl_G.mp (by rw [e3]; exact hg3.1)
        refine u_nightIn hml hml.i5 hsr hG3 (dl_R.mp (by rw [e3]; exact hg3.2.1)) 0 (fun K hK hFK => ?_)
        simp only [mm_pu_n, e133_123, e133_126, mm_pu_n, mm_pu_s, va_rf_s, mm_w8_0, mm_w8_1, mm_w8_2, mm_w8_3, mm_w8_4, mm_c1_n, mm_c1_i, mm_c1_a, mm_ct_a, mm_ct_i, true_and, and_true, and_self, eq_self, if_true, if_false, ite_true, ite_false, bI_t, bI_z, bI_nz, bI_01, true_or, or_true, reduceCtorEq, false_or, or_false, decide_eq_false_iff_not, decide_eq_true_eq, ite_not, nI_1]
        refine ih (k + 1) K (by omega) ?_ ?_ (fun q a b c => by rw [hFK.1 q a b c, o3 q a, h1 q a]; exact hF q a b c)
        · rw [hK, d_nt_dl 0 hG3, e3]
          exact (d_df_eq edd hdd).symm
        · rw [hJ] at h3
          exact ml_B_keep h3 (fun i a b => by rw [hFK.2 i a, b3 i a])
      simp only [mm_pu_n, e133_40, e133_41, e133_44, e133_45, e133_46, e133_49, e133_50, e133_51, e133_52, e133_55, e133_56, e133_59, e133_60, e133_63, e133_64, e133_65, e133_66, e133_67, e133_70, e133_72, e133_73, mm_pu_n, mm_pu_s, va_rf_s, mm_w8_0, mm_w8_1, mm_w8_2, mm_w8_3, mm_w8_4, mm_c1_n, mm_c1_i, mm_c1_a, mm_ct_a, mm_ct_i, true_and, and_true, and_self, eq_self, if_true, if_false, ite_true, ite_false, bI_t, bI_z, bI_nz, bI_01, true_or, or_true, reduceCtorEq, false_or, or_false, decide_eq_false_iff_not, decide_eq_true_eq, ite_not, hml.s0, hml.p7, hml.i5, c27.2.2.2.2.2.1, d27.2.2.2.2.2.1, c27.1, d27.1, r1 m, f5, dr_m hdd, r27 m, v1, f01, show ¬ ((2147483648 : Int64) = 0) by decide, not_false_eq_true]
      by_cases c : n = 0
      · subst c
        rw [if_pos (by decide)]
        refine key _ ?_ (fun q hq => mu_n hq) (fun i hi => mu_j (by omega))
        rw [v1, dl_u (by decide), e2]
        rfl
      · have hm6 : dr dd / 65536 % n < 6 := Nat.lt_of_lt_of_le (Nat.mod_lt _ (by omega)) hn
        rw [if_neg (nI_nle (by omega) (by omega))]
        simp only [e133_76, e133_77, e133_80, e133_82, e133_83, e133_86, e133_87, e133_88, e133_90, e133_91, e133_92, e133_95, e133_97, e133_98, e133_99, e133_100, e133_101, e133_104, e133_105, e133_106, e133_109, e133_110, e133_112, e133_113, mm_pu_n, mm_pu_s, va_rf_s, mm_w8_0, mm_w8_1, mm_w8_2, mm_w8_3, mm_w8_4, mm_c1_n, mm_c1_i, mm_c1_a, mm_ct_a, mm_ct_i, true_and, and_true, and_self, eq_self, if_true, if_false, ite_true, ite_false, bI_t, bI_z, bI_nz, bI_01, true_or, or_true, reduceCtorEq, false_or, or_false, decide_eq_false_iff_not, decide_eq_true_eq, ite_not, hml.s0, hml.p7, hml.i5, c27.2.2.2.2.2.1, d27.2.2.2.2.2.1, c27.1, d27.1, r1 m, r27 m, v1, f01, mu_s, ix_dr hdr (show 0 < n by omega) hn, sc_dr hdr, k9, in2 (show 9 + dr dd / 65536 % n < 248 by omega), cl2 (show 9 + dr dd / 65536 % n < 248 by omega), nI_ne0 (show 0 < n by omega) (show n < 2 ^ 31 by omega), show ¬ ((65536 : Int32) = 0) by decide, show ¬ ((128 : Int32) = 0) by decide, show ¬ ((21 : Int32) = 0) by decide, not_false_eq_true]
        refine key _ ?_ (fun q hq => by rw [mu_n hq, mu_n hq]) (fun i hi => by rw [mu_j (by omega), mu_j (by omega)])
        have v9 : ∀ (N : mm_I) (y : Int32), vr (mm_uI N (m + 5) (9 + dr dd / 65536 % n) y) (m + 5) m = mm_uI (vr N (m + 5) m) 2 (dr dd / 65536 % n) y := fun N y => vr_u (k := 2) hsr ⟨by decide, hm6⟩
        rw [v9, v1, dl_u (by decide), dl_u (by decide), e2]
        unfold p_dr
        rw [if_neg c]
  simp only [e133_29, e133_30, mm_pu_n, mm_pu_s, va_rf_s, mm_w8_0, mm_w8_1, mm_w8_2, mm_w8_3, mm_w8_4, mm_c1_n, mm_c1_i, mm_c1_a, mm_ct_a, mm_ct_i, true_and, and_true, and_self, eq_self, if_true, if_false, ite_true, ite_false, bI_t, bI_z, bI_nz, bI_01, true_or, or_true, reduceCtorEq, false_or, or_false, decide_eq_false_iff_not, decide_eq_true_eq, ite_not]
  exact loop t 0 I (by omega) hR hB (fun _ _ _ _ => rfl)
theorem a_drift (h : ALL I r x m) (t : Int32) : pr 63 133 [some (.ref x), some (.int t), none] [some (.ref m), some (.int t), none] I r x m := by
  obtain ⟨hS, ⟨sg, L, bn, B, n, ng, Lr, Br, hg⟩, hG2, hG3, hG4⟩ := id h
  obtain ⟨hm, hx, ⟨l1, l2, l3, l4⟩, hip, hpt, htp, hsh, hml⟩ := id hS
  obtain ⟨x0, x1, x2, x3, x4, x5, x6, x7, x8⟩ := id hx
  obtain ⟨⟨hps, hL, hpv⟩, ⟨hR, hB⟩, ⟨⟨⟨hG, hRR, hdr, hnt⟩, hbk⟩, ⟨⟨hG', hRR', hdr', hnt'⟩, hbk'⟩, hsm, hsB⟩⟩ := id hg
  have hLL : dl L = L := by rw [← hL]; exact dl_dl _
  have hLr : dl Lr = Lr := by rw [← hR]; exact dl_dl _
  have hs6 := s_6 hsm hLL hLr
  have vL : ∀ q i, q < 7 → vc I (x + 1) q i = L q i := fun q i hq => by rw [← hL, dl_at hq]
  have vR : ∀ q i, q < 7 → vr I (m + 5) m q i = Lr q i := fun q i hq => by rw [← hR, dl_at hq]
  have vRh : ∀ {k : Nat}, k < n → ∀ q, 1 ≤ q ∧ q ≤ 3 → vr I (m + 5) m q k = L q k := fun hk q hq => (vR q _ (by omega)).trans (hsm q _ (wc_h hq hk)).symm
  have vRg : ∀ {k : Nat}, k < ng → ∀ q, 4 ≤ q ∧ q ≤ 6 → vr I (m + 5) m q k = L q k := fun hk q hq => (vR q _ (by omega)).trans (hsm q _ (wc_g hq hk)).symm
  obtain ⟨⟨hn, e0⟩, ⟨hng, e1⟩, hpl⟩ := id hG
  have f0 : vc I (x + 1) 0 0 = nI n := by rw [vL 0 0 (by decide)]; exact e0
  have f1 : vc I (x + 1) 0 1 = nI ng := by rw [vL 0 1 (by decide)]; exact e1
  have g0 : vr I (m + 5) m 0 0 = nI n := by rw [vR 0 0 (by decide)]; exact hG'.1.2
  have g1 : vr I (m + 5) m 0 1 = nI ng := by rw [vR 0 1 (by decide)]; exact hG'.2.1.2
  unfold pr
  cases hk : wth t 1 40 with
  | false =>
    simp only [e63_0, e63_1, e63_2, e63_4, e63_7, e63_10, e63_11, e63_12, e63_13, e63_16, e63_19, e63_20, e63_21, e63_24, e63_27, e63_29, e63_30, e63_31, e63_32, e63_33, e63_34, e63_37, e63_38, e63_41, e63_42, e63_45, e63_48, e63_49, e63_52, e63_55, e63_56, e63_59, e63_60, e63_63, e63_66, e63_69, e63_70, e63_73, e63_76, e133_0, e133_1, e133_2, e133_4, e133_7, e133_10, e133_11, e133_12, e133_13, e133_16, e133_17, e133_18, e133_19, e133_20, e133_23, e133_26, e133_28, mm_pu_n, mm_pu_s, va_rf_s, mm_w8_0, mm_w8_1, mm_w8_2, mm_w8_3, mm_w8_4, mm_c1_n, mm_c1_i, mm_c1_a, mm_ct_a, mm_ct_i, true_and, and_true, and_self, eq_self, if_true, if_false, ite_true, ite_false, bI_t, bI_z, bI_nz, bI_01, true_or, or_true, reduceCtorEq, false_or, or_false, decide_eq_false_iff_not, decide_eq_true_eq, ite_not, t_within, u_inw, hk, Bool.false_eq_true]
    exact fi_i _ h rfl rfl
  | true =>
    obtain ⟨t', ht1, ht, rfl⟩ := wth_of hk (a := 1) (b := 40) (by decide) (by decide) (by decide) (by decide)
    obtain ⟨t0, ht0, et0⟩ := id hnt
    simp only [e63_0, e63_1, e63_2, e63_4, e63_7, e63_10, e63_11, e63_12, e63_13, e63_16, e63_19, e63_20, e63_21, e63_24, e63_27, e63_29, mm_pu_n, mm_pu_s, va_rf_s, mm_w8_0, mm_w8_1, mm_w8_2, mm_w8_3, mm_w8_4, mm_c1_n, mm_c1_i, mm_c1_a, mm_ct_a, mm_ct_i, true_and, and_true, and_self, eq_self, if_true, if_false, ite_true, ite_false, bI_t, bI_z, bI_nz, bI_01, true_or, or_true, reduceCtorEq, false_or, or_false, decide_eq_false_iff_not, decide_eq_true_eq, ite_not, x0, x1, x2, x3, x4, x5, x6, x7, x8, l1.s0, l1.p6, l1.p7, l1.p8, l1.p9, l1.p10, l1.p11, l1.p12, l1.p13, l1.i1, l1.i2, l1.i3, l1.i4, l1.i5, l1.i6, l1.i7, l1.i8, t_within, hk, Bool.true_eq_false, rd_0 (a := x + 1) (i := 3) (by decide), vL 0 3 (by decide), et0, nI_add]
    by_cases c : t0 + t' ≤ 9999
    · rw [if_pos (by rw [show (9999 : Int32) = nI 9999 from by decide]; exact nI_le c (by decide))]
      have hall := nL_gdd (t := t') d_df_stp d_df_stq hg.2.2 hLL hLr et0 c
      refine c_drift hS hps hL hpv (fun k hk => (hall k hk).1.1.1.1) ht (fun J r' sg' hr hs1 hJ hV hF => ?_)
      have hS2 := HS_P hS hr
      have hml' : ml_S r' m := hS2.2.2.2.2.2.2.2
      obtain ⟨q1, q2⟩ := rM (I1 := J) ⟨hR, hB⟩ (hF _ (by omega))
      have gJ3 : vr J (m + 5) m 0 3 = nI t0 := by rw [← dl_at (M := vr J (m + 5) m) (show 0 < 7 by decide), q1, ← hsm 0 3 wc_0]; exact et0
      simp only [e133_0, e133_1, e133_2, e133_4, e133_7, e133_10, e133_11, e133_12, e133_13, e133_16, e133_17, e133_18, e133_19, e133_20, e133_23, e133_26, e133_28, mm_pu_n, mm_pu_s, va_rf_s, mm_w8_0, mm_w8_1, mm_w8_2, mm_w8_3, mm_w8_4, mm_c1_n, mm_c1_i, mm_c1_a, mm_ct_a, mm_ct_i, true_and, and_true, and_self, eq_self, if_true, if_false, ite_true, ite_false, bI_t, bI_z, bI_nz, bI_01, true_or, or_true, reduceCtorEq, false_or, or_false, decide_eq_false_iff_not, decide_eq_true_eq, ite_not, hml'.s0, hml'.p7, hml'.i5, u_inw, hk, Bool.true_eq_false, c27.2.2.2.1, d27.2.2.2.1, r0 m, gJ3, nI_add]
      rw [if_pos (by rw [show (9999 : Int32) = nI 9999 from by decide]; exact nI_le c (by decide))]
      rw [s_ls (hall t' (Nat.le_refl _)).1.1.2.2.1 n (Nat.le_refl _)]
      refine m_drift hml' q1 q2 (fun k hk => (hall k hk).1.1.2.1.1) ht (fun K hK hKB hKF => ?_)
      exact fi_i _ (ALL_mk h hS2 hr.1 ⟨hs1, hJ, hV⟩ hF ⟨hK, hKB⟩ hKF (hall t' (Nat.le_refl _)).1.1) hr.2.2.2.1 hr.2.2.2.2
    · have nc : ¬ nI (t0 + t') ≤ 9999 := by rw [show (9999 : Int32) = nI 9999 from by decide]; exact nI_ge (by omega) (by omega)
      rw [if_neg nc]
      simp only [e133_0, e133_1, e133_2, e133_4, e133_7, e133_10, e133_11, e133_12, e133_13, e133_16, e133_17, e133_18, e133_19, e133_20, e133_23, e133_26, e133_28, mm_pu_n, mm_pu_s, va_rf_s, mm_w8_0, mm_w8_1, mm_w8_2, mm_w8_3, mm_w8_4, mm_c1_n, mm_c1_i, mm_c1_a, mm_ct_a, mm_ct_i, true_and, and_true, and_self, eq_self, if_true, if_false, ite_true, ite_false, bI_t, bI_z, bI_nz, bI_01, true_or, or_true, reduceCtorEq, false_or, or_false, decide_eq_false_iff_not, decide_eq_true_eq, ite_not, hml.s0, hml.p7, hml.i5, u_inw, hk, Bool.true_eq_false, c27.2.2.2.1, d27.2.2.2.1, r0 m, vR 0 3 (by decide), ← hsm 0 3 wc_0, et0, nI_add]
      rw [if_neg nc]
      exact fi_i _ h rfl rfl
end
