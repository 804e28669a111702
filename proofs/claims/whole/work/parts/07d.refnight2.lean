theorem it_v2 (c : Prop) [Decidable c] (I J : mm_I) (s m : Nat) : vr (if c then I else J) s m = if c then vr I s m else vr J s m := by split <;> rfl
theorem it_F2 {s m : Nat} {I J K : mm_I} {c : Prop} [Decidable c] (h1 : ml_F s m I J) (h2 : ml_F s m I K) : ml_F s m I (if c then J else K) := by split <;> assumption
theorem mn_le (x y : Int32) : (if y ≤ x then y else x) = if x ≤ y then x else y := by
  by_cases h1 : y ≤ x
  · rw [if_pos h1]
    by_cases h2 : x ≤ y
    · rw [if_pos h2]; exact Int32.le_antisymm h1 h2
    · rw [if_neg h2]
  · rw [if_neg h1, if_pos (Int32.le_of_lt (Int32.not_le.mp h1))]
section
variable {r : mm_R} {I : mm_I} {s m : Nat} {Q : Option Value → mm_I → mm_R → Prop}
theorem u_turnIn (hm : ml_S r m) (h : ∀ x, mm_ix r s 2 x = vp_in x 248) (hs : rw_ok s m) {n ng g p : Nat} (hG : ln_G (vr I s m) n ng) (hE : ln_E (vr I s m) n ng) (hg : g < ng) (hp : p < n) (hpl : vr I s m 6 g = nI p) (hq : ∀ J, vr J s m = p_vis (vr I s m) n ng g p → ml_F s m I J → Q none J r) : mm_E 126 0 [some (.ref m), some (.ref s), some (.int (nI g)), none, none, none] [] I r Q := by
  obtain ⟨⟨hn, h0⟩, ⟨hng, h1⟩, -⟩ := id hG
  have hg5 : g < 5 := by omega
  have hp6 : p < 6 := by omega
  simp only [e126_0, e126_1, e126_3, e126_4, e126_5, e126_6, e126_7, e126_8, e126_9, e126_12, mm_pu_n, mm_pu_s, va_rf_s, mm_w8_0, mm_w8_1, mm_w8_2, mm_w8_3, mm_w8_4, mm_c1_n, mm_c1_i, mm_c1_a, mm_ct_a, mm_ct_i, true_and, and_true, and_self, eq_self, if_true, if_false, ite_true, ite_false, bI_t, bI_z, bI_nz, bI_01, true_or, or_true, reduceCtorEq, false_or, or_false, decide_eq_false_iff_not, decide_eq_true_eq, ite_not, h, k21, in2 (show 21 + g < 248 by omega), cl2 (show 21 + g < 248 by omega), r21 m hg5, hpl, u_isLost m h hp6, hE.lk hp]
  by_cases c : 3 ≤ vr I s m 3 p
  · rw [if_pos c]
    simp only [e126_15, e126_16, e126_17, e126_18, e126_21, mm_pu_n, mm_pu_s, va_rf_s, mm_w8_0, mm_w8_1, mm_w8_2, mm_w8_3, mm_w8_4, mm_c1_n, mm_c1_i, mm_c1_a, mm_ct_a, mm_ct_i, true_and, and_true, and_self, eq_self, if_true, if_false, ite_true, ite_false, bI_t, bI_z, bI_nz, bI_01, true_or, or_true, reduceCtorEq, false_or, or_false, decide_eq_false_iff_not, decide_eq_true_eq, ite_not]
    rw [show (some (Value.int 0) : Option Value) = some (.int (bI false)) from rfl]
    refine u_goesOn m h hs hG (fun k hk => hE.lk hk) hg5 hp hpl false (fun J hJ hF => ?_)
    simp only [mm_pu_n, e126_21]
    refine hq J ?_ hF
    rw [hJ]
    unfold p_vis p_vis1 p_hadq
    simp [c]
  · rw [if_neg c]
    simp only [e126_22, e126_23, e126_24, e126_27, e126_29, e126_30, e126_33, e126_34, e126_35, e126_37, e126_40, e126_41, e126_44, e126_45, e126_46, e126_49, mm_pu_n, mm_pu_s, va_rf_s, mm_w8_0, mm_w8_1, mm_w8_2, mm_w8_3, mm_w8_4, mm_c1_n, mm_c1_i, mm_c1_a, mm_ct_a, mm_ct_i, true_and, and_true, and_self, eq_self, if_true, if_false, ite_true, ite_false, bI_t, bI_z, bI_nz, bI_01, true_or, or_true, reduceCtorEq, false_or, or_false, decide_eq_false_iff_not, decide_eq_true_eq, ite_not, h, hm.s0, hm.p12, hm.i9, u_mealOf m h hg5, in6 hp6, cl_nI hp6, rr_7 (s := s) (m := m) hp6, it_i]
    rw [mn_le]
    rw [show (if vr I s m 7 p ≤ p_ap (vr I s m) g then vr I s m 7 p else p_ap (vr I s m) g) = p_had (vr I s m) g p from rfl]
    have hE2 := (p_eat_E hE hg hp c).1
    have hLa := (p_eat_E hE hg hp c).2
    have hG2 : ln_G (p_eat (vr I s m) g p) n ng := ln_G_keep hG (p_eat_keep _ _ _ _ _ (by omega)) (p_eat_keep _ _ _ _ _ (by omega)) (funext fun i => p_eat_keep _ _ _ _ _ (by omega))
    have hpl2 : p_eat (vr I s m) g p 6 g = nI p := by rw [p_eat_keep _ _ _ _ _ (by omega)]; exact hpl
    have hvis : p_vis (vr I s m) n ng g p = if p_had (vr I s m) g p = p_ap (vr I s m) g ∧ (p_eat (vr I s m) g p 4 g = 1 ∨ p_eat (vr I s m) g p 4 g = 3) then p_eat (vr I s m) g p else mm_uI (p_eat (vr I s m) g p) 6 g (nI (p_nxt (p_eat (vr I s m) g p) n ng g p)) := by
      unfold p_vis p_vis1 p_hadq
      simp [c]
    have hev : p_eat (vr I s m) g p = p_eat4 (p_eat3 (p_eat2 (p_eat1 (vr I s m) p (p_had (vr I s m) g p)) p (p_had (vr I s m) g p)) p (p_had (vr I s m) g p)) p (p_had (vr I s m) g p) (p_ap (vr I s m) g) := rfl
    generalize p_eat (vr I s m) g p = E at hE2 hG2 hpl2 hvis hev hLa
    generalize p_ap (vr I s m) g = w at hev hvis hLa
    generalize p_had (vr I s m) g p = d at hev hvis hLa
    simp only [e126_51, e126_53, e126_54, e126_57, e126_58, e126_59, e126_60, e126_62, e126_63, e126_64, e126_65, e126_66, e126_67, e126_68, e126_70, e126_71, e126_72, e126_73, e126_74, e126_75, e126_76, e126_77, e126_78, e126_79, e126_80, e126_81, e126_83, e126_86, e126_87, e126_88, e126_89, e126_90, e126_91, e126_93, e126_94, e126_97, mm_pu_n, mm_pu_s, va_rf_s, mm_w8_0, mm_w8_1, mm_w8_2, mm_w8_3, mm_w8_4, mm_c1_n, mm_c1_i, mm_c1_a, mm_ct_a, mm_ct_i, true_and, and_true, and_self, eq_self, if_true, if_false, ite_true, ite_false, bI_t, bI_z, bI_nz, bI_01, true_or, or_true, reduceCtorEq, false_or, or_false, decide_eq_false_iff_not, decide_eq_true_eq, ite_not, h, hm.s0, hm.p12, hm.i9, in6 hp6, cl_nI hp6, rr_7 (s := s) (m := m) hp6, k3, in2 (show 3 + p < 248 by omega), cl2 (show 3 + p < 248 by omega), r3 m hp6, c27.2.2.2.2.1, d27.2.2.2.2.1, r2 m, vr_7 hs hp6, it_i]
    simp only [e126_98, e126_99, e126_100, e126_103, e126_104, e126_105, e126_106, e126_108, e126_111, e126_112, e126_115, mm_pu_n, mm_pu_s, va_rf_s, mm_w8_0, mm_w8_1, mm_w8_2, mm_w8_3, mm_w8_4, mm_c1_n, mm_c1_i, mm_c1_a, mm_ct_a, mm_ct_i, true_and, and_true, and_self, eq_self, if_true, if_false, ite_true, ite_false, bI_t, bI_z, bI_nz, bI_01, true_or, or_true, reduceCtorEq, false_or, or_false, decide_eq_false_iff_not, decide_eq_true_eq, ite_not, h, hm.s0, hm.p13, hm.i10, in6 hp6, cl_nI hp6, rr_8 (s := s) (m := m) hp6, in2 (show 3 + p < 248 by omega), cl2 (show 3 + p < 248 by omega), it_i]
    simp only [e126_116, e126_117, mm_pu_n, mm_pu_s, va_rf_s, mm_w8_0, mm_w8_1, mm_w8_2, mm_w8_3, mm_w8_4, mm_c1_n, mm_c1_i, mm_c1_a, mm_ct_a, mm_ct_i, true_and, and_true, and_self, eq_self, if_true, if_false, ite_true, ite_false, bI_t, bI_z, bI_nz, bI_01, true_or, or_true, reduceCtorEq, false_or, or_false, decide_eq_false_iff_not, decide_eq_true_eq, ite_not, h, hm.i10, in6 hp6, cl_nI hp6]
    generalize hJ : mm_uI _ (m + 10) p _ = J
    have v2 : ∀ (K : mm_I) (x : Int32), vr (mm_uI K s 2 x) s m = mm_uI (vr K s m) 0 4 x := fun K x => vr_u (k := 0) (i := 4) hs ⟨by decide, by decide⟩
    have v3 : ∀ (K : mm_I) (x : Int32), vr (mm_uI K s (3 + p) x) s m = mm_uI (vr K s m) 1 p x := fun K x => vr_u (k := 1) hs ⟨by decide, hp6⟩
    have hJ3 : vr J s m = p_eat3 (p_eat2 (p_eat1 (vr I s m) p d) p d) p d := by
      rw [← hJ, vr_8 hs hp6]
      have e0 : vr (mm_uI (mm_uI (mm_uI I (m + 9) p (vr I s m 7 p - d)) s 2 (mm_uI (vr I s m) 7 p (vr I s m 7 p - d) 0 4 + d)) s (3 + p) (if mm_uI (mm_uI (vr I s m) 7 p (vr I s m 7 p - d)) 0 4 (mm_uI (vr I s m) 7 p (vr I s m 7 p - d) 0 4 + d) 1 p ≤ d then 0 else mm_uI (mm_uI (vr I s m) 7 p (vr I s m 7 p - d)) 0 4 (mm_uI (vr I s m) 7 p (vr I s m 7 p - d) 0 4 + d) 1 p - d)) s m = p_eat2 (p_eat1 (vr I s m) p d) p d := by
        rw [v3, v2, vr_7 hs hp6]; rfl
      simp only [v3, v2, vr_7 hs hp6] at e0 ⊢
      unfold p_eat3
      rw [← e0]
      by_cases z : d ≤ 0
      · rw [if_pos z, if_pos z, Int32.add_zero, mu_self]
      · rw [if_neg z, if_neg z]
    have hF : ml_F s m I J := by
      rw [← hJ]
      exact ml_F.w8 hs (((ml_F.w7 hs ml_F.rf).u (by decide)).u (by omega))
    clear hJ
    simp only [e126_118, e126_120, e126_122, e126_125, e126_126, e126_127, e126_128, e126_129, e126_130, e126_133, e126_134, e126_136, e126_137, e126_138, e126_139, e126_140, e126_141, e126_142, mm_pu_n, mm_pu_s, va_rf_s, mm_w8_0, mm_w8_1, mm_w8_2, mm_w8_3, mm_w8_4, mm_c1_n, mm_c1_i, mm_c1_a, mm_ct_a, mm_ct_i, true_and, and_true, and_self, eq_self, if_true, if_false, ite_true, ite_false, bI_t, bI_z, bI_nz, bI_01, true_or, or_true, reduceCtorEq, false_or, or_false, decide_eq_false_iff_not, decide_eq_true_eq, ite_not, h, k3, k15, in2 (show 3 + p < 248 by omega), cl2 (show 3 + p < 248 by omega), r3 m hp6, in2 (show 15 + p < 248 by omega), cl2 (show 15 + p < 248 by omega), r15 m hp6, it_m]
    generalize hK : (if w ≤ d then _ else _ : mm_I) = K
    have hK4 : vr K s m = E := by
      rw [← hK, it_v2, it_v2, hev, ← hJ3]
      have v15 : ∀ (N : mm_I) (x : Int32), vr (mm_uI N s (15 + p) x) s m = mm_uI (vr N s m) 3 p x := fun N x => vr_u (k := 3) hs ⟨by decide, hp6⟩
      simp only [v15]
      rfl
    have hFK : ml_F s m I K := by
      rw [← hK]
      exact it_F2 hF (it_F2 hF (hF.u (by omega)))
    clear hK
    have hlk : ∀ k, k < n → (vr K s m 3 k = 3) = (3 ≤ vr K s m 3 k) := fun k hk => by rw [hK4]; exact hE2.lk hk
    simp only [e126_143, e126_144, e126_145, e126_147, e126_149, e126_152, e126_153, e126_154, e126_157, e126_160, e126_161, e126_164, mm_pu_n, mm_pu_s, va_rf_s, mm_w8_0, mm_w8_1, mm_w8_2, mm_w8_3, mm_w8_4, mm_c1_n, mm_c1_i, mm_c1_a, mm_ct_a, mm_ct_i, true_and, and_true, and_self, eq_self, if_true, if_false, ite_true, ite_false, bI_t, bI_z, bI_nz, bI_01, true_or, or_true, reduceCtorEq, false_or, or_false, decide_eq_false_iff_not, decide_eq_true_eq, ite_not, u_isLost m h hp6, hlk p hp, it_i]
    have hb : (if d = w then (if 3 ≤ vr K s m 3 p then (0 : Int32) else 1) else 0) = bI (decide (d = w)) := by
      by_cases z : d = w
      · have := hLa z
        rw [← hK4] at this
        simp [z, this, bI]
      · simp [z, bI]
    rw [hb]
    simp only [e126_165, e126_168, mm_pu_n, mm_pu_s, va_rf_s, mm_w8_0, mm_w8_1, mm_w8_2, mm_w8_3, mm_w8_4, mm_c1_n, mm_c1_i, mm_c1_a, mm_ct_a, mm_ct_i, true_and, and_true, and_self, eq_self, if_true, if_false, ite_true, ite_false, bI_t, bI_z, bI_nz, bI_01, true_or, or_true, reduceCtorEq, false_or, or_false, decide_eq_false_iff_not, decide_eq_true_eq, ite_not]
    refine u_goesOn m h hs (by rw [hK4]; exact hG2) hlk hg5 hp (by rw [hK4]; exact hpl2) (decide (d = w)) (fun J2 hJ2 hF2 => ?_)
    simp only [mm_pu_n, e126_168]
    refine hq J2 ?_ (hFK.tr hF2)
    rw [hJ2, hvis, hK4]
    simp
end
