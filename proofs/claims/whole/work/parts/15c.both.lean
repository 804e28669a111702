def MI (J : mm_I) (s : mm_R) (m : Nat) : Prop := (∀ k, k < 4 → J (m + 1) k = -1) ∧ (∀ k, k < 4 → J (m + 2) k = 0) ∧ (∀ i, mm_G s (m + 3) i = 0) ∧ J m 3 = 0 ∧ J m 11 = 0 ∧ (∀ i, J (m + 5) i = if i = 26 then 5 else if i = 1 then 1 else 0)
theorem q248 : (¬ (4 : Int32) < 0) ∧ (4 : Int32).toNatClampNeg = 4 ∧ (4 ≤ 1000) ∧ (¬ (96 : Int32) < 0) ∧ (96 : Int32).toNatClampNeg = 96 ∧ (96 ≤ 1000) ∧ (¬ (80 : Int32) < 0) ∧ (80 : Int32).toNatClampNeg = 80 ∧ (80 ≤ 1000) ∧ (¬ (248 : Int32) < 0) ∧ (248 : Int32).toNatClampNeg = 248 ∧ (248 ≤ 1000) := by decide
section
variable {r : mm_R} {I : mm_I} {m : Nat} {Q : Option Value → mm_I → mm_R → Prop}
theorem m_lanes (hml : ml_S r m) (hc : ∀ K, (∀ q, q ≠ m + 1 → K q = I q) → (∀ i, i < 4 → K (m + 1) i = -1) → mm_E 92 122 [some (.ref m), some (.int (nI 4))] [] K r Q) : ∀ d k J, k + d = 4 → (∀ q, q ≠ m + 1 → J q = I q) → (∀ i, i < k → J (m + 1) i = -1) → mm_E 92 104 [some (.ref m), some (.int (nI k))] [] J r Q := by
  intro d
  induction d with
  | zero =>
    intro k J hk hF h1
    have : k = 4 := by omega
    subst this
    rw [e92_104]
    simp only [e92_105, e92_106, mm_pu_n, mm_pu_s, va_rf_s, mm_w8_0, mm_w8_1, mm_w8_2, mm_w8_3, mm_w8_4, mm_c1_n, mm_c1_i, mm_c1_a, mm_ct_a, mm_ct_i, true_and, and_true, and_self, eq_self, if_true, if_false, ite_true, ite_false, bI_t, bI_z, bI_nz, bI_01, true_or, or_true, reduceCtorEq, false_or, or_false, decide_eq_false_iff_not, decide_eq_true_eq, ite_not, show ((4 : Int32) ≤ nI 4) = True from eq_true (by decide)]
    exact hc J hF h1
  | succ d ih =>
    intro k J hk hF h1
    have h8 : ¬ ((4 : Int32) ≤ nI k) := by
      rw [show (4 : Int32) = nI 4 from rfl]
      exact nI_ge (by omega) (by decide)
    rw [e92_104]
    simp only [e92_105, e92_106, e92_109, e92_110, e92_113, e92_114, e92_115, e92_116, e92_119, mm_pu_n, mm_pu_s, va_rf_s, mm_w8_0, mm_w8_1, mm_w8_2, mm_w8_3, mm_w8_4, mm_c1_n, mm_c1_i, mm_c1_a, mm_ct_a, mm_ct_i, true_and, and_true, and_self, eq_self, if_true, if_false, ite_true, ite_false, bI_t, bI_z, bI_nz, bI_01, true_or, or_true, reduceCtorEq, false_or, or_false, decide_eq_false_iff_not, decide_eq_true_eq, ite_not, h8, hml.s0, hml.p0, hml.i1, vp_in_nI (show k < 4 by omega) (show 4 < 2 ^ 31 by decide), cl2 (show k < 248 by omega), nI_1]
    refine ih (k + 1) _ (by omega) (fun q hq => by rw [mu_n hq]; exact hF q hq) (fun i hi => ?_)
    by_cases c : i = k
    · subst c; exact mu_s
    · rw [mu_j c]; exact h1 i (by omega)
set_option maxHeartbeats 4000000 in
theorem t_initModel (hS : mm_S r m = (1, 6)) (ht : mm_t r = m + 1) (h0 : ∀ i, I m i = 0) (hq : ∀ J s, ef 0 m I J r s → mm_t s = m + 13 → mm_n s ≤ mm_n r + 5000 → ml_S s m → MI J s m → Q none J s) : mm_E 92 0 [some (.ref m), none] [] I r Q := by
  have z1 : (m = m + 1) = False := eq_false (by omega)
  have z2 : (m = m + 2) = False := eq_false (by omega)
  have z3 : (m = m + 3) = False := eq_false (by omega)
  have z4 : (m = m + 4) = False := eq_false (by omega)
  have z5 : (m = m + 5) = False := eq_false (by omega)
  have z6 : (m = m + 6) = False := eq_false (by omega)
  have z7 : (m = m + 7) = False := eq_false (by omega)
  have z8 : (m = m + 8) = False := eq_false (by omega)
  have z9 : (m = m + 9) = False := eq_false (by omega)
  have z10 : (m = m + 10) = False := eq_false (by omega)
  have z11 : (m = m + 11) = False := eq_false (by omega)
  have z12 : (m = m + 12) = False := eq_false (by omega)
  simp only [e92_0, e92_1, e92_4, e92_5, e92_6, e92_8, e92_11, e92_12, e92_13, e92_15, e92_18, e92_19, e92_21, e92_23, e92_26, e92_27, e92_29, e92_31, e92_34, e92_35, e92_38, e92_40, e92_43, e92_44, e92_47, e92_49, e92_52, e92_53, e92_56, e92_58, e92_61, e92_62, e92_65, e92_67, e92_70, e92_71, e92_73, e92_75, e92_78, e92_79, e92_81, e92_83, e92_86, e92_87, e92_89, e92_91, e92_94, e92_95, e92_97, e92_99, e92_102, e92_103, mm_pu_n, mm_pu_s, va_rf_s, mm_w8_0, mm_w8_1, mm_w8_2, mm_w8_3, mm_w8_4, mm_c1_n, mm_c1_i, mm_c1_a, mm_ct_a, mm_ct_i, true_and, and_true, and_self, eq_self, if_true, if_false, ite_true, ite_false, bI_t, bI_z, bI_nz, bI_01, true_or, or_true, reduceCtorEq, false_or, or_false, decide_eq_false_iff_not, decide_eq_true_eq, ite_not, q6, q248, not_false_eq_true, up_S, up_t, nr_S, nr_t, ht, hS, Nat.add_assoc, Nat.reduceAdd, z1, z2, z3, z4, z5, z6, z7, z8, z9, z10, z11, z12]
  have hml : ∀ s, s = mm_uP (mm_nR (mm_uP (mm_nR (mm_uP (mm_nR (mm_uP (mm_nR (mm_uP (mm_nR (mm_uP (mm_nR (mm_uP (mm_nR (mm_uP (mm_nR (mm_uP (mm_nR (mm_uP (mm_nR (mm_uP (mm_nR (mm_uP (mm_nR r (2, 4) 4) m 0 (some (m + 1))) (2, 4) 4) m 1 (some (m + 2))) (3, 96) 96) m 2 (some (m + 3))) (2, 80) 80) m 4 (some (m + 4))) (2, 248) 248) m 7 (some (m + 5))) (2, 248) 248) m 8 (some (m + 6))) (2, 248) 248) m 9 (some (m + 7))) (2, 248) 248) m 10 (some (m + 8))) (2, 6) 6) m 12 (some (m + 9))) (2, 6) 6) m 13 (some (m + 10))) (2, 6) 6) m 14 (some (m + 11))) (2, 6) 6) m 15 (some (m + 12)) → ml_S s m := by
    intro s hs
    subst hs
    unfold ml_S
    simp [nr_P, nr_S, up_S, up_P, nr_t, up_t, ht, hS, Nat.add_assoc, va_up]
  have hml := hml _ rfl
  have nI1 : ∀ (J : mm_I) (s : mm_R) (T : Nat), mm_t s = T → ∀ q, mm_nI J s q = if q = T then (fun _ => 0) else J q := fun J s T h q => by rw [nr_I, h]
  rw [show (some (Value.int 0) : Option Value) = some (.int (nI 0)) from rfl]
  refine m_lanes hml (fun K hK1 hK2 => ?_) 4 0 _ (by omega) (fun _ _ => rfl) (fun i hi => absurd hi (by omega))
  simp only [e92_122, e92_123, e92_126, e92_127, e92_128, e92_129, e92_130, e92_133, e92_135, e92_136, e92_137, mm_pu_n, mm_pu_s, va_rf_s, mm_w8_0, mm_w8_1, mm_w8_2, mm_w8_3, mm_w8_4, mm_c1_n, mm_c1_i, mm_c1_a, mm_ct_a, mm_ct_i, true_and, and_true, and_self, eq_self, if_true, if_false, ite_true, ite_false, bI_t, bI_z, bI_nz, bI_01, true_or, or_true, reduceCtorEq, false_or, or_false, decide_eq_false_iff_not, decide_eq_true_eq, ite_not, hml.s0, hml.p7, hml.i5, c27.2.2.2.2.2.1, d27.2.2.2.2.2.1, c27.2.2.1, d27.2.2.1]
  have val : ∀ q, q ≠ m + 1 → K q = if m < q ∧ q < m + 13 then (fun _ => 0) else I q := by
    intro q hq
    rw [hK1 q hq]
    simp only [nr_I, up_t, nr_t, ht, Nat.add_assoc, Nat.reduceAdd]
    by_cases c : m < q ∧ q < m + 13
    · rw [if_pos c]
      have : q = m + 2 ∨ q = m + 3 ∨ q = m + 4 ∨ q = m + 5 ∨ q = m + 6 ∨ q = m + 7 ∨ q = m + 8 ∨ q = m + 9 ∨ q = m + 10 ∨ q = m + 11 ∨ q = m + 12 := by omega
      rcases this with rfl | rfl | rfl | rfl | rfl | rfl | rfl | rfl | rfl | rfl | rfl <;> simp
    · rw [if_neg c]
      have y : ∀ n, 0 < n ∧ n < 13 → (q = m + n) = False := fun n hn => eq_false (by omega)
      simp only [y 12 (by decide), y 11 (by decide), y 10 (by decide), y 9 (by decide), y 8 (by decide), y 7 (by decide), y 6 (by decide), y 5 (by decide), y 4 (by decide), y 3 (by decide), y 2 (by decide), y 1 (by decide), if_false]
  refine hq _ _ (fun q _ hqa => ?_) ?_ ?_ hml ⟨fun k hk => ?_, fun k hk => ?_, fun i => ?_, ?_, ?_, fun i => ?_⟩
  · have y : ∀ n, (q = m + n) = False := fun n => eq_false (by omega)
    have y0 : (q = m) = False := eq_false (by omega)
    refine ⟨?_, ?_⟩
    · rw [mu_n (by omega), mu_n (by omega), val q (by omega), if_neg (by omega)]
    · simp [nr_G, nr_P, nr_S, up_S, up_G, up_P, nr_t, up_t, ht, Nat.add_assoc, y, y0]
  · simp [up_t, nr_t, ht, Nat.add_assoc]
  · simp [up_n, nr_n, Nat.add_assoc]
  · rw [mu_n (by omega), mu_n (by omega)]; exact hK2 k hk
  · rw [mu_n (by omega), mu_n (by omega), val _ (by omega), if_pos (by omega)]
  · simp [up_G, nr_G, up_t, nr_t, ht, Nat.add_assoc]
  · rw [mu_n (by omega), mu_n (by omega), val _ (by omega), if_neg (by omega)]; exact h0 3
  · rw [mu_n (by omega), mu_n (by omega), val _ (by omega), if_neg (by omega)]; exact h0 11
  · by_cases c1 : i = 26
    · subst c1; rw [mu_s, if_pos rfl]
    · rw [mu_j c1, if_neg c1]
      by_cases c2 : i = 1
      · subst c2; rw [mu_s, if_pos rfl]
      · rw [mu_j c2, if_neg c2, val _ (by omega), if_pos (by omega)]
end
theorem gl_new {L : mm_I} (h0 : L 0 0 = 0) (h1 : L 0 1 = 0) (h2 : L 0 2 = 5) (h3 : L 0 3 = 0) (h5 : L 0 5 = 1) : gl L 0 0 := ⟨⟨⟨by decide, h0⟩, ⟨by decide, h1⟩, fun g hg => absurd hg (by omega)⟩, ⟨fun h hh => absurd hh (by omega), fun h hh => absurd hh (by omega), 5, by decide, h2⟩, ⟨1, by decide, h5⟩, 0, by decide, h3⟩
theorem ALL_new {J : mm_I} {s : mm_R} {x m : Nat} (hm : m = x + 199) (hx : HX s x) (hi : HI J s x) (hml : ml_S s m) (hmi : MI J s m) : ALL J s x m := by
  obtain ⟨y1, y2, y3, y4, y5, y6, y7⟩ := hx
  obtain ⟨⟨a0, a1, a2, a3, a4, a5⟩, b1, b2, b3, b4⟩ := hi
  obtain ⟨c1, c2, c3, c4, c5, c6⟩ := hmi
  have vL : ∀ i, i < 6 → dl (vc J (x + 1)) 0 i = J (x + 1) i := fun i h => by rw [dl_at (by decide)]; unfold vc; rw [if_pos ⟨by decide, h⟩]
  have vR : ∀ i, i < 6 → dl (vr J (m + 5) m) 0 i = J (m + 5) (ps 0 i) := fun i h => by rw [dl_at (by decide), vr_pos (by decide) h]
  have e0 : dl (vr J (m + 5) m) 0 0 = 0 := by rw [vR 0 (by decide), c6]; rfl
  have e1 : dl (vr J (m + 5) m) 0 1 = 0 := by rw [vR 1 (by decide), c6]; rfl
  have e2 : dl (vr J (m + 5) m) 0 2 = 5 := by rw [vR 2 (by decide), c6]; rfl
  have e3 : dl (vr J (m + 5) m) 0 3 = 0 := by rw [vR 3 (by decide), c6]; rfl
  have e4 : dl (vr J (m + 5) m) 0 4 = 0 := by rw [vR 4 (by decide), c6]; rfl
  have e5 : dl (vr J (m + 5) m) 0 5 = 1 := by rw [vR 5 (by decide), c6]; rfl
  have d0 : dl (vc J (x + 1)) 0 0 = 0 := (vL 0 (by decide)).trans a0
  have d1 : dl (vc J (x + 1)) 0 1 = 0 := (vL 1 (by decide)).trans a1
  have d2 : dl (vc J (x + 1)) 0 2 = 5 := (vL 2 (by decide)).trans a2
  have d3 : dl (vc J (x + 1)) 0 3 = 0 := (vL 3 (by decide)).trans a3
  have d4 : dl (vc J (x + 1)) 0 4 = 0 := (vL 4 (by decide)).trans a4
  have d5 : dl (vc J (x + 1)) 0 5 = 1 := (vL 5 (by decide)).trans a5
  refine ⟨⟨hm, y1, y2, y4, y5, y6, y7, hml⟩, ⟨idn, _, 0, fun _ => dl (vc J (x + 1)), 0, 0, _, fun _ => dl (vc J (x + 1)), ⟨y3, rfl, ⟨by decide, b1⟩, fun k hk => absurd hk (by omega)⟩, ⟨rfl, ⟨by decide, by rw [c6]; rfl⟩, fun k hk => absurd hk (by omega)⟩, ⟨gl_new d0 d1 d2 d3 d5, fun k hk => absurd hk (by omega)⟩, ⟨gl_new e0 e1 e2 e3 e5, fun k hk => absurd hk (by omega)⟩, fun q i hq => ?_, fun k hk => absurd hk (by omega)⟩, Or.inl ⟨b3, c5⟩, ⟨0, by decide, b2, c4, fun i hi => absurd hi (by omega)⟩, fun k hk => ?_⟩
  · have hq0 : q = 0 := by unfold wc at hq; omega
    subst hq0
    by_cases hi : i < 6
    · have : i = 0 ∨ i = 1 ∨ i = 2 ∨ i = 3 ∨ i = 4 ∨ i = 5 := by omega
      rcases this with rfl | rfl | rfl | rfl | rfl | rfl
      · rw [d0, e0]
      · rw [d1, e1]
      · rw [d2, e2]
      · rw [d3, e3]
      · rw [d4, e4]
      · rw [d5, e5]
    · rw [dl_at (by decide), dl_at (by decide)]
      unfold vc vr
      rw [if_neg (fun h => hi h.2), if_neg (fun h => hi h.2)]
  · obtain ⟨u1, u2⟩ := b4 k hk
    exact ⟨Or.inl ⟨u1 0, c1 k hk⟩, ⟨0, by decide, u1 1⟩, ⟨0, by decide, u1 2, c2 k hk⟩, fun i hi => by rw [u2, c3]⟩
