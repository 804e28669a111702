section
variable {r : mm_R} {I : mm_I} {x m : Nat} {Q : Option Value → mm_I → mm_R → Prop}
theorem t_write {a b l z j : Nat} (h : mm_S r a = (1, 3)) (hp : mm_P r a 3 = some b) (hb : mm_S r b = (3, 24)) (h1 : mm_rd I a 1 = nI l) (h2 : mm_rd I a 2 = nI z) (hl : l < 4) (hz : z ≤ 24) (hj : j < z) (v : Int64) : mm_E 35 0 [some (.ref a), some (.int (nI j)), some (.long v), none] [] I r Q ↔ Q none I (mm_uG r b j (ct l v)) := by
  have ht : hit (nI j) 1 z = true := hit_nI (n := 1) (by omega) hz
  have hi : ∀ y, mm_ix r b 3 y = vp_in y 24 := fun y => mm_ixs hb
  unfold ct
  rcases (show l = 0 ∨ l = 1 ∨ l = 2 ∨ l = 3 by omega) with c | c | c | c <;> subst c
  · simp only [e35_0, e35_1, e35_2, e35_3, e35_6, e35_9, e35_10, e35_11, e35_14, e35_40, e35_41, e35_44, e35_45, e35_46, e35_47, e35_48, e35_49, e35_50, e35_53, e35_54, e35_57, e35_58, e35_59, e35_60, e35_61, e35_62, e35_63, e35_66, e35_67, e35_70, e35_71, e35_72, e35_73, e35_74, e35_75, e35_78, e35_79, e35_82, e35_83, e35_84, e35_85, mm_pu_n, mm_pu_s, va_rf_s, mm_w8_0, mm_w8_1, mm_w8_2, mm_w8_3, mm_w8_4, mm_c1_n, mm_c1_i, mm_c1_a, mm_ct_a, mm_ct_i, true_and, and_true, and_self, eq_self, if_true, if_false, ite_true, ite_false, bI_t, bI_z, bI_nz, bI_01, true_or, or_true, reduceCtorEq, false_or, or_false, decide_eq_false_iff_not, decide_eq_true_eq, ite_not, h, hp, hi, h1, t_hasItems h h2 hz, ht, in24 (show j < 24 by omega), cl2 (show j < 248 by omega), show (nI 0 = (0 : Int32)) = True from eq_true rfl, Bool.true_eq_false]
  · simp only [e35_0, e35_1, e35_2, e35_3, e35_6, e35_9, e35_10, e35_11, e35_14, e35_40, e35_41, e35_44, e35_45, e35_46, e35_47, e35_48, e35_49, e35_50, e35_53, e35_54, e35_57, e35_58, e35_59, e35_60, e35_61, e35_62, e35_63, e35_66, e35_67, e35_70, e35_71, e35_72, e35_73, e35_74, e35_75, e35_78, e35_79, e35_82, e35_83, e35_84, e35_85, mm_pu_n, mm_pu_s, va_rf_s, mm_w8_0, mm_w8_1, mm_w8_2, mm_w8_3, mm_w8_4, mm_c1_n, mm_c1_i, mm_c1_a, mm_ct_a, mm_ct_i, true_and, and_true, and_self, eq_self, if_true, if_false, ite_true, ite_false, bI_t, bI_z, bI_nz, bI_01, true_or, or_true, reduceCtorEq, false_or, or_false, decide_eq_false_iff_not, decide_eq_true_eq, ite_not, h, hp, hi, h1, t_hasItems h h2 hz, ht, in24 (show j < 24 by omega), cl2 (show j < 248 by omega), show (nI 1 = (0 : Int32)) = False from by decide, show (nI 1 = (1 : Int32)) = True from eq_true rfl, Bool.true_eq_false, show (1 = 0) = False from by decide]
  · simp only [e35_0, e35_1, e35_2, e35_3, e35_6, e35_9, e35_10, e35_11, e35_14, e35_40, e35_41, e35_44, e35_45, e35_46, e35_47, e35_48, e35_49, e35_50, e35_53, e35_54, e35_57, e35_58, e35_59, e35_60, e35_61, e35_62, e35_63, e35_66, e35_67, e35_70, e35_71, e35_72, e35_73, e35_74, e35_75, e35_78, e35_79, e35_82, e35_83, e35_84, e35_85, mm_pu_n, mm_pu_s, va_rf_s, mm_w8_0, mm_w8_1, mm_w8_2, mm_w8_3, mm_w8_4, mm_c1_n, mm_c1_i, mm_c1_a, mm_ct_a, mm_ct_i, true_and, and_true, and_self, eq_self, if_true, if_false, ite_true, ite_false, bI_t, bI_z, bI_nz, bI_01, true_or, or_true, reduceCtorEq, false_or, or_false, decide_eq_false_iff_not, decide_eq_true_eq, ite_not, h, hp, hi, h1, t_hasItems h h2 hz, ht, in24 (show j < 24 by omega), cl2 (show j < 248 by omega), show (nI 2 = (0 : Int32)) = False from by decide, show (nI 2 = (1 : Int32)) = False from by decide, show (nI 2 = (2 : Int32)) = True from eq_true rfl, Bool.true_eq_false, show (2 = 0) = False from by decide, show (2 = 1) = False from by decide]
  · simp only [e35_0, e35_1, e35_2, e35_3, e35_6, e35_9, e35_10, e35_11, e35_14, e35_40, e35_41, e35_44, e35_45, e35_46, e35_47, e35_48, e35_49, e35_50, e35_53, e35_54, e35_57, e35_58, e35_59, e35_60, e35_61, e35_62, e35_63, e35_66, e35_67, e35_70, e35_71, e35_72, e35_73, e35_74, e35_75, e35_78, e35_79, e35_82, e35_83, e35_84, e35_85, mm_pu_n, mm_pu_s, va_rf_s, mm_w8_0, mm_w8_1, mm_w8_2, mm_w8_3, mm_w8_4, mm_c1_n, mm_c1_i, mm_c1_a, mm_ct_a, mm_ct_i, true_and, and_true, and_self, eq_self, if_true, if_false, ite_true, ite_false, bI_t, bI_z, bI_nz, bI_01, true_or, or_true, reduceCtorEq, false_or, or_false, decide_eq_false_iff_not, decide_eq_true_eq, ite_not, h, hp, hi, h1, t_hasItems h h2 hz, ht, in24 (show j < 24 by omega), cl2 (show j < 248 by omega), show (nI 3 = (0 : Int32)) = False from by decide, show (nI 3 = (1 : Int32)) = False from by decide, show (nI 3 = (2 : Int32)) = False from by decide, Bool.true_eq_false, show (3 = 0) = False from by decide, show (3 = 1) = False from by decide, show (3 = 2) = False from by decide]
theorem it_l {j pc : Nat} {ls : mm_L} {y z : Int64} {st : List Value} (c : Prop) [Decidable c] : (if c then mm_E j pc ls (.long y :: st) I r Q else mm_E j pc ls (.long z :: st) I r Q) = mm_E j pc ls (.long (if c then y else z) :: st) I r Q := by split <;> rfl
theorem ct_i {l : Nat} (hl : l < 4) (v : Int64) : (if nI l = 0 then v.toInt32.toInt8.toInt32.toInt64 else if nI l = 1 then v.toInt32.toInt16.toInt32.toInt64 else if nI l = 2 then v.toInt32.toInt64 else v) = ct l v := by
  rcases (show l = 0 ∨ l = 1 ∨ l = 2 ∨ l = 3 by omega) with c | c | c | c <;> subst c <;> rfl
theorem u_cutTo {l : Nat} (hl : l < 4) (v : Int64) : mm_E 157 0 [some (.int (nI l)), some (.long v), none] [] I r Q ↔ Q (some (.long (ct l v))) I r := by
  simp only [e157_0, e157_1, e157_4, e157_5, e157_6, e157_7, e157_8, e157_11, e157_12, e157_13, e157_16, e157_17, e157_18, e157_19, e157_20, e157_23, e157_24, e157_25, e157_28, e157_29, e157_30, e157_31, e157_34, mm_pu_n, mm_pu_s, va_rf_s, mm_w8_0, mm_w8_1, mm_w8_2, mm_w8_3, mm_w8_4, mm_c1_n, mm_c1_i, mm_c1_a, mm_ct_a, mm_ct_i, true_and, and_true, and_self, eq_self, if_true, if_false, ite_true, ite_false, bI_t, bI_z, bI_nz, bI_01, true_or, or_true, reduceCtorEq, false_or, or_false, decide_eq_false_iff_not, decide_eq_true_eq, ite_not, it_l, ct_i hl]
  rw [e157_35]
theorem u_isSheet (s : Int32) : mm_E 152 0 [some (.int s)] [] I r Q ↔ Q (some (.int (bI (wth s 0 3)))) I r := by
  simp only [e152_0, e152_1, e152_2, e152_3, e152_6, mm_pu_n, mm_pu_s, va_rf_s, mm_w8_0, mm_w8_1, mm_w8_2, mm_w8_3, mm_w8_4, mm_c1_n, mm_c1_i, mm_c1_a, mm_ct_a, mm_ct_i, true_and, and_true, and_self, eq_self, if_true, if_false, ite_true, ite_false, bI_t, bI_z, bI_nz, bI_01, true_or, or_true, reduceCtorEq, false_or, or_false, decide_eq_false_iff_not, decide_eq_true_eq, ite_not, u_inw]
theorem a_item (h : ALL I r x m) (s l i : Int32) (v : Int64) : pr 83 161 [some (.ref x), some (.int s), some (.int l), some (.int i), some (.long v), none, none, none] [some (.ref m), some (.int s), some (.int l), some (.int i), some (.long v), none, none] I r x m := by
  obtain ⟨hS, ⟨sg, L, bn, B, n, ng, Lr, Br, hg⟩, hG2, hG3, hG4⟩ := id h
  obtain ⟨hm, hx, ⟨l1, l2, l3, l4⟩, hip, hpt, htp, hsh, hml⟩ := id hS
  obtain ⟨x0, x1, x2, x3, x4, x5, x6, x7, x8⟩ := id hx
  obtain ⟨⟨hps, hL, hpv⟩, ⟨hR, hB⟩, ⟨⟨⟨hG, hRR, hdr, hnt⟩, hbk⟩, ⟨⟨hG', hRR', hdr', hnt'⟩, hbk'⟩, hsm, hsB⟩⟩ := id hg
  have hLL : dl L = L := by rw [← hL]; exact dl_dl _
  have hLr : dl Lr = Lr := by rw [← hR]; exact dl_dl _
  have hs6 := s_6 hsm hLL hLr
  have vL : ∀ q i, q < 7 → vc I (x + 1) q i = L q i := fun q i hq => by rw [← hL, dl_at hq]
  have vR : ∀ q i, q < 7 → vr I (m + 5) m q i = Lr q i := fun q i hq => by rw [← hR, dl_at hq]
  have vRh : ∀ {k : Nat}, k < n → ∀ q, 1 ≤ q ∧ q ≤ 3 → vr I (m + 5) m q k = L q k := fun hk q hq => (vR q _ (by omega)).trans (hsm q _ (wc_h hq hk)).symm
  have vRg : ∀ {k : Nat}, k < ng → ∀ q, 4 ≤ q ∧ q ≤ 6 → vr I (m + 5) m q k = L q k := fun hk q hq => (vR q _ (by omega)).trans (hsm q _ (wc_g hq hk)).symm
  obtain ⟨⟨hn, e0⟩, ⟨hng, e1⟩, hpl⟩ := id hG
  have f0 : vc I (x + 1) 0 0 = nI n := by rw [vL 0 0 (by decide)]; exact e0
  have f1 : vc I (x + 1) 0 1 = nI ng := by rw [vL 0 1 (by decide)]; exact e1
  have g0 : vr I (m + 5) m 0 0 = nI n := by rw [vR 0 0 (by decide)]; exact hG'.1.2
  have g1 : vr I (m + 5) m 0 1 = nI ng := by rw [vR 0 1 (by decide)]; exact hG'.2.1.2
  unfold pr
  cases hk1 : wth s 0 3 with
  | false =>
    simp only [e83_0, e83_1, e83_2, e83_3, e83_6, e83_9, e83_10, e83_11, e83_12, e83_15, e83_18, e83_19, e161_0, e161_1, e161_4, e161_7, e161_8, e161_9, e161_10, e161_13, e161_16, e161_17, mm_pu_n, mm_pu_s, va_rf_s, mm_w8_0, mm_w8_1, mm_w8_2, mm_w8_3, mm_w8_4, mm_c1_n, mm_c1_i, mm_c1_a, mm_ct_a, mm_ct_i, true_and, and_true, and_self, eq_self, if_true, if_false, ite_true, ite_false, bI_t, bI_z, bI_nz, bI_01, true_or, or_true, reduceCtorEq, false_or, or_false, decide_eq_false_iff_not, decide_eq_true_eq, ite_not, t_within, u_inw, u_isSheet, hk1, Bool.false_eq_true]
    exact fi_i _ h rfl rfl
  | true =>
    cases hk2 : wth l 0 3 with
    | false =>
      simp only [e83_0, e83_1, e83_2, e83_3, e83_6, e83_9, e83_10, e83_11, e83_12, e83_15, e83_18, e83_19, e161_0, e161_1, e161_4, e161_7, e161_8, e161_9, e161_10, e161_13, e161_16, e161_17, mm_pu_n, mm_pu_s, va_rf_s, mm_w8_0, mm_w8_1, mm_w8_2, mm_w8_3, mm_w8_4, mm_c1_n, mm_c1_i, mm_c1_a, mm_ct_a, mm_ct_i, true_and, and_true, and_self, eq_self, if_true, if_false, ite_true, ite_false, bI_t, bI_z, bI_nz, bI_01, true_or, or_true, reduceCtorEq, false_or, or_false, decide_eq_false_iff_not, decide_eq_true_eq, ite_not, t_within, u_inw, u_isSheet, hk1, hk2, Bool.true_eq_false]
      exact fi_i _ h rfl rfl
    | true =>
      obtain ⟨k, -, hk, rfl⟩ := wth_of hk1 (a := 0) (b := 3) (by decide) (by decide) (by decide) (by decide)
      obtain ⟨hb, l', z, ⟨s1, s2, s3⟩, ⟨s4, s5⟩, hl, hz⟩ := G4_sk hG4 (show k < 4 by omega)
      obtain ⟨p1, p2, p3, p4⟩ := hsh.2 k (by omega)
      simp only [e83_0, e83_1, e83_2, e83_3, e83_6, e83_9, e83_10, e83_11, e83_12, e83_15, e83_18, e83_19, e83_20, e83_21, e83_24, e83_25, e83_26, e83_28, e83_30, e83_31, e83_32, e83_33, e83_36, e83_38, e83_40, mm_pu_n, mm_pu_s, va_rf_s, mm_w8_0, mm_w8_1, mm_w8_2, mm_w8_3, mm_w8_4, mm_c1_n, mm_c1_i, mm_c1_a, mm_ct_a, mm_ct_i, true_and, and_true, and_self, eq_self, if_true, if_false, ite_true, ite_false, bI_t, bI_z, bI_nz, bI_01, true_or, or_true, reduceCtorEq, false_or, or_false, decide_eq_false_iff_not, decide_eq_true_eq, ite_not, x0, x1, x2, x3, x4, x5, x6, x7, x8, l1.s0, l1.p6, l1.p7, l1.p8, l1.p9, l1.p10, l1.p11, l1.p12, l1.p13, l1.i1, l1.i2, l1.i3, l1.i4, l1.i5, l1.i6, l1.i7, l1.i8, t_within, hk1, hk2, Bool.true_eq_false, hsh.1, in4 (show k < 4 by omega), cl2 (show k < 248 by omega), p1, p2, t_refusal p2 s1 s2 s3 hz]
      by_cases hw : v_why hb l' z l i 1 = 0
      · rw [if_pos hw]
        obtain ⟨w1, rfl, w2⟩ := why_0 hw
        obtain ⟨j, n1, rfl, e1, hj⟩ := hit_of w2 hz
        have hn1 : n1 = 1 := by
          have := congrArg Int32.toInt e1
          have e2 : n1 < 2 ^ 31 := by omega
          rw [nI_toInt e2] at this
          change (1 : Int) = n1 at this
          omega
        subst hn1
        simp only [e83_46, e83_48, e83_49, e83_51, e83_54, e83_55, mm_pu_n, mm_pu_s, va_rf_s, mm_w8_0, mm_w8_1, mm_w8_2, mm_w8_3, mm_w8_4, mm_c1_n, mm_c1_i, mm_c1_a, mm_ct_a, mm_ct_i, true_and, and_true, and_self, eq_self, if_true, if_false, ite_true, ite_false, bI_t, bI_z, bI_nz, bI_01, true_or, or_true, reduceCtorEq, false_or, or_false, decide_eq_false_iff_not, decide_eq_true_eq, ite_not, p2, t_write p2 p3 p4 s2 s3 hl hz (show j < z by omega)]
        have hml2 : ml_S (mm_uG r (x + 109 + 2 * k) j (ct l' v)) m := hml
        simp only [e161_0, e161_1, e161_4, e161_7, e161_8, e161_9, e161_10, e161_13, e161_16, e161_17, e161_18, e161_19, e161_20, e161_21, e161_22, e161_23, e161_26, e161_28, e161_30, mm_pu_n, mm_pu_s, va_rf_s, mm_w8_0, mm_w8_1, mm_w8_2, mm_w8_3, mm_w8_4, mm_c1_n, mm_c1_i, mm_c1_a, mm_ct_a, mm_ct_i, true_and, and_true, and_self, eq_self, if_true, if_false, ite_true, ite_false, bI_t, bI_z, bI_nz, bI_01, true_or, or_true, reduceCtorEq, false_or, or_false, decide_eq_false_iff_not, decide_eq_true_eq, ite_not, u_inw, u_isSheet, hk1, hk2, Bool.true_eq_false, hml2.s0, u_wrong hml2 (show k < 4 by omega) s4 hl s5 hz, hw]
        simp only [e161_36, e161_37, e161_40, e161_42, e161_43, e161_44, e161_45, e161_46, e161_47, e161_50, e161_52, e161_53, e161_54, e161_55, e161_58, e161_59, e161_60, e161_63, e161_65, e161_66, e161_67, e161_68, e161_71, e161_72, e161_73, e161_76, e161_78, e161_79, e161_80, e161_83, mm_pu_n, mm_pu_s, va_rf_s, mm_w8_0, mm_w8_1, mm_w8_2, mm_w8_3, mm_w8_4, mm_c1_n, mm_c1_i, mm_c1_a, mm_ct_a, mm_ct_i, true_and, and_true, and_self, eq_self, if_true, if_false, ite_true, ite_false, bI_t, bI_z, bI_nz, bI_01, true_or, or_true, reduceCtorEq, false_or, or_false, decide_eq_false_iff_not, decide_eq_true_eq, ite_not, hml2.s0, hml2.p2, k24, it_l, ct_i hl]
        simp only [e161_85, e161_86, e161_87, mm_pu_n, mm_pu_s, va_rf_s, mm_w8_0, mm_w8_1, mm_w8_2, mm_w8_3, mm_w8_4, mm_c1_n, mm_c1_i, mm_c1_a, mm_ct_a, mm_ct_i, true_and, and_true, and_self, eq_self, if_true, if_false, ite_true, ite_false, bI_t, bI_z, bI_nz, bI_01, true_or, or_true, reduceCtorEq, false_or, or_false, decide_eq_false_iff_not, decide_eq_true_eq, ite_not, hml2.i3, in96 (show 24 * k + j < 96 by omega), cl2 (show 24 * k + j < 248 by omega)]
        have q1 : wr r (mm_uG r (x + 109 + 2 * k) j (ct l' v)) (x + 109 + 2 * k) j 1 (fun _ => ct l' v) := wr_S wr_0 rfl
        have q2 : wr (mm_uG r (x + 109 + 2 * k) j (ct l' v)) (mm_uG (mm_uG r (x + 109 + 2 * k) j (ct l' v)) (m + 3) (24 * k + j) (ct l' v)) (m + 3) (24 * k + j) 1 (fun _ => ct l' v) := wr_S wr_0 rfl
        exact fi_i _ (ALL_w h rfl (fun q _ => rfl) (G4_of (fun k hk => G4_sk hG4 hk) (G4_W (J := I) hm hG4 (by omega) q1 q2 (by omega)))) rfl rfl
      · rw [if_neg hw]
        simp only [e83_43, e83_45, mm_pu_n, mm_pu_s, va_rf_s, mm_w8_0, mm_w8_1, mm_w8_2, mm_w8_3, mm_w8_4, mm_c1_n, mm_c1_i, mm_c1_a, mm_ct_a, mm_ct_i, true_and, and_true, and_self, eq_self, if_true, if_false, ite_true, ite_false, bI_t, bI_z, bI_nz, bI_01, true_or, or_true, reduceCtorEq, false_or, or_false, decide_eq_false_iff_not, decide_eq_true_eq, ite_not]
        simp only [e161_0, e161_1, e161_4, e161_7, e161_8, e161_9, e161_10, e161_13, e161_16, e161_17, e161_18, e161_19, e161_20, e161_21, e161_22, e161_23, e161_26, e161_28, e161_30, e161_33, e161_35, mm_pu_n, mm_pu_s, va_rf_s, mm_w8_0, mm_w8_1, mm_w8_2, mm_w8_3, mm_w8_4, mm_c1_n, mm_c1_i, mm_c1_a, mm_ct_a, mm_ct_i, true_and, and_true, and_self, eq_self, if_true, if_false, ite_true, ite_false, bI_t, bI_z, bI_nz, bI_01, true_or, or_true, reduceCtorEq, false_or, or_false, decide_eq_false_iff_not, decide_eq_true_eq, ite_not, u_inw, u_isSheet, hk1, hk2, Bool.true_eq_false, hml.s0, u_wrong hml (show k < 4 by omega) s4 hl s5 hz, hw]
        exact fi_i _ h rfl rfl
theorem a_drop (h : ALL I r x m) (s : Int32) : pr 82 160 [some (.ref x), some (.int s), none] [some (.ref m), some (.int s)] I r x m := by
  obtain ⟨hS, ⟨sg, L, bn, B, n, ng, Lr, Br, hg⟩, hG2, hG3, hG4⟩ := id h
  obtain ⟨hm, hx, ⟨l1, l2, l3, l4⟩, hip, hpt, htp, hsh, hml⟩ := id hS
  obtain ⟨x0, x1, x2, x3, x4, x5, x6, x7, x8⟩ := id hx
  obtain ⟨⟨hps, hL, hpv⟩, ⟨hR, hB⟩, ⟨⟨⟨hG, hRR, hdr, hnt⟩, hbk⟩, ⟨⟨hG', hRR', hdr', hnt'⟩, hbk'⟩, hsm, hsB⟩⟩ := id hg
  have hLL : dl L = L := by rw [← hL]; exact dl_dl _
  have hLr : dl Lr = Lr := by rw [← hR]; exact dl_dl _
  have hs6 := s_6 hsm hLL hLr
  have vL : ∀ q i, q < 7 → vc I (x + 1) q i = L q i := fun q i hq => by rw [← hL, dl_at hq]
  have vR : ∀ q i, q < 7 → vr I (m + 5) m q i = Lr q i := fun q i hq => by rw [← hR, dl_at hq]
  have vRh : ∀ {k : Nat}, k < n → ∀ q, 1 ≤ q ∧ q ≤ 3 → vr I (m + 5) m q k = L q k := fun hk q hq => (vR q _ (by omega)).trans (hsm q _ (wc_h hq hk)).symm
  have vRg : ∀ {k : Nat}, k < ng → ∀ q, 4 ≤ q ∧ q ≤ 6 → vr I (m + 5) m q k = L q k := fun hk q hq => (vR q _ (by omega)).trans (hsm q _ (wc_g hq hk)).symm
  obtain ⟨⟨hn, e0⟩, ⟨hng, e1⟩, hpl⟩ := id hG
  have f0 : vc I (x + 1) 0 0 = nI n := by rw [vL 0 0 (by decide)]; exact e0
  have f1 : vc I (x + 1) 0 1 = nI ng := by rw [vL 0 1 (by decide)]; exact e1
  have g0 : vr I (m + 5) m 0 0 = nI n := by rw [vR 0 0 (by decide)]; exact hG'.1.2
  have g1 : vr I (m + 5) m 0 1 = nI ng := by rw [vR 0 1 (by decide)]; exact hG'.2.1.2
  unfold pr
  cases hk1 : wth s 0 3 with
  | false =>
    simp only [e82_0, e82_1, e82_2, e82_3, e82_6, e82_9, e82_10, e160_0, e160_1, e160_4, e160_7, e160_8, mm_pu_n, mm_pu_s, va_rf_s, mm_w8_0, mm_w8_1, mm_w8_2, mm_w8_3, mm_w8_4, mm_c1_n, mm_c1_i, mm_c1_a, mm_ct_a, mm_ct_i, true_and, and_true, and_self, eq_self, if_true, if_false, ite_true, ite_false, bI_t, bI_z, bI_nz, bI_01, true_or, or_true, reduceCtorEq, false_or, or_false, decide_eq_false_iff_not, decide_eq_true_eq, ite_not, t_within, u_inw, u_isSheet, hk1, Bool.false_eq_true]
    exact fi_i _ h rfl rfl
  | true =>
    obtain ⟨k, -, hk, rfl⟩ := wth_of hk1 (a := 0) (b := 3) (by decide) (by decide) (by decide) (by decide)
    obtain ⟨hb, l', z, ⟨s1, s2, s3⟩, ⟨s4, s5⟩, hl, hz⟩ := G4_sk hG4 (show k < 4 by omega)
    obtain ⟨p1, p2, p3, p4⟩ := hsh.2 k (by omega)
    have hp : (0 : Int32) ≤ nI l' := nI_pos' (by omega)
    cases hb with
    | false =>
      simp only [e82_0, e82_1, e82_2, e82_3, e82_6, e82_9, e82_10, e82_11, e82_12, e82_15, e82_16, e82_17, e82_18, e82_19, e82_22, e82_25, e82_27, mm_pu_n, mm_pu_s, va_rf_s, mm_w8_0, mm_w8_1, mm_w8_2, mm_w8_3, mm_w8_4, mm_c1_n, mm_c1_i, mm_c1_a, mm_ct_a, mm_ct_i, true_and, and_true, and_self, eq_self, if_true, if_false, ite_true, ite_false, bI_t, bI_z, bI_nz, bI_01, true_or, or_true, reduceCtorEq, false_or, or_false, decide_eq_false_iff_not, decide_eq_true_eq, ite_not, x0, x1, x2, x3, x4, x5, x6, x7, x8, l1.s0, l1.p6, l1.p7, l1.p8, l1.p9, l1.p10, l1.p11, l1.p12, l1.p13, l1.i1, l1.i2, l1.i3, l1.i4, l1.i5, l1.i6, l1.i7, l1.i8, t_within, hk1, Bool.true_eq_false, hsh.1, in4 (show k < 4 by omega), cl2 (show k < 248 by omega), p1, p2, s1]
      simp only [e160_0, e160_1, e160_4, e160_7, e160_8, e160_9, e160_10, e160_13, e160_14, e160_15, e160_18, e160_20, mm_pu_n, mm_pu_s, va_rf_s, mm_w8_0, mm_w8_1, mm_w8_2, mm_w8_3, mm_w8_4, mm_c1_n, mm_c1_i, mm_c1_a, mm_ct_a, mm_ct_i, true_and, and_true, and_self, eq_self, if_true, if_false, ite_true, ite_false, bI_t, bI_z, bI_nz, bI_01, true_or, or_true, reduceCtorEq, false_or, or_false, decide_eq_false_iff_not, decide_eq_true_eq, ite_not, u_isSheet, hk1, Bool.true_eq_false, hml.s0, hml.p0, hml.i1, in4 (show k < 4 by omega), cl2 (show k < 248 by omega), s4, Bool.false_eq_true, show ((0 : Int32) ≤ -1) = False from eq_false (by decide)]
      exact fi_i _ h rfl rfl
    | true =>
      have s3' : mm_rd (mm_uI I (x + 108 + 2 * k) 0 0) (x + 108 + 2 * k) 2 = nI z := by
        show mm_uI I (x + 108 + 2 * k) 0 0 (x + 108 + 2 * k) 2 = nI z
        rw [mu_j (by decide)]
        exact s3
      simp only [e82_0, e82_1, e82_2, e82_3, e82_6, e82_9, e82_10, e82_11, e82_12, e82_15, e82_16, e82_17, e82_18, e82_19, e82_22, e82_25, e82_27, e82_28, e82_29, e82_30, e82_33, e82_34, e82_37, mm_pu_n, mm_pu_s, va_rf_s, mm_w8_0, mm_w8_1, mm_w8_2, mm_w8_3, mm_w8_4, mm_c1_n, mm_c1_i, mm_c1_a, mm_ct_a, mm_ct_i, true_and, and_true, and_self, eq_self, if_true, if_false, ite_true, ite_false, bI_t, bI_z, bI_nz, bI_01, true_or, or_true, reduceCtorEq, false_or, or_false, decide_eq_false_iff_not, decide_eq_true_eq, ite_not, x0, x1, x2, x3, x4, x5, x6, x7, x8, l1.s0, l1.p6, l1.p7, l1.p8, l1.p9, l1.p10, l1.p11, l1.p12, l1.p13, l1.i1, l1.i2, l1.i3, l1.i4, l1.i5, l1.i6, l1.i7, l1.i8, t_within, hk1, Bool.true_eq_false, hsh.1, in4 (show k < 4 by omega), cl2 (show k < 248 by omega), p1, p2, s1, s3']
      have s4' : mm_rd (mm_uI I (x + 108 + 2 * k) 0 0) (m + 1) k = nI l' := by rw [rd_F (mu_n (by omega))]; exact s4
      have s5' : mm_rd (mm_uI (mm_uI I (x + 108 + 2 * k) 0 0) (m + 1) k (-1)) (m + 2) k = nI z := by rw [rd_F (mu_n (by omega)), rd_F (mu_n (by omega))]; exact s5
      simp only [e160_0, e160_1, e160_4, e160_7, e160_8, e160_9, e160_10, e160_13, e160_14, e160_15, e160_18, e160_20, e160_21, e160_22, e160_25, e160_26, e160_27, e160_28, e160_29, e160_32, e160_33, e160_34, mm_pu_n, mm_pu_s, va_rf_s, mm_w8_0, mm_w8_1, mm_w8_2, mm_w8_3, mm_w8_4, mm_c1_n, mm_c1_i, mm_c1_a, mm_ct_a, mm_ct_i, true_and, and_true, and_self, eq_self, if_true, if_false, ite_true, ite_false, bI_t, bI_z, bI_nz, bI_01, true_or, or_true, reduceCtorEq, false_or, or_false, decide_eq_false_iff_not, decide_eq_true_eq, ite_not, u_isSheet, hk1, Bool.true_eq_false, hml.s0, hml.p0, hml.i1, hml.p1, hml.i2, in4 (show k < 4 by omega), cl2 (show k < 248 by omega), s4', s5', hp]
      refine fi_i _ (ALL_w h rfl (fun q hq => ?_) (G4_of (fun j hj => ?_) (fun j hj t ht => (hG4 j hj).2.2.2 t ht))) rfl rfl
      · unfold scs scr at hq
        rw [mu_n (by omega), mu_n (by omega)]
      · by_cases c : j = k
        · subst c
          refine ⟨false, l', z, ⟨?_, ?_, ?_⟩, ⟨rd_u, ?_⟩, hl, hz⟩
          · rw [rd_F (mu_n (by omega))]; exact rd_u
          · rw [rd_F (mu_n (by omega))]
            show mm_uI I (x + 108 + 2 * j) 0 0 (x + 108 + 2 * j) 1 = nI l'
            rw [mu_j (by decide)]; exact s2
          · rw [rd_F (mu_n (by omega))]; exact s3'
          · exact s5'
        · obtain ⟨b3, l3, z3, hs3⟩ := G4_sk hG4 hj
          exact ⟨b3, l3, z3, sk_k hs3 (by rw [mu_n (by omega), mu_n (by omega)]) (by rw [mu_j c, mu_n (by omega)]) (by rw [mu_n (by omega), mu_n (by omega)])⟩
end
