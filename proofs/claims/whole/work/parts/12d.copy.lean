section
variable {r : mm_R} {I : mm_I} {x m : Nat} {Q : Option Value → mm_I → mm_R → Prop}
theorem z24 {k : Nat} (h : k < 24) : ¬ ((24 : Int32) ≤ nI k) := by
  rw [show (24 : Int32) = nI 24 from by decide]
  exact fun c => absurd ((nI_leI (by decide) (by omega)).mp c) (by omega)
theorem wr_tr {r r1 : mm_R} {a i n : Nat} {W : Nat → Int64} (h : wr r r1 a i n W) : r1.2 = r.2 := h.1
theorem S_of {r r1 : mm_R} (h : r1.2 = r.2) : mm_S r1 = mm_S r := by unfold mm_S; rw [h]
theorem P_of {r r1 : mm_R} (h : r1.2 = r.2) : mm_P r1 = mm_P r := by unfold mm_P; rw [h]
theorem ml_of {r r1 : mm_R} (h : r1.2 = r.2) (hm : ml_S r m) : ml_S r1 m := by unfold ml_S at hm ⊢; rw [S_of h, P_of h]; exact hm
theorem HS_w {r r1 : mm_R} (h : r1.2 = r.2) (hs : HS r x m) : HS r1 x m := by
  obtain ⟨g, s⟩ := r
  obtain ⟨g2, s2⟩ := r1
  dsimp only at h
  subst h
  exact hs
theorem t_begin {a b : Nat} (h : mm_S r a = (1, 3)) (hp : mm_P r a 3 = some b) (hb : mm_S r b = (3, 24)) (l n : Int32) (hq : ∀ r1, wr r r1 b 0 24 (fun _ => 0) → Q none (mm_uI (mm_uI (mm_uI I a 0 1) a 1 l) a 2 n) r1) : mm_E 32 0 [some (.ref a), some (.int l), some (.int n), none] [] I r Q := by
  have loop : ∀ d k r1 J, k + d = 24 → wr r r1 b 0 k (fun _ => 0) → (∀ r1, wr r r1 b 0 24 (fun _ => 0) → Q none J r1) → mm_E 32 17 [some (.ref a), some (.int l), some (.int n), some (.int (nI k))] [] J r1 Q := by
    intro d
    induction d with
    | zero =>
      intro k r1 J hk hw hq
      have : k = 24 := by omega
      subst this
      rw [e32_17]
      simp only [e32_18, e32_20, e32_36, mm_pu_n, mm_pu_s, va_rf_s, mm_w8_0, mm_w8_1, mm_w8_2, mm_w8_3, mm_w8_4, mm_c1_n, mm_c1_i, mm_c1_a, mm_ct_a, mm_ct_i, true_and, and_true, and_self, eq_self, if_true, if_false, ite_true, ite_false, bI_t, bI_z, bI_nz, bI_01, true_or, or_true, reduceCtorEq, false_or, or_false, decide_eq_false_iff_not, decide_eq_true_eq, ite_not, show ((24 : Int32) ≤ nI 24) = True from eq_true (by decide)]
      exact hq r1 hw
    | succ d ih =>
      intro k r1 J hk hw hq
      have hi : ∀ y, mm_ix r1 b 3 y = vp_in y 24 := fun y => mm_ixs (by rw [S_of hw.1]; exact hb)
      rw [e32_17]
      simp only [e32_18, e32_20, e32_23, e32_24, e32_27, e32_28, e32_29, e32_30, e32_33, mm_pu_n, mm_pu_s, va_rf_s, mm_w8_0, mm_w8_1, mm_w8_2, mm_w8_3, mm_w8_4, mm_c1_n, mm_c1_i, mm_c1_a, mm_ct_a, mm_ct_i, true_and, and_true, and_self, eq_self, if_true, if_false, ite_true, ite_false, bI_t, bI_z, bI_nz, bI_01, true_or, or_true, reduceCtorEq, false_or, or_false, decide_eq_false_iff_not, decide_eq_true_eq, ite_not, z24 (show k < 24 by omega), S_of hw.1, P_of hw.1, h, hp, hi, in24 (show k < 24 by omega), cl2 (show k < 248 by omega), nI_1]
      have := wr_S hw (v := 0) rfl
      rw [Nat.zero_add] at this
      exact ih (k + 1) _ J (by omega) this hq
  simp only [e32_0, e32_1, e32_2, e32_5, e32_6, e32_7, e32_10, e32_11, e32_12, e32_15, e32_16, mm_pu_n, mm_pu_s, va_rf_s, mm_w8_0, mm_w8_1, mm_w8_2, mm_w8_3, mm_w8_4, mm_c1_n, mm_c1_i, mm_c1_a, mm_ct_a, mm_ct_i, true_and, and_true, and_self, eq_self, if_true, if_false, ite_true, ite_false, bI_t, bI_z, bI_nz, bI_01, true_or, or_true, reduceCtorEq, false_or, or_false, decide_eq_false_iff_not, decide_eq_true_eq, ite_not, h]
  exact loop 24 0 r _ (by omega) wr_0 hq
theorem u_clear {k : Nat} (hk : k < 4) (hml : ml_S r m) (l : Option Value) (n : Int32) (hq : ∀ r1 l4, wr r r1 (m + 3) (24 * k) 24 (fun _ => 0) → mm_E 159 74 [some (.ref m), some (.int (nI k)), l, some (.int n), l4] [] I r1 Q) : ∀ d t r1, t + d = 24 → wr r r1 (m + 3) (24 * k) t (fun _ => 0) → mm_E 159 48 [some (.ref m), some (.int (nI k)), l, some (.int n), some (.int (nI t))] [] I r1 Q := by
  intro d
  induction d with
  | zero =>
    intro t r1 ht hw
    have : t = 24 := by omega
    subst this
    rw [e159_48]
    simp only [e159_50, e159_52, mm_pu_n, mm_pu_s, va_rf_s, mm_w8_0, mm_w8_1, mm_w8_2, mm_w8_3, mm_w8_4, mm_c1_n, mm_c1_i, mm_c1_a, mm_ct_a, mm_ct_i, true_and, and_true, and_self, eq_self, if_true, if_false, ite_true, ite_false, bI_t, bI_z, bI_nz, bI_01, true_or, or_true, reduceCtorEq, false_or, or_false, decide_eq_false_iff_not, decide_eq_true_eq, ite_not, show ((24 : Int32) ≤ nI 24) = True from eq_true (by decide)]
    exact hq r1 _ hw
  | succ d ih =>
    intro t r1 ht hw
    have hm1 := ml_of hw.1 hml
    rw [e159_48]
    simp only [e159_50, e159_52, e159_55, e159_56, e159_59, e159_61, e159_62, e159_63, e159_65, e159_66, e159_67, e159_68, e159_71, mm_pu_n, mm_pu_s, va_rf_s, mm_w8_0, mm_w8_1, mm_w8_2, mm_w8_3, mm_w8_4, mm_c1_n, mm_c1_i, mm_c1_a, mm_ct_a, mm_ct_i, true_and, and_true, and_self, eq_self, if_true, if_false, ite_true, ite_false, bI_t, bI_z, bI_nz, bI_01, true_or, or_true, reduceCtorEq, false_or, or_false, decide_eq_false_iff_not, decide_eq_true_eq, ite_not, z24 (show t < 24 by omega), hm1.s0, hm1.p2, hm1.i3, k24, in96 (show 24 * k + t < 96 by omega), cl2 (show 24 * k + t < 248 by omega), nI_1]
    exact ih (t + 1) _ (by omega) (wr_S hw rfl)
theorem a_sheet (h : ALL I r x m) (s l n : Int32) : pr 81 159 [some (.ref x), some (.int s), some (.int l), some (.int n)] [some (.ref m), some (.int s), some (.int l), some (.int n), none] I r x m := by
  obtain ⟨hS, hG1, hG2, hG3, hG4⟩ := id h
  obtain ⟨hm, hx, -, hip, hpt, htp, hsh, hml⟩ := id hS
  obtain ⟨x0, x1, x2, x3, x4, x5, x6, x7, x8⟩ := id hx
  unfold pr
  cases hk1 : wth s 0 3 with
  | false =>
    simp only [e81_0, e81_1, e81_2, e81_3, e81_6, e81_9, e81_10, e81_11, e81_12, e81_15, e81_18, e81_19, e81_21, e81_24, e81_25, e159_0, e159_1, e159_4, e159_7, e159_8, e159_9, e159_10, e159_13, e159_16, e159_17, e159_19, e159_22, e159_23, mm_pu_n, mm_pu_s, va_rf_s, mm_w8_0, mm_w8_1, mm_w8_2, mm_w8_3, mm_w8_4, mm_c1_n, mm_c1_i, mm_c1_a, mm_ct_a, mm_ct_i, true_and, and_true, and_self, eq_self, if_true, if_false, ite_true, ite_false, bI_t, bI_z, bI_nz, bI_01, true_or, or_true, reduceCtorEq, false_or, or_false, decide_eq_false_iff_not, decide_eq_true_eq, ite_not, t_within, u_inw, u_isSheet, hk1, Bool.false_eq_true]
    exact fi_i _ h rfl rfl
  | true =>
    cases hk2 : wth l 0 3 with
    | false =>
      simp only [e81_0, e81_1, e81_2, e81_3, e81_6, e81_9, e81_10, e81_11, e81_12, e81_15, e81_18, e81_19, e81_21, e81_24, e81_25, e159_0, e159_1, e159_4, e159_7, e159_8, e159_9, e159_10, e159_13, e159_16, e159_17, e159_19, e159_22, e159_23, mm_pu_n, mm_pu_s, va_rf_s, mm_w8_0, mm_w8_1, mm_w8_2, mm_w8_3, mm_w8_4, mm_c1_n, mm_c1_i, mm_c1_a, mm_ct_a, mm_ct_i, true_and, and_true, and_self, eq_self, if_true, if_false, ite_true, ite_false, bI_t, bI_z, bI_nz, bI_01, true_or, or_true, reduceCtorEq, false_or, or_false, decide_eq_false_iff_not, decide_eq_true_eq, ite_not, t_within, u_inw, u_isSheet, hk1, hk2, Bool.true_eq_false]
      exact fi_i _ h rfl rfl
    | true =>
      by_cases c1 : n ≤ 24
      · by_cases c2 : 0 ≤ n
        · obtain ⟨k, -, hk, rfl⟩ := wth_of hk1 (a := 0) (b := 3) (by decide) (by decide) (by decide) (by decide)
          obtain ⟨l', -, hl, rfl⟩ := wth_of hk2 (a := 0) (b := 3) (by decide) (by decide) (by decide) (by decide)
          obtain ⟨z, hz31, rfl⟩ := nI_of (Int32.not_lt.mpr c2)
          have hz : z ≤ 24 := (nI_leI hz31 (show 24 < 2 ^ 31 by decide)).mp c1
          obtain ⟨p1, p2, p3, p4⟩ := hsh.2 k (by omega)
          simp only [e81_0, e81_1, e81_2, e81_3, e81_6, e81_9, e81_10, e81_11, e81_12, e81_15, e81_18, e81_19, e81_21, e81_24, e81_25, e81_26, e81_27, e81_30, e81_32, e81_33, e81_34, e81_37, e81_38, e81_39, e81_40, e81_41, mm_pu_n, mm_pu_s, va_rf_s, mm_w8_0, mm_w8_1, mm_w8_2, mm_w8_3, mm_w8_4, mm_c1_n, mm_c1_i, mm_c1_a, mm_ct_a, mm_ct_i, true_and, and_true, and_self, eq_self, if_true, if_false, ite_true, ite_false, bI_t, bI_z, bI_nz, bI_01, true_or, or_true, reduceCtorEq, false_or, or_false, decide_eq_false_iff_not, decide_eq_true_eq, ite_not, t_within, hk1, hk2, Bool.true_eq_false, c1, c2, x0, x6, hsh.1, in4 (show k < 4 by omega), cl2 (show k < 248 by omega), p1, p2]
          refine t_begin p2 p3 p4 _ _ (fun r1 hw1 => ?_)
          simp only [mm_pu_n, e81_44, e81_45, mm_pu_n, mm_pu_s, va_rf_s, mm_w8_0, mm_w8_1, mm_w8_2, mm_w8_3, mm_w8_4, mm_c1_n, mm_c1_i, mm_c1_a, mm_ct_a, mm_ct_i, true_and, and_true, and_self, eq_self, if_true, if_false, ite_true, ite_false, bI_t, bI_z, bI_nz, bI_01, true_or, or_true, reduceCtorEq, false_or, or_false, decide_eq_false_iff_not, decide_eq_true_eq, ite_not]
          have hml1 := ml_of hw1.1 hml
          simp only [e159_0, e159_1, e159_4, e159_7, e159_8, e159_9, e159_10, e159_13, e159_16, e159_17, e159_19, e159_22, e159_23, e159_24, e159_25, e159_28, e159_30, e159_31, e159_32, e159_35, e159_36, e159_37, e159_38, e159_39, e159_42, e159_43, e159_44, e159_45, e159_46, mm_pu_n, mm_pu_s, va_rf_s, mm_w8_0, mm_w8_1, mm_w8_2, mm_w8_3, mm_w8_4, mm_c1_n, mm_c1_i, mm_c1_a, mm_ct_a, mm_ct_i, true_and, and_true, and_self, eq_self, if_true, if_false, ite_true, ite_false, bI_t, bI_z, bI_nz, bI_01, true_or, or_true, reduceCtorEq, false_or, or_false, decide_eq_false_iff_not, decide_eq_true_eq, ite_not, u_inw, u_isSheet, hk1, hk2, Bool.true_eq_false, c1, c2, hml1.s0, hml1.p0, hml1.p1, hml1.i1, hml1.i2, in4 (show k < 4 by omega), cl2 (show k < 248 by omega)]
          refine u_clear (show k < 4 by omega) hml1 _ _ (fun r2 l4 hw2 => ?_) 24 0 r1 (by omega) wr_0
          simp only [e159_74, e159_75, mm_pu_n, mm_pu_s, va_rf_s, mm_w8_0, mm_w8_1, mm_w8_2, mm_w8_3, mm_w8_4, mm_c1_n, mm_c1_i, mm_c1_a, mm_ct_a, mm_ct_i, true_and, and_true, and_self, eq_self, if_true, if_false, ite_true, ite_false, bI_t, bI_z, bI_nz, bI_01, true_or, or_true, reduceCtorEq, false_or, or_false, decide_eq_false_iff_not, decide_eq_true_eq, ite_not]
          refine fi_i _ (ALL_w h (hw2.1.trans hw1.1) (fun q hq => ?_) (G4_of (fun j hj => ?_) (G4_W (J := I) hm hG4 (by omega) hw1 hw2 (by omega)))) (by unfold mm_t; rw [hw2.1, hw1.1]) (by unfold mm_n; rw [hw2.1, hw1.1])
          · unfold scs scr at hq
            rw [mu_n (by omega), mu_n (by omega), mu_n (by omega), mu_n (by omega), mu_n (by omega)]
          · by_cases c : j = k
            · subst c
              refine ⟨true, l', z, ⟨?_, ?_, ?_⟩, ⟨?_, ?_⟩, by omega, hz⟩
              · rw [rd_F (mu_n (by omega)), rd_F (mu_n (by omega))]
                unfold mm_rd; rw [mu_j (by decide), mu_j (by decide), mu_s]; rfl
              · rw [rd_F (mu_n (by omega)), rd_F (mu_n (by omega))]
                unfold mm_rd; rw [mu_j (by decide), mu_s]
              · rw [rd_F (mu_n (by omega)), rd_F (mu_n (by omega))]
                exact rd_u
              · rw [rd_F (mu_n (by omega))]; exact rd_u
              · exact rd_u
            · obtain ⟨b3, l3, z3, hs3⟩ := G4_sk hG4 hj
              exact ⟨b3, l3, z3, sk_k hs3 (by rw [mu_n (by omega), mu_n (by omega), mu_n (by omega), mu_n (by omega), mu_n (by omega)]) (by rw [mu_n (by omega), mu_j c, mu_n (by omega), mu_n (by omega), mu_n (by omega)]) (by rw [mu_j c, mu_n (by omega), mu_n (by omega), mu_n (by omega), mu_n (by omega)])⟩
        · simp only [e81_0, e81_1, e81_2, e81_3, e81_6, e81_9, e81_10, e81_11, e81_12, e81_15, e81_18, e81_19, e81_21, e81_24, e81_25, e81_26, e81_27, e81_30, e81_32, e159_0, e159_1, e159_4, e159_7, e159_8, e159_9, e159_10, e159_13, e159_16, e159_17, e159_19, e159_22, e159_23, e159_24, e159_25, e159_28, e159_30, mm_pu_n, mm_pu_s, va_rf_s, mm_w8_0, mm_w8_1, mm_w8_2, mm_w8_3, mm_w8_4, mm_c1_n, mm_c1_i, mm_c1_a, mm_ct_a, mm_ct_i, true_and, and_true, and_self, eq_self, if_true, if_false, ite_true, ite_false, bI_t, bI_z, bI_nz, bI_01, true_or, or_true, reduceCtorEq, false_or, or_false, decide_eq_false_iff_not, decide_eq_true_eq, ite_not, t_within, u_inw, u_isSheet, hk1, hk2, Bool.true_eq_false, c1, c2]
          exact fi_i _ h rfl rfl
      · simp only [e81_0, e81_1, e81_2, e81_3, e81_6, e81_9, e81_10, e81_11, e81_12, e81_15, e81_18, e81_19, e81_21, e81_24, e81_25, e81_26, e81_27, e81_30, e81_32, e159_0, e159_1, e159_4, e159_7, e159_8, e159_9, e159_10, e159_13, e159_16, e159_17, e159_19, e159_22, e159_23, e159_24, e159_25, e159_28, e159_30, mm_pu_n, mm_pu_s, va_rf_s, mm_w8_0, mm_w8_1, mm_w8_2, mm_w8_3, mm_w8_4, mm_c1_n, mm_c1_i, mm_c1_a, mm_ct_a, mm_ct_i, true_and, and_true, and_self, eq_self, if_true, if_false, ite_true, ite_false, bI_t, bI_z, bI_nz, bI_01, true_or, or_true, reduceCtorEq, false_or, or_false, decide_eq_false_iff_not, decide_eq_true_eq, ite_not, t_within, u_inw, u_isSheet, hk1, hk2, Bool.true_eq_false, c1]
        exact fi_i _ h rfl rfl
end
