theorem gd_push {L L' : mm_I} {bn : Nat} {B : Nat → mm_I} {n ng : Nat} (h : gd L bn B n ng) (hl : gl L' n ng) (he : ∀ i, L' 4 i = L 4 i ∧ L' 5 i = L 5 i) : gd L' (b_n bn) (b_push B bn L) n ng := by
  refine ⟨hl, fun k hk => ?_⟩
  unfold b_n at hk
  unfold b_push
  by_cases c : bn = 8
  · rw [if_pos c] at hk ⊢
    by_cases d : k = 7
    · simp only [d, if_true]
      exact ⟨h.1, fun i => ⟨(he i).1.symm, (he i).2.symm⟩⟩
    · simp only [d, if_false]
      obtain ⟨z1, z2⟩ := h.2 (k + 1) (by omega)
      exact ⟨z1, fun i => ⟨by rw [(z2 i).1, (he i).1], by rw [(z2 i).2, (he i).2]⟩⟩
  · rw [if_neg c] at hk ⊢
    by_cases d : k = bn
    · simp only [d, if_true]
      exact ⟨h.1, fun i => ⟨(he i).1.symm, (he i).2.symm⟩⟩
    · simp only [d, if_false]
      obtain ⟨z1, z2⟩ := h.2 k (by omega)
      exact ⟨z1, fun i => ⟨by rw [(z2 i).1, (he i).1], by rw [(z2 i).2, (he i).2]⟩⟩
theorem gl_sm {L Lr : mm_I} {n ng : Nat} (h : gl L n ng) (hs : ag (wc n ng) L Lr) : gl Lr n ng := ⟨s_G hs h.1, s_R hs h.2.1, by rw [← hs 0 5 wc_0]; exact h.2.2.1, by rw [← hs 0 3 wc_0]; exact h.2.2.2⟩
theorem gdd_push {L L' Lr Lr' : mm_I} {bn : Nat} {B Br : Nat → mm_I} {n ng : Nat} (h : gdd L Lr bn B Br n ng) (hl : gl L' n ng) (hs : ag (wc n ng) L' Lr') (he : ∀ i, L' 4 i = L 4 i ∧ L' 5 i = L 5 i) (he' : ∀ i, Lr' 4 i = Lr 4 i ∧ Lr' 5 i = Lr 5 i) : gdd L' Lr' (b_n bn) (b_push B bn L) (b_push Br bn Lr) n ng := by
  refine ⟨gd_push h.1 hl he, gd_push h.2.1 (gl_sm hl hs) he', hs, fun k hk => ?_⟩
  unfold b_n at hk
  unfold b_push
  by_cases c : bn = 8
  · rw [if_pos c] at hk
    simp only [c, if_true]
    by_cases d : k = 7
    · simp only [d, if_true]
      exact h.2.2.1
    · simp only [d, if_false]
      exact h.2.2.2 (k + 1) (by omega)
  · rw [if_neg c] at hk
    simp only [c, if_false]
    by_cases d : k = bn
    · simp only [d, if_true]
      exact h.2.2.1
    · simp only [d, if_false]
      exact h.2.2.2 k (by omega)
theorem gl_h {L : mm_I} {n ng R k : Nat} {y : Int32} (h : gl L n ng) (hy : (R = 1 ∧ ∃ o, o ≤ 9999 ∧ y = nI o) ∨ (R = 2 ∧ ∃ o, o ≤ 20 ∧ y = nI o) ∨ (R = 3 ∧ ∃ o, o ≤ 3 ∧ y = nI o) ∨ (R = 6 ∧ ∃ p, p < n ∧ y = nI p)) : gl (mm_uI L R k y) n ng := by
  obtain ⟨⟨⟨a1, a2⟩, ⟨a3, a4⟩, a5⟩, ⟨b1, b2, b3⟩, c1, d1⟩ := h
  have hR : R = 1 ∨ R = 2 ∨ R = 3 ∨ R = 6 := by
    rcases hy with z | z | z | z
    · exact Or.inl z.1
    · exact Or.inr (Or.inl z.1)
    · exact Or.inr (Or.inr (Or.inl z.1))
    · exact Or.inr (Or.inr (Or.inr z.1))
  have r0 : 0 ≠ R := by rcases hR with rfl | rfl | rfl | rfl <;> decide
  have r4 : 4 ≠ R := by rcases hR with rfl | rfl | rfl | rfl <;> decide
  have r5 : 5 ≠ R := by rcases hR with rfl | rfl | rfl | rfl <;> decide
  refine ⟨⟨⟨a1, by rw [mu_n r0]; exact a2⟩, ⟨a3, by rw [mu_n r0]; exact a4⟩, fun g hg => ?_⟩, ⟨fun q hq => ?_, fun g hg => by rw [mu_n r4, mu_n r5]; exact b2 g hg, by rw [mu_n r0]; exact b3⟩, by rw [mu_n r0]; exact c1, by rw [mu_n r0]; exact d1⟩
  · rcases hy with ⟨rfl, -⟩ | ⟨rfl, -⟩ | ⟨rfl, -⟩ | ⟨rfl, p, hp, e⟩
    · rw [mu_n (by decide)]; exact a5 g hg
    · rw [mu_n (by decide)]; exact a5 g hg
    · rw [mu_n (by decide)]; exact a5 g hg
    · by_cases c : g = k
      · subst c; exact ⟨p, hp, by rw [mu_s]; exact e⟩
      · rw [mu_j c]; exact a5 g hg
  · obtain ⟨lk, ow, sc, z1, z2, z3, z4, z5, z6⟩ := b1 q hq
    rcases hy with ⟨rfl, o, ho, e⟩ | ⟨rfl, o, ho, e⟩ | ⟨rfl, o, ho, e⟩ | ⟨rfl, p, hp, e⟩
    · by_cases c : q = k
      · subst c; exact ⟨lk, o, sc, z1, ho, z3, by rw [mu_n (by decide)]; exact z4, by rw [mu_s]; exact e, by rw [mu_n (by decide)]; exact z6⟩
      · exact ⟨lk, ow, sc, z1, z2, z3, by rw [mu_n (by decide)]; exact z4, by rw [mu_j c]; exact z5, by rw [mu_n (by decide)]; exact z6⟩
    · by_cases c : q = k
      · subst c; exact ⟨lk, ow, o, z1, z2, ho, by rw [mu_n (by decide)]; exact z4, by rw [mu_n (by decide)]; exact z5, by rw [mu_s]; exact e⟩
      · exact ⟨lk, ow, sc, z1, z2, z3, by rw [mu_n (by decide)]; exact z4, by rw [mu_n (by decide)]; exact z5, by rw [mu_j c]; exact z6⟩
    · by_cases c : q = k
      · subst c; exact ⟨o, ow, sc, ho, z2, z3, by rw [mu_s]; exact e, by rw [mu_n (by decide)]; exact z5, by rw [mu_n (by decide)]; exact z6⟩
      · exact ⟨lk, ow, sc, z1, z2, z3, by rw [mu_j c]; exact z4, by rw [mu_n (by decide)]; exact z5, by rw [mu_n (by decide)]; exact z6⟩
    · exact ⟨lk, ow, sc, z1, z2, z3, by rw [mu_n (by decide)]; exact z4, by rw [mu_n (by decide)]; exact z5, by rw [mu_n (by decide)]; exact z6⟩
section
variable {r : mm_R} {I : mm_I} {x m : Nat} {Q : Option Value → mm_I → mm_R → Prop}
theorem ALL_rem {sg : Nat → Nat} {L : mm_I} {bn : Nat} {B : Nat → mm_I} {n ng : Nat} {Lr : mm_I} {Br : Nat → mm_I} (h : ALL I r x m) (hg : g1 I r (x + 1) (x + 19) (m + 5) m sg L bn B n ng Lr Br) {J : mm_I} {r' : mm_R} {sg' : Nat → Nat} (hr : rP (x + 19) r r') (hS' : pa_S r' (x + 19) sg') (hV : pa_V J (x + 19) sg' (b_n bn) (b_push B bn (dl (vc I (x + 1))))) (hF : pa_F (x + 19) I J) {R k : Nat} {y : Int32} (hR : R < 7 ∧ k < wd R ∧ R ≠ 4 ∧ R ≠ 5) (hgl : gl (mm_uI L R k y) n ng) {K : mm_I} (hK1 : ∀ q, q ≠ m + 5 → K q = mm_uI J (x + 1 + R) k y q) (hK2 : ∀ i, i < 39 → K (m + 5) i = I (m + 5) i) (hK3 : ml_B K (m + 5) (b_n bn) (b_push Br bn Lr)) : ALL (mm_uI K (m + 5) (ps R k) y) r' x m := by
  have hm := h.1.1
  have hp39 : ps R k < 39 := ps_lt hR.1 hR.2.1
  refine ALL_mk (sg := sg') (L := mm_uI L R k y) (bn := b_n bn) (B := b_push B bn L) (Lr := mm_uI Lr R k y) (Br := b_push Br bn Lr) (I1 := mm_uI J (x + 1 + R) k y) (n := n) (ng := ng) h (HS_P h.1 hr) hr.1 ⟨hS', ?_, ⟨⟨hV.1.1, ?_⟩, fun q hq => ?_⟩⟩ (fun q hq => by rw [mu_n (by omega)]; exact hF q (by omega)) ⟨?_, ?_⟩ (fun q z1 _ _ => by rw [mu_n z1]; exact hK1 q z1) (gdd_push hg.2.2 hgl (hg.2.2.2.2.1.u R k rfl) (fun i => by rw [mu_n (Ne.symm hR.2.2.1), mu_n (Ne.symm hR.2.2.2)]; exact ⟨rfl, rfl⟩) (fun i => by rw [mu_n (Ne.symm hR.2.2.1), mu_n (Ne.symm hR.2.2.2)]; exact ⟨rfl, rfl⟩))
  · rw [vc_u ⟨by omega, hR.2.1⟩, dl_u hR.1]
    congr 1
    rw [← hg.1.2.1]
    congr 1
    exact vc_eq (fun q z1 z2 => hF q (by omega))
  · rw [rd_F (mu_n (by omega))]; exact hV.1.2
  · have hle := hV.1.1
    have l2 := (hS'.2.2.2.2.1 q (by omega)).1
    rw [vc_p (by omega), ← hg.1.2.1]
    exact hV.2 q hq
  · rw [vr_u ⟨by omega, by omega⟩ ⟨hR.1, hR.2.1⟩, dl_u hR.1]
    congr 1
    rw [← hg.2.1.1]
    exact vr_row (fun i hi => hK2 i hi)
  · exact ml_B_keep hK3 (fun i h1 h2 => by rw [mu_j (by omega)])
theorem a_put (h : ALL I r x m) (p s : Int32) : pr 59 129 [some (.ref x), some (.int p), some (.int s), none] [some (.ref m), some (.int p), some (.int s), none] I r x m := by
  obtain ⟨hS, ⟨sg, L, bn, B, n, ng, Lr, Br, hg⟩, hG2, hG3, hG4⟩ := id h
  obtain ⟨hm, hx, ⟨l1, l2, l3, l4⟩, hip, hpt, htp, hsh, hml⟩ := id hS
  obtain ⟨x0, x1, x2, x3, x4, x5, x6, x7, x8⟩ := id hx
  obtain ⟨⟨hps, hL, hpv⟩, ⟨hR, hB⟩, ⟨⟨⟨hG, hRR, hdr, hnt⟩, hbk⟩, ⟨⟨hG', hRR', hdr', hnt'⟩, hbk'⟩, hsm, hsB⟩⟩ := id hg
  have hLL : dl L = L := by rw [← hL]; exact dl_dl _
  have hLr : dl Lr = Lr := by rw [← hR]; exact dl_dl _
  have hs6 := s_6 hsm hLL hLr
  have vL : ∀ q i, q < 7 → vc I (x + 1) q i = L q i := fun q i hq => by rw [← hL, dl_at hq]
  have vR : ∀ q i, q < 7 → vr I (m + 5) m q i = Lr q i := fun q i hq => by rw [← hR, dl_at hq]
  have vRh : ∀ {k : Nat}, k < n → ∀ q, 1 ≤ q ∧ q ≤ 3 → vr I (m + 5) m q k = L q k := fun hk q hq => (vR q _ (by omega)).trans (hsm q _ (wc_h hq hk)).symm
  have vRg : ∀ {k : Nat}, k < ng → ∀ q, 4 ≤ q ∧ q ≤ 6 → vr I (m + 5) m q k = L q k := fun hk q hq => (vR q _ (by omega)).trans (hsm q _ (wc_g hq hk)).symm
  obtain ⟨⟨hn, e0⟩, ⟨hng, e1⟩, hpl⟩ := id hG
  have f0 : vc I (x + 1) 0 0 = nI n := by rw [vL 0 0 (by decide)]; exact e0
  have f1 : vc I (x + 1) 0 1 = nI ng := by rw [vL 0 1 (by decide)]; exact e1
  have g0 : vr I (m + 5) m 0 0 = nI n := by rw [vR 0 0 (by decide)]; exact hG'.1.2
  have g1 : vr I (m + 5) m 0 1 = nI ng := by rw [vR 0 1 (by decide)]; exact hG'.2.1.2
  unfold pr
  cases hk1 : okh p n with
  | false =>
    simp only [e59_0, e59_1, e59_4, e59_5, e59_8, e59_11, e59_12, e59_13, e59_15, e59_18, e59_21, e59_22, e59_23, e59_24, e59_27, e59_30, e59_31, e59_32, e59_33, e59_34, e59_35, e59_38, e59_40, e59_41, e59_42, e59_45, e59_46, e59_49, e59_52, e59_53, e59_56, e59_59, e59_60, e59_61, e59_62, e59_63, e129_0, e129_1, e129_2, e129_5, e129_8, e129_9, e129_10, e129_12, e129_15, e129_18, e129_19, e129_20, e129_21, e129_24, e129_26, e129_27, e129_28, e129_29, e129_30, e129_31, e129_32, e129_35, e129_37, e129_38, e129_39, e129_42, e129_43, e129_46, e129_48, e129_49, e129_50, e129_51, e129_52, e129_53, mm_pu_n, mm_pu_s, va_rf_s, mm_w8_0, mm_w8_1, mm_w8_2, mm_w8_3, mm_w8_4, mm_c1_n, mm_c1_i, mm_c1_a, mm_ct_a, mm_ct_i, true_and, and_true, and_self, eq_self, if_true, if_false, ite_true, ite_false, bI_t, bI_z, bI_nz, bI_01, true_or, or_true, reduceCtorEq, false_or, or_false, decide_eq_false_iff_not, decide_eq_true_eq, ite_not, x0, x1, x2, x3, x4, x5, x6, x7, x8, l1.s0, l1.p6, l1.p7, l1.p8, l1.p9, l1.p10, l1.p11, l1.p12, l1.p13, l1.i1, l1.i2, l1.i3, l1.i4, l1.i5, l1.i6, l1.i7, l1.i8, hml.s0, hml.p7, hml.i5, t_hasH l1 f0, u_isHouse hml hn g0, hk1, Bool.false_eq_true]
    exact fi_i _ h rfl rfl
  | true =>
    cases hk2 : wth s 0 20 with
    | false =>
      simp only [e59_0, e59_1, e59_4, e59_5, e59_8, e59_11, e59_12, e59_13, e59_15, e59_18, e59_21, e59_22, e59_23, e59_24, e59_27, e59_30, e59_31, e59_32, e59_33, e59_34, e59_35, e59_38, e59_40, e59_41, e59_42, e59_45, e59_46, e59_49, e59_52, e59_53, e59_56, e59_59, e59_60, e59_61, e59_62, e59_63, e129_0, e129_1, e129_2, e129_5, e129_8, e129_9, e129_10, e129_12, e129_15, e129_18, e129_19, e129_20, e129_21, e129_24, e129_26, e129_27, e129_28, e129_29, e129_30, e129_31, e129_32, e129_35, e129_37, e129_38, e129_39, e129_42, e129_43, e129_46, e129_48, e129_49, e129_50, e129_51, e129_52, e129_53, mm_pu_n, mm_pu_s, va_rf_s, mm_w8_0, mm_w8_1, mm_w8_2, mm_w8_3, mm_w8_4, mm_c1_n, mm_c1_i, mm_c1_a, mm_ct_a, mm_ct_i, true_and, and_true, and_self, eq_self, if_true, if_false, ite_true, ite_false, bI_t, bI_z, bI_nz, bI_01, true_or, or_true, reduceCtorEq, false_or, or_false, decide_eq_false_iff_not, decide_eq_true_eq, ite_not, x0, x1, x2, x3, x4, x5, x6, x7, x8, l1.s0, l1.p6, l1.p7, l1.p8, l1.p9, l1.p10, l1.p11, l1.p12, l1.p13, l1.i1, l1.i2, l1.i3, l1.i4, l1.i5, l1.i6, l1.i7, l1.i8, hml.s0, hml.p7, hml.i5, t_hasH l1 f0, u_isHouse hml hn g0, t_within, u_inw, hk1, hk2, Bool.true_eq_false]
      exact fi_i _ h rfl rfl
    | true =>
      obtain ⟨k, hkn, rfl⟩ := okh_of hk1 hn
      obtain ⟨s', -, hs, rfl⟩ := wth_of hk2 (a := 0) (b := 20) (by decide) (by decide) (by decide) (by decide)
      have hk6 : k < 6 := by omega
      simp only [e59_0, e59_1, e59_4, e59_5, e59_8, e59_11, e59_12, e59_13, e59_15, e59_18, e59_21, e59_22, e59_23, e59_24, e59_27, e59_30, e59_31, e59_32, e59_33, e59_34, e59_35, e59_38, e59_40, e59_41, e59_42, e59_45, e59_46, e59_49, mm_pu_n, mm_pu_s, va_rf_s, mm_w8_0, mm_w8_1, mm_w8_2, mm_w8_3, mm_w8_4, mm_c1_n, mm_c1_i, mm_c1_a, mm_ct_a, mm_ct_i, true_and, and_true, and_self, eq_self, if_true, if_false, ite_true, ite_false, bI_t, bI_z, bI_nz, bI_01, true_or, or_true, reduceCtorEq, false_or, or_false, decide_eq_false_iff_not, decide_eq_true_eq, ite_not, x0, x1, x2, x3, x4, x5, x6, x7, x8, l1.s0, l1.p6, l1.p7, l1.p8, l1.p9, l1.p10, l1.p11, l1.p12, l1.p13, l1.i1, l1.i2, l1.i3, l1.i4, l1.i5, l1.i6, l1.i7, l1.i8, t_hasH l1 f0, t_within, hk1, hk2, Bool.true_eq_false, in6 hk6, cl_nI hk6, rd_k (a := x + 1) (k := 2) ⟨by decide, hk6⟩, vL 2 k (by decide), hps.1]
      by_cases c : L 2 k = nI s'
      · rw [if_pos c]
        simp only [e129_0, e129_1, e129_2, e129_5, e129_8, e129_9, e129_10, e129_12, e129_15, e129_18, e129_19, e129_20, e129_21, e129_24, e129_26, e129_27, e129_28, e129_29, e129_30, e129_31, e129_32, e129_35, e129_37, e129_38, e129_39, e129_42, e129_43, e129_46, e129_48, e129_49, e129_50, e129_51, e129_52, e129_53, mm_pu_n, mm_pu_s, va_rf_s, mm_w8_0, mm_w8_1, mm_w8_2, mm_w8_3, mm_w8_4, mm_c1_n, mm_c1_i, mm_c1_a, mm_ct_a, mm_ct_i, true_and, and_true, and_self, eq_self, if_true, if_false, ite_true, ite_false, bI_t, bI_z, bI_nz, bI_01, true_or, or_true, reduceCtorEq, false_or, or_false, decide_eq_false_iff_not, decide_eq_true_eq, ite_not, hml.s0, hml.p7, hml.i5, u_isHouse hml hn g0, u_inw, hk1, hk2, Bool.true_eq_false, k9, in2 (show 9 + k < 248 by omega), cl2 (show 9 + k < 248 by omega), r9 m hk6, vRh hkn 2 (by decide), c]
        exact fi_i _ h rfl rfl
      · rw [if_neg c]
        refine t_remember hps hpv l1 (by omega) (fun J r' sg' hr hS' hV hF => ?_)
        have hS2 := HS_P hS hr
        have l1' : ln_S r' (x + 1) := hS2.2.2.1.1
        have hml' : ml_S r' m := hS2.2.2.2.2.2.2.2
        obtain ⟨y0, y1, -⟩ := id hS2.2.1
        simp only [mm_pu_n, e59_52, e59_53, e59_56, e59_59, e59_60, e59_61, e59_62, e59_63, mm_pu_n, mm_pu_s, va_rf_s, mm_w8_0, mm_w8_1, mm_w8_2, mm_w8_3, mm_w8_4, mm_c1_n, mm_c1_i, mm_c1_a, mm_ct_a, mm_ct_i, true_and, and_true, and_self, eq_self, if_true, if_false, ite_true, ite_false, bI_t, bI_z, bI_nz, bI_01, true_or, or_true, reduceCtorEq, false_or, or_false, decide_eq_false_iff_not, decide_eq_true_eq, ite_not, y0, y1, l1'.s0, l1'.p6, l1'.p7, l1'.p8, l1'.p9, l1'.p10, l1'.p11, l1'.p12, l1'.p13, l1'.i1, l1'.i2, l1'.i3, l1'.i4, l1'.i5, l1'.i6, l1'.i7, l1'.i8, in6 hk6, cl_nI hk6]
        have gJ : vr (mm_uI J (x + 1 + 2) k (nI s')) (m + 5) m 0 0 = nI n := by rw [vr_q (I := I) (by decide) (fun j _ => by rw [mu_n (by omega), hF _ (by omega)])]; exact g0
        have gk : vr (mm_uI J (x + 1 + 2) k (nI s')) (m + 5) m 2 k = L 2 k := by rw [vr_q (I := I) (by decide) (fun j _ => by rw [mu_n (by omega), hF _ (by omega)])]; exact vRh hkn 2 (by decide)
        simp only [e129_0, e129_1, e129_2, e129_5, e129_8, e129_9, e129_10, e129_12, e129_15, e129_18, e129_19, e129_20, e129_21, e129_24, e129_26, e129_27, e129_28, e129_29, e129_30, e129_31, e129_32, e129_35, e129_37, e129_38, e129_39, mm_pu_n, mm_pu_s, va_rf_s, mm_w8_0, mm_w8_1, mm_w8_2, mm_w8_3, mm_w8_4, mm_c1_n, mm_c1_i, mm_c1_a, mm_ct_a, mm_ct_i, true_and, and_true, and_self, eq_self, if_true, if_false, ite_true, ite_false, bI_t, bI_z, bI_nz, bI_01, true_or, or_true, reduceCtorEq, false_or, or_false, decide_eq_false_iff_not, decide_eq_true_eq, ite_not, hml'.s0, hml'.p7, hml'.i5, u_isHouse hml' hn gJ, u_inw, hk1, hk2, Bool.true_eq_false, k9, in2 (show 9 + k < 248 by omega), cl2 (show 9 + k < 248 by omega), r9 m hk6, gk]
        rw [if_neg c]
        refine u_note hml' (rM ⟨hR, hB⟩ (by rw [mu_n (by omega), hF _ (by omega)])).2 (fun K hK1 hK2 hK3 => ?_)
        simp only [mm_pu_n, e129_42, e129_43, e129_46, e129_48, e129_49, e129_50, e129_51, e129_52, e129_53, mm_pu_n, mm_pu_s, va_rf_s, mm_w8_0, mm_w8_1, mm_w8_2, mm_w8_3, mm_w8_4, mm_c1_n, mm_c1_i, mm_c1_a, mm_ct_a, mm_ct_i, true_and, and_true, and_self, eq_self, if_true, if_false, ite_true, ite_false, bI_t, bI_z, bI_nz, bI_01, true_or, or_true, reduceCtorEq, false_or, or_false, decide_eq_false_iff_not, decide_eq_true_eq, ite_not, hml'.s0, hml'.p7, hml'.i5, k9, in2 (show 9 + k < 248 by omega), cl2 (show 9 + k < 248 by omega)]
        rw [(rM (I1 := mm_uI J (x + 1 + 2) k (nI s')) ⟨hR, hB⟩ (by rw [mu_n (by omega), hF _ (by omega)])).1] at hK3
        exact fi_i _ (ALL_rem (R := 2) (k := k) h hg hr hS' hV hF ⟨by decide, hk6, by decide, by decide⟩ (gl_h ⟨hG, hRR, hdr, hnt⟩ (Or.inr (Or.inl ⟨rfl, s', hs, rfl⟩))) hK1 (fun i hi => by rw [hK2 i hi, mu_n (by omega), hF _ (by omega)]) hK3) hr.2.2.2.1 hr.2.2.2.2
theorem a_forgive (h : ALL I r x m) (p : Int32) : pr 62 132 [some (.ref x), some (.int p), none] [some (.ref m), some (.int p), none] I r x m := by
  obtain ⟨hS, ⟨sg, L, bn, B, n, ng, Lr, Br, hg⟩, hG2, hG3, hG4⟩ := id h
  obtain ⟨hm, hx, ⟨l1, l2, l3, l4⟩, hip, hpt, htp, hsh, hml⟩ := id hS
  obtain ⟨x0, x1, x2, x3, x4, x5, x6, x7, x8⟩ := id hx
  obtain ⟨⟨hps, hL, hpv⟩, ⟨hR, hB⟩, ⟨⟨⟨hG, hRR, hdr, hnt⟩, hbk⟩, ⟨⟨hG', hRR', hdr', hnt'⟩, hbk'⟩, hsm, hsB⟩⟩ := id hg
  have hLL : dl L = L := by rw [← hL]; exact dl_dl _
  have hLr : dl Lr = Lr := by rw [← hR]; exact dl_dl _
  have hs6 := s_6 hsm hLL hLr
  have vL : ∀ q i, q < 7 → vc I (x + 1) q i = L q i := fun q i hq => by rw [← hL, dl_at hq]
  have vR : ∀ q i, q < 7 → vr I (m + 5) m q i = Lr q i := fun q i hq => by rw [← hR, dl_at hq]
  have vRh : ∀ {k : Nat}, k < n → ∀ q, 1 ≤ q ∧ q ≤ 3 → vr I (m + 5) m q k = L q k := fun hk q hq => (vR q _ (by omega)).trans (hsm q _ (wc_h hq hk)).symm
  have vRg : ∀ {k : Nat}, k < ng → ∀ q, 4 ≤ q ∧ q ≤ 6 → vr I (m + 5) m q k = L q k := fun hk q hq => (vR q _ (by omega)).trans (hsm q _ (wc_g hq hk)).symm
  obtain ⟨⟨hn, e0⟩, ⟨hng, e1⟩, hpl⟩ := id hG
  have f0 : vc I (x + 1) 0 0 = nI n := by rw [vL 0 0 (by decide)]; exact e0
  have f1 : vc I (x + 1) 0 1 = nI ng := by rw [vL 0 1 (by decide)]; exact e1
  have g0 : vr I (m + 5) m 0 0 = nI n := by rw [vR 0 0 (by decide)]; exact hG'.1.2
  have g1 : vr I (m + 5) m 0 1 = nI ng := by rw [vR 0 1 (by decide)]; exact hG'.2.1.2
  unfold pr
  cases hk1 : okh p n with
  | false =>
    simp only [e62_0, e62_1, e62_4, e62_5, e62_8, e62_11, e62_12, e62_13, e62_14, e62_17, e62_20, e62_21, e62_22, e62_23, e62_24, e62_27, e62_29, e62_30, e62_31, e62_34, e62_35, e62_38, e62_41, e62_42, e62_45, e62_48, e62_49, e62_50, e62_51, e62_52, e132_0, e132_1, e132_2, e132_5, e132_8, e132_9, e132_10, e132_11, e132_14, e132_16, e132_17, e132_18, e132_19, e132_20, e132_21, e132_24, e132_26, e132_27, e132_28, e132_31, e132_32, e132_35, e132_37, e132_38, e132_39, e132_40, e132_41, e132_42, mm_pu_n, mm_pu_s, va_rf_s, mm_w8_0, mm_w8_1, mm_w8_2, mm_w8_3, mm_w8_4, mm_c1_n, mm_c1_i, mm_c1_a, mm_ct_a, mm_ct_i, true_and, and_true, and_self, eq_self, if_true, if_false, ite_true, ite_false, bI_t, bI_z, bI_nz, bI_01, true_or, or_true, reduceCtorEq, false_or, or_false, decide_eq_false_iff_not, decide_eq_true_eq, ite_not, x0, x1, x2, x3, x4, x5, x6, x7, x8, l1.s0, l1.p6, l1.p7, l1.p8, l1.p9, l1.p10, l1.p11, l1.p12, l1.p13, l1.i1, l1.i2, l1.i3, l1.i4, l1.i5, l1.i6, l1.i7, l1.i8, hml.s0, hml.p7, hml.i5, t_hasH l1 f0, u_isHouse hml hn g0, hk1, Bool.false_eq_true]
    exact fi_i _ h rfl rfl
  | true =>
    obtain ⟨k, hkn, rfl⟩ := okh_of hk1 hn
    have hk6 : k < 6 := by omega
    simp only [e62_0, e62_1, e62_4, e62_5, e62_8, e62_11, e62_12, e62_13, e62_14, e62_17, e62_20, e62_21, e62_22, e62_23, e62_24, e62_27, e62_29, e62_30, e62_31, e62_34, e62_35, e62_38, mm_pu_n, mm_pu_s, va_rf_s, mm_w8_0, mm_w8_1, mm_w8_2, mm_w8_3, mm_w8_4, mm_c1_n, mm_c1_i, mm_c1_a, mm_ct_a, mm_ct_i, true_and, and_true, and_self, eq_self, if_true, if_false, ite_true, ite_false, bI_t, bI_z, bI_nz, bI_01, true_or, or_true, reduceCtorEq, false_or, or_false, decide_eq_false_iff_not, decide_eq_true_eq, ite_not, x0, x1, x2, x3, x4, x5, x6, x7, x8, l1.s0, l1.p6, l1.p7, l1.p8, l1.p9, l1.p10, l1.p11, l1.p12, l1.p13, l1.i1, l1.i2, l1.i3, l1.i4, l1.i5, l1.i6, l1.i7, l1.i8, t_hasH l1 f0, hk1, Bool.true_eq_false, in6 hk6, cl_nI hk6, rd_k (a := x + 1) (k := 3) ⟨by decide, hk6⟩, vL 3 k (by decide), hps.1]
    by_cases c : L 3 k = 0
    · rw [if_pos c]
      simp only [e132_0, e132_1, e132_2, e132_5, e132_8, e132_9, e132_10, e132_11, e132_14, e132_16, e132_17, e132_18, e132_19, e132_20, e132_21, e132_24, e132_26, e132_27, e132_28, e132_31, e132_32, e132_35, e132_37, e132_38, e132_39, e132_40, e132_41, e132_42, mm_pu_n, mm_pu_s, va_rf_s, mm_w8_0, mm_w8_1, mm_w8_2, mm_w8_3, mm_w8_4, mm_c1_n, mm_c1_i, mm_c1_a, mm_ct_a, mm_ct_i, true_and, and_true, and_self, eq_self, if_true, if_false, ite_true, ite_false, bI_t, bI_z, bI_nz, bI_01, true_or, or_true, reduceCtorEq, false_or, or_false, decide_eq_false_iff_not, decide_eq_true_eq, ite_not, hml.s0, hml.p7, hml.i5, u_isHouse hml hn g0, hk1, Bool.true_eq_false, k15, in2 (show 15 + k < 248 by omega), cl2 (show 15 + k < 248 by omega), r15 m hk6, vRh hkn 3 (by decide), c]
      exact fi_i _ h rfl rfl
    · rw [if_neg c]
      refine t_remember hps hpv l1 (by omega) (fun J r' sg' hr hS' hV hF => ?_)
      have hS2 := HS_P hS hr
      have l1' : ln_S r' (x + 1) := hS2.2.2.1.1
      have hml' : ml_S r' m := hS2.2.2.2.2.2.2.2
      obtain ⟨y0, y1, -⟩ := id hS2.2.1
      simp only [mm_pu_n, e62_41, e62_42, e62_45, e62_48, e62_49, e62_50, e62_51, e62_52, mm_pu_n, mm_pu_s, va_rf_s, mm_w8_0, mm_w8_1, mm_w8_2, mm_w8_3, mm_w8_4, mm_c1_n, mm_c1_i, mm_c1_a, mm_ct_a, mm_ct_i, true_and, and_true, and_self, eq_self, if_true, if_false, ite_true, ite_false, bI_t, bI_z, bI_nz, bI_01, true_or, or_true, reduceCtorEq, false_or, or_false, decide_eq_false_iff_not, decide_eq_true_eq, ite_not, y0, y1, l1'.s0, l1'.p6, l1'.p7, l1'.p8, l1'.p9, l1'.p10, l1'.p11, l1'.p12, l1'.p13, l1'.i1, l1'.i2, l1'.i3, l1'.i4, l1'.i5, l1'.i6, l1'.i7, l1'.i8, in6 hk6, cl_nI hk6]
      have gJ : vr (mm_uI J (x + 1 + 3) k 0) (m + 5) m 0 0 = nI n := by rw [vr_q (I := I) (by decide) (fun j _ => by rw [mu_n (by omega), hF _ (by omega)])]; exact g0
      have gk : vr (mm_uI J (x + 1 + 3) k 0) (m + 5) m 3 k = L 3 k := by rw [vr_q (I := I) (by decide) (fun j _ => by rw [mu_n (by omega), hF _ (by omega)])]; exact vRh hkn 3 (by decide)
      simp only [e132_0, e132_1, e132_2, e132_5, e132_8, e132_9, e132_10, e132_11, e132_14, e132_16, e132_17, e132_18, e132_19, e132_20, e132_21, e132_24, e132_26, e132_27, e132_28, mm_pu_n, mm_pu_s, va_rf_s, mm_w8_0, mm_w8_1, mm_w8_2, mm_w8_3, mm_w8_4, mm_c1_n, mm_c1_i, mm_c1_a, mm_ct_a, mm_ct_i, true_and, and_true, and_self, eq_self, if_true, if_false, ite_true, ite_false, bI_t, bI_z, bI_nz, bI_01, true_or, or_true, reduceCtorEq, false_or, or_false, decide_eq_false_iff_not, decide_eq_true_eq, ite_not, hml'.s0, hml'.p7, hml'.i5, u_isHouse hml' hn gJ, hk1, Bool.true_eq_false, k15, in2 (show 15 + k < 248 by omega), cl2 (show 15 + k < 248 by omega), r15 m hk6, gk]
      rw [if_neg c]
      refine u_note hml' (rM ⟨hR, hB⟩ (by rw [mu_n (by omega), hF _ (by omega)])).2 (fun K hK1 hK2 hK3 => ?_)
      simp only [mm_pu_n, e132_31, e132_32, e132_35, e132_37, e132_38, e132_39, e132_40, e132_41, e132_42, mm_pu_n, mm_pu_s, va_rf_s, mm_w8_0, mm_w8_1, mm_w8_2, mm_w8_3, mm_w8_4, mm_c1_n, mm_c1_i, mm_c1_a, mm_ct_a, mm_ct_i, true_and, and_true, and_self, eq_self, if_true, if_false, ite_true, ite_false, bI_t, bI_z, bI_nz, bI_01, true_or, or_true, reduceCtorEq, false_or, or_false, decide_eq_false_iff_not, decide_eq_true_eq, ite_not, hml'.s0, hml'.p7, hml'.i5, k15, in2 (show 15 + k < 248 by omega), cl2 (show 15 + k < 248 by omega)]
      rw [(rM (I1 := mm_uI J (x + 1 + 3) k 0) ⟨hR, hB⟩ (by rw [mu_n (by omega), hF _ (by omega)])).1] at hK3
      exact fi_i _ (ALL_rem (R := 3) (k := k) h hg hr hS' hV hF ⟨by decide, hk6, by decide, by decide⟩ (gl_h ⟨hG, hRR, hdr, hnt⟩ (Or.inr (Or.inr (Or.inl ⟨rfl, 0, by decide, rfl⟩)))) hK1 (fun i hi => by rw [hK2 i hi, mu_n (by omega), hF _ (by omega)]) hK3) hr.2.2.2.1 hr.2.2.2.2
end
