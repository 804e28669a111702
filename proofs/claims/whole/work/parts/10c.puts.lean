theorem ALL_mk {I I1 I2 : mm_I} {r r1 : mm_R} {x m : Nat} {sg : Nat → Nat} {L : mm_I} {bn : Nat} {B : Nat → mm_I} {n ng : Nat} {Lr : mm_I} {Br : Nat → mm_I} (h : ALL I r x m) (hr : HS r1 x m) (hG : mm_G r1 = mm_G r) (hc : pa_S r1 (x + 19) sg ∧ dl (vc I1 (x + 1)) = L ∧ pa_V I1 (x + 19) sg bn B) (hf1 : ∀ q, ¬ (x + 1 ≤ q ∧ q < x + 93) → I1 q = I q) (hm' : dl (vr I2 (m + 5) m) = Lr ∧ ml_B I2 (m + 5) bn Br) (hf2 : ∀ q, q ≠ m + 5 → q ≠ m + 9 → q ≠ m + 10 → I2 q = I1 q) (hgd : gdd L Lr bn B Br n ng) : ALL I2 r1 x m := by
  obtain ⟨hS, -, h2, h3, h4⟩ := h
  have hm := hS.1
  have e : ∀ q, ¬ (x + 1 ≤ q ∧ q < x + 93) → q ≠ m + 5 → q ≠ m + 9 → q ≠ m + 10 → I2 q = I q := fun q a b c d => (hf2 q b c d).trans (hf1 q a)
  refine ⟨hr, ⟨sg, L, bn, B, n, ng, Lr, Br, ⟨hc.1, ?_, ?_⟩, hm', hgd⟩, G2_keep h2 hr (rd_F (e _ (by omega) (by omega) (by omega) (by omega))) (rd_F (e _ (by omega) (by omega) (by omega) (by omega))) (fun q z1 z2 => e q (by omega) (by omega) (by omega) (by omega)) (e _ (by omega) (by omega) (by omega) (by omega)), G3_keep h3 (rd_F (e _ (by omega) (by omega) (by omega) (by omega))) (rd_F (e _ (by omega) (by omega) (by omega) (by omega))) (e _ (by omega) (by omega) (by omega) (by omega)) (e _ (by omega) (by omega) (by omega) (by omega)), G4_keep h4 hG (fun k hk => e _ (by omega) (by omega) (by omega) (by omega)) (e _ (by omega) (by omega) (by omega) (by omega)) (e _ (by omega) (by omega) (by omega) (by omega))⟩
  · rw [vc_eq (fun q z1 z2 => hf2 q (by omega) (by omega) (by omega))]
    exact hc.2.1
  · obtain ⟨⟨a1, a2⟩, a3⟩ := hc.2.2
    refine ⟨⟨a1, by rw [rd_F (hf2 _ (by omega) (by omega) (by omega))]; exact a2⟩, fun k hk => ?_⟩
    have l1 := (hc.1.2.2.2.2.1 k (by omega)).1
    rw [vc_eq (fun q z1 z2 => hf2 q (by omega) (by omega) (by omega))]
    exact a3 k hk
theorem vr_q {I J : mm_I} {s m q i : Nat} (hq : q < 7) (h : ∀ j, j < 39 → J s j = I s j) : vr J s m q i = vr I s m q i := by
  unfold vr
  by_cases c : q < 9 ∧ i < wd q
  · rw [if_pos c, if_pos c, if_pos hq, if_pos hq, h _ (ps_lt hq c.2)]
  · rw [if_neg c, if_neg c]
theorem rM {I I1 : mm_I} {m : Nat} {L : mm_I} {bn : Nat} {B : Nat → mm_I} (h : dl (vr I (m + 5) m) = L ∧ ml_B I (m + 5) bn B) (he : I1 (m + 5) = I (m + 5)) : dl (vr I1 (m + 5) m) = L ∧ ml_B I1 (m + 5) bn B := ⟨by rw [← h.1]; exact vr_row (fun i _ => by rw [he]), ml_B_keep h.2 (fun i _ _ => by rw [he])⟩
theorem adh_gd {L : mm_I} {n ng o s : Nat} {B : Nat → mm_I} (h : gl L n ng) (hn : n < 6) (ho : o ≤ 9999) (hs : s ≤ 20) : gd (p_adh L n (nI o) (nI s) 0) 0 B (n + 1) ng := by
  obtain ⟨⟨⟨a1, a2⟩, ⟨a3, a4⟩, a5⟩, ⟨b1, b2, b3⟩, c1, d1⟩ := h
  refine ⟨⟨⟨⟨by omega, mu_s⟩, ⟨a3, ?_⟩, fun g hg => ?_⟩, ⟨fun q hq => ?_, fun g hg => ?_, ?_⟩, ?_, ?_⟩, fun k hk => absurd hk (by omega)⟩
  · unfold p_adh; rw [mu_j (by decide), mu_n (by decide), mu_n (by decide), mu_n (by decide)]; exact a4
  · obtain ⟨p, hp, e⟩ := a5 g hg
    exact ⟨p, by omega, by unfold p_adh; rw [mu_n (by decide), mu_n (by decide), mu_n (by decide), mu_n (by decide)]; exact e⟩
  · by_cases c : q = n
    · subst c
      refine ⟨0, o, s, by decide, ho, hs, ?_, ?_, ?_⟩
      · unfold p_adh; rw [mu_n (by decide), mu_s]; rfl
      · unfold p_adh; rw [mu_n (by decide), mu_n (by decide), mu_n (by decide), mu_s]
      · unfold p_adh; rw [mu_n (by decide), mu_n (by decide), mu_s]
    · obtain ⟨lk, ow, sc, z1, z2, z3, z4, z5, z6⟩ := b1 q (by omega)
      refine ⟨lk, ow, sc, z1, z2, z3, ?_, ?_, ?_⟩
      · unfold p_adh; rw [mu_n (by decide), mu_j c, mu_n (by decide), mu_n (by decide)]; exact z4
      · unfold p_adh; rw [mu_n (by decide), mu_n (by decide), mu_n (by decide), mu_j c]; exact z5
      · unfold p_adh; rw [mu_n (by decide), mu_n (by decide), mu_j c, mu_n (by decide)]; exact z6
  · unfold p_adh; rw [mu_n (by decide), mu_n (by decide), mu_n (by decide), mu_n (by decide), mu_n (by decide), mu_n (by decide), mu_n (by decide), mu_n (by decide)]
    exact b2 g hg
  · unfold p_adh; rw [mu_j (by decide), mu_n (by decide), mu_n (by decide), mu_n (by decide)]; exact b3
  · unfold p_adh; rw [mu_j (by decide), mu_n (by decide), mu_n (by decide), mu_n (by decide)]; exact c1
  · unfold p_adh; rw [mu_j (by decide), mu_n (by decide), mu_n (by decide), mu_n (by decide)]; exact d1
theorem adg_gd {L : mm_I} {n ng k g p : Nat} {B : Nat → mm_I} (h : gl L n ng) (hng : ng < 5) (hk : k ≤ 4) (hg : g ≤ 9) (hp : p < n) : gd (p_adg L ng (nI k) (nI g) (nI p)) 0 B n (ng + 1) := by
  obtain ⟨⟨⟨a1, a2⟩, ⟨a3, a4⟩, a5⟩, ⟨b1, b2, b3⟩, c1, d1⟩ := h
  refine ⟨⟨⟨⟨a1, ?_⟩, ⟨by omega, mu_s⟩, fun q hq => ?_⟩, ⟨fun q hq => ?_, fun q hq => ?_, ?_⟩, ?_, ?_⟩, fun k hk => absurd hk (by omega)⟩
  · unfold p_adg; rw [mu_j (by decide), mu_n (by decide), mu_n (by decide), mu_n (by decide)]; exact a2
  · by_cases c : q = ng
    · subst c
      exact ⟨p, hp, by unfold p_adg; rw [mu_n (by decide), mu_s]⟩
    · obtain ⟨p2, hp2, e⟩ := a5 q (by omega)
      exact ⟨p2, hp2, by unfold p_adg; rw [mu_n (by decide), mu_j c, mu_n (by decide), mu_n (by decide)]; exact e⟩
  · unfold p_adg; rw [mu_n (by decide), mu_n (by decide), mu_n (by decide), mu_n (by decide), mu_n (by decide), mu_n (by decide), mu_n (by decide), mu_n (by decide), mu_n (by decide), mu_n (by decide), mu_n (by decide), mu_n (by decide)]
    exact b1 q hq
  · by_cases c : q = ng
    · subst c
      exact ⟨g, k, hg, hk, by unfold p_adg; rw [mu_n (by decide), mu_n (by decide), mu_s], by unfold p_adg; rw [mu_n (by decide), mu_n (by decide), mu_n (by decide), mu_s]⟩
    · obtain ⟨q2, kd2, z1, z2, z3, z4⟩ := b2 q (by omega)
      exact ⟨q2, kd2, z1, z2, by unfold p_adg; rw [mu_n (by decide), mu_n (by decide), mu_j c, mu_n (by decide)]; exact z3, by unfold p_adg; rw [mu_n (by decide), mu_n (by decide), mu_n (by decide), mu_j c]; exact z4⟩
  · unfold p_adg; rw [mu_j (by decide), mu_n (by decide), mu_n (by decide), mu_n (by decide)]; exact b3
  · unfold p_adg; rw [mu_j (by decide), mu_n (by decide), mu_n (by decide), mu_n (by decide)]; exact c1
  · unfold p_adg; rw [mu_j (by decide), mu_n (by decide), mu_n (by decide), mu_n (by decide)]; exact d1
theorem ag_x {W : Nat → Nat → Prop} {M N : mm_I} (h : ag W M N) (k j : Nat) (y : Int32) : ag (fun q i => W q i ∨ (q = k ∧ i = j)) (mm_uI M k j y) (mm_uI N k j y) := fun q i hq => by
  by_cases c : q = k
  · subst c
    by_cases d : i = j
    · subst d
      rw [mu_s, mu_s]
    · rw [mu_j d, mu_j d]
      rcases hq with hq | hq
      · exact h q i hq
      · exact absurd hq.2 d
  · rw [mu_n c, mu_n c]
    rcases hq with hq | hq
    · exact h q i hq
    · exact absurd hq.1 c
theorem s_adh {L Lr : mm_I} {n ng : Nat} (h : ag (wc n ng) L Lr) (o s k : Int32) : ag (wc (n + 1) ng) (p_adh L n o s k) (p_adh Lr n o s k) := fun q i hq => by
  unfold p_adh
  refine ag_x (ag_x (ag_x (ag_x h 1 n o) 2 n s) 3 n k) 0 0 _ q i ?_
  unfold wc at hq ⊢
  omega
theorem s_adg {L Lr : mm_I} {n ng : Nat} (h : ag (wc n ng) L Lr) (k g p : Int32) : ag (wc n (ng + 1)) (p_adg L ng k g p) (p_adg Lr ng k g p) := fun q i hq => by
  unfold p_adg
  refine ag_x (ag_x (ag_x (ag_x h 4 ng k) 5 ng g) 6 ng p) 0 1 _ q i ?_
  unfold wc at hq ⊢
  omega
theorem dl_adh (M : mm_I) (n : Nat) (o s k : Int32) : dl (p_adh M n o s k) = p_adh (dl M) n o s k := by unfold p_adh; rw [dl_u (by decide), dl_u (by decide), dl_u (by decide), dl_u (by decide)]
theorem dl_adg (M : mm_I) (n : Nat) (o s k : Int32) : dl (p_adg M n o s k) = p_adg (dl M) n o s k := by unfold p_adg; rw [dl_u (by decide), dl_u (by decide), dl_u (by decide), dl_u (by decide)]
section
variable {r : mm_R} {I : mm_I} {x m : Nat} {Q : Option Value → mm_I → mm_R → Prop}
theorem u_addHouse {s m : Nat} (h : ∀ y, mm_ix r s 2 y = vp_in y 248) (hs : rw_ok s m) {n : Nat} (hn : n < 6) (h0 : vr I s m 0 0 = nI n) (o k : Int32) (hq : ∀ J, vr J s m = p_adh (vr I s m) n o k 0 → (∀ q, q ≠ s → J q = I q) → (∀ i, 39 ≤ i → J s i = I s i) → Q (some (.int (nI n))) J r) : mm_E 99 0 [some (.ref s), some (.int o), some (.int k), none] [] I r Q := by
  have v3 : ∀ (N : mm_I) (y : Int32), vr (mm_uI N s (3 + n) y) s m = mm_uI (vr N s m) 1 n y := fun N y => vr_u (k := 1) hs ⟨by decide, hn⟩
  have v9 : ∀ (N : mm_I) (y : Int32), vr (mm_uI N s (9 + n) y) s m = mm_uI (vr N s m) 2 n y := fun N y => vr_u (k := 2) hs ⟨by decide, hn⟩
  have v15 : ∀ (N : mm_I) (y : Int32), vr (mm_uI N s (15 + n) y) s m = mm_uI (vr N s m) 3 n y := fun N y => vr_u (k := 3) hs ⟨by decide, hn⟩
  have v27 : ∀ (N : mm_I) (y : Int32), vr (mm_uI N s 27 y) s m = mm_uI (vr N s m) 0 0 y := fun N y => vr_u (k := 0) (i := 0) hs ⟨by decide, by decide⟩
  have e : ∀ N : mm_I, mm_uI (mm_uI (mm_uI N 1 n o) 2 n k) 3 n 0 0 0 = N 0 0 := fun N => by rw [mu_n (by decide), mu_n (by decide), mu_n (by decide)]
  simp only [e99_0, e99_1, e99_3, e99_4, e99_5, e99_6, e99_7, e99_8, e99_9, e99_10, e99_11, e99_12, e99_14, e99_15, e99_16, e99_17, e99_18, e99_19, e99_21, e99_22, e99_23, e99_24, e99_25, e99_26, e99_28, e99_29, e99_30, e99_31, e99_32, e99_33, e99_34, mm_pu_n, mm_pu_s, va_rf_s, mm_w8_0, mm_w8_1, mm_w8_2, mm_w8_3, mm_w8_4, mm_c1_n, mm_c1_i, mm_c1_a, mm_ct_a, mm_ct_i, true_and, and_true, and_self, eq_self, if_true, if_false, ite_true, ite_false, bI_t, bI_z, bI_nz, bI_01, true_or, or_true, reduceCtorEq, false_or, or_false, decide_eq_false_iff_not, decide_eq_true_eq, ite_not, h, c27.1, d27.1, r27 m, h0, k3, k9, k15, in2 (show 3 + n < 248 by omega), cl2 (show 3 + n < 248 by omega), in2 (show 9 + n < 248 by omega), cl2 (show 9 + n < 248 by omega), in2 (show 15 + n < 248 by omega), cl2 (show 15 + n < 248 by omega), v3, v9, v15, e, nI_1]
  refine hq _ ?_ (fun q hq => by rw [mu_n hq, mu_n hq, mu_n hq, mu_n hq]) (fun i hi => by rw [mu_j (by omega), mu_j (by omega), mu_j (by omega), mu_j (by omega)])
  rw [v27, v15, v9, v3]
  rfl
theorem u_addHog {s m : Nat} (h : ∀ y, mm_ix r s 2 y = vp_in y 248) (hs : rw_ok s m) {n : Nat} (hn : n < 5) (h0 : vr I s m 0 1 = nI n) (k g p : Int32) (hq : ∀ J, vr J s m = p_adg (vr I s m) n k g p → (∀ q, q ≠ s → J q = I q) → (∀ i, 39 ≤ i → J s i = I s i) → Q (some (.int (nI n))) J r) : mm_E 100 0 [some (.ref s), some (.int k), some (.int g), some (.int p), none] [] I r Q := by
  have v29 : ∀ (N : mm_I) (y : Int32), vr (mm_uI N s (29 + n) y) s m = mm_uI (vr N s m) 4 n y := fun N y => vr_u (k := 4) hs ⟨by decide, hn⟩
  have v34 : ∀ (N : mm_I) (y : Int32), vr (mm_uI N s (34 + n) y) s m = mm_uI (vr N s m) 5 n y := fun N y => vr_u (k := 5) hs ⟨by decide, hn⟩
  have v21 : ∀ (N : mm_I) (y : Int32), vr (mm_uI N s (21 + n) y) s m = mm_uI (vr N s m) 6 n y := fun N y => vr_u (k := 6) hs ⟨by decide, hn⟩
  have v28 : ∀ (N : mm_I) (y : Int32), vr (mm_uI N s 28 y) s m = mm_uI (vr N s m) 0 1 y := fun N y => vr_u (k := 0) (i := 1) hs ⟨by decide, by decide⟩
  have e : ∀ N : mm_I, mm_uI (mm_uI (mm_uI N 4 n k) 5 n g) 6 n p 0 1 = N 0 1 := fun N => by rw [mu_n (by decide), mu_n (by decide), mu_n (by decide)]
  simp only [e100_0, e100_1, e100_3, e100_4, e100_6, e100_7, e100_9, e100_11, e100_12, e100_13, e100_14, e100_15, e100_17, e100_19, e100_20, e100_21, e100_22, e100_23, e100_25, e100_27, e100_28, e100_29, e100_30, e100_31, e100_33, e100_34, e100_35, e100_36, e100_37, e100_38, e100_40, mm_pu_n, mm_pu_s, va_rf_s, mm_w8_0, mm_w8_1, mm_w8_2, mm_w8_3, mm_w8_4, mm_c1_n, mm_c1_i, mm_c1_a, mm_ct_a, mm_ct_i, true_and, and_true, and_self, eq_self, if_true, if_false, ite_true, ite_false, bI_t, bI_z, bI_nz, bI_01, true_or, or_true, reduceCtorEq, false_or, or_false, decide_eq_false_iff_not, decide_eq_true_eq, ite_not, h, c27.2.1, d27.2.1, r28 m, h0, k29, k34, k21, in2 (show 29 + n < 248 by omega), cl2 (show 29 + n < 248 by omega), in2 (show 34 + n < 248 by omega), cl2 (show 34 + n < 248 by omega), in2 (show 21 + n < 248 by omega), cl2 (show 21 + n < 248 by omega), v29, v34, v21, e, nI_1]
  refine hq _ ?_ (fun q hq => by rw [mu_n hq, mu_n hq, mu_n hq, mu_n hq]) (fun i hi => by rw [mu_j (by omega), mu_j (by omega), mu_j (by omega), mu_j (by omega)])
  rw [v28, v21, v34, v29]
  rfl
theorem a_house (h : ALL I r x m) (o s : Int32) : pr 50 101 [some (.ref x), some (.int o), some (.int s)] [some (.ref m), some (.int o), some (.int s)] I r x m := by
  obtain ⟨hS, ⟨sg, L, bn, B, n, ng, Lr, Br, hg⟩, hG2, hG3, hG4⟩ := id h
  obtain ⟨hm, hx, ⟨l1, l2, l3, l4⟩, hip, hpt, htp, hsh, hml⟩ := id hS
  obtain ⟨x0, x1, x2, x3, x4, x5, x6, x7, x8⟩ := id hx
  obtain ⟨⟨hps, hL, hpv⟩, ⟨hR, hB⟩, ⟨⟨⟨hG, hRR, hdr, hnt⟩, hbk⟩, ⟨⟨hG', hRR', hdr', hnt'⟩, hbk'⟩, hsm, hsB⟩⟩ := id hg
  have hLL : dl L = L := by rw [← hL]; exact dl_dl _
  have hLr : dl Lr = Lr := by rw [← hR]; exact dl_dl _
  have hs6 := s_6 hsm hLL hLr
  have vL : ∀ q i, q < 7 → vc I (x + 1) q i = L q i := fun q i hq => by rw [← hL, dl_at hq]
  have vR : ∀ q i, q < 7 → vr I (m + 5) m q i = Lr q i := fun q i hq => by rw [← hR, dl_at hq]
  have vRh : ∀ {k : Nat}, k < n → ∀ q, 1 ≤ q ∧ q ≤ 3 → vr I (m + 5) m q k = L q k := fun hk q hq => (vR q _ (by omega)).trans (hsm q _ (wc_h hq hk)).symm
  have vRg : ∀ {k : Nat}, k < ng → ∀ q, 4 ≤ q ∧ q ≤ 6 → vr I (m + 5) m q k = L q k := fun hk q hq => (vR q _ (by omega)).trans (hsm q _ (wc_g hq hk)).symm
  obtain ⟨⟨hn, e0⟩, ⟨hng, e1⟩, hpl⟩ := id hG
  have f0 : vc I (x + 1) 0 0 = nI n := by rw [vL 0 0 (by decide)]; exact e0
  have f1 : vc I (x + 1) 0 1 = nI ng := by rw [vL 0 1 (by decide)]; exact e1
  have g0 : vr I (m + 5) m 0 0 = nI n := by rw [vR 0 0 (by decide)]; exact hG'.1.2
  have g1 : vr I (m + 5) m 0 1 = nI ng := by rw [vR 0 1 (by decide)]; exact hG'.2.1.2
  unfold pr
  have c39 : vp_in (39 : Int32) 248 := c27.2.2.2.2.2.2
  have d39 : (39 : Int32).toNatClampNeg = 39 := d27.2.2.2.2.2.2
  cases hk1 : wth o 0 9999 with
  | false =>
    simp only [e50_0, e50_1, e50_2, e50_5, e50_8, e50_11, e50_12, e50_13, e50_15, e50_18, e50_21, e50_22, e50_23, e50_24, e50_27, e50_30, e50_32, e50_35, e50_37, e50_38, e50_39, e50_42, e50_45, e50_46, e50_49, e50_50, e50_51, e50_52, e50_55, e101_0, e101_1, e101_2, e101_5, e101_8, e101_11, e101_12, e101_13, e101_15, e101_18, e101_21, e101_22, e101_23, e101_24, e101_27, e101_29, e101_30, e101_32, e101_35, e101_37, e101_38, e101_39, e101_42, e101_44, e101_45, e101_46, e101_47, e101_50, e101_51, e101_52, e101_55, mm_pu_n, mm_pu_s, va_rf_s, mm_w8_0, mm_w8_1, mm_w8_2, mm_w8_3, mm_w8_4, mm_c1_n, mm_c1_i, mm_c1_a, mm_ct_a, mm_ct_i, true_and, and_true, and_self, eq_self, if_true, if_false, ite_true, ite_false, bI_t, bI_z, bI_nz, bI_01, true_or, or_true, reduceCtorEq, false_or, or_false, decide_eq_false_iff_not, decide_eq_true_eq, ite_not, t_within, u_inw, hk1, Bool.false_eq_true]
    exact fi_i _ h rfl rfl
  | true =>
    cases hk2 : wth s 0 20 with
    | false =>
      simp only [e50_0, e50_1, e50_2, e50_5, e50_8, e50_11, e50_12, e50_13, e50_15, e50_18, e50_21, e50_22, e50_23, e50_24, e50_27, e50_30, e50_32, e50_35, e50_37, e50_38, e50_39, e50_42, e50_45, e50_46, e50_49, e50_50, e50_51, e50_52, e50_55, e101_0, e101_1, e101_2, e101_5, e101_8, e101_11, e101_12, e101_13, e101_15, e101_18, e101_21, e101_22, e101_23, e101_24, e101_27, e101_29, e101_30, e101_32, e101_35, e101_37, e101_38, e101_39, e101_42, e101_44, e101_45, e101_46, e101_47, e101_50, e101_51, e101_52, e101_55, mm_pu_n, mm_pu_s, va_rf_s, mm_w8_0, mm_w8_1, mm_w8_2, mm_w8_3, mm_w8_4, mm_c1_n, mm_c1_i, mm_c1_a, mm_ct_a, mm_ct_i, true_and, and_true, and_self, eq_self, if_true, if_false, ite_true, ite_false, bI_t, bI_z, bI_nz, bI_01, true_or, or_true, reduceCtorEq, false_or, or_false, decide_eq_false_iff_not, decide_eq_true_eq, ite_not, t_within, u_inw, hk1, hk2, Bool.true_eq_false]
      exact fi_i _ h rfl rfl
    | true =>
      obtain ⟨o', -, ho, rfl⟩ := wth_of hk1 (a := 0) (b := 9999) (by decide) (by decide) (by decide) (by decide)
      obtain ⟨s', -, hs, rfl⟩ := wth_of hk2 (a := 0) (b := 20) (by decide) (by decide) (by decide) (by decide)
      simp only [e50_0, e50_1, e50_2, e50_5, e50_8, e50_11, e50_12, e50_13, e50_15, e50_18, e50_21, e50_22, e50_23, e50_24, e50_27, e50_30, e50_32, e50_35, e50_37, e50_38, e50_39, e50_42, e50_45, e50_46, e50_49, e50_50, e50_51, e50_52, e50_55, mm_pu_n, mm_pu_s, va_rf_s, mm_w8_0, mm_w8_1, mm_w8_2, mm_w8_3, mm_w8_4, mm_c1_n, mm_c1_i, mm_c1_a, mm_ct_a, mm_ct_i, true_and, and_true, and_self, eq_self, if_true, if_false, ite_true, ite_false, bI_t, bI_z, bI_nz, bI_01, true_or, or_true, reduceCtorEq, false_or, or_false, decide_eq_false_iff_not, decide_eq_true_eq, ite_not, x0, x1, x2, x3, x4, x5, x6, x7, x8, l1.s0, l1.p6, l1.p7, l1.p8, l1.p9, l1.p10, l1.p11, l1.p12, l1.p13, l1.i1, l1.i2, l1.i3, l1.i4, l1.i5, l1.i6, l1.i7, l1.i8, t_within, hk1, hk2, Bool.true_eq_false, rd_0 (a := x + 1) (i := 0) (by decide), f0]
      by_cases c : n = 6
      · subst c
        rw [if_neg (by decide)]
        simp only [e101_0, e101_1, e101_2, e101_5, e101_8, e101_11, e101_12, e101_13, e101_15, e101_18, e101_21, e101_22, e101_23, e101_24, e101_27, e101_29, e101_30, e101_32, e101_35, e101_37, e101_38, e101_39, e101_42, e101_44, e101_45, e101_46, e101_47, e101_50, e101_51, e101_52, e101_55, mm_pu_n, mm_pu_s, va_rf_s, mm_w8_0, mm_w8_1, mm_w8_2, mm_w8_3, mm_w8_4, mm_c1_n, mm_c1_i, mm_c1_a, mm_ct_a, mm_ct_i, true_and, and_true, and_self, eq_self, if_true, if_false, ite_true, ite_false, bI_t, bI_z, bI_nz, bI_01, true_or, or_true, reduceCtorEq, false_or, or_false, decide_eq_false_iff_not, decide_eq_true_eq, ite_not, hml.s0, hml.p7, hml.i5, u_inw, hk1, hk2, Bool.true_eq_false, c27.1, d27.1, r27 m, g0, show (nI 6 = (6 : Int32)) = True from eq_true (by decide)]
        exact fi_i _ h rfl rfl
      · have hn6 : n < 6 := by omega
        rw [if_pos (by rw [show (6 : Int32) = nI 6 from by decide]; exact nI_lt hn6 (by decide))]
        simp only [hps.1, t_forget hps.1, e50_45, e50_46, e50_49, e50_50, e50_51, e50_52, mm_pu_n, mm_pu_s, va_rf_s, mm_w8_0, mm_w8_1, mm_w8_2, mm_w8_3, mm_w8_4, mm_c1_n, mm_c1_i, mm_c1_a, mm_ct_a, mm_ct_i, true_and, and_true, and_self, eq_self, if_true, if_false, ite_true, ite_false, bI_t, bI_z, bI_nz, bI_01, true_or, or_true, reduceCtorEq, false_or, or_false, decide_eq_false_iff_not, decide_eq_true_eq, ite_not, x0, x1, x2, x3, x4, x5, x6, x7, x8, l1.s0, l1.p6, l1.p7, l1.p8, l1.p9, l1.p10, l1.p11, l1.p12, l1.p13, l1.i1, l1.i2, l1.i3, l1.i4, l1.i5, l1.i6, l1.i7, l1.i8]
        have f0' : vc (mm_uI I (x + 19) 1 0) (x + 1) 0 0 = nI n := by rw [vc_p (by omega)]; exact f0
        refine t_addHouse l1 hn6 f0' (nI o') (nI s') 0 (fun J hJ hF => ?_)
        have hJF : ∀ q, ¬ (x + 1 ≤ q ∧ q < x + 93) → J q = I q := fun q hq => by rw [hF q (by omega), mu_n (by omega)]
        have gJ : vr J (m + 5) m 0 0 = nI n := by rw [vr_q (I := I) (by decide) (fun j _ => by rw [hJF _ (by omega)])]; exact g0
        simp only [mm_pu_s, e50_55]
        simp only [e101_0, e101_1, e101_2, e101_5, e101_8, e101_11, e101_12, e101_13, e101_15, e101_18, e101_21, e101_22, e101_23, e101_24, e101_27, e101_29, e101_30, e101_32, e101_35, e101_37, e101_38, e101_39, e101_42, e101_44, e101_45, e101_46, e101_47, e101_50, e101_51, e101_52, mm_pu_n, mm_pu_s, va_rf_s, mm_w8_0, mm_w8_1, mm_w8_2, mm_w8_3, mm_w8_4, mm_c1_n, mm_c1_i, mm_c1_a, mm_ct_a, mm_ct_i, true_and, and_true, and_self, eq_self, if_true, if_false, ite_true, ite_false, bI_t, bI_z, bI_nz, bI_01, true_or, or_true, reduceCtorEq, false_or, or_false, decide_eq_false_iff_not, decide_eq_true_eq, ite_not, hml.s0, hml.p7, hml.i5, u_inw, hk1, hk2, Bool.true_eq_false, c27.1, d27.1, r27 m, gJ, c39, d39, show (nI n = (6 : Int32)) = False from eq_false (by rw [show (6 : Int32) = nI 6 from by decide, nI_eq (by omega) (by decide)]; exact c)]
        have gJ' : vr (mm_uI J (m + 5) 39 0) (m + 5) m 0 0 = nI n := by rw [vr_q (I := J) (by decide) (fun j hj => by rw [mu_j (by omega)])]; exact gJ
        refine u_addHouse (m := m) hml.i5 ⟨by omega, by omega⟩ hn6 gJ' (nI o') (nI s') (fun K hK hKo hK39 => ?_)
        simp only [mm_pu_s, e101_55]
        refine fi_i _ (ALL_mk (sg := sg) (L := p_adh L n (nI o') (nI s') 0) (bn := 0) (B := B) (Lr := p_adh Lr n (nI o') (nI s') 0) (Br := Br) (I1 := J) h hS rfl ⟨hps, ?_, ⟨⟨by decide, ?_⟩, fun k hk => absurd hk (by omega)⟩⟩ hJF ⟨?_, ⟨⟨by decide, ?_⟩, fun k hk => absurd hk (by omega)⟩⟩ (fun q z1 _ _ => by rw [hKo q z1, mu_n z1]) ⟨adh_gd ⟨hG, hRR, hdr, hnt⟩ hn6 ho hs, adh_gd ⟨hG', hRR', hdr', hnt'⟩ hn6 ho hs, s_adh hsm _ _ _, fun k hk => absurd hk (by omega)⟩) rfl rfl
        · rw [hJ, dl_adh, vc_p (by omega), hL]
        · rw [rd_F (hF _ (by omega))]; exact rd_u
        · rw [hK, dl_adh]
          congr 1
          rw [← hR]
          exact vr_row (fun i hi => by rw [mu_j (by omega), hJF _ (by omega)])
        · rw [hK39 39 (by decide), mu_s]; rfl
end
