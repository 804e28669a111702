def CX (I : mm_I) (x : Nat) (L : mm_I) : Prop := ∀ q i, q < 7 → vc I (x + 1) q i = L q i
def MX (I : mm_I) (m : Nat) (L : mm_I) : Prop := ∀ q i, q < 7 → vr I (m + 5) m q i = L q i
def fc (I J : mm_I) (x : Nat) : Prop := ∀ q, ¬ (x + 10 ≤ q ∧ q < x + 19) → J q = I q
def fm (I J : mm_I) (m : Nat) : Prop := ∀ q, q ≠ m + 6 → q ≠ m + 9 → q ≠ m + 10 → J q = I q
theorem fc.tr {I J K : mm_I} {x : Nat} (h1 : fc I J x) (h2 : fc J K x) : fc I K x := fun q hq => (h2 q hq).trans (h1 q hq)
theorem fm.tr {I J K : mm_I} {m : Nat} (h1 : fm I J m) (h2 : fm J K m) : fm I K m := fun q a b c => (h2 q a b c).trans (h1 q a b c)
theorem fc.rf {I : mm_I} {x : Nat} : fc I I x := fun _ _ => rfl
theorem fm.rf {I : mm_I} {m : Nat} : fm I I m := fun _ _ _ _ => rfl
theorem CX.k {I J : mm_I} {x : Nat} {L : mm_I} (h : CX I x L) (hf : fc I J x) : CX J x L := fun q i hq => by rw [vc_eq (I := I) (fun q a b => hf q (by omega))]; exact h q i hq
theorem MX.k {I J : mm_I} {m : Nat} {L : mm_I} (h : MX I m L) (hf : J (m + 5) = I (m + 5)) : MX J m L := fun q i hq => by rw [vr_q (I := I) hq (fun j _ => by rw [hf])]; exact h q i hq
theorem ag_G {M N : mm_I} {n ng k : Nat} {e : Prop} (h : ag (w6 k e) M N) (hG : ln_G N n ng) : ln_G M n ng := ln_G_keep hG (h 0 0 (Or.inl (by decide))) (h 0 1 (Or.inl (by decide))) (funext fun i => h 6 i (Or.inl (by decide)))
theorem ag_R {M N : mm_I} {n ng k : Nat} {e : Prop} (h : ag (w6 k e) M N) (hR : ln_R N n ng) : ln_R M n ng := by
  obtain ⟨b1, b2, b3⟩ := hR
  exact ⟨fun q hq => by rw [h 3 q (Or.inl (by decide)), h 1 q (Or.inl (by decide)), h 2 q (Or.inl (by decide))]; exact b1 q hq, fun g hg => by rw [h 5 g (Or.inl (by decide)), h 4 g (Or.inl (by decide))]; exact b2 g hg, by rw [h 0 2 (Or.inl (by decide))]; exact b3⟩
theorem pn_R {L : mm_I} {n ng : Nat} (hG : ln_G L n ng) (hR : ln_R L n ng) : ∀ k, ln_R (p_nights L n ng k) n ng := by
  intro k
  induction k with
  | zero => exact hR
  | succ k ih => exact p_night_R 0 ih (p_nights_G hG k)
theorem ag6_u {M N : mm_I} {n R k : Nat} {y : Int32} (h : ag (w6 n True) M N) : ag (w6 n True) (mm_uI M R k y) (mm_uI N R k y) := h.u R k rfl
section
variable {r : mm_R} {I : mm_I} {x m : Nat} {Q : Option Value → mm_I → mm_R → Prop}
theorem f_take (n : Nat) {L : mm_I} (hS : HS r x m) (hc : CX I x L) (hL : dl L = L) (hq : ∀ J, ag (w6 n True) (vc J (x + 10)) L → fc I J x → Q none J r) : mm_E 1 0 [some (.ref (x + 10)), some (.ref (x + 1)), none] [] I r Q := by
  refine t_takeFrom hS.2.2.1.2.1 hS.2.2.1.1 (by unfold dj; omega) (fun J hJ hF => hq J (fun q i hq => ?_) (fun q hq => hF q (by omega)))
  rw [hJ]
  unfold p_tk
  rcases hq with hq | ⟨hq, -, -⟩
  · rw [if_neg (by omega), if_neg (by omega)]; exact hc q i hq
  · rw [if_neg (by omega), if_pos hq, ← hL]
    unfold dl
    rw [if_neg (by omega)]
theorem f_nights {M : mm_I} {n ng t : Nat} (hS : HS r x m) (ha : ag (w6 n True) (vc I (x + 10)) M) (hG : ln_G M n ng) (ht : t ≤ 1000) (hq : ∀ J, ag (w6 n True) (vc J (x + 10)) (p_nights M n ng t) → fc I J x → Q none J r) : mm_E 15 0 [some (.ref (x + 10)), some (.int (nI t)), none] [] I r Q := by
  refine t_passNights hS.2.2.1.2.1 (ag_G ha hG) ht (fun J hJ hF => hq J ?_ (fun q hq => hF q (by omega)))
  rw [hJ]
  exact ag_nights ha (ag_G ha hG) t
theorem f_night {M : mm_I} {n ng : Nat} (hS : HS r x m) (ha : ag (w6 n True) (vc I (x + 10)) M) (hG : ln_G M n ng) (s : Int32) (hq : ∀ J, ag (w7 n True) (vc J (x + 10)) (p_night M n ng s) → fc I J x → Q none J r) : mm_E 16 0 [some (.ref (x + 10)), some (.int s), none, none] [] I r Q := by
  refine t_passNight hS.2.2.1.2.1 (ag_G ha hG) s (fun J hJ hF => hq J ?_ (fun q hq => hF q (by omega)))
  rw [hJ]
  exact ag_night ha s (ag_G ha hG)
theorem g_begin (n : Nat) {L : mm_I} (hn : n ≤ 6) (hml : ml_S r m) (hc : MX I m L) (hL : dl L = L) (hq : ∀ J, ag (w6 n True) (vr J (m + 6) m) L → fm I J m → Q none J r) : mm_E 136 0 [some (.ref m), none] [] I r Q := by
  refine u_begin hml (fun J h1 h2 h3 => hq J (fun q i hq => ?_) (fun q a b c => h1 q a c))
  rcases hq with hq | ⟨hq, -, hi⟩
  · have e := vr_row (I := I) (J := J) (s := m + 5) (t := m + 6) (m := m) (u := m) (fun i hi => h2 i (by omega))
    rw [← dl_at (M := vr J (m + 6) m) hq, e, dl_at hq]
    exact hc q i hq
  · subst hq
    have z : L 8 i = 0 := by rw [← hL]; rfl
    rw [z, ← rr_8 (s := m + 6) (m := m) (show i < 6 by omega)]
    exact h3 i (by omega)
theorem g_goOn {M : mm_I} {n ng t : Nat} (hml : ml_S r m) (ha : ag (w6 n True) (vr I (m + 6) m) M) (hG : ln_G M n ng) (hR : ln_R M n ng) (ht : t ≤ 1000) (hq : ∀ J, ag (w6 n True) (vr J (m + 6) m) (p_nights M n ng t) → fm I J m → Q none J r) : mm_E 137 0 [some (.ref m), some (.int (nI t)), none] [] I r Q := by
  refine u_goOn hml (ag_G ha hG) (ag_R ha hR) ht (fun J hJ hF => hq J ?_ (fun q a b c => hF.1 q a b c))
  rw [hJ]
  exact ag_nights ha (ag_G ha hG) t
theorem g_night {M : mm_I} {n ng : Nat} (hml : ml_S r m) (ha : ag (w6 n True) (vr I (m + 6) m) M) (hG : ln_G M n ng) (hR : ln_R M n ng) (s : Int32) (hq : ∀ J, ag (w7 n True) (vr J (m + 6) m) (p_night M n ng s) → fm I J m → Q none J r) : mm_E 127 0 [some (.ref m), some (.ref (m + 6)), some (.int s), none, none, none] [] I r Q := by
  refine u_nightIn hml hml.i6 ⟨by omega, by omega⟩ (ag_G ha hG) (ag_R ha hR) s (fun J hJ hF => hq J ?_ (fun q a b c => hF.1 q a b c))
  rw [hJ]
  exact ag_night ha s (ag_G ha hG)
theorem ALL_f {J K : mm_I} (h : ALL I r x m) (h1 : fc I J x) (h2 : fm J K m) : ALL K r x m := ALL_scr h (fun q hq => by
  unfold scr at hq
  rw [h2 q (by omega) (by omega) (by omega), h1 q (by omega)])
theorem t_foretell {L : mm_I} {n ng t : Nat} (hS : HS r x m) (hc : CX I x L) (hL : dl L = L) (hG : ln_G L n ng) (ht : t ≤ 1000) (hq : ∀ J, ag (w6 n True) (vc J (x + 10)) (p_nights L n ng t) → fc I J x → Q none J r) : mm_E 86 0 [some (.ref x), some (.int (nI t))] [] I r Q := by
  obtain ⟨x0, x1, x2, -⟩ := id hS.2.1
  simp only [e86_0, e86_1, e86_4, e86_5, e86_8, mm_pu_n, mm_pu_s, va_rf_s, mm_w8_0, mm_w8_1, mm_w8_2, mm_w8_3, mm_w8_4, mm_c1_n, mm_c1_i, mm_c1_a, mm_ct_a, mm_ct_i, true_and, and_true, and_self, eq_self, if_true, if_false, ite_true, ite_false, bI_t, bI_z, bI_nz, bI_01, true_or, or_true, reduceCtorEq, false_or, or_false, decide_eq_false_iff_not, decide_eq_true_eq, ite_not, x0, x1, x2, (hS.2.2.1.2.1).s0]
  refine f_take n hS hc hL (fun J hJ hF => ?_)
  simp only [mm_pu_n, e86_11, e86_12, e86_15, e86_16, mm_pu_n, mm_pu_s, va_rf_s, mm_w8_0, mm_w8_1, mm_w8_2, mm_w8_3, mm_w8_4, mm_c1_n, mm_c1_i, mm_c1_a, mm_ct_a, mm_ct_i, true_and, and_true, and_self, eq_self, if_true, if_false, ite_true, ite_false, bI_t, bI_z, bI_nz, bI_01, true_or, or_true, reduceCtorEq, false_or, or_false, decide_eq_false_iff_not, decide_eq_true_eq, ite_not, x0, x1, x2, (hS.2.2.1.2.1).s0]
  refine f_nights hS hJ hG ht (fun K hK hFK => ?_)
  simp only [mm_pu_n, e86_19]
  exact hq K hK (hF.tr hFK)
theorem a_where (h : ALL I r x m) (p t : Int32) : pr 67 139 [some (.ref x), some (.int p), some (.int t)] [some (.ref m), some (.int p), some (.int t)] I r x m := by
  obtain ⟨hS, ⟨sg, L, bn, B, n, ng, Lr, Br, hg⟩, hG2, hG3, hG4⟩ := id h
  obtain ⟨hm, hx, ⟨l1, l2, l3, l4⟩, hip, hpt, htp, hsh, hml⟩ := id hS
  obtain ⟨x0, x1, x2, x3, x4, x5, x6, x7, x8⟩ := id hx
  obtain ⟨⟨hps, hL, hpv⟩, ⟨hR, hB⟩, ⟨⟨⟨hG, hRR, hdr, hnt⟩, hbk⟩, ⟨⟨hG', hRR', hdr', hnt'⟩, hbk'⟩, hsm, hsB⟩⟩ := id hg
  have hLL : dl L = L := by rw [← hL]; exact dl_dl _
  have hLr : dl Lr = Lr := by rw [← hR]; exact dl_dl _
  have hs6 := s_6 hsm hLL hLr
  have vL : ∀ q i, q < 7 → vc I (x + 1) q i = L q i := fun q i hq => by rw [← hL, dl_at hq]
  have vR : ∀ q i, q < 7 → vr I (m + 5) m q i = Lr q i := fun q i hq => by rw [← hR, dl_at hq]
  have vRh : ∀ {k : Nat}, k < n → ∀ q, 1 ≤ q ∧ q ≤ 3 → vr I (m + 5) m q k = L q k := fun hk q hq => (vR q _ (by omega)).trans (hsm q _ (wc_h hq hk)).symm
  have vRg : ∀ {k : Nat}, k < ng → ∀ q, 4 ≤ q ∧ q ≤ 6 → vr I (m + 5) m q k = L q k := fun hk q hq => (vR q _ (by omega)).trans (hsm q _ (wc_g hq hk)).symm
  obtain ⟨⟨hn, e0⟩, ⟨hng, e1⟩, hpl⟩ := id hG
  have f0 : vc I (x + 1) 0 0 = nI n := by rw [vL 0 0 (by decide)]; exact e0
  have f1 : vc I (x + 1) 0 1 = nI ng := by rw [vL 0 1 (by decide)]; exact e1
  have g0 : vr I (m + 5) m 0 0 = nI n := by rw [vR 0 0 (by decide)]; exact hG'.1.2
  have g1 : vr I (m + 5) m 0 1 = nI ng := by rw [vR 0 1 (by decide)]; exact hG'.2.1.2
  unfold pr
  cases hk1 : okh p ng with
  | false =>
    simp only [e67_0, e67_1, e67_4, e67_5, e67_8, e67_11, e67_12, e67_13, e67_15, e67_18, e67_21, e67_22, e67_23, e67_24, e67_25, e67_28, e67_29, e67_32, e67_35, e67_36, e67_37, e139_0, e139_1, e139_2, e139_5, e139_8, e139_9, e139_10, e139_12, e139_15, e139_18, e139_19, e139_20, e139_21, e139_24, e139_25, e139_26, e139_29, e139_30, e139_33, e139_35, e139_36, e139_37, e139_38, mm_pu_n, mm_pu_s, va_rf_s, mm_w8_0, mm_w8_1, mm_w8_2, mm_w8_3, mm_w8_4, mm_c1_n, mm_c1_i, mm_c1_a, mm_ct_a, mm_ct_i, true_and, and_true, and_self, eq_self, if_true, if_false, ite_true, ite_false, bI_t, bI_z, bI_nz, bI_01, true_or, or_true, reduceCtorEq, false_or, or_false, decide_eq_false_iff_not, decide_eq_true_eq, ite_not, x0, x1, x2, x3, x4, x5, x6, x7, x8, l1.s0, l1.p6, l1.p7, l1.p8, l1.p9, l1.p10, l1.p11, l1.p12, l1.p13, l1.i1, l1.i2, l1.i3, l1.i4, l1.i5, l1.i6, l1.i7, l1.i8, hml.s0, hml.p7, hml.i5, t_hasG l1 f1, u_isHog hml (show ng ≤ 6 by omega) g1, hk1, Bool.false_eq_true]
    exact fi_i _ h rfl rfl
  | true =>
    cases hk2 : wth t 0 60 with
    | false =>
      simp only [e67_0, e67_1, e67_4, e67_5, e67_8, e67_11, e67_12, e67_13, e67_15, e67_18, e67_21, e67_22, e67_23, e67_24, e67_25, e67_28, e67_29, e67_32, e67_35, e67_36, e67_37, e139_0, e139_1, e139_2, e139_5, e139_8, e139_9, e139_10, e139_12, e139_15, e139_18, e139_19, e139_20, e139_21, e139_24, e139_25, e139_26, e139_29, e139_30, e139_33, e139_35, e139_36, e139_37, e139_38, mm_pu_n, mm_pu_s, va_rf_s, mm_w8_0, mm_w8_1, mm_w8_2, mm_w8_3, mm_w8_4, mm_c1_n, mm_c1_i, mm_c1_a, mm_ct_a, mm_ct_i, true_and, and_true, and_self, eq_self, if_true, if_false, ite_true, ite_false, bI_t, bI_z, bI_nz, bI_01, true_or, or_true, reduceCtorEq, false_or, or_false, decide_eq_false_iff_not, decide_eq_true_eq, ite_not, x0, x1, x2, x3, x4, x5, x6, x7, x8, l1.s0, l1.p6, l1.p7, l1.p8, l1.p9, l1.p10, l1.p11, l1.p12, l1.p13, l1.i1, l1.i2, l1.i3, l1.i4, l1.i5, l1.i6, l1.i7, l1.i8, hml.s0, hml.p7, hml.i5, t_hasG l1 f1, u_isHog hml (show ng ≤ 6 by omega) g1, t_within, u_inw, hk1, hk2, Bool.true_eq_false]
      exact fi_i _ h rfl rfl
    | true =>
      obtain ⟨k, hkn, rfl⟩ := okh_of hk1 (by omega)
      obtain ⟨t', -, ht, rfl⟩ := wth_of hk2 (a := 0) (b := 60) (by decide) (by decide) (by decide) (by decide)
      have hk5 : k < 5 := by omega
      simp only [e67_0, e67_1, e67_4, e67_5, e67_8, e67_11, e67_12, e67_13, e67_15, e67_18, e67_21, e67_22, e67_23, e67_24, e67_25, mm_pu_n, mm_pu_s, va_rf_s, mm_w8_0, mm_w8_1, mm_w8_2, mm_w8_3, mm_w8_4, mm_c1_n, mm_c1_i, mm_c1_a, mm_ct_a, mm_ct_i, true_and, and_true, and_self, eq_self, if_true, if_false, ite_true, ite_false, bI_t, bI_z, bI_nz, bI_01, true_or, or_true, reduceCtorEq, false_or, or_false, decide_eq_false_iff_not, decide_eq_true_eq, ite_not, x0, x1, x2, x3, x4, x5, x6, x7, x8, l1.s0, l1.p6, l1.p7, l1.p8, l1.p9, l1.p10, l1.p11, l1.p12, l1.p13, l1.i1, l1.i2, l1.i3, l1.i4, l1.i5, l1.i6, l1.i7, l1.i8, t_hasG l1 f1, t_within, hk1, hk2, Bool.true_eq_false]
      refine t_foretell hS vL hLL hG (by omega) (fun J hJ hF => ?_)
      simp only [mm_pu_n, e67_28, e67_29, e67_32, e67_35, e67_36, e67_37, mm_pu_n, mm_pu_s, va_rf_s, mm_w8_0, mm_w8_1, mm_w8_2, mm_w8_3, mm_w8_4, mm_c1_n, mm_c1_i, mm_c1_a, mm_ct_a, mm_ct_i, true_and, and_true, and_self, eq_self, if_true, if_false, ite_true, ite_false, bI_t, bI_z, bI_nz, bI_01, true_or, or_true, reduceCtorEq, false_or, or_false, decide_eq_false_iff_not, decide_eq_true_eq, ite_not, x0, x1, x2, x3, x4, x5, x6, x7, x8, l1.s0, l1.p6, l1.p7, l1.p8, l1.p9, l1.p10, l1.p11, l1.p12, l1.p13, l1.i1, l1.i2, l1.i3, l1.i4, l1.i5, l1.i6, l1.i7, l1.i8, l2.s0, l2.p6, l2.p7, l2.p8, l2.p9, l2.p10, l2.p11, l2.p12, l2.p13, l2.i1, l2.i2, l2.i3, l2.i4, l2.i5, l2.i6, l2.i7, l2.i8, in5 hk5, cl_nI (show k < 6 by omega), rd_k (a := x + 10) (k := 6) ⟨by decide, hk5⟩, hJ 6 k (Or.inl (by decide))]
      have gJ1 : vr J (m + 5) m 0 1 = nI ng := by rw [vr_q (I := I) (by decide) (fun j _ => by rw [hF _ (by omega)])]; exact g1
      simp only [e139_0, e139_1, e139_2, e139_5, e139_8, e139_9, e139_10, e139_12, e139_15, e139_18, e139_19, e139_20, e139_21, mm_pu_n, mm_pu_s, va_rf_s, mm_w8_0, mm_w8_1, mm_w8_2, mm_w8_3, mm_w8_4, mm_c1_n, mm_c1_i, mm_c1_a, mm_ct_a, mm_ct_i, true_and, and_true, and_self, eq_self, if_true, if_false, ite_true, ite_false, bI_t, bI_z, bI_nz, bI_01, true_or, or_true, reduceCtorEq, false_or, or_false, decide_eq_false_iff_not, decide_eq_true_eq, ite_not, hml.s0, hml.p7, hml.i5, u_isHog hml (show ng ≤ 6 by omega) gJ1, u_inw, hk1, hk2, Bool.true_eq_false]
      refine g_begin n hn hml (MX.k (I := I) vR (hF _ (by omega))) hLr (fun K hK hFK => ?_)
      simp only [mm_pu_n, e139_24, e139_25, e139_26, mm_pu_n, mm_pu_s, va_rf_s, mm_w8_0, mm_w8_1, mm_w8_2, mm_w8_3, mm_w8_4, mm_c1_n, mm_c1_i, mm_c1_a, mm_ct_a, mm_ct_i, true_and, and_true, and_self, eq_self, if_true, if_false, ite_true, ite_false, bI_t, bI_z, bI_nz, bI_01, true_or, or_true, reduceCtorEq, false_or, or_false, decide_eq_false_iff_not, decide_eq_true_eq, ite_not, hml.s0, hml.p7, hml.i5]
      refine g_goOn hml hK hG' hRR' (by omega) (fun K2 hK2 hFK2 => ?_)
      simp only [mm_pu_n, e139_29, e139_30, e139_33, e139_35, e139_36, e139_37, e139_38, mm_pu_n, mm_pu_s, va_rf_s, mm_w8_0, mm_w8_1, mm_w8_2, mm_w8_3, mm_w8_4, mm_c1_n, mm_c1_i, mm_c1_a, mm_ct_a, mm_ct_i, true_and, and_true, and_self, eq_self, if_true, if_false, ite_true, ite_false, bI_t, bI_z, bI_nz, bI_01, true_or, or_true, reduceCtorEq, false_or, or_false, decide_eq_false_iff_not, decide_eq_true_eq, ite_not, hml.s0, hml.p7, hml.i5, hml.p8, hml.i6, k21, in2 (show 21 + k < 248 by omega), cl2 (show 21 + k < 248 by omega), r21 m hk5, (hK2 6 k (Or.inl (by decide))).trans (s_nights hs6 hG t' 6 k (Or.inl (wc_g (by decide) hkn))).symm]
      exact fi_i _ (ALL_f h hF (hFK.tr hFK2)) rfl rfl
theorem a_ahead (h : ALL I r x m) (p t w : Int32) : pr 66 138 [some (.ref x), some (.int p), some (.int t), some (.int w)] [some (.ref m), some (.int p), some (.int t), some (.int w)] I r x m := by
  obtain ⟨hS, ⟨sg, L, bn, B, n, ng, Lr, Br, hg⟩, hG2, hG3, hG4⟩ := id h
  obtain ⟨hm, hx, ⟨l1, l2, l3, l4⟩, hip, hpt, htp, hsh, hml⟩ := id hS
  obtain ⟨x0, x1, x2, x3, x4, x5, x6, x7, x8⟩ := id hx
  obtain ⟨⟨hps, hL, hpv⟩, ⟨hR, hB⟩, ⟨⟨⟨hG, hRR, hdr, hnt⟩, hbk⟩, ⟨⟨hG', hRR', hdr', hnt'⟩, hbk'⟩, hsm, hsB⟩⟩ := id hg
  have hLL : dl L = L := by rw [← hL]; exact dl_dl _
  have hLr : dl Lr = Lr := by rw [← hR]; exact dl_dl _
  have hs6 := s_6 hsm hLL hLr
  have vL : ∀ q i, q < 7 → vc I (x + 1) q i = L q i := fun q i hq => by rw [← hL, dl_at hq]
  have vR : ∀ q i, q < 7 → vr I (m + 5) m q i = Lr q i := fun q i hq => by rw [← hR, dl_at hq]
  have vRh : ∀ {k : Nat}, k < n → ∀ q, 1 ≤ q ∧ q ≤ 3 → vr I (m + 5) m q k = L q k := fun hk q hq => (vR q _ (by omega)).trans (hsm q _ (wc_h hq hk)).symm
  have vRg : ∀ {k : Nat}, k < ng → ∀ q, 4 ≤ q ∧ q ≤ 6 → vr I (m + 5) m q k = L q k := fun hk q hq => (vR q _ (by omega)).trans (hsm q _ (wc_g hq hk)).symm
  obtain ⟨⟨hn, e0⟩, ⟨hng, e1⟩, hpl⟩ := id hG
  have f0 : vc I (x + 1) 0 0 = nI n := by rw [vL 0 0 (by decide)]; exact e0
  have f1 : vc I (x + 1) 0 1 = nI ng := by rw [vL 0 1 (by decide)]; exact e1
  have g0 : vr I (m + 5) m 0 0 = nI n := by rw [vR 0 0 (by decide)]; exact hG'.1.2
  have g1 : vr I (m + 5) m 0 1 = nI ng := by rw [vR 0 1 (by decide)]; exact hG'.2.1.2
  unfold pr
  cases hk1 : okh p n with
  | false =>
    simp only [e66_0, e66_1, e66_4, e66_5, e66_8, e66_11, e66_12, e66_13, e66_15, e66_18, e66_21, e66_22, e66_23, e66_24, e66_27, e66_30, e66_31, e66_32, e66_33, e66_34, e66_37, e66_38, e66_41, e66_42, e66_45, e66_48, e66_49, e66_50, e66_53, e66_54, e66_57, e66_60, e66_61, e66_62, e138_0, e138_1, e138_2, e138_5, e138_8, e138_9, e138_10, e138_12, e138_15, e138_18, e138_19, e138_20, e138_21, e138_24, e138_27, e138_28, e138_29, e138_30, e138_33, e138_34, e138_35, e138_38, e138_39, e138_42, e138_43, e138_46, e138_47, e138_48, e138_49, e138_50, e138_53, e138_54, e138_57, e138_59, e138_60, e138_61, e138_62, mm_pu_n, mm_pu_s, va_rf_s, mm_w8_0, mm_w8_1, mm_w8_2, mm_w8_3, mm_w8_4, mm_c1_n, mm_c1_i, mm_c1_a, mm_ct_a, mm_ct_i, true_and, and_true, and_self, eq_self, if_true, if_false, ite_true, ite_false, bI_t, bI_z, bI_nz, bI_01, true_or, or_true, reduceCtorEq, false_or, or_false, decide_eq_false_iff_not, decide_eq_true_eq, ite_not, x0, x1, x2, x3, x4, x5, x6, x7, x8, l1.s0, l1.p6, l1.p7, l1.p8, l1.p9, l1.p10, l1.p11, l1.p12, l1.p13, l1.i1, l1.i2, l1.i3, l1.i4, l1.i5, l1.i6, l1.i7, l1.i8, hml.s0, hml.p7, hml.i5, t_hasH l1 f0, u_isHouse hml hn g0, hk1, Bool.false_eq_true]
    exact fi_i _ h rfl rfl
  | true =>
    cases hk2 : wth t 0 60 with
    | false =>
      simp only [e66_0, e66_1, e66_4, e66_5, e66_8, e66_11, e66_12, e66_13, e66_15, e66_18, e66_21, e66_22, e66_23, e66_24, e66_27, e66_30, e66_31, e66_32, e66_33, e66_34, e66_37, e66_38, e66_41, e66_42, e66_45, e66_48, e66_49, e66_50, e66_53, e66_54, e66_57, e66_60, e66_61, e66_62, e138_0, e138_1, e138_2, e138_5, e138_8, e138_9, e138_10, e138_12, e138_15, e138_18, e138_19, e138_20, e138_21, e138_24, e138_27, e138_28, e138_29, e138_30, e138_33, e138_34, e138_35, e138_38, e138_39, e138_42, e138_43, e138_46, e138_47, e138_48, e138_49, e138_50, e138_53, e138_54, e138_57, e138_59, e138_60, e138_61, e138_62, mm_pu_n, mm_pu_s, va_rf_s, mm_w8_0, mm_w8_1, mm_w8_2, mm_w8_3, mm_w8_4, mm_c1_n, mm_c1_i, mm_c1_a, mm_ct_a, mm_ct_i, true_and, and_true, and_self, eq_self, if_true, if_false, ite_true, ite_false, bI_t, bI_z, bI_nz, bI_01, true_or, or_true, reduceCtorEq, false_or, or_false, decide_eq_false_iff_not, decide_eq_true_eq, ite_not, x0, x1, x2, x3, x4, x5, x6, x7, x8, l1.s0, l1.p6, l1.p7, l1.p8, l1.p9, l1.p10, l1.p11, l1.p12, l1.p13, l1.i1, l1.i2, l1.i3, l1.i4, l1.i5, l1.i6, l1.i7, l1.i8, hml.s0, hml.p7, hml.i5, t_hasH l1 f0, u_isHouse hml hn g0, t_within, u_inw, hk1, hk2, Bool.true_eq_false]
      exact fi_i _ h rfl rfl
    | true =>
      cases hk3 : wth w 0 1 with
      | false =>
        simp only [e66_0, e66_1, e66_4, e66_5, e66_8, e66_11, e66_12, e66_13, e66_15, e66_18, e66_21, e66_22, e66_23, e66_24, e66_27, e66_30, e66_31, e66_32, e66_33, e66_34, e66_37, e66_38, e66_41, e66_42, e66_45, e66_48, e66_49, e66_50, e66_53, e66_54, e66_57, e66_60, e66_61, e66_62, e138_0, e138_1, e138_2, e138_5, e138_8, e138_9, e138_10, e138_12, e138_15, e138_18, e138_19, e138_20, e138_21, e138_24, e138_27, e138_28, e138_29, e138_30, e138_33, e138_34, e138_35, e138_38, e138_39, e138_42, e138_43, e138_46, e138_47, e138_48, e138_49, e138_50, e138_53, e138_54, e138_57, e138_59, e138_60, e138_61, e138_62, mm_pu_n, mm_pu_s, va_rf_s, mm_w8_0, mm_w8_1, mm_w8_2, mm_w8_3, mm_w8_4, mm_c1_n, mm_c1_i, mm_c1_a, mm_ct_a, mm_ct_i, true_and, and_true, and_self, eq_self, if_true, if_false, ite_true, ite_false, bI_t, bI_z, bI_nz, bI_01, true_or, or_true, reduceCtorEq, false_or, or_false, decide_eq_false_iff_not, decide_eq_true_eq, ite_not, x0, x1, x2, x3, x4, x5, x6, x7, x8, l1.s0, l1.p6, l1.p7, l1.p8, l1.p9, l1.p10, l1.p11, l1.p12, l1.p13, l1.i1, l1.i2, l1.i3, l1.i4, l1.i5, l1.i6, l1.i7, l1.i8, hml.s0, hml.p7, hml.i5, t_hasH l1 f0, u_isHouse hml hn g0, t_within, u_inw, hk1, hk2, hk3, Bool.true_eq_false]
        exact fi_i _ h rfl rfl
      | true =>
        obtain ⟨k, hkn, rfl⟩ := okh_of hk1 hn
        obtain ⟨t', -, ht, rfl⟩ := wth_of hk2 (a := 0) (b := 60) (by decide) (by decide) (by decide) (by decide)
        have hk6 : k < 6 := by omega
        simp only [e66_0, e66_1, e66_4, e66_5, e66_8, e66_11, e66_12, e66_13, e66_15, e66_18, e66_21, e66_22, e66_23, e66_24, e66_27, e66_30, e66_31, e66_32, e66_33, e66_34, mm_pu_n, mm_pu_s, va_rf_s, mm_w8_0, mm_w8_1, mm_w8_2, mm_w8_3, mm_w8_4, mm_c1_n, mm_c1_i, mm_c1_a, mm_ct_a, mm_ct_i, true_and, and_true, and_self, eq_self, if_true, if_false, ite_true, ite_false, bI_t, bI_z, bI_nz, bI_01, true_or, or_true, reduceCtorEq, false_or, or_false, decide_eq_false_iff_not, decide_eq_true_eq, ite_not, x0, x1, x2, x3, x4, x5, x6, x7, x8, l1.s0, l1.p6, l1.p7, l1.p8, l1.p9, l1.p10, l1.p11, l1.p12, l1.p13, l1.i1, l1.i2, l1.i3, l1.i4, l1.i5, l1.i6, l1.i7, l1.i8, t_hasH l1 f0, t_within, hk1, hk2, hk3, Bool.true_eq_false]
        refine t_foretell hS vL hLL hG (by omega) (fun J hJ hF => ?_)
        simp only [mm_pu_n, e66_37, e66_38, e66_41, e66_42, e66_45, e66_48, e66_49, e66_50, e66_53, e66_54, e66_57, e66_60, e66_61, mm_pu_n, mm_pu_s, va_rf_s, mm_w8_0, mm_w8_1, mm_w8_2, mm_w8_3, mm_w8_4, mm_c1_n, mm_c1_i, mm_c1_a, mm_ct_a, mm_ct_i, true_and, and_true, and_self, eq_self, if_true, if_false, ite_true, ite_false, bI_t, bI_z, bI_nz, bI_01, true_or, or_true, reduceCtorEq, false_or, or_false, decide_eq_false_iff_not, decide_eq_true_eq, ite_not, x0, x1, x2, x3, x4, x5, x6, x7, x8, l1.s0, l1.p6, l1.p7, l1.p8, l1.p9, l1.p10, l1.p11, l1.p12, l1.p13, l1.i1, l1.i2, l1.i3, l1.i4, l1.i5, l1.i6, l1.i7, l1.i8, l2.s0, l2.p6, l2.p7, l2.p8, l2.p9, l2.p10, l2.p11, l2.p12, l2.p13, l2.i1, l2.i2, l2.i3, l2.i4, l2.i5, l2.i6, l2.i7, l2.i8, in6 hk6, cl_nI hk6, rd_k (a := x + 10) (k := 1) ⟨by decide, hk6⟩, rd_k (a := x + 10) (k := 3) ⟨by decide, hk6⟩, hJ 1 k (Or.inl (by decide)), hJ 3 k (Or.inl (by decide)), it_i]
        rw [e66_62]
        have gJ : vr J (m + 5) m 0 0 = nI n := by rw [vr_q (I := I) (by decide) (fun j _ => by rw [hF _ (by omega)])]; exact g0
        simp only [e138_0, e138_1, e138_2, e138_5, e138_8, e138_9, e138_10, e138_12, e138_15, e138_18, e138_19, e138_20, e138_21, e138_24, e138_27, e138_28, e138_29, e138_30, mm_pu_n, mm_pu_s, va_rf_s, mm_w8_0, mm_w8_1, mm_w8_2, mm_w8_3, mm_w8_4, mm_c1_n, mm_c1_i, mm_c1_a, mm_ct_a, mm_ct_i, true_and, and_true, and_self, eq_self, if_true, if_false, ite_true, ite_false, bI_t, bI_z, bI_nz, bI_01, true_or, or_true, reduceCtorEq, false_or, or_false, decide_eq_false_iff_not, decide_eq_true_eq, ite_not, hml.s0, hml.p7, hml.i5, u_isHouse hml hn gJ, u_inw, hk1, hk2, hk3, Bool.true_eq_false]
        refine g_begin n hn hml (MX.k (I := I) vR (hF _ (by omega))) hLr (fun K hK hFK => ?_)
        simp only [mm_pu_n, e138_33, e138_34, e138_35, mm_pu_n, mm_pu_s, va_rf_s, mm_w8_0, mm_w8_1, mm_w8_2, mm_w8_3, mm_w8_4, mm_c1_n, mm_c1_i, mm_c1_a, mm_ct_a, mm_ct_i, true_and, and_true, and_self, eq_self, if_true, if_false, ite_true, ite_false, bI_t, bI_z, bI_nz, bI_01, true_or, or_true, reduceCtorEq, false_or, or_false, decide_eq_false_iff_not, decide_eq_true_eq, ite_not, hml.s0, hml.p7, hml.i5]
        refine g_goOn hml hK hG' hRR' (by omega) (fun K2 hK2 hFK2 => ?_)
        simp only [mm_pu_n, e138_38, e138_39, e138_42, e138_43, e138_46, e138_47, e138_48, e138_49, e138_50, e138_53, e138_54, e138_57, e138_59, e138_60, e138_61, mm_pu_n, mm_pu_s, va_rf_s, mm_w8_0, mm_w8_1, mm_w8_2, mm_w8_3, mm_w8_4, mm_c1_n, mm_c1_i, mm_c1_a, mm_ct_a, mm_ct_i, true_and, and_true, and_self, eq_self, if_true, if_false, ite_true, ite_false, bI_t, bI_z, bI_nz, bI_01, true_or, or_true, reduceCtorEq, false_or, or_false, decide_eq_false_iff_not, decide_eq_true_eq, ite_not, hml.s0, hml.p7, hml.i5, hml.p8, hml.i6, k3, k15, in2 (show 3 + k < 248 by omega), cl2 (show 3 + k < 248 by omega), in2 (show 15 + k < 248 by omega), cl2 (show 15 + k < 248 by omega), r3 m hk6, r15 m hk6, (hK2 1 k (Or.inl (by decide))).trans (s_nights hs6 hG t' 1 k (Or.inl (wc_h (by decide) hkn))).symm, (hK2 3 k (Or.inl (by decide))).trans (s_nights hs6 hG t' 3 k (Or.inl (wc_h (by decide) hkn))).symm, it_i]
        rw [e138_62]
        exact fi_i _ (ALL_f h hF (hFK.tr hFK2)) rfl rfl
theorem a_then (h : ALL I r x m) (t w : Int32) : pr 68 140 [some (.ref x), some (.int t), some (.int w)] [some (.ref m), some (.int t), some (.int w)] I r x m := by
  obtain ⟨hS, ⟨sg, L, bn, B, n, ng, Lr, Br, hg⟩, hG2, hG3, hG4⟩ := id h
  obtain ⟨hm, hx, ⟨l1, l2, l3, l4⟩, hip, hpt, htp, hsh, hml⟩ := id hS
  obtain ⟨x0, x1, x2, x3, x4, x5, x6, x7, x8⟩ := id hx
  obtain ⟨⟨hps, hL, hpv⟩, ⟨hR, hB⟩, ⟨⟨⟨hG, hRR, hdr, hnt⟩, hbk⟩, ⟨⟨hG', hRR', hdr', hnt'⟩, hbk'⟩, hsm, hsB⟩⟩ := id hg
  have hLL : dl L = L := by rw [← hL]; exact dl_dl _
  have hLr : dl Lr = Lr := by rw [← hR]; exact dl_dl _
  have hs6 := s_6 hsm hLL hLr
  have vL : ∀ q i, q < 7 → vc I (x + 1) q i = L q i := fun q i hq => by rw [← hL, dl_at hq]
  have vR : ∀ q i, q < 7 → vr I (m + 5) m q i = Lr q i := fun q i hq => by rw [← hR, dl_at hq]
  have vRh : ∀ {k : Nat}, k < n → ∀ q, 1 ≤ q ∧ q ≤ 3 → vr I (m + 5) m q k = L q k := fun hk q hq => (vR q _ (by omega)).trans (hsm q _ (wc_h hq hk)).symm
  have vRg : ∀ {k : Nat}, k < ng → ∀ q, 4 ≤ q ∧ q ≤ 6 → vr I (m + 5) m q k = L q k := fun hk q hq => (vR q _ (by omega)).trans (hsm q _ (wc_g hq hk)).symm
  obtain ⟨⟨hn, e0⟩, ⟨hng, e1⟩, hpl⟩ := id hG
  have f0 : vc I (x + 1) 0 0 = nI n := by rw [vL 0 0 (by decide)]; exact e0
  have f1 : vc I (x + 1) 0 1 = nI ng := by rw [vL 0 1 (by decide)]; exact e1
  have g0 : vr I (m + 5) m 0 0 = nI n := by rw [vR 0 0 (by decide)]; exact hG'.1.2
  have g1 : vr I (m + 5) m 0 1 = nI ng := by rw [vR 0 1 (by decide)]; exact hG'.2.1.2
  unfold pr
  cases hk2 : wth t 0 60 with
  | false =>
    simp only [e68_0, e68_1, e68_2, e68_4, e68_7, e68_10, e68_11, e68_12, e68_13, e68_16, e68_19, e68_20, e68_21, e68_22, e68_23, e68_26, e68_27, e68_30, e68_31, e68_34, e68_37, e68_40, e68_41, e68_44, e68_47, e140_0, e140_1, e140_2, e140_4, e140_7, e140_10, e140_11, e140_12, e140_13, e140_16, e140_19, e140_20, e140_21, e140_22, e140_25, e140_26, e140_27, e140_30, e140_31, e140_34, e140_35, e140_38, e140_41, e140_44, e140_45, e140_48, e140_49, e140_50, mm_pu_n, mm_pu_s, va_rf_s, mm_w8_0, mm_w8_1, mm_w8_2, mm_w8_3, mm_w8_4, mm_c1_n, mm_c1_i, mm_c1_a, mm_ct_a, mm_ct_i, true_and, and_true, and_self, eq_self, if_true, if_false, ite_true, ite_false, bI_t, bI_z, bI_nz, bI_01, true_or, or_true, reduceCtorEq, false_or, or_false, decide_eq_false_iff_not, decide_eq_true_eq, ite_not, x0, x1, x2, x3, x4, x5, x6, x7, x8, l1.s0, l1.p6, l1.p7, l1.p8, l1.p9, l1.p10, l1.p11, l1.p12, l1.p13, l1.i1, l1.i2, l1.i3, l1.i4, l1.i5, l1.i6, l1.i7, l1.i8, hml.s0, hml.p7, hml.i5, t_within, u_inw, hk2, Bool.false_eq_true]
    exact fi_i _ h rfl rfl
  | true =>
    cases hk3 : wth w 0 1 with
    | false =>
      simp only [e68_0, e68_1, e68_2, e68_4, e68_7, e68_10, e68_11, e68_12, e68_13, e68_16, e68_19, e68_20, e68_21, e68_22, e68_23, e68_26, e68_27, e68_30, e68_31, e68_34, e68_37, e68_40, e68_41, e68_44, e68_47, e140_0, e140_1, e140_2, e140_4, e140_7, e140_10, e140_11, e140_12, e140_13, e140_16, e140_19, e140_20, e140_21, e140_22, e140_25, e140_26, e140_27, e140_30, e140_31, e140_34, e140_35, e140_38, e140_41, e140_44, e140_45, e140_48, e140_49, e140_50, mm_pu_n, mm_pu_s, va_rf_s, mm_w8_0, mm_w8_1, mm_w8_2, mm_w8_3, mm_w8_4, mm_c1_n, mm_c1_i, mm_c1_a, mm_ct_a, mm_ct_i, true_and, and_true, and_self, eq_self, if_true, if_false, ite_true, ite_false, bI_t, bI_z, bI_nz, bI_01, true_or, or_true, reduceCtorEq, false_or, or_false, decide_eq_false_iff_not, decide_eq_true_eq, ite_not, x0, x1, x2, x3, x4, x5, x6, x7, x8, l1.s0, l1.p6, l1.p7, l1.p8, l1.p9, l1.p10, l1.p11, l1.p12, l1.p13, l1.i1, l1.i2, l1.i3, l1.i4, l1.i5, l1.i6, l1.i7, l1.i8, hml.s0, hml.p7, hml.i5, t_within, u_inw, hk2, hk3, Bool.true_eq_false]
      exact fi_i _ h rfl rfl
    | true =>
      obtain ⟨t', -, ht, rfl⟩ := wth_of hk2 (a := 0) (b := 60) (by decide) (by decide) (by decide) (by decide)
      simp only [e68_0, e68_1, e68_2, e68_4, e68_7, e68_10, e68_11, e68_12, e68_13, e68_16, e68_19, e68_20, e68_21, e68_22, e68_23, mm_pu_n, mm_pu_s, va_rf_s, mm_w8_0, mm_w8_1, mm_w8_2, mm_w8_3, mm_w8_4, mm_c1_n, mm_c1_i, mm_c1_a, mm_ct_a, mm_ct_i, true_and, and_true, and_self, eq_self, if_true, if_false, ite_true, ite_false, bI_t, bI_z, bI_nz, bI_01, true_or, or_true, reduceCtorEq, false_or, or_false, decide_eq_false_iff_not, decide_eq_true_eq, ite_not, x0, x1, x2, x3, x4, x5, x6, x7, x8, l1.s0, l1.p6, l1.p7, l1.p8, l1.p9, l1.p10, l1.p11, l1.p12, l1.p13, l1.i1, l1.i2, l1.i3, l1.i4, l1.i5, l1.i6, l1.i7, l1.i8, t_within, hk2, hk3, Bool.true_eq_false]
      refine t_foretell hS vL hLL hG (by omega) (fun J hJ hF => ?_)
      have hGn := p_nights_G hG t'
      have j0 : vc J (x + 10) 0 0 = nI n := by rw [hJ 0 0 (Or.inl (by decide))]; exact hGn.1.2
      simp only [mm_pu_n, e68_26, e68_27, e68_30, e68_31, e68_34, e68_37, e68_40, e68_41, e68_44, mm_pu_n, mm_pu_s, va_rf_s, mm_w8_0, mm_w8_1, mm_w8_2, mm_w8_3, mm_w8_4, mm_c1_n, mm_c1_i, mm_c1_a, mm_ct_a, mm_ct_i, true_and, and_true, and_self, eq_self, if_true, if_false, ite_true, ite_false, bI_t, bI_z, bI_nz, bI_01, true_or, or_true, reduceCtorEq, false_or, or_false, decide_eq_false_iff_not, decide_eq_true_eq, ite_not, x0, x1, x2, x3, x4, x5, x6, x7, x8, l1.s0, l1.p6, l1.p7, l1.p8, l1.p9, l1.p10, l1.p11, l1.p12, l1.p13, l1.i1, l1.i2, l1.i3, l1.i4, l1.i5, l1.i6, l1.i7, l1.i8, l2.s0, t_lostSet l2 hn j0, rd_0 (a := x + 10) (i := 4) (by decide), hJ 0 4 (Or.inl (by decide)), ag_ls (fun i => hJ 3 i (Or.inl (by decide))), it_i]
      rw [e68_47]
      simp only [e140_0, e140_1, e140_2, e140_4, e140_7, e140_10, e140_11, e140_12, e140_13, e140_16, e140_19, e140_20, e140_21, e140_22, mm_pu_n, mm_pu_s, va_rf_s, mm_w8_0, mm_w8_1, mm_w8_2, mm_w8_3, mm_w8_4, mm_c1_n, mm_c1_i, mm_c1_a, mm_ct_a, mm_ct_i, true_and, and_true, and_self, eq_self, if_true, if_false, ite_true, ite_false, bI_t, bI_z, bI_nz, bI_01, true_or, or_true, reduceCtorEq, false_or, or_false, decide_eq_false_iff_not, decide_eq_true_eq, ite_not, hml.s0, hml.p7, hml.i5, u_inw, hk2, hk3, Bool.true_eq_false]
      refine g_begin n hn hml (MX.k (I := I) vR (hF _ (by omega))) hLr (fun K hK hFK => ?_)
      simp only [mm_pu_n, e140_25, e140_26, e140_27, mm_pu_n, mm_pu_s, va_rf_s, mm_w8_0, mm_w8_1, mm_w8_2, mm_w8_3, mm_w8_4, mm_c1_n, mm_c1_i, mm_c1_a, mm_ct_a, mm_ct_i, true_and, and_true, and_self, eq_self, if_true, if_false, ite_true, ite_false, bI_t, bI_z, bI_nz, bI_01, true_or, or_true, reduceCtorEq, false_or, or_false, decide_eq_false_iff_not, decide_eq_true_eq, ite_not, hml.s0, hml.p7, hml.i5]
      refine g_goOn hml hK hG' hRR' (by omega) (fun K2 hK2 hFK2 => ?_)
      have k0 : vr K2 (m + 6) m 0 0 = nI n := by rw [hK2 0 0 (Or.inl (by decide))]; exact (p_nights_G hG' t').1.2
      have hlk : ∀ i, i < n → (vr K2 (m + 6) m 3 i = 3) = (3 ≤ vr K2 (m + 6) m 3 i) := fun i hi => (ag_R hK2 (pn_R hG' hRR' t')).lk hi
      simp only [mm_pu_n, e140_30, e140_31, e140_34, e140_35, e140_38, e140_41, e140_44, e140_45, e140_48, e140_49, mm_pu_n, mm_pu_s, va_rf_s, mm_w8_0, mm_w8_1, mm_w8_2, mm_w8_3, mm_w8_4, mm_c1_n, mm_c1_i, mm_c1_a, mm_ct_a, mm_ct_i, true_and, and_true, and_self, eq_self, if_true, if_false, ite_true, ite_false, bI_t, bI_z, bI_nz, bI_01, true_or, or_true, reduceCtorEq, false_or, or_false, decide_eq_false_iff_not, decide_eq_true_eq, ite_not, hml.s0, hml.p7, hml.i5, hml.p8, hml.i6, c27.2.2.2.2.1, d27.2.2.2.2.1, r2 m, u_lostOnes m hml.i6 hn k0 hlk, (hK2 0 4 (Or.inl (by decide))).trans (s_nights hs6 hG t' 0 4 (Or.inl wc_0)).symm, (ag_ls (fun i => hK2 3 i (Or.inl (by decide))) n).trans (s_ls (x6_c (s_nights hs6 hG t')) n (Nat.le_refl _)).symm, it_i]
      rw [e140_50]
      exact fi_i _ (ALL_f h hF (hFK.tr hFK2)) rfl rfl
end
