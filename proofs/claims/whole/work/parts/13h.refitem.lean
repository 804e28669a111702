theorem skb_n (ch : Nat → Nat) : ∀ d p, skb ch d p < p + d → ¬ ch (skb ch d p) = 32 := by
  intro d
  induction d with
  | zero => intro p h; exact absurd h (by show ¬ p < p + 0; omega)
  | succ d ih =>
    intro p h
    have e : skb ch (d + 1) p = if ch p = 32 then skb ch d (p + 1) else p := rfl
    rw [e] at h ⊢
    by_cases c : ch p = 32
    · rw [if_pos c] at h ⊢
      exact ih (p + 1) (by omega)
    · rw [if_neg c]; exact c
theorem sp_sp {ch : Nat → Nat} {t p : Nat} (h : p ≤ t) : sp ch t (sp ch t p) = sp ch t p := sp_n (fun z => skb_n ch (t - p) p (by unfold sp at z; omega))
theorem lk_stop {ch : Nat → Nat} {t p : Nat} (hp : p ≤ t) (h : so ch t 33 p = false) : ∀ d, lkc ch t d (se ch t 33 p) = 0 ∧ lkp ch t d (se ch t 33 p) = se ch t 33 p := by
  have e : se ch t 33 p = sp ch t p := by unfold se; rw [h]; rfl
  have s : so ch t 33 (sp ch t p) = false := by
    unfold so at h ⊢
    rw [sp_sp hp]; exact h
  have s2 : se ch t 33 (sp ch t p) = sp ch t p := by
    unfold se
    rw [s, sp_sp hp]; rfl
  rw [e]
  intro d
  cases d with
  | zero => exact ⟨rfl, rfl⟩
  | succ d =>
    refine ⟨?_, ?_⟩
    · show (if so ch t 33 (sp ch t p) = true then _ else 0) = 0
      rw [s]; rfl
    · show (if so ch t 33 (sp ch t p) = true then _ else se ch t 33 (sp ch t p)) = _
      rw [s, s2]; rfl
theorem mu_c {M : mm_I} {a b k j : Nat} {x y : Int32} (h : a ≠ b) : mm_uI (mm_uI M a k x) b j y = mm_uI (mm_uI M b j y) a k x := by
  funext q i
  by_cases c : q = a
  · subst c
    rw [mu_n h]
    by_cases d : i = k
    · subst d; rw [mu_s, mu_s]
    · rw [mu_j d, mu_j d, mu_n h]
  · by_cases c2 : q = b
    · subst c2
      rw [mu_n c]
      by_cases d : i = j
      · subst d; rw [mu_s, mu_s]
      · rw [mu_j d, mu_j d, mu_n c]
    · rw [mu_n c2, mu_n c, mu_n c, mu_n c2]
theorem adh_3 (M : mm_I) (n : Nat) (o s k y : Int32) : mm_uI (p_adh M n o s k) 3 n y = p_adh M n o s y := by
  unfold p_adh
  rw [mu_c (by decide), mu_uu]
theorem adg_6 (M : mm_I) (n : Nat) (k g p y : Int32) : mm_uI (p_adg M n k g p) 6 n y = p_adg M n k g y := by
  unfold p_adg
  rw [mu_c (by decide), mu_uu]
/-- the cells that reading may change -/
def f7 (m : Nat) (I J : mm_I) : Prop := (∀ q, q ≠ m → q ≠ m + 7 → J q = I q) ∧ (∀ k, k ≠ 5 → k ≠ 6 → J m k = I m k) ∧ ∀ i, 39 ≤ i → J (m + 7) i = I (m + 7) i
theorem f7.tr {m : Nat} {I J K : mm_I} (h1 : f7 m I J) (h2 : f7 m J K) : f7 m I K := ⟨fun q a b => (h2.1 q a b).trans (h1.1 q a b), fun k a b => (h2.2.1 k a b).trans (h1.2.1 k a b), fun i a => (h2.2.2 i a).trans (h1.2.2 i a)⟩
theorem f7.f {m : Nat} {I J : mm_I} (h : f5 m I J) : f7 m I J := ⟨fun q a _ => h.1 q a, h.2, fun i _ => by rw [h.1 _ (by omega)]⟩
theorem f7.u {m k : Nat} {I : mm_I} {y : Int32} (hk : k < 39) : f7 m I (mm_uI I (m + 7) k y) := ⟨fun q _ b => mu_n b, fun j _ _ => by rw [mu_n (by omega)], fun i hi => mu_j (by omega)⟩
theorem tr_7 {J K : mm_I} {m t p : Nat} {ch : Nat → Nat} (h : tr J m t ch p) (h1 : K m = J m) (h2 : K (m + 4) = J (m + 4)) : tr K m t ch p := ⟨⟨(rd_F h1).trans h.1.1, (rd_F h1).trans h.1.2⟩, h.2.1, fun i hi => (rd_F h2).trans (h.2.2 i hi)⟩
theorem vr_5 {I J : mm_I} {m : Nat} (h : f5 m I J) : vr J (m + 7) m = vr I (m + 7) m := by
  funext q i
  unfold vr
  rw [h.1 (m + 7) (by omega), h.1 (m + 2 + q) (by omega)]
section
variable {r : mm_R} {J : mm_I} {m t p : Nat} {ch : Nat → Nat} {Q : Option Value → mm_I → mm_R → Prop}
theorem u_looks {n : Nat} {M : mm_I} {o s l1 : Int32} (hml : ml_S r m) (hc : okc ch t) (hn6 : n < 6) : ∀ d k c p J, k + d = 3 → tr J m t ch p → vr J (m + 7) m = p_adh M n o s (nI c) → (∀ K, f7 m J K → tr K m t ch (lkp ch t d p) → vr K (m + 7) m = p_adh M n o s (nI (c + lkc ch t d p)) → Q (some (.int 1)) K r) → mm_E 115 54 [some (.ref m), some (.int l1), some (.int (nI n)), some (.int (nI k))] [] J r Q := by
  intro d
  induction d with
  | zero =>
    intro k c p J hk h hv hq
    have : k = 3 := by omega
    subst this
    rw [e115_54]
    simp only [e115_55, e115_56, e115_91, e115_92, mm_pu_n, mm_pu_s, va_rf_s, mm_w8_0, mm_w8_1, mm_w8_2, mm_w8_3, mm_w8_4, mm_c1_n, mm_c1_i, mm_c1_a, mm_ct_a, mm_ct_i, true_and, and_true, and_self, eq_self, if_true, if_false, ite_true, ite_false, bI_t, bI_z, bI_nz, bI_01, true_or, or_true, reduceCtorEq, false_or, or_false, decide_eq_false_iff_not, decide_eq_true_eq, ite_not, show ((3 : Int32) ≤ nI 3) = True from eq_true (by decide)]
    exact hq J (f7.f f5.rf) h hv
  | succ d ih =>
    intro k c p J hk h hv hq
    have h3' : ¬ ((3 : Int32) ≤ nI k) := by
      rw [show (3 : Int32) = nI 3 from rfl]
      exact nI_ge (by omega) (by decide)
    have old : mm_rd J (m + 7) (15 + n) = nI c := by
      rw [r15 (s := m + 7) m hn6, hv]
      unfold p_adh
      rw [mu_n (by decide), mu_s]
    rw [e115_54]
    simp only [e115_55, e115_56, e115_59, e115_60, e115_63, e115_65, e115_66, e115_67, e115_68, e115_69, e115_70, e115_72, mm_pu_n, mm_pu_s, va_rf_s, mm_w8_0, mm_w8_1, mm_w8_2, mm_w8_3, mm_w8_4, mm_c1_n, mm_c1_i, mm_c1_a, mm_ct_a, mm_ct_i, true_and, and_true, and_self, eq_self, if_true, if_false, ite_true, ite_false, bI_t, bI_z, bI_nz, bI_01, true_or, or_true, reduceCtorEq, false_or, or_false, decide_eq_false_iff_not, decide_eq_true_eq, ite_not, h3', hml.s0, hml.p9, hml.i7, k15, in2 (show 15 + n < 248 by omega), cl2 (show 15 + n < 248 by omega), old]
    rw [show (33 : Int32) = nI 33 from rfl]
    refine u_isSign hml hc h (by decide) (fun K hK hKt => ?_)
    have hvK : vr K (m + 7) m = p_adh M n o s (nI c) := (vr_5 hK).trans hv
    have e1 : lkc ch t (d + 1) p = if so ch t 33 p = true then lkc ch t d (se ch t 33 p) + 1 else 0 := rfl
    have e2 : lkp ch t (d + 1) p = if so ch t 33 p = true then lkp ch t d (se ch t 33 p) else se ch t 33 p := rfl
    rw [e1, e2] at hq
    have wu : ∀ y, vr (mm_uI K (m + 7) (15 + n) y) (m + 7) m = p_adh M n o s y := fun y => by
      have e : vr (mm_uI K (m + 7) (15 + n) y) (m + 7) m = mm_uI (vr K (m + 7) m) 3 n y := vr_u (k := 3) ⟨by omega, by omega⟩ ⟨by decide, hn6⟩
      rw [e, hvK, adh_3]
    cases z : so ch t 33 p with
    | false =>
      rw [z] at hq
      simp only [Bool.false_eq_true, if_false] at hq
      obtain ⟨s1, s2⟩ := lk_stop h.2.1 z d
      simp only [mm_pu_s, e115_75, e115_78, e115_79, e115_82, mm_pu_n, mm_pu_s, va_rf_s, mm_w8_0, mm_w8_1, mm_w8_2, mm_w8_3, mm_w8_4, mm_c1_n, mm_c1_i, mm_c1_a, mm_ct_a, mm_ct_i, true_and, and_true, and_self, eq_self, if_true, if_false, ite_true, ite_false, bI_t, bI_z, bI_nz, bI_01, true_or, or_true, reduceCtorEq, false_or, or_false, decide_eq_false_iff_not, decide_eq_true_eq, ite_not]
      simp only [e115_83, e115_84, e115_85, e115_88, mm_pu_n, mm_pu_s, va_rf_s, mm_w8_0, mm_w8_1, mm_w8_2, mm_w8_3, mm_w8_4, mm_c1_n, mm_c1_i, mm_c1_a, mm_ct_a, mm_ct_i, true_and, and_true, and_self, eq_self, if_true, if_false, ite_true, ite_false, bI_t, bI_z, bI_nz, bI_01, true_or, or_true, reduceCtorEq, false_or, or_false, decide_eq_false_iff_not, decide_eq_true_eq, ite_not, hml.s0, hml.i7, in2 (show 15 + n < 248 by omega), cl2 (show 15 + n < 248 by omega), Int32.add_zero, nI_1]
      refine ih (k + 1) c (se ch t 33 p) _ (by omega) (tr_7 hKt (mu_n (by omega)) (mu_n (by omega))) (wu _) (fun K2 w1 w2 w3 => ?_)
      rw [s2] at w2
      rw [s1] at w3
      exact hq K2 (((f7.f hK).tr (f7.u (by omega))).tr w1) w2 w3
    | true =>
      rw [z] at hq
      simp only [if_true] at hq
      simp only [mm_pu_s, e115_75, e115_78, e115_79, e115_82, mm_pu_n, mm_pu_s, va_rf_s, mm_w8_0, mm_w8_1, mm_w8_2, mm_w8_3, mm_w8_4, mm_c1_n, mm_c1_i, mm_c1_a, mm_ct_a, mm_ct_i, true_and, and_true, and_self, eq_self, if_true, if_false, ite_true, ite_false, bI_t, bI_z, bI_nz, bI_01, true_or, or_true, reduceCtorEq, false_or, or_false, decide_eq_false_iff_not, decide_eq_true_eq, ite_not, Bool.true_eq_false]
      simp only [e115_83, e115_84, e115_85, e115_88, mm_pu_n, mm_pu_s, va_rf_s, mm_w8_0, mm_w8_1, mm_w8_2, mm_w8_3, mm_w8_4, mm_c1_n, mm_c1_i, mm_c1_a, mm_ct_a, mm_ct_i, true_and, and_true, and_self, eq_self, if_true, if_false, ite_true, ite_false, bI_t, bI_z, bI_nz, bI_01, true_or, or_true, reduceCtorEq, false_or, or_false, decide_eq_false_iff_not, decide_eq_true_eq, ite_not, hml.s0, hml.i7, in2 (show 15 + n < 248 by omega), cl2 (show 15 + n < 248 by omega), nI_1]
      refine ih (k + 1) (c + 1) (se ch t 33 p) _ (by omega) (tr_7 hKt (mu_n (by omega)) (mu_n (by omega))) (wu _) (fun K2 w1 w2 w3 => ?_)
      rw [show c + 1 + lkc ch t d (se ch t 33 p) = c + (lkc ch t d (se ch t 33 p) + 1) by omega] at w3
      exact hq K2 (((f7.f hK).tr (f7.u (by omega))).tr w1) w2 w3
theorem u_isHouseItem {n : Nat} (hml : ml_S r m) (hc : okc ch t) (h : tr J m t ch p) (hn6 : n < 6) (h0 : vr J (m + 7) m 0 0 = nI n) (hq1 : (hw ch t p && !dg ch t (h3 ch t p)) = true → ∀ K, f7 m J K → tr K m t ch (hn ch t p) → vr K (m + 7) m = hM ch t p (vr J (m + 7) m) n → Q (some (.int 1)) K r) (hq0 : (hw ch t p && !dg ch t (h3 ch t p)) = false → ∀ K, f7 m J K → tr K m t ch (hf ch t p) → Q (some (.int 0)) K r) : mm_E 115 0 [some (.ref m), none, none, none] [] J r Q := by
  simp only [e115_0, e115_1, e115_3, mm_pu_n, mm_pu_s, va_rf_s, mm_w8_0, mm_w8_1, mm_w8_2, mm_w8_3, mm_w8_4, mm_c1_n, mm_c1_i, mm_c1_a, mm_ct_a, mm_ct_i, true_and, and_true, and_self, eq_self, if_true, if_false, ite_true, ite_false, bI_t, bI_z, bI_nz, bI_01, true_or, or_true, reduceCtorEq, false_or, or_false, decide_eq_false_iff_not, decide_eq_true_eq, ite_not, hml.s0]
  rw [show (99 : Int32) = nI 99 from rfl]
  refine u_isNumber hml hc h (by decide) (fun g1 d1 K hK hKt hK6 => ?_) (fun g1 K hK hKt => ?_) (fun g1 d1 K hK hKt => ?_)
  · have v1 := nv_le (nok_1 g1).1
    have le1 := ne_le (nok_1 g1).1
    simp only [mm_pu_s, e115_6, e115_9, e115_10, e115_11, e115_13, e115_14, e115_17, e115_18, e115_19, e115_20, e115_22, mm_pu_n, mm_pu_s, va_rf_s, mm_w8_0, mm_w8_1, mm_w8_2, mm_w8_3, mm_w8_4, mm_c1_n, mm_c1_i, mm_c1_a, mm_ct_a, mm_ct_i, true_and, and_true, and_self, eq_self, if_true, if_false, ite_true, ite_false, bI_t, bI_z, bI_nz, bI_01, true_or, or_true, reduceCtorEq, false_or, or_false, decide_eq_false_iff_not, decide_eq_true_eq, ite_not, bI_01, hml.s0, hK6]
    rw [show (46 : Int32) = nI 46 from rfl]
    refine u_isSign hml hc hKt (by decide) (fun K2 hK2 hK2t => ?_)
    cases z : so ch t 46 (ne ch t p) with
    | false =>
      have e : se ch t 46 (ne ch t p) = sp ch t (ne ch t p) := by unfold se; rw [z]; rfl
      simp only [mm_pu_s, e115_25, e115_37, e115_38, mm_pu_n, mm_pu_s, va_rf_s, mm_w8_0, mm_w8_1, mm_w8_2, mm_w8_3, mm_w8_4, mm_c1_n, mm_c1_i, mm_c1_a, mm_ct_a, mm_ct_i, true_and, and_true, and_self, eq_self, if_true, if_false, ite_true, ite_false, bI_t, bI_z, bI_nz, bI_01, true_or, or_true, reduceCtorEq, false_or, or_false, decide_eq_false_iff_not, decide_eq_true_eq, ite_not]
      refine hq0 (by unfold hw; rw [g1, z]; rfl) K2 (f7.f (hK.tr hK2)) ?_
      unfold hf
      rw [g1, z, if_neg (by decide), if_pos rfl, ← e]
      exact hK2t
    | true =>
      simp only [mm_pu_s, e115_25, e115_28, e115_29, e115_31, mm_pu_n, mm_pu_s, va_rf_s, mm_w8_0, mm_w8_1, mm_w8_2, mm_w8_3, mm_w8_4, mm_c1_n, mm_c1_i, mm_c1_a, mm_ct_a, mm_ct_i, true_and, and_true, and_self, eq_self, if_true, if_false, ite_true, ite_false, bI_t, bI_z, bI_nz, bI_01, true_or, or_true, reduceCtorEq, false_or, or_false, decide_eq_false_iff_not, decide_eq_true_eq, ite_not, Bool.true_eq_false, hml.s0]
      rw [show (20 : Int32) = nI 20 from rfl]
      refine u_isNumber hml hc hK2t (by decide) (fun g2 d2 K3 hK3 hK3t hK36 => ?_) (fun g2 K3 hK3 hK3t => ?_) (fun g2 d2 K3 hK3 hK3t => ?_)
      · have f3 := (hK.tr hK2).tr hK3
        have v3 := vr_5 f3
        simp only [mm_pu_s, e115_34, e115_39, e115_40, e115_43, e115_44, e115_45, e115_48, mm_pu_n, mm_pu_s, va_rf_s, mm_w8_0, mm_w8_1, mm_w8_2, mm_w8_3, mm_w8_4, mm_c1_n, mm_c1_i, mm_c1_a, mm_ct_a, mm_ct_i, true_and, and_true, and_self, eq_self, if_true, if_false, ite_true, ite_false, bI_t, bI_z, bI_nz, bI_01, true_or, or_true, reduceCtorEq, false_or, or_false, decide_eq_false_iff_not, decide_eq_true_eq, ite_not, bI_01, hml.s0, hml.p9, hK36]
        rw [show (10 : Int32) * nI (nv ch t p) = nI (10 * nv ch t p) from by rw [show (10 : Int32) = nI 10 from rfl, pk_mul]]
        refine u_addHouse (m := m) hml.i7 ⟨by omega, by omega⟩ hn6 (by rw [v3]; exact h0) _ _ (fun K4 hK4 hK4o hK439 => ?_)
        simp only [mm_pu_s, e115_51, e115_52, e115_53, mm_pu_n, mm_pu_s, va_rf_s, mm_w8_0, mm_w8_1, mm_w8_2, mm_w8_3, mm_w8_4, mm_c1_n, mm_c1_i, mm_c1_a, mm_ct_a, mm_ct_i, true_and, and_true, and_self, eq_self, if_true, if_false, ite_true, ite_false, bI_t, bI_z, bI_nz, bI_01, true_or, or_true, reduceCtorEq, false_or, or_false, decide_eq_false_iff_not, decide_eq_true_eq, ite_not]
        rw [v3] at hK4
        rw [show (some (Value.int 0) : Option Value) = some (.int (nI 0)) from rfl]
        have f4 : f7 m J K4 := (f7.f f3).tr ⟨fun q _ b => hK4o q b, fun j _ _ => by rw [hK4o m (by omega)], hK439⟩
        refine u_looks hml hc hn6 3 0 0 (ne ch t (se ch t 46 (ne ch t p))) K4 (by omega) (tr_7 hK3t (hK4o _ (by omega)) (hK4o _ (by omega))) hK4 (fun K5 w1 w2 w3 => ?_)
        rw [Nat.zero_add] at w3
        exact hq1 (by unfold hw h3 h2; rw [g1, z, g2, d2]; rfl) K5 (f4.tr w1) w2 w3
      · simp only [mm_pu_s, e115_34, e115_37, e115_38, mm_pu_n, mm_pu_s, va_rf_s, mm_w8_0, mm_w8_1, mm_w8_2, mm_w8_3, mm_w8_4, mm_c1_n, mm_c1_i, mm_c1_a, mm_ct_a, mm_ct_i, true_and, and_true, and_self, eq_self, if_true, if_false, ite_true, ite_false, bI_t, bI_z, bI_nz, bI_01, true_or, or_true, reduceCtorEq, false_or, or_false, decide_eq_false_iff_not, decide_eq_true_eq, ite_not]
        refine hq0 (by unfold hw h2; rw [g1, z, g2]; rfl) K3 (f7.f ((hK.tr hK2).tr hK3)) ?_
        unfold hf h2
        rw [g1, z, g2, if_neg (by decide), if_neg (by decide), if_pos rfl]
        exact hK3t
      · simp only [mm_pu_s, e115_34, e115_37, e115_38, mm_pu_n, mm_pu_s, va_rf_s, mm_w8_0, mm_w8_1, mm_w8_2, mm_w8_3, mm_w8_4, mm_c1_n, mm_c1_i, mm_c1_a, mm_ct_a, mm_ct_i, true_and, and_true, and_self, eq_self, if_true, if_false, ite_true, ite_false, bI_t, bI_z, bI_nz, bI_01, true_or, or_true, reduceCtorEq, false_or, or_false, decide_eq_false_iff_not, decide_eq_true_eq, ite_not]
        refine hq0 (by unfold hw h3 h2; rw [g1, z, g2, d2]; rfl) K3 (f7.f ((hK.tr hK2).tr hK3)) ?_
        unfold hf h3 h2
        rw [g1, z, g2, if_neg (by decide), if_neg (by decide), if_neg (by decide)]
        exact hK3t
  · simp only [mm_pu_s, e115_6, e115_9, e115_10, mm_pu_n, mm_pu_s, va_rf_s, mm_w8_0, mm_w8_1, mm_w8_2, mm_w8_3, mm_w8_4, mm_c1_n, mm_c1_i, mm_c1_a, mm_ct_a, mm_ct_i, true_and, and_true, and_self, eq_self, if_true, if_false, ite_true, ite_false, bI_t, bI_z, bI_nz, bI_01, true_or, or_true, reduceCtorEq, false_or, or_false, decide_eq_false_iff_not, decide_eq_true_eq, ite_not]
    refine hq0 (by unfold hw; rw [g1, Bool.false_and, Bool.false_and, Bool.false_and]) K (f7.f hK) ?_
    unfold hf
    rw [g1, if_pos rfl]
    exact hKt
  · have e := so_dg (c := 46) d1 (Or.inl (by decide))
    simp only [mm_pu_s, e115_6, e115_9, e115_10, mm_pu_n, mm_pu_s, va_rf_s, mm_w8_0, mm_w8_1, mm_w8_2, mm_w8_3, mm_w8_4, mm_c1_n, mm_c1_i, mm_c1_a, mm_ct_a, mm_ct_i, true_and, and_true, and_self, eq_self, if_true, if_false, ite_true, ite_false, bI_t, bI_z, bI_nz, bI_01, true_or, or_true, reduceCtorEq, false_or, or_false, decide_eq_false_iff_not, decide_eq_true_eq, ite_not]
    refine hq0 (by unfold hw; rw [g1, e.1]; rfl) K (f7.f hK) ?_
    unfold hf
    rw [g1, e.1, if_neg (by decide), if_pos rfl, e.2.2]
    exact hKt
theorem u_kindBy (y : Int32) : mm_E 114 0 [some (.int y)] [] J r Q ↔ Q (some (.int (kI y))) J r := by
  simp only [e114_0, e114_1, e114_3, e114_6, e114_7, e114_10, e114_11, e114_13, e114_16, e114_17, e114_20, e114_21, e114_23, e114_26, e114_27, e114_30, e114_31, e114_33, e114_36, e114_37, e114_40, e114_41, e114_43, e114_46, e114_47, e114_50, mm_pu_n, mm_pu_s, va_rf_s, mm_w8_0, mm_w8_1, mm_w8_2, mm_w8_3, mm_w8_4, mm_c1_n, mm_c1_i, mm_c1_a, mm_ct_a, mm_ct_i, true_and, and_true, and_self, eq_self, if_true, if_false, ite_true, ite_false, bI_t, bI_z, bI_nz, bI_01, true_or, or_true, reduceCtorEq, false_or, or_false, decide_eq_false_iff_not, decide_eq_true_eq, ite_not, it_i]
  rw [e114_51]
  rfl
theorem u_isHogItem {n ng : Nat} (hml : ml_S r m) (hc : okc ch t) (h : tr J m t ch p) (hn6 : n ≤ 6) (hn5 : ng < 5) (h0 : vr J (m + 7) m 0 0 = nI n) (h1 : vr J (m + 7) m 0 1 = nI ng) (hq1 : gok ch t n p = true → ∀ K, f7 m J K → tr K m t ch (ge' ch t p) → vr K (m + 7) m = gM ch t p (vr J (m + 7) m) ng → Q (some (.int 1)) K r) (hq0 : gok ch t n p = false → ∀ K, f7 m J K → tr K m t ch (gf ch t p) → Q (some (.int 0)) K r) : mm_E 116 0 [some (.ref m), none, none] [] J r Q := by
  have hle := sp_le (ch := ch) h.2.1
  simp only [e116_0, e116_1, mm_pu_n, mm_pu_s, va_rf_s, mm_w8_0, mm_w8_1, mm_w8_2, mm_w8_3, mm_w8_4, mm_c1_n, mm_c1_i, mm_c1_a, mm_ct_a, mm_ct_i, true_and, and_true, and_self, eq_self, if_true, if_false, ite_true, ite_false, bI_t, bI_z, bI_nz, bI_01, true_or, or_true, reduceCtorEq, false_or, or_false, decide_eq_false_iff_not, decide_eq_true_eq, ite_not, hml.s0]
  refine u_peek hml hc h (fun K hK hKt => ?_)
  simp only [mm_pu_s, e116_4, e116_7, e116_8, e116_9, mm_pu_n, mm_pu_s, va_rf_s, mm_w8_0, mm_w8_1, mm_w8_2, mm_w8_3, mm_w8_4, mm_c1_n, mm_c1_i, mm_c1_a, mm_ct_a, mm_ct_i, true_and, and_true, and_self, eq_self, if_true, if_false, ite_true, ite_false, bI_t, bI_z, bI_nz, bI_01, true_or, or_true, reduceCtorEq, false_or, or_false, decide_eq_false_iff_not, decide_eq_true_eq, ite_not, u_kindBy]
  have ek : kI (cc ch t 0 (sp ch t p)) = kk ch t p := rfl
  rw [ek]
  by_cases c1 : 0 ≤ kk ch t p
  · have hk := kk_lt c1
    rw [if_pos c1]
    have fr1 : f5 m K (mm_uI K m 5 (nI (sp ch t p + 1))) := f5.u (Or.inl rfl)
    have t1 : tr (mm_uI K m 5 (nI (sp ch t p + 1))) m t ch (q1' ch t p) := tr_F hKt fr1 rd_u (by unfold q1'; omega)
    simp only [e116_14, e116_15, e116_16, e116_19, e116_20, e116_21, e116_24, e116_25, e116_26, e116_28, mm_pu_n, mm_pu_s, va_rf_s, mm_w8_0, mm_w8_1, mm_w8_2, mm_w8_3, mm_w8_4, mm_c1_n, mm_c1_i, mm_c1_a, mm_ct_a, mm_ct_i, true_and, and_true, and_self, eq_self, if_true, if_false, ite_true, ite_false, bI_t, bI_z, bI_nz, bI_01, true_or, or_true, reduceCtorEq, false_or, or_false, decide_eq_false_iff_not, decide_eq_true_eq, ite_not, hml.s0, hKt.1.2, nI_1]
    rw [show (1 : Int32) = nI 1 from rfl]
    refine u_isDigit (hi := 10) hml hc t1 (by decide) (by decide) (fun c2 K2 hK2 hK2t hK26 => ?_) (fun c2 K2 hK2 hK2t => ?_)
    · obtain ⟨z1, z2, z3⟩ := of_decide_eq_true c2
      have f2 := (hK.tr fr1).tr hK2
      have v2 := vr_5 f2
      simp only [mm_pu_s, e116_31, e116_34, e116_35, e116_36, e116_37, e116_40, e116_41, e116_42, e116_45, e116_46, mm_pu_n, mm_pu_s, va_rf_s, mm_w8_0, mm_w8_1, mm_w8_2, mm_w8_3, mm_w8_4, mm_c1_n, mm_c1_i, mm_c1_a, mm_ct_a, mm_ct_i, true_and, and_true, and_self, eq_self, if_true, if_false, ite_true, ite_false, bI_t, bI_z, bI_nz, bI_01, true_or, or_true, reduceCtorEq, false_or, or_false, decide_eq_false_iff_not, decide_eq_true_eq, ite_not, bI_01, hml.s0, hml.p9, hK26]
      refine u_addHog (m := m) hml.i7 ⟨by omega, by omega⟩ hn5 (by rw [v2]; exact h1) _ _ _ (fun K3 hK3 hK3o hK339 => ?_)
      rw [v2] at hK3
      have f3 : f7 m J K3 := (f7.f f2).tr ⟨fun q _ b => hK3o q b, fun j _ _ => by rw [hK3o m (by omega)], hK339⟩
      have t3 : tr K3 m t ch (q2' ch t p) := tr_7 hK2t (hK3o _ (by omega)) (hK3o _ (by omega))
      simp only [mm_pu_s, e116_49, e116_50, e116_51, e116_53, mm_pu_n, mm_pu_s, va_rf_s, mm_w8_0, mm_w8_1, mm_w8_2, mm_w8_3, mm_w8_4, mm_c1_n, mm_c1_i, mm_c1_a, mm_ct_a, mm_ct_i, true_and, and_true, and_self, eq_self, if_true, if_false, ite_true, ite_false, bI_t, bI_z, bI_nz, bI_01, true_or, or_true, reduceCtorEq, false_or, or_false, decide_eq_false_iff_not, decide_eq_true_eq, ite_not, hml.s0]
      rw [show (64 : Int32) = nI 64 from rfl]
      refine u_isSign hml hc t3 (by decide) (fun K4 hK4 hK4t => ?_)
      have v4 : vr K4 (m + 7) m = p_adg (vr J (m + 7) m) ng (kk ch t p) (nI (ch (sp ch t (q1' ch t p)) - 48)) 0 := (vr_5 hK4).trans hK3
      have f4 := f3.tr (f7.f hK4)
      cases c3 : so ch t 64 (q2' ch t p) with
      | false =>
        simp only [mm_pu_s, e116_56, e116_91, e116_92, mm_pu_n, mm_pu_s, va_rf_s, mm_w8_0, mm_w8_1, mm_w8_2, mm_w8_3, mm_w8_4, mm_c1_n, mm_c1_i, mm_c1_a, mm_ct_a, mm_ct_i, true_and, and_true, and_self, eq_self, if_true, if_false, ite_true, ite_false, bI_t, bI_z, bI_nz, bI_01, true_or, or_true, reduceCtorEq, false_or, or_false, decide_eq_false_iff_not, decide_eq_true_eq, ite_not]
        refine hq1 (by unfold gok; rw [decide_eq_true c1, c2, c3]; rfl) K4 f4 ?_ ?_
        · unfold ge'; rw [c3]; exact hK4t
        · rw [v4]; unfold gM gp; rw [c3]; rfl
      | true =>
        have hn0 : vr K4 (m + 7) m 0 0 = nI n := by
          rw [v4]
          unfold p_adg
          rw [mu_j (by decide), mu_n (by decide), mu_n (by decide), mu_n (by decide)]
          exact h0
        simp only [mm_pu_s, e116_56, e116_59, e116_60, e116_61, e116_62, e116_65, e116_67, e116_68, e116_69, e116_70, mm_pu_n, mm_pu_s, va_rf_s, mm_w8_0, mm_w8_1, mm_w8_2, mm_w8_3, mm_w8_4, mm_c1_n, mm_c1_i, mm_c1_a, mm_ct_a, mm_ct_i, true_and, and_true, and_self, eq_self, if_true, if_false, ite_true, ite_false, bI_t, bI_z, bI_nz, bI_01, true_or, or_true, reduceCtorEq, false_or, or_false, decide_eq_false_iff_not, decide_eq_true_eq, ite_not, Bool.true_eq_false, hml.s0, hml.p9, hml.i7, c27.1, d27.1, r27 (s := m + 7) m, hn0]
        rw [show (some (Value.int 0) : Option Value) = some (.int (nI 0)) from rfl]
        have hy : (nI n - 1).toInt = (n : Int) - 1 := by
          have h1 : ∀ n, n < 7 → (nI n - 1).toInt = (n : Int) - 1 := by decide
          exact h1 n (by omega)
        refine u_isDigit (hi := n) hml hc hK4t (by decide) hy (fun c4 K5 hK5 hK5t hK56 => ?_) (fun c4 K5 hK5 hK5t => ?_)
        · have v5 := (vr_5 hK5).trans v4
          simp only [mm_pu_s, e116_73, e116_78, e116_79, e116_82, e116_84, e116_85, e116_86, e116_87, e116_90, e116_91, e116_92, mm_pu_n, mm_pu_s, va_rf_s, mm_w8_0, mm_w8_1, mm_w8_2, mm_w8_3, mm_w8_4, mm_c1_n, mm_c1_i, mm_c1_a, mm_ct_a, mm_ct_i, true_and, and_true, and_self, eq_self, if_true, if_false, ite_true, ite_false, bI_t, bI_z, bI_nz, bI_01, true_or, or_true, reduceCtorEq, false_or, or_false, decide_eq_false_iff_not, decide_eq_true_eq, ite_not, bI_01, hml.s0, hml.p9, hml.i7, k21, in2 (show 21 + ng < 248 by omega), cl2 (show 21 + ng < 248 by omega), hK56]
          refine hq1 (by unfold gok; rw [decide_eq_true c1, c2, c3]; rw [show dr2 ch t 0 n (q3' ch t p) = true from c4]; rfl) _ (f4.tr ((f7.f hK5).tr (f7.u (by omega)))) ?_ ?_
          · unfold ge'; rw [c3]; exact tr_7 hK5t (mu_n (by omega)) (mu_n (by omega))
          · have e : ∀ y, vr (mm_uI K5 (m + 7) (21 + ng) y) (m + 7) m = mm_uI (vr K5 (m + 7) m) 6 ng y := fun y => vr_u (k := 6) ⟨by omega, by omega⟩ ⟨by decide, hn5⟩
            rw [e, v5, adg_6]; unfold gM gp; rw [c3]; rfl
        · simp only [mm_pu_s, e116_73, e116_76, e116_77, mm_pu_n, mm_pu_s, va_rf_s, mm_w8_0, mm_w8_1, mm_w8_2, mm_w8_3, mm_w8_4, mm_c1_n, mm_c1_i, mm_c1_a, mm_ct_a, mm_ct_i, true_and, and_true, and_self, eq_self, if_true, if_false, ite_true, ite_false, bI_t, bI_z, bI_nz, bI_01, true_or, or_true, reduceCtorEq, false_or, or_false, decide_eq_false_iff_not, decide_eq_true_eq, ite_not]
          refine hq0 (by unfold gok; rw [decide_eq_true c1, c2, c3]; rw [show dr2 ch t 0 n (q3' ch t p) = false from c4]; rfl) _ (f4.tr (f7.f hK5)) ?_
          unfold gf
          rw [decide_eq_true c1, c2, if_neg (by decide), if_neg (by decide)]
          exact hK5t
    · simp only [mm_pu_s, e116_31, e116_34, e116_35, mm_pu_n, mm_pu_s, va_rf_s, mm_w8_0, mm_w8_1, mm_w8_2, mm_w8_3, mm_w8_4, mm_c1_n, mm_c1_i, mm_c1_a, mm_ct_a, mm_ct_i, true_and, and_true, and_self, eq_self, if_true, if_false, ite_true, ite_false, bI_t, bI_z, bI_nz, bI_01, true_or, or_true, reduceCtorEq, false_or, or_false, decide_eq_false_iff_not, decide_eq_true_eq, ite_not]
      refine hq0 (by unfold gok; rw [decide_eq_true c1, c2]; rfl) K2 (f7.f ((hK.tr fr1).tr hK2)) ?_
      unfold gf
      rw [decide_eq_true c1, c2, if_neg (by decide), if_pos rfl]
      exact hK2t
  · rw [if_neg c1]
    simp only [e116_12, e116_13, mm_pu_n, mm_pu_s, va_rf_s, mm_w8_0, mm_w8_1, mm_w8_2, mm_w8_3, mm_w8_4, mm_c1_n, mm_c1_i, mm_c1_a, mm_ct_a, mm_ct_i, true_and, and_true, and_self, eq_self, if_true, if_false, ite_true, ite_false, bI_t, bI_z, bI_nz, bI_01, true_or, or_true, reduceCtorEq, false_or, or_false, decide_eq_false_iff_not, decide_eq_true_eq, ite_not]
    refine hq0 (by unfold gok; rw [decide_eq_false c1, Bool.false_and, Bool.false_and]) K (f7.f hK) ?_
    unfold gf
    rw [decide_eq_false c1, if_pos rfl]
    exact hKt
end
