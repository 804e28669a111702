/-- houses told from p on: whether, where it ends or fails, how many, and the lane -/
def HL (ch : Nat → Nat) (t : Nat) : Nat → Nat → Nat → mm_I → Bool × Nat × Nat × mm_I
  | 0, n, p, M => (false, p, n, M)
  | d + 1, n, p, M => if (hw ch t p && !dg ch t (h3 ch t p)) = true then (if d = 0 then (true, hn ch t p, n + 1, hM ch t p M n) else if so ch t 44 (hn ch t p) = true then HL ch t d (n + 1) (se ch t 44 (hn ch t p)) (hM ch t p M n) else (true, se ch t 44 (hn ch t p), n + 1, hM ch t p M n)) else (false, hf ch t p, n, M)
theorem hw_1 {ch : Nat → Nat} {t p : Nat} (h : hw ch t p = true) : (nok ch t 99 p = true ∧ so ch t 46 (ne ch t p) = true) ∧ nok ch t 20 (h2 ch t p) = true := by
  unfold hw at h
  rw [Bool.and_eq_true, Bool.and_eq_true] at h
  exact h
theorem hf_3 {ch : Nat → Nat} {t p : Nat} (h : hw ch t p = true) : hf ch t p = h3 ch t p := by
  obtain ⟨⟨a, b⟩, c⟩ := hw_1 h
  unfold hf
  rw [a, b, c]
  rfl
theorem p_adh_0 (M : mm_I) (n : Nat) (o s k : Int32) : p_adh M n o s k 0 0 = nI (n + 1) := mu_s
section
variable {r : mm_R} {J : mm_I} {a t p : Nat} {ch : Nat → Nat} {Q : Option Value → mm_I → mm_R → Prop}
theorem t_tellHouses (hs : ts r a) (hl : ln_S r (a + 2)) (hc : okc ch t) : ∀ d n p J, n + d = 6 → 0 < d → tc J a t ch p → vc J (a + 2) 0 0 = nI n → ((HL ch t d n p (vc J (a + 2))).1 = true → ∀ K, ft a J K → tc K a t ch (HL ch t d n p (vc J (a + 2))).2.1 → vc K (a + 2) = (HL ch t d n p (vc J (a + 2))).2.2.2 → Q (some (.int 1)) K r) → ((HL ch t d n p (vc J (a + 2))).1 = false → ∀ K, ft a J K → mm_rd K a 1 = -20 - nI (HL ch t d n p (vc J (a + 2))).2.1 → Q (some (.int 0)) K r) → ((HL ch t d n p (vc J (a + 2))).1 = false → ∀ K, ft a J K → tc K a t ch (HL ch t d n p (vc J (a + 2))).2.1 → dg ch t (HL ch t d n p (vc J (a + 2))).2.1 = true → Q (some (.int 1)) K r) → mm_E 39 2 [some (.ref a), some (.int (nI (n + 1)))] [] J r Q := by
  intro d
  induction d with
  | zero => intro n p J _ h; exact absurd h (by decide)
  | succ d ih =>
    intro n p J hd _ h h0 hq1 hq0 hq2
    have hz6 : ¬ ((6 : Int32) < nI (n + 1)) := by
      rw [show (6 : Int32) = nI 6 from rfl]
      exact fun c => absurd ((nI_ltI (by decide) (by omega)).mp c) (by omega)
    have eH : HL ch t (d + 1) n p (vc J (a + 2)) = if (hw ch t p && !dg ch t (h3 ch t p)) = true then (if d = 0 then (true, hn ch t p, n + 1, hM ch t p (vc J (a + 2)) n) else if so ch t 44 (hn ch t p) = true then HL ch t d (n + 1) (se ch t 44 (hn ch t p)) (hM ch t p (vc J (a + 2)) n) else (true, se ch t 44 (hn ch t p), n + 1, hM ch t p (vc J (a + 2)) n)) else (false, hf ch t p, n, vc J (a + 2)) := rfl
    rw [eH] at hq1 hq0 hq2
    rw [e39_2]
    simp only [e39_3, e39_5, e39_8, e39_9, mm_pu_n, mm_pu_s, va_rf_s, mm_w8_0, mm_w8_1, mm_w8_2, mm_w8_3, mm_w8_4, mm_c1_n, mm_c1_i, mm_c1_a, mm_ct_a, mm_ct_i, true_and, and_true, and_self, eq_self, if_true, if_false, ite_true, ite_false, bI_t, bI_z, bI_nz, bI_01, true_or, or_true, reduceCtorEq, false_or, or_false, decide_eq_false_iff_not, decide_eq_true_eq, ite_not, hz6, hs.1]
    refine t_tellHouse hs hl hc h (by omega) h0 (fun g K hK hKt hKv => ?_) (fun g K hK hKf => ?_)
    · have z6 : (nI (n + 1) = (6 : Int32)) = (d = 0) := by
        rw [show (6 : Int32) = nI 6 from rfl, nI_eq (by omega) (by decide)]
        exact propext ⟨fun z => by omega, fun z => by omega⟩
      cases hd3 : dg ch t (h3 ch t p) with
      | true =>
        have e1 := hn_dg hd3
        have e2 := hf_3 g
        have e44 := so_dg (c := 44) hd3 (Or.inl (by decide))
        rw [g, hd3, if_neg (by decide)] at hq2
        rw [e1] at hKt
        by_cases c : d = 0
        · simp only [mm_pu_s, e39_12, e39_15, e39_16, e39_17, e39_18, e39_20, e39_41, e39_42, mm_pu_n, mm_pu_s, va_rf_s, mm_w8_0, mm_w8_1, mm_w8_2, mm_w8_3, mm_w8_4, mm_c1_n, mm_c1_i, mm_c1_a, mm_ct_a, mm_ct_i, true_and, and_true, and_self, eq_self, if_true, if_false, ite_true, ite_false, bI_t, bI_z, bI_nz, bI_01, true_or, or_true, reduceCtorEq, false_or, or_false, decide_eq_false_iff_not, decide_eq_true_eq, ite_not, z6, c]
          exact hq2 rfl K hK (by rw [e2]; exact hKt) (by rw [e2]; exact hd3)
        · simp only [mm_pu_s, e39_12, e39_15, e39_16, e39_17, e39_18, e39_20, e39_23, e39_24, e39_26, mm_pu_n, mm_pu_s, va_rf_s, mm_w8_0, mm_w8_1, mm_w8_2, mm_w8_3, mm_w8_4, mm_c1_n, mm_c1_i, mm_c1_a, mm_ct_a, mm_ct_i, true_and, and_true, and_self, eq_self, if_true, if_false, ite_true, ite_false, bI_t, bI_z, bI_nz, bI_01, true_or, or_true, reduceCtorEq, false_or, or_false, decide_eq_false_iff_not, decide_eq_true_eq, ite_not, z6, c, hs.1]
          rw [show (44 : Int32) = nI 44 from rfl]
          refine t_takes hs hc hKt (by decide) ?_
          rw [e44.1, e44.2.1]
          simp only [mm_pu_s, e39_29, e39_32, e39_41, e39_42, mm_pu_n, mm_pu_s, va_rf_s, mm_w8_0, mm_w8_1, mm_w8_2, mm_w8_3, mm_w8_4, mm_c1_n, mm_c1_i, mm_c1_a, mm_ct_a, mm_ct_i, true_and, and_true, and_self, eq_self, if_true, if_false, ite_true, ite_false, bI_t, bI_z, bI_nz, bI_01, true_or, or_true, reduceCtorEq, false_or, or_false, decide_eq_false_iff_not, decide_eq_true_eq, ite_not]
          refine hq2 rfl _ (hK.tr ft.u) (by rw [e2]; exact tc_u hKt hKt.2.1) (by rw [e2]; exact hd3)
      | false =>
        rw [g, hd3, if_pos (by decide)] at hq1 hq0 hq2
        by_cases c : d = 0
        · rw [if_pos c] at hq1
          simp only [mm_pu_s, e39_12, e39_15, e39_16, e39_17, e39_18, e39_20, e39_41, e39_42, mm_pu_n, mm_pu_s, va_rf_s, mm_w8_0, mm_w8_1, mm_w8_2, mm_w8_3, mm_w8_4, mm_c1_n, mm_c1_i, mm_c1_a, mm_ct_a, mm_ct_i, true_and, and_true, and_self, eq_self, if_true, if_false, ite_true, ite_false, bI_t, bI_z, bI_nz, bI_01, true_or, or_true, reduceCtorEq, false_or, or_false, decide_eq_false_iff_not, decide_eq_true_eq, ite_not, z6, c]
          exact hq1 rfl K hK hKt hKv
        · rw [if_neg c] at hq1 hq0 hq2
          simp only [mm_pu_s, e39_12, e39_15, e39_16, e39_17, e39_18, e39_20, e39_23, e39_24, e39_26, mm_pu_n, mm_pu_s, va_rf_s, mm_w8_0, mm_w8_1, mm_w8_2, mm_w8_3, mm_w8_4, mm_c1_n, mm_c1_i, mm_c1_a, mm_ct_a, mm_ct_i, true_and, and_true, and_self, eq_self, if_true, if_false, ite_true, ite_false, bI_t, bI_z, bI_nz, bI_01, true_or, or_true, reduceCtorEq, false_or, or_false, decide_eq_false_iff_not, decide_eq_true_eq, ite_not, z6, c, hs.1]
          rw [show (44 : Int32) = nI 44 from rfl]
          refine t_takes hs hc hKt (by decide) ?_
          have hle := se_le (ch := ch) (c := 44) hKt.2.1
          have hK2 := tc_u hKt hle.2
          have hv2 : vc (mm_uI K a 4 (nI (se ch t 44 (hn ch t p)))) (a + 2) = hM ch t p (vc J (a + 2)) n := by rw [vc_p (by omega)]; exact hKv
          cases z : so ch t 44 (hn ch t p) with
          | false =>
            rw [z, if_neg (by decide)] at hq1
            simp only [mm_pu_s, e39_29, e39_32, e39_41, e39_42, mm_pu_n, mm_pu_s, va_rf_s, mm_w8_0, mm_w8_1, mm_w8_2, mm_w8_3, mm_w8_4, mm_c1_n, mm_c1_i, mm_c1_a, mm_ct_a, mm_ct_i, true_and, and_true, and_self, eq_self, if_true, if_false, ite_true, ite_false, bI_t, bI_z, bI_nz, bI_01, true_or, or_true, reduceCtorEq, false_or, or_false, decide_eq_false_iff_not, decide_eq_true_eq, ite_not]
            exact hq1 rfl _ (hK.tr ft.u) hK2 hv2
          | true =>
            rw [z, if_pos rfl] at hq1 hq0 hq2
            simp only [mm_pu_s, e39_29, e39_35, e39_38, mm_pu_n, mm_pu_s, va_rf_s, mm_w8_0, mm_w8_1, mm_w8_2, mm_w8_3, mm_w8_4, mm_c1_n, mm_c1_i, mm_c1_a, mm_ct_a, mm_ct_i, true_and, and_true, and_self, eq_self, if_true, if_false, ite_true, ite_false, bI_t, bI_z, bI_nz, bI_01, true_or, or_true, reduceCtorEq, false_or, or_false, decide_eq_false_iff_not, decide_eq_true_eq, ite_not, Bool.true_eq_false, nI_1]
            refine ih (n + 1) _ _ (by omega) (by omega) hK2 (by rw [hv2]; exact p_adh_0 _ _ _ _ _) ?_ ?_ ?_
            · rw [hv2]; exact fun y K2 w1 w2 w3 => hq1 y K2 ((hK.tr ft.u).tr w1) w2 w3
            · rw [hv2]; exact fun y K2 w1 w2 => hq0 y K2 ((hK.tr ft.u).tr w1) w2
            · rw [hv2]; exact fun y K2 w1 w2 w3 => hq2 y K2 ((hK.tr ft.u).tr w1) w2 w3
    · rw [g, Bool.false_and, if_neg (by decide)] at hq0
      simp only [mm_pu_s, e39_12, e39_15, e39_16, mm_pu_n, mm_pu_s, va_rf_s, mm_w8_0, mm_w8_1, mm_w8_2, mm_w8_3, mm_w8_4, mm_c1_n, mm_c1_i, mm_c1_a, mm_ct_a, mm_ct_i, true_and, and_true, and_self, eq_self, if_true, if_false, ite_true, ite_false, bI_t, bI_z, bI_nz, bI_01, true_or, or_true, reduceCtorEq, false_or, or_false, decide_eq_false_iff_not, decide_eq_true_eq, ite_not]
      exact hq0 rfl K hK hKf
end
/-- a letter's kind -/
def kI (y : Int32) : Int32 := if y = 112 then 0 else if y = 103 then 1 else if y = 115 then 2 else if y = 102 then 3 else if y = 121 then 4 else -1
theorem kI_o (y : Int32) : (if y = 102 then (3 : Int32) else if y = 103 then 1 else if y = 112 then 0 else if y = 115 then 2 else if y = 121 then 4 else -1) = kI y := by
  unfold kI
  by_cases c1 : y = 102
  · subst c1; rfl
  by_cases c2 : y = 103
  · subst c2; rfl
  by_cases c3 : y = 112
  · subst c3; rfl
  simp only [c1, c2, c3, if_false]
theorem kI_r (y : Int32) : kI y = -1 ∨ ∃ k, k ≤ 4 ∧ kI y = nI k := by
  unfold kI
  by_cases c1 : y = 112
  · exact Or.inr ⟨0, by decide, by rw [if_pos c1]; rfl⟩
  rw [if_neg c1]
  by_cases c2 : y = 103
  · exact Or.inr ⟨1, by decide, by rw [if_pos c2]; rfl⟩
  rw [if_neg c2]
  by_cases c3 : y = 115
  · exact Or.inr ⟨2, by decide, by rw [if_pos c3]; rfl⟩
  rw [if_neg c3]
  by_cases c4 : y = 102
  · exact Or.inr ⟨3, by decide, by rw [if_pos c4]; rfl⟩
  rw [if_neg c4]
  by_cases c5 : y = 121
  · exact Or.inr ⟨4, by decide, by rw [if_pos c5]; rfl⟩
  rw [if_neg c5]
  exact Or.inl rfl
def kk (ch : Nat → Nat) (t p : Nat) : Int32 := kI (cc ch t 0 (sp ch t p))
theorem kk_c (ch : Nat → Nat) (t p : Nat) : kI (cc ch t (-1) (sp ch t p)) = kk ch t p := by
  unfold kk cc
  by_cases c : sp ch t p < t
  · rw [if_pos c, if_pos c]
  · rw [if_neg c, if_neg c]; rfl
theorem kk_lt {ch : Nat → Nat} {t p : Nat} (h : 0 ≤ kk ch t p) : sp ch t p < t := by
  apply Decidable.byContradiction
  intro c
  unfold kk cc at h
  rw [if_neg c] at h
  exact absurd h (by decide)
/-- a digit from lo on, below hi -/
def dr2 (ch : Nat → Nat) (t lo hi p : Nat) : Bool := decide (sp ch t p < t ∧ 48 + lo ≤ ch (sp ch t p) ∧ ch (sp ch t p) < 48 + hi)
def q1' (ch : Nat → Nat) (t p : Nat) : Nat := sp ch t p + 1
def q2' (ch : Nat → Nat) (t p : Nat) : Nat := sp ch t (q1' ch t p) + 1
def q3' (ch : Nat → Nat) (t p : Nat) : Nat := se ch t 64 (q2' ch t p)
def gok (ch : Nat → Nat) (t n p : Nat) : Bool := decide (0 ≤ kk ch t p) && dr2 ch t 1 10 (q1' ch t p) && (!so ch t 64 (q2' ch t p) || dr2 ch t 0 n (q3' ch t p))
def gf (ch : Nat → Nat) (t p : Nat) : Nat := if decide (0 ≤ kk ch t p) = false then sp ch t p else if dr2 ch t 1 10 (q1' ch t p) = false then sp ch t (q1' ch t p) else sp ch t (q3' ch t p)
def ge' (ch : Nat → Nat) (t p : Nat) : Nat := if so ch t 64 (q2' ch t p) = true then sp ch t (q3' ch t p) + 1 else q3' ch t p
def gp (ch : Nat → Nat) (t p : Nat) : Nat := if so ch t 64 (q2' ch t p) = true then ch (sp ch t (q3' ch t p)) - 48 else 0
def gM (ch : Nat → Nat) (t p : Nat) (M : mm_I) (ng : Nat) : mm_I := p_adg M ng (kk ch t p) (nI (ch (sp ch t (q1' ch t p)) - 48)) (nI (gp ch t p))
