/-- the places of a lane without the draw -/
def wd5 (n ng q i : Nat) : Prop := wc n ng q i ∧ ¬ (q = 0 ∧ i = 5)
theorem s5_adh {L Lr : mm_I} {n ng : Nat} (h : ag (wd5 n ng) L Lr) (o s k : Int32) : ag (wd5 (n + 1) ng) (p_adh L n o s k) (p_adh Lr n o s k) := fun q i hq => by
  unfold p_adh
  refine ag_x (ag_x (ag_x (ag_x h 1 n o) 2 n s) 3 n k) 0 0 _ q i ?_
  unfold wd5 wc at hq ⊢
  omega
theorem s5_adg {L Lr : mm_I} {n ng : Nat} (h : ag (wd5 n ng) L Lr) (k g p : Int32) : ag (wd5 n (ng + 1)) (p_adg L ng k g p) (p_adg Lr ng k g p) := fun q i hq => by
  unfold p_adg
  refine ag_x (ag_x (ag_x (ag_x h 4 ng k) 5 ng g) 6 ng p) 0 1 _ q i ?_
  unfold wd5 wc at hq ⊢
  omega
theorem adh_5 (M : mm_I) (n : Nat) (o s k : Int32) : p_adh M n o s k 0 5 = M 0 5 := by
  unfold p_adh
  rw [mu_j (by decide), mu_n (by decide), mu_n (by decide), mu_n (by decide)]
theorem adg_5 (M : mm_I) (n : Nat) (k g p : Int32) : p_adg M n k g p 0 5 = M 0 5 := by
  unfold p_adg
  rw [mu_j (by decide), mu_n (by decide), mu_n (by decide), mu_n (by decide)]
theorem adh_gl {L : mm_I} {n ng o s k : Nat} (h : gl L n ng) (hn : n < 6) (ho : o ≤ 9999) (hs : s ≤ 20) (hk : k ≤ 3) : gl (p_adh L n (nI o) (nI s) (nI k)) (n + 1) ng := by
  have h1 := (adh_gd (B := fun _ => L) h hn ho hs).1
  rw [← adh_3 L n (nI o) (nI s) 0 (nI k)]
  exact gl_h h1 (Or.inr (Or.inr (Or.inl ⟨rfl, k, hk, rfl⟩)))
theorem hM_gl {ch : Nat → Nat} {t p n ng : Nat} {M : mm_I} (h : gl M n ng) (hn6 : n < 6) (hg : hw ch t p = true) : gl (hM ch t p M n) (n + 1) ng := by
  obtain ⟨⟨a, -⟩, c⟩ := hw_1 hg
  have a' := nok_1 a
  have c' := nok_1 c
  have l := lkc_le (ch := ch) (t := t) 3 (h3 ch t p)
  exact adh_gl h hn6 (by omega) c'.2 l
theorem gM_gl {ch : Nat → Nat} {t p n ng : Nat} {M : mm_I} (h : gl M n ng) (hn5 : ng < 5) (hn0 : 0 < n) (hg : gok ch t n p = true) : gl (gM ch t p M ng) n (ng + 1) := by
  unfold gok at hg
  rw [Bool.and_eq_true, Bool.and_eq_true, decide_eq_true_eq] at hg
  obtain ⟨⟨h1, h2⟩, h3⟩ := hg
  obtain ⟨z1, z2, z3⟩ := of_decide_eq_true h2
  have hp : gp ch t p < n := by
    unfold gp
    by_cases c : so ch t 64 (q2' ch t p) = true
    · rw [if_pos c]
      rw [c] at h3
      have h4 : dr2 ch t 0 n (q3' ch t p) = true := h3
      obtain ⟨y1, y2, y3⟩ := of_decide_eq_true h4
      omega
    · rw [if_neg c]; exact hn0
  unfold gM
  rcases kI_r (cc ch t 0 (sp ch t p)) with hk | ⟨k, hk, e⟩
  · have : kk ch t p = -1 := hk
    rw [this] at h1
    exact absurd h1 (by decide)
  · have e' : kk ch t p = nI k := e
    rw [e']
    exact (adg_gd (B := fun _ => M) h hn5 hk (by omega) hp).1
theorem HL_c {ch : Nat → Nat} {t ng : Nat} : ∀ d n p (M N : mm_I), n + d = 6 → ag (wd5 n ng) M N → gl N n ng → ((HL ch t d n p M).1 = (HL ch t d n p N).1 ∧ (HL ch t d n p M).2.1 = (HL ch t d n p N).2.1 ∧ (HL ch t d n p M).2.2.1 = (HL ch t d n p N).2.2.1) ∧ ((HL ch t d n p N).1 = true → ag (wd5 (HL ch t d n p N).2.2.1 ng) (HL ch t d n p M).2.2.2 (HL ch t d n p N).2.2.2 ∧ gl (HL ch t d n p N).2.2.2 (HL ch t d n p N).2.2.1 ng ∧ 0 < (HL ch t d n p N).2.2.1 ∧ (HL ch t d n p N).2.2.2 0 5 = N 0 5) := by
  intro d
  induction d with
  | zero => intro n p M N _ h _; exact ⟨⟨rfl, rfl, rfl⟩, fun z => absurd z (by intro y; cases y)⟩
  | succ d ih =>
    intro n p M N hd h hgl
    have eH : ∀ M, HL ch t (d + 1) n p M = if (hw ch t p && !dg ch t (h3 ch t p)) = true then (if d = 0 then (true, hn ch t p, n + 1, hM ch t p M n) else if so ch t 44 (hn ch t p) = true then HL ch t d (n + 1) (se ch t 44 (hn ch t p)) (hM ch t p M n) else (true, se ch t 44 (hn ch t p), n + 1, hM ch t p M n)) else (false, hf ch t p, n, M) := fun _ => rfl
    rw [eH, eH]
    by_cases c1 : (hw ch t p && !dg ch t (h3 ch t p)) = true
    · have hw1 : hw ch t p = true := by rw [Bool.and_eq_true] at c1; exact c1.1
      have s1 : ag (wd5 (n + 1) ng) (hM ch t p M n) (hM ch t p N n) := s5_adh h _ _ _
      have g1 := hM_gl hgl (by omega) hw1
      have k5 : hM ch t p N n 0 5 = N 0 5 := adh_5 _ _ _ _ _
      rw [if_pos c1, if_pos c1]
      by_cases c2 : d = 0
      · rw [if_pos c2, if_pos c2]
        exact ⟨⟨rfl, rfl, rfl⟩, fun _ => ⟨s1, g1, Nat.succ_pos _, k5⟩⟩
      · rw [if_neg c2, if_neg c2]
        by_cases c3 : so ch t 44 (hn ch t p) = true
        · rw [if_pos c3, if_pos c3]
          obtain ⟨i1, i2⟩ := ih (n + 1) (se ch t 44 (hn ch t p)) _ _ (by omega) s1 g1
          exact ⟨i1, fun y => ⟨(i2 y).1, (i2 y).2.1, (i2 y).2.2.1, (i2 y).2.2.2.trans k5⟩⟩
        · rw [if_neg c3, if_neg c3]
          exact ⟨⟨rfl, rfl, rfl⟩, fun _ => ⟨s1, g1, Nat.succ_pos _, k5⟩⟩
    · rw [if_neg c1, if_neg c1]
      exact ⟨⟨rfl, rfl, rfl⟩, fun z => absurd z (by intro y; cases y)⟩
theorem GL_c {ch : Nat → Nat} {t n : Nat} (hn0 : 0 < n) : ∀ d ng p (M N : mm_I), ng + d = 5 → ag (wd5 n ng) M N → gl N n ng → ((GL ch t n d ng p M).1 = (GL ch t n d ng p N).1 ∧ (GL ch t n d ng p M).2.1 = (GL ch t n d ng p N).2.1 ∧ (GL ch t n d ng p M).2.2.1 = (GL ch t n d ng p N).2.2.1) ∧ ((GL ch t n d ng p N).1 = true → ag (wd5 n (GL ch t n d ng p N).2.2.1) (GL ch t n d ng p M).2.2.2 (GL ch t n d ng p N).2.2.2 ∧ gl (GL ch t n d ng p N).2.2.2 n (GL ch t n d ng p N).2.2.1 ∧ (GL ch t n d ng p N).2.2.2 0 5 = N 0 5) := by
  intro d
  induction d with
  | zero => intro ng p M N _ h _; exact ⟨⟨rfl, rfl, rfl⟩, fun z => absurd z (by intro y; cases y)⟩
  | succ d ih =>
    intro ng p M N hd h hgl
    have eH : ∀ M, GL ch t n (d + 1) ng p M = if gok ch t n p = true then (if d = 0 then (true, ge' ch t p, ng + 1, gM ch t p M ng) else if so ch t 44 (ge' ch t p) = true then GL ch t n d (ng + 1) (se ch t 44 (ge' ch t p)) (gM ch t p M ng) else (true, se ch t 44 (ge' ch t p), ng + 1, gM ch t p M ng)) else (false, gf ch t p, ng, M) := fun _ => rfl
    rw [eH, eH]
    by_cases c1 : gok ch t n p = true
    · have s1 : ag (wd5 n (ng + 1)) (gM ch t p M ng) (gM ch t p N ng) := s5_adg h _ _ _
      have g1 := gM_gl hgl (by omega) hn0 c1
      have k5 : gM ch t p N ng 0 5 = N 0 5 := adg_5 _ _ _ _ _
      rw [if_pos c1, if_pos c1]
      by_cases c2 : d = 0
      · rw [if_pos c2, if_pos c2]
        exact ⟨⟨rfl, rfl, rfl⟩, fun _ => ⟨s1, g1, k5⟩⟩
      · rw [if_neg c2, if_neg c2]
        by_cases c3 : so ch t 44 (ge' ch t p) = true
        · rw [if_pos c3, if_pos c3]
          obtain ⟨i1, i2⟩ := ih (ng + 1) (se ch t 44 (ge' ch t p)) _ _ (by omega) s1 g1
          exact ⟨i1, fun y => ⟨(i2 y).1, (i2 y).2.1, (i2 y).2.2.trans k5⟩⟩
        · rw [if_neg c3, if_neg c3]
          exact ⟨⟨rfl, rfl, rfl⟩, fun _ => ⟨s1, g1, k5⟩⟩
    · rw [if_neg c1, if_neg c1]
      exact ⟨⟨rfl, rfl, rfl⟩, fun z => absurd z (by intro y; cases y)⟩
/-- both told the same -/
def sLL (A B : Bool × Nat × Nat × Nat × mm_I) (y : Int32) : Prop := (A.1 = B.1 ∧ A.2.1 = B.2.1) ∧ (B.1 = true → ag (wd5 B.2.2.1 B.2.2.2.1) A.2.2.2.2 B.2.2.2.2 ∧ gl B.2.2.2.2 B.2.2.1 B.2.2.2.1 ∧ B.2.2.2.2 0 5 = y)
theorem sLL_f {p : Nat} {A B : Nat × Nat × mm_I} {y : Int32} : sLL (false, p, A) (false, p, B) y := ⟨⟨rfl, rfl⟩, fun z => absurd z (by intro w; cases w)⟩
theorem LL_c {ch : Nat → Nat} {t : Nat} {M N : mm_I} (h : ∀ v, v ≤ 20 → ag (wd5 0 0) (mm_uI M 0 2 (nI v)) (mm_uI N 0 2 (nI v))) (hg : ∀ v, v ≤ 20 → gl (mm_uI N 0 2 (nI v)) 0 0) : sLL (LL ch t M) (LL ch t N) (N 0 5) := by
  unfold LL
  by_cases c1 : nok ch t 20 0 = true
  · rw [if_pos c1, if_pos c1]
    by_cases c2 : so ch t 59 (ne ch t 0) = true
    · rw [if_pos c2, if_pos c2]
      have hv := (nok_1 c1).2
      obtain ⟨⟨i1, i2, i3⟩, i4⟩ := HL_c (ch := ch) (t := t) 6 0 (se ch t 59 (ne ch t 0)) _ _ (by omega) (h _ hv) (hg _ hv)
      generalize HL ch t 6 0 (se ch t 59 (ne ch t 0)) (mm_uI M 0 2 (nI (nv ch t 0))) = A at i1 i2 i3 i4 ⊢
      generalize HL ch t 6 0 (se ch t 59 (ne ch t 0)) (mm_uI N 0 2 (nI (nv ch t 0))) = B at i1 i2 i3 i4 ⊢
      unfold LH
      rw [i1]
      by_cases c3 : B.1 = true
      · rw [if_pos c3, if_pos c3]
        obtain ⟨j1, j2, j3, j4⟩ := i4 c3
        rw [mu_j (by decide)] at j4
        unfold LG
        rw [i2, i3]
        have fin : ∀ p n ng (X Y : mm_I), ag (wd5 n ng) X Y → gl Y n ng → Y 0 5 = N 0 5 → sLL (LF ch t p n ng X) (LF ch t p n ng Y) (N 0 5) := fun p n ng X Y a b c => ⟨⟨rfl, rfl⟩, fun _ => ⟨a, b, c⟩⟩
        by_cases c4 : so ch t 59 B.2.1 = true
        · rw [if_pos c4, if_pos c4]
          obtain ⟨⟨k1, k2, k3⟩, k4⟩ := GL_c (ch := ch) (t := t) j3 5 0 (se ch t 59 B.2.1) _ _ (by omega) j1 j2
          rw [k1, k2, k3]
          by_cases c5 : (GL ch t B.2.2.1 5 0 (se ch t 59 B.2.1) B.2.2.2).1 = true
          · rw [if_pos c5, if_pos c5]
            obtain ⟨q1, q2, q3⟩ := k4 c5
            exact fin _ _ _ _ _ q1 q2 (q3.trans j4)
          · rw [if_neg c5, if_neg c5]
            exact sLL_f
        · rw [if_neg c4, if_neg c4]
          exact fin _ _ _ _ _ j1 j2 j4
      · rw [if_neg c3, if_neg c3, i2]
        exact sLL_f
    · rw [if_neg c2, if_neg c2]
      exact sLL_f
  · rw [if_neg c1, if_neg c1]
    exact sLL_f
/-- tape and what is told of it changed alone -/
theorem ALL_t {I J : mm_I} {r : mm_R} {x m : Nat} (h : ALL I r x m) (hj : ∀ q, ¬ scr x m q → ¬ (x + 96 ≤ q ∧ q < x + 98) → q ≠ m + 4 → q ≠ m → J q = I q) (h11 : J m 11 = I m 11) (h3 : G3 J x m) : ALL J r x m := by
  obtain ⟨hS, ⟨sg, L, bn, B, n, ng, Lr, Br, h1⟩, h2, -, h4⟩ := h
  have hm := hS.1
  unfold scr at hj
  exact ⟨hS, ⟨sg, L, bn, B, n, ng, Lr, Br, g1_keep h1 h1.1.1 (fun q z1 z2 => hj q (by omega) (by omega) (by omega) (by omega)) (fun q z1 z2 => hj q (by omega) (by omega) (by omega) (by omega)) (hj _ (by omega) (by omega) (by omega) (by omega))⟩, G2_keep h2 hS (rd_F (hj _ (by omega) (by omega) (by omega) (by omega))) h11 (fun q z1 z2 => hj q (by omega) (by omega) (by omega) (by omega)) (hj _ (by omega) (by omega) (by omega) (by omega)), h3, G4_keep h4 rfl (fun k hk => hj _ (by omega) (by omega) (by omega) (by omega)) (hj _ (by omega) (by omega) (by omega) (by omega)) (hj _ (by omega) (by omega) (by omega) (by omega))⟩
section
variable {r : mm_R} {I : mm_I} {x m : Nat} {Q : Option Value → mm_I → mm_R → Prop}
theorem a_type (h : ALL I r x m) (c : Int32) : pr 55 109 [some (.ref x), some (.int c)] [some (.ref m), some (.int c)] I r x m := by
  obtain ⟨hS, hG1, hG2, hG3, hG4⟩ := id h
  obtain ⟨hm, hx, -, hip, hpt, htp, hsh, hml⟩ := id hS
  obtain ⟨x0, x1, x2, x3, x4, x5, x6, x7, x8⟩ := id hx
  obtain ⟨t, ht, s1, s2, s3⟩ := id hG3
  obtain ⟨p1, p2, p3, p4⟩ := id htp
  have hi : ∀ y, mm_ix r (x + 97) 2 y = vp_in y 80 := fun y => mm_ixs p4
  unfold pr
  cases hk : wth c 32 126 with
  | false =>
    simp only [e55_0, e55_1, e55_3, e55_5, e55_8, e55_11, e55_12, e55_13, e55_14, e55_17, e55_20, e55_22, e55_25, e55_27, e55_28, e55_29, e55_32, e55_33, e55_36, e109_0, e109_1, e109_3, e109_5, e109_8, e109_11, e109_12, e109_13, e109_14, e109_17, e109_19, e109_22, e109_24, e109_25, e109_26, e109_29, e109_30, e109_33, e109_34, e109_35, e109_36, e109_37, e109_40, e109_41, e109_42, e109_45, e109_46, e109_49, mm_pu_n, mm_pu_s, va_rf_s, mm_w8_0, mm_w8_1, mm_w8_2, mm_w8_3, mm_w8_4, mm_c1_n, mm_c1_i, mm_c1_a, mm_ct_a, mm_ct_i, true_and, and_true, and_self, eq_self, if_true, if_false, ite_true, ite_false, bI_t, bI_z, bI_nz, bI_01, true_or, or_true, reduceCtorEq, false_or, or_false, decide_eq_false_iff_not, decide_eq_true_eq, ite_not, t_within, u_inw, hk, Bool.false_eq_true]
    exact fi_i _ h rfl rfl
  | true =>
    obtain ⟨c', hc1, hc2, rfl⟩ := wth_of hk (a := 32) (b := 126) (by decide) (by decide) (by decide) (by decide)
    by_cases c80 : t = 80
    · subst c80
      simp only [e55_0, e55_1, e55_3, e55_5, e55_8, e55_11, e55_12, e55_13, e55_14, e55_17, e55_20, e55_22, e55_25, e55_27, mm_pu_n, mm_pu_s, va_rf_s, mm_w8_0, mm_w8_1, mm_w8_2, mm_w8_3, mm_w8_4, mm_c1_n, mm_c1_i, mm_c1_a, mm_ct_a, mm_ct_i, true_and, and_true, and_self, eq_self, if_true, if_false, ite_true, ite_false, bI_t, bI_z, bI_nz, bI_01, true_or, or_true, reduceCtorEq, false_or, or_false, decide_eq_false_iff_not, decide_eq_true_eq, ite_not, t_within, hk, Bool.true_eq_false, x0, x5, p1, s1, show (nI 80 < (80 : Int32)) = False from eq_false (by decide)]
      simp only [e109_0, e109_1, e109_3, e109_5, e109_8, e109_11, e109_12, e109_13, e109_14, e109_17, e109_19, e109_22, e109_24, mm_pu_n, mm_pu_s, va_rf_s, mm_w8_0, mm_w8_1, mm_w8_2, mm_w8_3, mm_w8_4, mm_c1_n, mm_c1_i, mm_c1_a, mm_ct_a, mm_ct_i, true_and, and_true, and_self, eq_self, if_true, if_false, ite_true, ite_false, bI_t, bI_z, bI_nz, bI_01, true_or, or_true, reduceCtorEq, false_or, or_false, decide_eq_false_iff_not, decide_eq_true_eq, ite_not, u_inw, hk, Bool.true_eq_false, hml.s0, s2, show (nI 80 = (80 : Int32)) = True from eq_true rfl]
      exact fi_i _ h rfl rfl
    · have ht80 : t < 80 := by omega
      have n80 : nI t < 80 := nI_lt (b := 80) ht80 (by decide)
      have n80' : ¬ ((80 : Int32) ≤ nI t) := Int32.not_le.mpr n80
      have ne80 : ¬ (nI t = (80 : Int32)) := fun z => c80 ((nI_eq (b := 80) (by omega) (by decide)).mp z)
      have r0 : mm_rd (mm_uI I (x + 97) t (nI c')) (x + 96) 0 = nI t := by rw [rd_F (mu_n (by omega))]; exact s1
      have r1 : mm_rd (mm_uI (mm_uI I (x + 97) t (nI c')) (x + 96) 0 (nI (t + 1))) (x + 96) 0 = nI (t + 1) := rd_u
      simp only [e55_0, e55_1, e55_3, e55_5, e55_8, e55_11, e55_12, e55_13, e55_14, e55_17, e55_20, e55_22, e55_25, e55_27, e55_28, e55_29, e55_32, e55_33, e55_36, mm_pu_n, mm_pu_s, va_rf_s, mm_w8_0, mm_w8_1, mm_w8_2, mm_w8_3, mm_w8_4, mm_c1_n, mm_c1_i, mm_c1_a, mm_ct_a, mm_ct_i, true_and, and_true, and_self, eq_self, if_true, if_false, ite_true, ite_false, bI_t, bI_z, bI_nz, bI_01, true_or, or_true, reduceCtorEq, false_or, or_false, decide_eq_false_iff_not, decide_eq_true_eq, ite_not, t_within, hk, Bool.true_eq_false, x0, x5, p1, p3, s1, n80, e37_0, e37_1, e37_4, e37_6, e37_9, e37_10, e37_13, e37_14, e37_17, e37_18, e37_19, e37_20, e37_21, e37_24, e37_25, e37_26, e37_29, e37_30, e37_33, n80', hi, in80 ht80, cl2 (show t < 248 by omega), r0, nI_1, r1]
      have q0 : mm_rd (mm_uI (mm_uI I (x + 97) t (nI c')) (x + 96) 0 (nI (t + 1))) m 3 = nI t := by rw [rd_F (mu_n (by omega)), rd_F (mu_n (by omega))]; exact s2
      generalize hJ : mm_uI (mm_uI I (x + 97) t (nI c')) (x + 96) 0 (nI (t + 1)) = J at q0
      have oJ : ∀ q, q ≠ x + 96 → q ≠ x + 97 → J q = I q := fun q a b => by rw [← hJ, mu_n a, mu_n b]
      have q1 : mm_rd (mm_uI J (m + 4) t (nI c')) m 3 = nI t := by rw [rd_F (mu_n (by omega))]; exact q0
      have q2 : mm_rd (mm_uI (mm_uI J (m + 4) t (nI c')) m 3 (nI (t + 1))) m 3 = nI (t + 1) := rd_u
      simp only [e109_0, e109_1, e109_3, e109_5, e109_8, e109_11, e109_12, e109_13, e109_14, e109_17, e109_19, e109_22, e109_24, e109_25, e109_26, e109_29, e109_30, e109_33, e109_34, e109_35, e109_36, e109_37, e109_40, e109_41, e109_42, e109_45, e109_46, e109_49, mm_pu_n, mm_pu_s, va_rf_s, mm_w8_0, mm_w8_1, mm_w8_2, mm_w8_3, mm_w8_4, mm_c1_n, mm_c1_i, mm_c1_a, mm_ct_a, mm_ct_i, true_and, and_true, and_self, eq_self, if_true, if_false, ite_true, ite_false, bI_t, bI_z, bI_nz, bI_01, true_or, or_true, reduceCtorEq, false_or, or_false, decide_eq_false_iff_not, decide_eq_true_eq, ite_not, u_inw, hk, Bool.true_eq_false, hml.s0, hml.p4, hml.i4, q0, ne80, in80 ht80, cl2 (show t < 248 by omega), q1, nI_1, q2]
      refine fi_i _ (ALL_t h (fun q a b c d => ?_) ?_ ⟨t + 1, by omega, ?_, rd_u, fun i hi => ?_⟩) rfl rfl
      · rw [mu_n d, mu_n c, oJ q (by omega) (by omega)]
      · rw [mu_j (by decide), mu_n (by omega), oJ m (by omega) (by omega)]
      · rw [rd_F (mu_n (by omega)), rd_F (mu_n (by omega)), ← hJ]; exact rd_u
      · rw [mu_n (by omega), mu_n (by omega), mu_n (by omega)]
        by_cases d : i = t
        · subst d
          rw [← hJ, mu_n (by omega), mu_s, mu_s]
          exact ⟨rfl, c', hc1, hc2, rfl⟩
        · rw [mu_j d, oJ (m + 4) (by omega) (by omega), ← hJ, mu_n (by omega), mu_j d]
          exact s3 i (by omega)
end
