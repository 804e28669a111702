/-! making the two objects -/
theorem nr_S (r : mm_R) (sh : Nat × Nat) (w q : Nat) : mm_S (mm_nR r sh w) q = if q = mm_t r then sh else mm_S r q := rfl
theorem nr_P (r : mm_R) (sh : Nat × Nat) (w q : Nat) : mm_P (mm_nR r sh w) q = if q = mm_t r then (fun _ => none) else mm_P r q := rfl
theorem nr_G (r : mm_R) (sh : Nat × Nat) (w q : Nat) : mm_G (mm_nR r sh w) q = if q = mm_t r then (fun _ => 0) else mm_G r q := rfl
theorem nr_t (r : mm_R) (sh : Nat × Nat) (w : Nat) : mm_t (mm_nR r sh w) = mm_t r + 1 := rfl
theorem nr_n (r : mm_R) (sh : Nat × Nat) (w : Nat) : mm_n (mm_nR r sh w) = mm_n r + w := rfl
theorem nr_I (I : mm_I) (r : mm_R) (q : Nat) : mm_nI I r q = if q = mm_t r then (fun _ => 0) else I q := rfl
theorem up_S (r : mm_R) (a k : Nat) (v : Option Nat) : mm_S (mm_uP r a k v) = mm_S r := rfl
theorem up_G (r : mm_R) (a k : Nat) (v : Option Nat) : mm_G (mm_uP r a k v) = mm_G r := rfl
theorem up_t (r : mm_R) (a k : Nat) (v : Option Nat) : mm_t (mm_uP r a k v) = mm_t r := rfl
theorem up_n (r : mm_R) (a k : Nat) (v : Option Nat) : mm_n (mm_uP r a k v) = mm_n r := rfl
theorem up_P (r : mm_R) (a k q : Nat) (v : Option Nat) : mm_P (mm_uP r a k v) q = if q = a then va_up (mm_P r a) k v else mm_P r q := rfl
theorem va_up_s (f : Nat → Option Nat) (k : Nat) (v : Option Nat) : va_up f k v k = v := by unfold va_up; simp
theorem va_up_n (f : Nat → Option Nat) (k j : Nat) (v : Option Nat) (h : j ≠ k) : va_up f k v j = f j := by unfold va_up; simp [h]
/-- the cells from a on and below T are as they were -/
def ef (a T : Nat) (I J : mm_I) (r s : mm_R) : Prop := ∀ q, a ≤ q → q < T → J q = I q ∧ mm_G s q = mm_G r q ∧ mm_P s q = mm_P r q ∧ mm_S s q = mm_S r q
theorem ef.rf {a T : Nat} {I : mm_I} {r : mm_R} : ef a T I I r r := fun _ _ _ => ⟨rfl, rfl, rfl, rfl⟩
theorem ef.tr {a T : Nat} {I J K : mm_I} {r s t : mm_R} (h1 : ef a T I J r s) (h2 : ef a T J K s t) : ef a T I K r t := fun q z1 z2 => by
  obtain ⟨a1, a2, a3, a4⟩ := h1 q z1 z2
  obtain ⟨b1, b2, b3, b4⟩ := h2 q z1 z2
  exact ⟨b1.trans a1, b2.trans a2, b3.trans a3, b4.trans a4⟩
theorem ef.mono {a b T V : Nat} {I J : mm_I} {r s : mm_R} (h : ef a T I J r s) (h1 : a ≤ b) (h2 : V ≤ T) : ef b V I J r s := fun q z1 z2 => h q (by omega) (by omega)
theorem ef.nw {a : Nat} {I : mm_I} {r : mm_R} {sh : Nat × Nat} {w : Nat} : ef a (mm_t r) I (mm_nI I r) r (mm_nR r sh w) := fun q _ z => by
  rw [nr_I, nr_G, nr_P, nr_S, if_neg (by omega), if_neg (by omega), if_neg (by omega), if_neg (by omega)]
  exact ⟨rfl, rfl, rfl, rfl⟩
theorem ef.pt {a b T k : Nat} {v : Option Nat} {I : mm_I} {r : mm_R} (h : b < a) : ef a T I I r (mm_uP r b k v) := fun q z _ => by
  rw [up_P, if_neg (by omega)]
  exact ⟨rfl, rfl, rfl, rfl⟩
theorem ln_S_e {a b T : Nat} {I J : mm_I} {r s : mm_R} (h : ef b T I J r s) (h1 : b ≤ a) (h2 : a + 9 ≤ T) (hl : ln_S r a) : ln_S s a := by
  unfold ln_S at hl ⊢
  rw [(h a h1 (by omega)).2.2.1, (h a h1 (by omega)).2.2.2, (h (a + 1) (by omega) (by omega)).2.2.2, (h (a + 2) (by omega) (by omega)).2.2.2, (h (a + 3) (by omega) (by omega)).2.2.2, (h (a + 4) (by omega) (by omega)).2.2.2, (h (a + 5) (by omega) (by omega)).2.2.2, (h (a + 6) (by omega) (by omega)).2.2.2, (h (a + 7) (by omega) (by omega)).2.2.2, (h (a + 8) (by omega) (by omega)).2.2.2]
  exact hl
def LI (J : mm_I) (a : Nat) : Prop := J a 0 = 0 ∧ J a 1 = 0 ∧ J a 2 = 5 ∧ J a 3 = 0 ∧ J a 4 = 0 ∧ J a 5 = 1
theorem q6 : (¬ (6 : Int32) < 0) ∧ (6 : Int32).toNatClampNeg = 6 ∧ (¬ (5 : Int32) < 0) ∧ (5 : Int32).toNatClampNeg = 5 ∧ (6 ≤ 1000) ∧ (5 ≤ 1000) := by decide
section
variable {r : mm_R} {I : mm_I} {a : Nat} {Q : Option Value → mm_I → mm_R → Prop}
set_option maxHeartbeats 4000000 in
theorem t_initLane (hS : mm_S r a = (1, 0)) (ht : mm_t r = a + 1) (h0 : ∀ i, I a i = 0) (hq : ∀ J s, ef 0 a I J r s → mm_t s = a + 9 → mm_n s = mm_n r + 45 → ln_S s a → LI J a → Q none J s) : mm_E 0 0 [some (.ref a)] [] I r Q := by
  have z1 : (a = a + 1) = False := eq_false (by omega)
  have z2 : (a = a + 2) = False := eq_false (by omega)
  have z3 : (a = a + 3) = False := eq_false (by omega)
  have z4 : (a = a + 4) = False := eq_false (by omega)
  have z5 : (a = a + 5) = False := eq_false (by omega)
  have z6 : (a = a + 6) = False := eq_false (by omega)
  have z7 : (a = a + 7) = False := eq_false (by omega)
  have z8 : (a = a + 8) = False := eq_false (by omega)
  simp only [e0_0, e0_1, e0_4, e0_5, e0_7, e0_9, e0_12, e0_13, e0_15, e0_17, e0_20, e0_21, e0_23, e0_25, e0_28, e0_29, e0_30, e0_32, e0_35, e0_36, e0_37, e0_39, e0_42, e0_43, e0_44, e0_46, e0_49, e0_50, e0_52, e0_54, e0_57, e0_58, e0_60, e0_62, e0_65, e0_66, e0_67, e0_70, e0_71, e0_72, e0_75, mm_pu_n, mm_pu_s, va_rf_s, mm_w8_0, mm_w8_1, mm_w8_2, mm_w8_3, mm_w8_4, mm_c1_n, mm_c1_i, mm_c1_a, mm_ct_a, mm_ct_i, true_and, and_true, and_self, eq_self, if_true, if_false, ite_true, ite_false, bI_t, bI_z, bI_nz, bI_01, true_or, or_true, reduceCtorEq, false_or, or_false, decide_eq_false_iff_not, decide_eq_true_eq, ite_not, q6, not_false_eq_true, up_S, up_t, nr_S, nr_t, ht, hS, Nat.add_assoc, Nat.reduceAdd, z1, z2, z3, z4, z5, z6, z7, z8]
  refine hq _ _ (fun q _ hqa => ?_) ?_ ?_ ?_ ?_
  · have y : ∀ k, (q = a + k) = False := fun k => eq_false (by omega)
    have y0 : (q = a) = False := eq_false (by omega)
    simp [mm_uI, nr_I, nr_G, nr_P, nr_S, up_S, up_G, up_P, nr_t, up_t, ht, Nat.add_assoc, y, y0]
  · simp [up_t, nr_t, ht, Nat.add_assoc]
  · simp [up_n, nr_n, Nat.add_assoc]
  · unfold ln_S
    simp [nr_P, nr_S, up_S, up_P, nr_t, up_t, ht, hS, Nat.add_assoc, va_up]
  · unfold LI
    simp [mm_uI, upd, nr_I, nr_t, up_t, ht, Nat.add_assoc, h0]
theorem t_initSheet (hS : mm_S r a = (1, 3)) (ht : mm_t r = a + 1) (h0 : ∀ i, I a i = 0) (hq : ∀ J s, ef 0 a I J r s → mm_t s = a + 2 → mm_n s = mm_n r + 24 → mm_S s a = (1, 3) → mm_P s a 3 = some (a + 1) → mm_S s (a + 1) = (3, 24) → (∀ i, J a i = 0) → (∀ i, mm_G s (a + 1) i = 0) → Q none J s) : mm_E 31 0 [some (.ref a)] [] I r Q := by
  have z1 : (a = a + 1) = False := eq_false (by omega)
  have e24 : (¬ (24 : Int32) < 0) ∧ (24 : Int32).toNatClampNeg = 24 ∧ (24 ≤ 1000) := by decide
  simp only [e31_0, e31_1, e31_4, e31_5, e31_7, e31_9, e31_12, mm_pu_n, mm_pu_s, va_rf_s, mm_w8_0, mm_w8_1, mm_w8_2, mm_w8_3, mm_w8_4, mm_c1_n, mm_c1_i, mm_c1_a, mm_ct_a, mm_ct_i, true_and, and_true, and_self, eq_self, if_true, if_false, ite_true, ite_false, bI_t, bI_z, bI_nz, bI_01, true_or, or_true, reduceCtorEq, false_or, or_false, decide_eq_false_iff_not, decide_eq_true_eq, ite_not, e24, not_false_eq_true, up_S, up_t, nr_S, nr_t, ht, hS, z1]
  refine hq _ _ (fun q _ hqa => ?_) ?_ ?_ ?_ ?_ ?_ ?_ ?_
  · have y : (q = a + 1) = False := eq_false (by omega)
    have y0 : (q = a) = False := eq_false (by omega)
    simp [nr_I, nr_G, nr_P, nr_S, up_S, up_G, up_P, ht, y, y0]
  · simp [up_t, nr_t, ht, Nat.add_assoc]
  · simp [up_n, nr_n]
  · simp [up_S, nr_S, ht, hS]
  · simp [up_P, va_up]
  · simp [up_S, nr_S, ht]
  · intro i; simp [nr_I, ht, h0]
  · intro i; simp [up_G, nr_G, ht]
theorem t_initParting (hS : mm_S r a = (1, 1)) (ht : mm_t r = a + 1) (hq : ∀ J s, ef 0 a I J r s → mm_t s = a + 3 → mm_n s = mm_n r + 12 → (mm_S s a = (1, 1) ∧ mm_P s a 2 = some (a + 1) ∧ mm_P s a 3 = some (a + 2) ∧ mm_S s (a + 1) = (2, 6) ∧ mm_S s (a + 2) = (2, 6)) → Q none J s) : mm_E 21 0 [some (.ref a)] [] I r Q := by
  have z1 : (a = a + 1) = False := eq_false (by omega)
  have z2 : (a = a + 2) = False := eq_false (by omega)
  simp only [e21_0, e21_1, e21_4, e21_5, e21_7, e21_9, e21_12, e21_13, e21_15, e21_17, e21_20, mm_pu_n, mm_pu_s, va_rf_s, mm_w8_0, mm_w8_1, mm_w8_2, mm_w8_3, mm_w8_4, mm_c1_n, mm_c1_i, mm_c1_a, mm_ct_a, mm_ct_i, true_and, and_true, and_self, eq_self, if_true, if_false, ite_true, ite_false, bI_t, bI_z, bI_nz, bI_01, true_or, or_true, reduceCtorEq, false_or, or_false, decide_eq_false_iff_not, decide_eq_true_eq, ite_not, q6, not_false_eq_true, up_S, up_t, nr_S, nr_t, ht, hS, Nat.add_assoc, Nat.reduceAdd, z1, z2]
  refine hq _ _ (fun q _ hqa => ?_) ?_ ?_ ?_
  · have y : ∀ k, (q = a + k) = False := fun k => eq_false (by omega)
    have y0 : (q = a) = False := eq_false (by omega)
    simp [nr_I, nr_G, nr_P, nr_S, up_S, up_G, up_P, nr_t, up_t, ht, Nat.add_assoc, y, y0]
  · simp [up_t, nr_t, ht, Nat.add_assoc]
  · simp [up_n, nr_n, Nat.add_assoc]
  · simp [nr_P, nr_S, up_S, up_P, nr_t, up_t, ht, hS, Nat.add_assoc, va_up]
theorem t_initTape (hS : mm_S r a = (1, 4)) (ht : mm_t r = a + 1) (h0 : ∀ i, I a i = 0) (hq : ∀ J s, ef 0 a I J r s → mm_t s = a + 11 → mm_n s = mm_n r + 139 → (mm_S s a = (1, 4) ∧ mm_P s a 2 = some (a + 2) ∧ mm_P s a 3 = some (a + 1) ∧ mm_S s (a + 1) = (2, 80)) → ln_S s (a + 2) → (∀ i, J a i = 0) → Q none J s) : mm_E 36 0 [some (.ref a)] [] I r Q := by
  have z1 : (a = a + 1) = False := eq_false (by omega)
  have z2 : (a = a + 2) = False := eq_false (by omega)
  have e80 : (¬ (80 : Int32) < 0) ∧ (80 : Int32).toNatClampNeg = 80 ∧ (80 ≤ 1000) := by decide
  simp only [e36_0, e36_1, e36_4, e36_5, e36_7, e36_9, e36_12, e36_13, e36_16, e36_17, mm_pu_n, mm_pu_s, va_rf_s, mm_w8_0, mm_w8_1, mm_w8_2, mm_w8_3, mm_w8_4, mm_c1_n, mm_c1_i, mm_c1_a, mm_ct_a, mm_ct_i, true_and, and_true, and_self, eq_self, if_true, if_false, ite_true, ite_false, bI_t, bI_z, bI_nz, bI_01, true_or, or_true, reduceCtorEq, false_or, or_false, decide_eq_false_iff_not, decide_eq_true_eq, ite_not, e80, not_false_eq_true, up_S, up_t, nr_S, nr_t, ht, hS, Nat.add_assoc, Nat.reduceAdd, z1, z2]
  refine t_initLane (a := a + 2) ?_ ?_ ?_ (fun J s h1 h2 h3 h4 h5 => ?_)
  · simp [nr_S, up_t, nr_t, ht, Nat.add_assoc]
  · simp [nr_t, up_t, ht, Nat.add_assoc]
  · intro i; simp [nr_I, up_t, nr_t, ht, Nat.add_assoc]
  have k0 := h1 a (Nat.zero_le _) (by omega)
  have k1 := h1 (a + 1) (Nat.zero_le _) (by omega)
  simp [nr_I, nr_G, nr_P, nr_S, up_S, up_G, up_P, nr_t, up_t, ht, hS, Nat.add_assoc] at k0 k1
  simp only [mm_pu_n, e36_20, e36_23, mm_pu_n, mm_pu_s, va_rf_s, mm_w8_0, mm_w8_1, mm_w8_2, mm_w8_3, mm_w8_4, mm_c1_n, mm_c1_i, mm_c1_a, mm_ct_a, mm_ct_i, true_and, and_true, and_self, eq_self, if_true, if_false, ite_true, ite_false, bI_t, bI_z, bI_nz, bI_01, true_or, or_true, reduceCtorEq, false_or, or_false, decide_eq_false_iff_not, decide_eq_true_eq, ite_not, k0.2.2.2]
  refine hq _ _ (fun q _ hqa => ?_) ?_ ?_ ?_ ?_ ?_
  · have y : ∀ k, (q = a + k) = False := fun k => eq_false (by omega)
    have y0 : (q = a) = False := eq_false (by omega)
    have k2 := h1 q (Nat.zero_le _) (by omega)
    simp [nr_I, nr_G, nr_P, nr_S, up_S, up_G, up_P, nr_t, up_t, ht, Nat.add_assoc, y, y0] at k2 ⊢
    exact k2
  · rw [up_t, h2]
  · rw [up_n, h3]; simp [up_n, nr_n, Nat.add_assoc]
  · simp [up_S, up_P, k0, k1, va_up]
  · exact ln_S_e (I := J) (J := J) (ef.pt (a := a + 2) (T := a + 11) (by omega)) (Nat.le_refl _) (by omega) h4
  · intro i; rw [k0.1]; exact h0 i
theorem t_initPast (hS : mm_S r a = (1, 2)) (ht : mm_t r = a + 1) (h0 : ∀ i, I a i = 0) (hq : ∀ J s, ef 0 a I J r s → mm_t s = a + 74 → mm_n s = mm_n r + 480 → pa_S s a idn → J a 1 = 0 → Q none J s) : mm_E 25 0 [some (.ref a), none] [] I r Q := by
  have z1 : (a = a + 1) = False := eq_false (by omega)
  have e8 : (¬ (8 : Int32) < 0) ∧ (8 : Int32).toNatClampNeg = 8 ∧ (8 ≤ 1000) := by decide
  have loop : ∀ d k J s, k + d = 8 → ef 0 a I J r s → mm_t s = a + 2 + 9 * k → mm_n s = mm_n r + 8 + 59 * k → mm_S s a = (1, 2) → mm_P s a 0 = some (a + 1) → mm_S s (a + 1) = (4, 8) → (∀ i, i < k → ln_S s (a + 2 + 9 * i) ∧ mm_P s (a + 1) i = some (a + 2 + 9 * i)) → J a 1 = 0 → mm_E 25 15 [some (.ref a), some (.int (nI k))] [] J s Q := by
    intro d
    induction d with
    | zero =>
      intro k J s hk hF h1 h2 h3 h4 h5 h6 h7
      have : k = 8 := by omega
      subst this
      rw [e25_15]
      simp only [e25_16, e25_18, e25_40, mm_pu_n, mm_pu_s, va_rf_s, mm_w8_0, mm_w8_1, mm_w8_2, mm_w8_3, mm_w8_4, mm_c1_n, mm_c1_i, mm_c1_a, mm_ct_a, mm_ct_i, true_and, and_true, and_self, eq_self, if_true, if_false, ite_true, ite_false, bI_t, bI_z, bI_nz, bI_01, true_or, or_true, reduceCtorEq, false_or, or_false, decide_eq_false_iff_not, decide_eq_true_eq, ite_not, show ((8 : Int32) ≤ nI 8) = True from eq_true (by decide)]
      exact hq J s hF (by omega) (by omega) ⟨h3, h4, h5, fun k hk => (h6 k hk).1, fun k hk => ⟨hk, (h6 k hk).2⟩, fun i j _ _ h => h⟩ h7
    | succ d ih =>
      intro k J s hk hF h1 h2 h3 h4 h5 h6 h7
      have h8 : ¬ ((8 : Int32) ≤ nI k) := by
        rw [show (8 : Int32) = nI 8 from rfl]
        exact nI_ge (by omega) (by decide)
      rw [e25_15]
      simp only [e25_16, e25_18, e25_21, e25_22, e25_25, e25_26, e25_29, e25_30, mm_pu_n, mm_pu_s, va_rf_s, mm_w8_0, mm_w8_1, mm_w8_2, mm_w8_3, mm_w8_4, mm_c1_n, mm_c1_i, mm_c1_a, mm_ct_a, mm_ct_i, true_and, and_true, and_self, eq_self, if_true, if_false, ite_true, ite_false, bI_t, bI_z, bI_nz, bI_01, true_or, or_true, reduceCtorEq, false_or, or_false, decide_eq_false_iff_not, decide_eq_true_eq, ite_not, h8, h3, h4]
      rw [h1]
      refine t_initLane (a := a + 2 + 9 * k) ?_ ?_ ?_ (fun J2 s2 w1 w2 w3 w4 w5 => ?_)
      · rw [nr_S, if_pos h1.symm]
      · rw [nr_t, h1]
      · intro i; rw [nr_I, if_pos h1.symm]
      have hE : ef 0 (a + 2 + 9 * k) J J2 s s2 := by
        have := (ef.nw (a := 0) (I := J) (r := s) (sh := (1, 0)) (w := 14))
        rw [h1] at this
        exact this.tr w1
      have ka := hE a (Nat.zero_le _) (by omega)
      have ka1 := hE (a + 1) (Nat.zero_le _) (by omega)
      simp only [mm_pu_n, e25_33, e25_34, e25_37, mm_pu_n, mm_pu_s, va_rf_s, mm_w8_0, mm_w8_1, mm_w8_2, mm_w8_3, mm_w8_4, mm_c1_n, mm_c1_i, mm_c1_a, mm_ct_a, mm_ct_i, true_and, and_true, and_self, eq_self, if_true, if_false, ite_true, ite_false, bI_t, bI_z, bI_nz, bI_01, true_or, or_true, reduceCtorEq, false_or, or_false, decide_eq_false_iff_not, decide_eq_true_eq, ite_not, ka1.2.2.2, h5, w4.s0, vp_in_nI (show k < 8 by omega) (by decide), cl2 (show k < 248 by omega), nI_1]
      refine ih (k + 1) _ _ (by omega) (fun q _ hqa => ?_) (by rw [up_t, w2]; omega) (by rw [up_n, w3, nr_n]; omega) (by rw [up_S, ka.2.2.2]; exact h3) (by rw [up_P, if_neg (by omega), ka.2.2.1]; exact h4) (by rw [up_S, ka1.2.2.2]; exact h5) (fun i hi => ?_) (by rw [ka.1]; exact h7)
      · have k1 := hF q (Nat.zero_le _) hqa
        have k2 := hE q (Nat.zero_le _) (by omega)
        rw [up_G, up_P, up_S, if_neg (by omega), k2.1, k2.2.1, k2.2.2.1, k2.2.2.2]
        exact k1
      · by_cases c : i = k
        · subst c
          exact ⟨ln_S_P (r := s2) rfl (by rw [up_P, if_neg (by omega)]) w4, by rw [up_P, if_pos rfl, va_up_s]⟩
        · have hi' := h6 i (by omega)
          refine ⟨ln_S_P (r := s2) rfl (by rw [up_P, if_neg (by omega)]) (ln_S_e hE (Nat.zero_le _) (by omega) hi'.1), ?_⟩
          rw [up_P, if_pos rfl, va_up_n _ _ _ _ c, ka1.2.2.1]
          exact hi'.2
  simp only [e25_0, e25_1, e25_4, e25_5, e25_7, e25_10, e25_13, e25_14, mm_pu_n, mm_pu_s, va_rf_s, mm_w8_0, mm_w8_1, mm_w8_2, mm_w8_3, mm_w8_4, mm_c1_n, mm_c1_i, mm_c1_a, mm_ct_a, mm_ct_i, true_and, and_true, and_self, eq_self, if_true, if_false, ite_true, ite_false, bI_t, bI_z, bI_nz, bI_01, true_or, or_true, reduceCtorEq, false_or, or_false, decide_eq_false_iff_not, decide_eq_true_eq, ite_not, e8, not_false_eq_true, up_S, up_t, nr_S, nr_t, ht, hS, z1]
  refine loop 8 0 _ _ (by omega) (fun q _ hqa => ?_) ?_ ?_ ?_ ?_ ?_ (fun i hi => absurd hi (by omega)) ?_
  · have y : (q = a + 1) = False := eq_false (by omega)
    have y0 : (q = a) = False := eq_false (by omega)
    simp [nr_I, nr_G, nr_P, nr_S, up_S, up_G, up_P, ht, y, y0]
  · simp [up_t, nr_t, ht, Nat.add_assoc]
  · simp [up_n, nr_n]
  · simp [up_S, nr_S, ht, hS]
  · simp [up_P, va_up]
  · simp [up_S, nr_S, ht]
  · simp [nr_I, ht, h0]
end
