/-- a lane that is well formed: n houses, ng hogs, each at a house -/
def ln_G (L : mm_I) (n ng : Nat) : Prop := (n ≤ 6 ∧ L 0 0 = nI n) ∧ (ng ≤ 5 ∧ L 0 1 = nI ng) ∧ ∀ g, g < ng → ∃ p, p < n ∧ L 6 g = nI p
/-- what a meal leaves as it is -/
theorem p_eat_keep (L : mm_I) (g k q i : Nat) (h : q = 2 ∨ q = 4 ∨ q = 5 ∨ q = 6 ∨ (q = 0 ∧ i ≠ 4)) : p_eat L g k q i = L q i := by
  have h1 : ∀ (L : mm_I) (d : Int32), p_eat1 L k d q i = L q i := by
    intro L d
    unfold p_eat1
    by_cases h0 : q = 0
    · subst h0
      have : i ≠ 4 := by omega
      rw [mu_j this, mu_n (by decide)]
    · rw [mu_n h0, mu_n (by omega)]
  have h2 : ∀ (L : mm_I) (d : Int32), p_eat2 L k d q i = L q i := fun L d => by unfold p_eat2; rw [mu_n (by omega)]
  have h3 : ∀ (L : mm_I) (d : Int32), p_eat3 L k d q i = L q i := fun L d => by
    unfold p_eat3; split
    · rfl
    · rw [mu_n (by omega)]
  have h4 : ∀ (L : mm_I) (d w : Int32), p_eat4 L k d w q i = L q i := fun L d w => by
    unfold p_eat4; split
    · rfl
    · split
      · rfl
      · rw [mu_n (by omega)]
  unfold p_eat
  rw [h4, h3, h2, h1]
def p_vis1 (L : mm_I) (g p : Nat) : mm_I := if 3 ≤ L 3 p then L else p_eat L g p
def p_hadq (L : mm_I) (g p : Nat) : Bool := decide (¬ 3 ≤ L 3 p ∧ p_had L g p = p_ap L g)
def p_vis (L : mm_I) (n ng g p : Nat) : mm_I := if p_hadq L g p = true ∧ (p_vis1 L g p 4 g = 1 ∨ p_vis1 L g p 4 g = 3) then p_vis1 L g p else mm_uI (p_vis1 L g p) 6 g (nI (p_nxt (p_vis1 L g p) n ng g p))
theorem p_vis1_keep (L : mm_I) (g k q i : Nat) (h : q = 2 ∨ q = 4 ∨ q = 5 ∨ q = 6 ∨ (q = 0 ∧ i ≠ 4)) : p_vis1 L g k q i = L q i := by
  unfold p_vis1
  split
  · rfl
  · exact p_eat_keep L g k q i h
theorem p_vis_keep (L : mm_I) (n ng g p q i : Nat) (h : q = 2 ∨ q = 4 ∨ q = 5 ∨ (q = 6 ∧ i ≠ g) ∨ (q = 0 ∧ i ≠ 4)) : p_vis L n ng g p q i = L q i := by
  unfold p_vis
  split
  · exact p_vis1_keep L g p q i (by omega)
  · by_cases h6 : q = 6
    · subst h6
      rw [mu_j (by omega)]
      exact p_vis1_keep L g p 6 i (by omega)
    · rw [mu_n h6]
      exact p_vis1_keep L g p q i (by omega)
theorem p_vis_G {L : mm_I} {n ng g p : Nat} (h : ln_G L n ng) (hp : p < n) (hpl : L 6 g = nI p) : ln_G (p_vis L n ng g p) n ng := by
  refine ⟨⟨h.1.1, by rw [p_vis_keep _ _ _ _ _ _ _ (by omega)]; exact h.1.2⟩, ⟨h.2.1.1, by rw [p_vis_keep _ _ _ _ _ _ _ (by omega)]; exact h.2.1.2⟩, fun k hk => ?_⟩
  by_cases hkg : k = g
  · subst hkg
    unfold p_vis
    split
    · exact ⟨p, hp, by rw [p_vis1_keep _ _ _ _ _ (by omega)]; exact hpl⟩
    · exact ⟨_, p_nxt_lt _ hp, mu_s⟩
  · rw [p_vis_keep _ _ _ _ _ _ _ (by omega)]
    exact h.2.2 k hk
def p_clamp (x : Int32) : Int32 := if 9999 ≤ x then 9999 else x
def p_int (L : mm_I) : Nat → mm_I
  | 0 => L
  | k + 1 => if 3 ≤ p_int L k 3 k then p_int L k else mm_uI (p_int L k) 1 k (p_clamp (p_int L k 1 k + p_int L k 1 k * p_int L k 0 2 / 100))
theorem p_int_keep (L : mm_I) : ∀ k q, q ≠ 1 → p_int L k q = L q := by
  intro k
  induction k with
  | zero => intro q _; rfl
  | succ k ih =>
    intro q hq
    unfold p_int
    split
    · exact ih q hq
    · rw [mu_n hq]; exact ih q hq
def p_fill (L : mm_I) (w : Bool) : Nat → mm_I
  | 0 => L
  | k + 1 => mm_uI (p_fill L w k) 7 k (if w = true ∨ 3 ≤ p_fill L w k 3 k then 0 else p_fill L w k 2 k)
theorem p_fill_keep (L : mm_I) (w : Bool) : ∀ k q, q ≠ 7 → p_fill L w k q = L q := by
  intro k
  induction k with
  | zero => intro q _; rfl
  | succ k ih => intro q hq; unfold p_fill; rw [mu_n hq]; exact ih q hq
def p_hogs (L : mm_I) (n ng : Nat) (s : Int32) : Nat → mm_I
  | 0 => L
  | g + 1 => if (s >>> (nI g &&& 31)) &&& 1 = 0 then p_vis (p_hogs L n ng s g) n ng g (p_hogs L n ng s g 6 g).toNatClampNeg else p_hogs L n ng s g
theorem p_hogs_G {L : mm_I} {n ng : Nat} (s : Int32) (h : ln_G L n ng) : ∀ g, g ≤ ng → ln_G (p_hogs L n ng s g) n ng := by
  intro g
  induction g with
  | zero => intro _; exact h
  | succ g ih =>
    intro hg
    have hG := ih (by omega)
    unfold p_hogs
    split
    · obtain ⟨p, hp, hpl⟩ := hG.2.2 g (by omega)
      have hp6 := hG.1.1
      rw [hpl, cl_nI (by omega)]
      exact p_vis_G hG hp hpl
    · exact hG
def p_win (L : mm_I) : Bool := decide (15 ≤ L 0 3 - L 0 3 / 20 * 20)
def p_nt (L : mm_I) : mm_I := mm_uI L 0 3 (L 0 3 + 1)
def p_night (L : mm_I) (n ng : Nat) (s : Int32) : mm_I := p_nt (if p_win L = true then p_fill L true n else p_int (p_hogs (p_fill L false n) n ng s ng) n)
theorem ln_G_keep {L M : mm_I} {n ng : Nat} (h : ln_G L n ng) (h0 : M 0 0 = L 0 0) (h1 : M 0 1 = L 0 1) (h6 : M 6 = L 6) : ln_G M n ng := ⟨⟨h.1.1, h0.trans h.1.2⟩, ⟨h.2.1.1, h1.trans h.2.1.2⟩, fun g hg => by rw [h6]; exact h.2.2 g hg⟩
theorem p_night_G {L : mm_I} {n ng : Nat} (s : Int32) (h : ln_G L n ng) : ln_G (p_night L n ng s) n ng := by
  have hk : ∀ M : mm_I, ln_G M n ng → ln_G (p_nt M) n ng := fun M hM => ln_G_keep hM (by unfold p_nt; rw [mu_j (by decide)]) (by unfold p_nt; rw [mu_j (by decide)]) (by unfold p_nt; rw [mu_n (by decide)])
  have hf : ∀ w, ln_G (p_fill L w n) n ng := fun w => ln_G_keep h (by rw [p_fill_keep _ _ _ _ (by decide)]) (by rw [p_fill_keep _ _ _ _ (by decide)]) (p_fill_keep _ _ _ _ (by decide))
  unfold p_night
  apply hk
  split
  · exact hf true
  · have h2 := p_hogs_G s (hf false) ng (Nat.le_refl _)
    exact ln_G_keep h2 (by rw [p_int_keep _ _ _ (by decide)]) (by rw [p_int_keep _ _ _ (by decide)]) (p_int_keep _ _ _ (by decide))
section
variable {r : mm_R} {a : Nat} {I : mm_I} {Q : Option Value → mm_I → mm_R → Prop}
theorem t_visit (h : ln_S r a) {n ng g p : Nat} (hG : ln_G (vc I a) n ng) (hg : g < ng) (hp : p < n) (hpl : vc I a 6 g = nI p) (hq : ∀ J, vc J a = p_vis (vc I a) n ng g p → ln_F a I J → Q none J r) : mm_E 17 0 [some (.ref a), some (.int (nI g)), none, none, none] [] I r Q := by
  obtain ⟨⟨hn, h0⟩, ⟨hng, h1⟩, -⟩ := id hG
  have hg5 : g < 5 := by omega
  have hp6 : p < 6 := by omega
  have hin : decide (0 ≤ nI p ∧ nI p < nI n) = true := decide_eq_true ⟨nI_pos' (by omega), nI_lt hp (by omega)⟩
  have key : ∀ (J : mm_I) (had : Bool), vc J a = p_vis1 (vc I a) g p → had = p_hadq (vc I a) g p → ln_F a I J → mm_E 17 38 [some (.ref a), some (.int (nI g)), some (.int (nI p)), none, none] [.int (bI had)] J r Q := by
    intro J had hJ hh hF
    have k4 : vc J a 4 g = vc I a 4 g := by rw [hJ]; exact p_vis1_keep _ _ _ _ _ (by omega)
    have hJ0 : vc J a 0 0 = nI n := by rw [hJ, p_vis1_keep _ _ _ _ _ (by omega)]; exact h0
    have hJ1 : vc J a 0 1 = nI ng := by rw [hJ, p_vis1_keep _ _ _ _ _ (by omega)]; exact h1
    simp only [e17_38, e17_39, e17_40, e17_43, e17_44, e17_47, e17_48, e17_49, e17_50, e17_53, e17_54, e17_57, e17_58, e17_59, e17_60, e17_63, e17_64, e17_67, mm_pu_n, mm_pu_s, va_rf_s, mm_w8_0, mm_w8_1, mm_w8_2, mm_w8_3, mm_w8_4, mm_c1_n, mm_c1_i, mm_c1_a, mm_ct_a, mm_ct_i, true_and, and_true, and_self, eq_self, if_true, if_false, ite_true, ite_false, bI_t, bI_z, bI_nz, bI_01, true_or, or_true, reduceCtorEq, false_or, or_false, decide_eq_false_iff_not, decide_eq_true_eq, ite_not, h.s0, h.p6, h.p7, h.p8, h.p9, h.p10, h.p11, h.p12, h.p13, h.i1, h.i2, h.i3, h.i4, h.i5, h.i6, h.i7, h.i8, in5 hg5, cl_nI (show g < 6 by omega), rd_k (a := a) (k := 4) ⟨by decide, hg5⟩, it_i]
    have hb : (if had = true then (if vc J a 4 g = 1 then (1 : Int32) else if vc J a 4 g = 3 then 1 else 0) else 0) = bI (decide (had = true ∧ (vc J a 4 g = 1 ∨ vc J a 4 g = 3))) := by
      cases had
      · simp [bI]
      · by_cases c1 : vc J a 4 g = 1
        · simp [c1, bI]
        · by_cases c2 : vc J a 4 g = 3
          · simp [c2, bI]
          · simp [c1, c2, bI]
    have hb2 : (if had = false then (0 : Int32) else (if vc J a 4 g = 1 then (1 : Int32) else if vc J a 4 g = 3 then 1 else 0)) = bI (decide (had = true ∧ (vc J a 4 g = 1 ∨ vc J a 4 g = 3))) := by
      rw [← hb]; cases had <;> simp
    first | rw [hb2] | rw [hb]
    simp only [e17_68, e17_70, e17_72, e17_75, e17_76, e17_79, e17_80, e17_81, e17_82, e17_83, e17_86, e17_87, mm_pu_n, mm_pu_s, va_rf_s, mm_w8_0, mm_w8_1, mm_w8_2, mm_w8_3, mm_w8_4, mm_c1_n, mm_c1_i, mm_c1_a, mm_ct_a, mm_ct_i, true_and, and_true, and_self, eq_self, if_true, if_false, ite_true, ite_false, bI_t, bI_z, bI_nz, bI_01, true_or, or_true, reduceCtorEq, false_or, or_false, decide_eq_false_iff_not, decide_eq_true_eq, ite_not, h.s0, h.p6, h.p7, h.p8, h.p9, h.p10, h.p11, h.p12, h.p13, h.i1, h.i2, h.i3, h.i4, h.i5, h.i6, h.i7, h.i8, in5 hg5, cl_nI (show g < 6 by omega), t_nextHouse h hn hJ0 hng hJ1 hg5 hp]
    have hv : p_vis (vc I a) n ng g p = if had = true ∧ (vc J a 4 g = 1 ∨ vc J a 4 g = 3) then vc J a else mm_uI (vc J a) 6 g (nI (p_nxt (vc J a) n ng g p)) := by rw [hJ, hh]; rfl
    by_cases c : had = true ∧ (vc J a 4 g = 1 ∨ vc J a 4 g = 3)
    · rw [if_pos c]
      rw [if_pos c] at hv
      exact hq J hv.symm hF
    · rw [if_neg c]
      rw [if_neg c] at hv
      refine hq _ ?_ (hF.u (by decide))
      rw [hv, vc_u ⟨by decide, hg5⟩]
  simp only [e17_0, e17_1, e17_4, e17_5, e17_6, e17_7, e17_8, e17_9, e17_12, e17_15, e17_16, e17_17, e17_18, e17_21, mm_pu_n, mm_pu_s, va_rf_s, mm_w8_0, mm_w8_1, mm_w8_2, mm_w8_3, mm_w8_4, mm_c1_n, mm_c1_i, mm_c1_a, mm_ct_a, mm_ct_i, true_and, and_true, and_self, eq_self, if_true, if_false, ite_true, ite_false, bI_t, bI_z, bI_nz, bI_01, true_or, or_true, reduceCtorEq, false_or, or_false, decide_eq_false_iff_not, decide_eq_true_eq, ite_not, h.s0, h.p6, h.p7, h.p8, h.p9, h.p10, h.p11, h.p12, h.p13, h.i1, h.i2, h.i3, h.i4, h.i5, h.i6, h.i7, h.i8, in5 hg5, cl_nI (show g < 6 by omega), rd_k (a := a) (k := 6) ⟨by decide, hg5⟩, hpl, h0, t_hasHouse h, hin, t_isLost h hp6, Bool.true_eq_false]
  by_cases c : 3 ≤ vc I a 3 p
  · rw [if_pos c]
    simp only [e17_37]
    rw [show (Value.int 0) = .int (bI false) from rfl]
    exact key I false (by unfold p_vis1; rw [if_pos c]) (by unfold p_hadq; simp [c]) ln_F.rf
  · rw [if_neg c]
    simp only [e17_24, e17_25, e17_26, e17_27, mm_pu_n, mm_pu_s, va_rf_s, mm_w8_0, mm_w8_1, mm_w8_2, mm_w8_3, mm_w8_4, mm_c1_n, mm_c1_i, mm_c1_a, mm_ct_a, mm_ct_i, true_and, and_true, and_self, eq_self, if_true, if_false, ite_true, ite_false, bI_t, bI_z, bI_nz, bI_01, true_or, or_true, reduceCtorEq, false_or, or_false, decide_eq_false_iff_not, decide_eq_true_eq, ite_not, h.s0]
    refine t_eat h hg5 hp6 (fun J hJ hF => ?_)
    simp only [mm_pu_s, e17_30, e17_33, e17_34, e17_37, bI_z, decide_eq_false_iff_not, ite_not]
    have h2 := key J (p_hadq (vc I a) g p) (by unfold p_vis1; rw [if_neg c]; exact hJ) rfl hF
    by_cases c2 : p_had (vc I a) g p = p_ap (vc I a) g
    · rw [if_pos c2]
      rw [show p_hadq (vc I a) g p = true by unfold p_hadq; simp [c, c2]] at h2
      exact h2
    · rw [if_neg c2]
      rw [show p_hadq (vc I a) g p = false by unfold p_hadq; simp [c2]] at h2
      exact h2
end
