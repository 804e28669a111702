/-- the day's ranges of a lane -/
def ln_R (L : mm_I) (n ng : Nat) : Prop := (∀ h, h < n → ∃ lk ow sc, lk ≤ 3 ∧ ow ≤ 9999 ∧ sc ≤ 20 ∧ L 3 h = nI lk ∧ L 1 h = nI ow ∧ L 2 h = nI sc) ∧ (∀ g, g < ng → ∃ q kd, q ≤ 9 ∧ kd ≤ 4 ∧ L 5 g = nI q ∧ L 4 g = nI kd) ∧ ∃ v, v ≤ 20 ∧ L 0 2 = nI v
/-- the evening's: what is left is known, too, and a lost house has nothing left -/
def ln_E (L : mm_I) (n ng : Nat) : Prop := (∀ h, h < n → ∃ lk ow lf, lk ≤ 3 ∧ ow ≤ 9999 ∧ lf ≤ 20 ∧ L 3 h = nI lk ∧ L 1 h = nI ow ∧ L 7 h = nI lf ∧ (lk = 3 → lf = 0)) ∧ ∀ g, g < ng → ∃ q kd, q ≤ 9 ∧ kd ≤ 4 ∧ L 5 g = nI q ∧ L 4 g = nI kd
theorem lk_3 {k : Nat} (h : k ≤ 3) : ((3 : Int32) ≤ nI k) = (k = 3) := by
  rw [show (3 : Int32) = nI 3 from by decide]
  exact propext ⟨fun q => by have := (nI_leI (by omega) (by omega)).mp q; omega, fun q => by subst q; exact Int32.le_refl _⟩
theorem lk_e {k : Nat} (h : k ≤ 3) : (nI k = (3 : Int32)) = (k = 3) := by
  rw [show (3 : Int32) = nI 3 from by decide]
  exact propext (nI_eq (by omega) (by omega))
theorem lk_x {L : mm_I} {h : Nat} (hl : ∃ lk, lk ≤ 3 ∧ L 3 h = nI lk) : (L 3 h = 3) = (3 ≤ L 3 h) := by
  obtain ⟨k, hk, e⟩ := hl
  rw [e, lk_3 hk, lk_e hk]
theorem ln_R.lk {L : mm_I} {n ng h : Nat} (H : ln_R L n ng) (hh : h < n) : (L 3 h = 3) = (3 ≤ L 3 h) := by
  obtain ⟨lk, ow, sc, a, b, c, d, e, f⟩ := H.1 h hh
  exact lk_x ⟨lk, a, d⟩
theorem ln_E.lk {L : mm_I} {n ng h : Nat} (H : ln_E L n ng) (hh : h < n) : (L 3 h = 3) = (3 ≤ L 3 h) := by
  obtain ⟨lk, ow, lf, a, b, c, d, e, f, g⟩ := H.1 h hh
  exact lk_x ⟨lk, a, d⟩
theorem p_ap_r {L : mm_I} {g q kd : Nat} (hq : q ≤ 9) (hk : kd ≤ 4) (h5 : L 5 g = nI q) (h4 : L 4 g = nI kd) : ∃ w, w ≤ 18 ∧ p_ap L g = nI w := by
  unfold p_ap
  rw [h5, h4]
  split
  · exact ⟨2 * q, by omega, by rw [show (2 : Int32) = nI 2 from by decide, pk_mul]⟩
  · split
    · exact ⟨q / 2, by omega, by rw [show (2 : Int32) = nI 2 from by decide, pk_div (by omega) (by decide) (by decide)]⟩
    · exact ⟨q, by omega, rfl⟩
theorem mu_self {L : mm_I} {k i : Nat} : mm_uI L k i (L k i) = L := by
  funext q j
  unfold mm_uI upd
  by_cases h : q = k
  · subst h
    by_cases hj : j = i
    · subst hj; simp
    · simp [hj]
  · simp [h]
/-- a meal, in numbers -/
theorem p_eat_E {L : mm_I} {n ng g p : Nat} (h : ln_E L n ng) (hg : g < ng) (hp : p < n) (hl : ¬ 3 ≤ L 3 p) : ln_E (p_eat L g p) n ng ∧ (p_had L g p = p_ap L g → ¬ 3 ≤ p_eat L g p 3 p) := by
  obtain ⟨q, kd, hq, hkd, h5, h4⟩ := h.2 g hg
  obtain ⟨w, hw, ew⟩ := p_ap_r hq hkd h5 h4
  obtain ⟨lk, ow, lf, a1, a2, a3, e3, e1, e7, a4⟩ := h.1 p hp
  rw [e3, lk_3 a1] at hl
  obtain ⟨d, hd, ed, hdl⟩ : ∃ d, (d = if lf ≤ w then lf else w) ∧ p_had L g p = nI d ∧ d ≤ lf := by
    unfold p_had
    rw [e7, ew]
    by_cases c : lf ≤ w
    · exact ⟨lf, by rw [if_pos c], by rw [if_pos (nI_le c (by omega))], Nat.le_refl _⟩
    · exact ⟨w, by rw [if_neg c], by rw [if_neg (nI_ge (by omega) (by omega))], by omega⟩
  have hdw : d ≤ w := by rw [hd]; split <;> omega
  -- the state at p behind the meal
  have k7 : p_eat L g p 7 p = nI (lf - d) := by
    have b1 : ∀ (L : mm_I) (d w : Int32), p_eat4 L p d w 7 p = L 7 p := fun L d w => by
      unfold p_eat4; split
      · rfl
      · split
        · rfl
        · rw [mu_n (by decide)]
    have b2 : ∀ (L : mm_I) (d : Int32), p_eat3 L p d 7 p = L 7 p := fun L d => by
      unfold p_eat3; split
      · rfl
      · rw [mu_n (by decide)]
    unfold p_eat
    rw [b1, b2, ed]
    unfold p_eat2 p_eat1
    rw [mu_n (by decide), mu_n (by decide), mu_s, e7, pk_sub hdl]
  have k1 : p_eat L g p 1 p = nI (ow - d) := by
    have b1 : ∀ (L : mm_I) (d w : Int32), p_eat4 L p d w 1 p = L 1 p := fun L d w => by
      unfold p_eat4; split
      · rfl
      · split
        · rfl
        · rw [mu_n (by decide)]
    have b2 : ∀ (L : mm_I) (d : Int32), p_eat3 L p d 1 p = L 1 p := fun L d => by
      unfold p_eat3; split
      · rfl
      · rw [mu_n (by decide)]
    unfold p_eat
    rw [b1, b2, ed]
    unfold p_eat2 p_eat1
    rw [mu_s, mu_n (by decide), mu_n (by decide), e1]
    by_cases c : ow ≤ d
    · rw [if_pos (nI_le c (by omega)), show ow - d = 0 by omega]; rfl
    · rw [if_neg (nI_ge (by omega) (by omega)), pk_sub (by omega)]
  have k3 : p_eat L g p 3 p = nI (if w ≤ d then lk else if ow - d = 0 then lk else lk + 1) := by
    have b0 : p_eat3 (p_eat2 (p_eat1 L p (p_had L g p)) p (p_had L g p)) p (p_had L g p) 3 p = nI lk := by
      unfold p_eat3
      split
      · unfold p_eat2 p_eat1
        rw [mu_n (by decide), mu_n (by decide), mu_n (by decide), e3]
      · unfold p_eat2 p_eat1
        rw [mu_n (by decide), mu_n (by decide), mu_n (by decide), mu_n (by decide), e3]
    have b1 : p_eat3 (p_eat2 (p_eat1 L p (p_had L g p)) p (p_had L g p)) p (p_had L g p) 1 p = nI (ow - d) := by
      have c1 : ∀ (L : mm_I) (d w : Int32), p_eat4 L p d w 1 p = L 1 p := fun L d w => by
        unfold p_eat4; split
        · rfl
        · split
          · rfl
          · rw [mu_n (by decide)]
      rw [← k1]; unfold p_eat; rw [c1]
    unfold p_eat
    generalize p_eat3 (p_eat2 (p_eat1 L p (p_had L g p)) p (p_had L g p)) p (p_had L g p) = M at b0 b1
    unfold p_eat4
    rw [ew, ed]
    by_cases c : w ≤ d
    · rw [if_pos (nI_le c (by omega)), if_pos c]; exact b0
    · rw [if_neg (nI_ge (by omega) (by omega)), if_neg c, b1]
      by_cases c2 : ow - d = 0
      · rw [if_pos c2, c2, if_pos (by decide)]; exact b0
      · rw [if_neg c2, if_neg (nI_nle (by omega) (by omega)), mu_s, b0, nI_1]
  have ko : ∀ q i, i ≠ p → (q = 1 ∨ q = 3 ∨ q = 7) → p_eat L g p q i = L q i := by
    intro q i hi hq
    have b1 : ∀ (L : mm_I) (d : Int32), p_eat1 L p d q i = L q i := fun L d => by
      unfold p_eat1
      rw [mu_n (by omega)]
      by_cases h7 : q = 7
      · subst h7; rw [mu_j hi]
      · rw [mu_n h7]
    have b2 : ∀ (L : mm_I) (d : Int32), p_eat2 L p d q i = L q i := fun L d => by
      unfold p_eat2
      by_cases h7 : q = 1
      · subst h7; rw [mu_j hi]
      · rw [mu_n h7]
    have b3 : ∀ (L : mm_I) (d : Int32), p_eat3 L p d q i = L q i := fun L d => by
      unfold p_eat3; split
      · rfl
      · rw [mu_n (by omega)]
    have b4 : ∀ (L : mm_I) (d w : Int32), p_eat4 L p d w q i = L q i := fun L d w => by
      unfold p_eat4; split
      · rfl
      · split
        · rfl
        · by_cases h7 : q = 3
          · subst h7; rw [mu_j hi]
          · rw [mu_n h7]
    unfold p_eat
    rw [b4, b3, b2, b1]
  refine ⟨⟨fun h2 hh => ?_, fun g2 hg2 => ?_⟩, fun he => ?_⟩
  · by_cases hp2 : h2 = p
    · subst hp2
      refine ⟨_, ow - d, lf - d, ?_, by omega, by omega, k3, k1, k7, fun h3 => ?_⟩
      · split
        · omega
        · split <;> omega
      · by_cases c : w ≤ d
        · rw [if_pos c] at h3; omega
        · have : d = lf := by rw [hd] at c ⊢; split at c <;> simp_all
          omega
    · obtain ⟨lk2, ow2, lf2, z1, z2, z3, z4, z5, z6, z7⟩ := h.1 h2 hh
      exact ⟨lk2, ow2, lf2, z1, z2, z3, by rw [ko 3 h2 hp2 (by omega)]; exact z4, by rw [ko 1 h2 hp2 (by omega)]; exact z5, by rw [ko 7 h2 hp2 (by omega)]; exact z6, z7⟩
  · obtain ⟨q2, kd2, z1, z2, z3, z4⟩ := h.2 g2 hg2
    exact ⟨q2, kd2, z1, z2, by rw [p_eat_keep _ _ _ _ _ (by omega)]; exact z3, by rw [p_eat_keep _ _ _ _ _ (by omega)]; exact z4⟩
  · rw [ed, ew, nI_eq (by omega) (by omega)] at he
    rw [k3, if_pos (by omega), lk_3 a1]
    exact hl
theorem ln_E_keep {L M : mm_I} {n ng : Nat} (h : ln_E L n ng) (h1 : M 1 = L 1) (h3 : M 3 = L 3) (h7 : M 7 = L 7) (h4 : M 4 = L 4) (h5 : M 5 = L 5) : ln_E M n ng := ⟨fun q hq => by rw [h1, h3, h7]; exact h.1 q hq, fun g hg => by rw [h4, h5]; exact h.2 g hg⟩
theorem p_vis_E {L : mm_I} {n ng g p : Nat} (h : ln_E L n ng) (hg : g < ng) (hp : p < n) : ln_E (p_vis L n ng g p) n ng := by
  have h1 : ln_E (p_vis1 L g p) n ng := by
    unfold p_vis1
    split
    · exact h
    · rename_i hl; exact (p_eat_E h hg hp hl).1
  unfold p_vis
  split
  · exact h1
  · exact ln_E_keep h1 (mu_n (by decide)) (mu_n (by decide)) (mu_n (by decide)) (mu_n (by decide)) (mu_n (by decide))
theorem p_hogs_E {L : mm_I} {n ng : Nat} (s : Int32) (h : ln_E L n ng) (hG : ln_G L n ng) : ∀ g, g ≤ ng → ln_E (p_hogs L n ng s g) n ng := by
  intro g
  induction g with
  | zero => intro _; exact h
  | succ g ih =>
    intro hg
    have hE := ih (by omega)
    have hG2 := p_hogs_G s hG g (by omega)
    unfold p_hogs
    split
    · obtain ⟨p, hp, hpl⟩ := hG2.2.2 g (by omega)
      have := hG2.1.1
      rw [hpl, cl_nI (by omega)]
      exact p_vis_E hE (by omega) hp
    · exact hE
theorem p_fill_v (L : mm_I) (w : Bool) : ∀ k i, i < k → p_fill L w k 7 i = if w = true ∨ 3 ≤ L 3 i then 0 else L 2 i := by
  intro k
  induction k with
  | zero => intro i hi; omega
  | succ k ih =>
    intro i hi
    unfold p_fill
    by_cases h : i = k
    · subst h
      rw [mu_s, p_fill_keep _ _ _ _ (by decide), p_fill_keep _ _ _ _ (by decide)]
    · rw [mu_j h]
      exact ih i (by omega)
theorem p_fill_E {L : mm_I} {n ng : Nat} (w : Bool) (h : ln_R L n ng) : ln_E (p_fill L w n) n ng := by
  refine ⟨fun q hq => ?_, fun g hg => ?_⟩
  · obtain ⟨lk, ow, sc, a, b, c, d, e, f⟩ := h.1 q hq
    refine ⟨lk, ow, if w = true ∨ lk = 3 then 0 else sc, a, b, by split <;> omega, by rw [p_fill_keep _ _ _ _ (by decide)]; exact d, by rw [p_fill_keep _ _ _ _ (by decide)]; exact e, ?_, fun h3 => by rw [if_pos (Or.inr h3)]⟩
    rw [p_fill_v _ _ _ _ hq, d, f]
    simp only [lk_3 a]
    split <;> rfl
  · obtain ⟨q2, kd2, z1, z2, z3, z4⟩ := h.2.1 g hg
    exact ⟨q2, kd2, z1, z2, by rw [p_fill_keep _ _ _ _ (by decide)]; exact z3, by rw [p_fill_keep _ _ _ _ (by decide)]; exact z4⟩
theorem p_hogs_keep (L : mm_I) (n ng : Nat) (s : Int32) (q i : Nat) (h : q = 2 ∨ q = 4 ∨ q = 5 ∨ (q = 0 ∧ i ≠ 4)) : ∀ g, p_hogs L n ng s g q i = L q i := by
  intro g
  induction g with
  | zero => rfl
  | succ g ih =>
    unfold p_hogs
    split
    · rw [p_vis_keep _ _ _ _ _ _ _ (by omega)]; exact ih
    · exact ih
theorem cl_int {ow v : Nat} (ho : ow ≤ 9999) (hv : v ≤ 20) : ∃ o, o ≤ 9999 ∧ p_clamp (nI ow + nI ow * nI v / 100) = nI o := by
  have hm : ow * v ≤ 9999 * 20 := Nat.mul_le_mul ho hv
  have hd : ow * v / 100 ≤ ow * v := Nat.div_le_self _ _
  rw [show (100 : Int32) = nI 100 from by decide, pk_mul, pk_div (by omega) (by decide) (by decide), nI_add]
  unfold p_clamp
  rw [show (9999 : Int32) = nI 9999 from by decide]
  split
  · exact ⟨9999, Nat.le_refl _, rfl⟩
  · rename_i hc
    refine ⟨_, ?_, rfl⟩
    rw [nI_leI (by omega) (by omega)] at hc
    omega
theorem p_int_r {L : mm_I} {n v : Nat} (hv : v ≤ 20 ∧ L 0 2 = nI v) (h : ∀ q, q < n → ∃ ow, ow ≤ 9999 ∧ L 1 q = nI ow) : ∀ k, ∀ q, q < n → ∃ ow, ow ≤ 9999 ∧ p_int L k 1 q = nI ow := by
  intro k
  induction k with
  | zero => exact h
  | succ k ih =>
    intro q hq
    unfold p_int
    split
    · exact ih q hq
    · by_cases c : q = k
      · subst c
        obtain ⟨ow, h1, h2⟩ := ih q hq
        rw [mu_s, h2, p_int_keep _ _ _ (by decide), hv.2]
        exact cl_int h1 hv.1
      · rw [mu_j c]
        exact ih q hq
theorem p_night_R {L : mm_I} {n ng : Nat} (s : Int32) (h : ln_R L n ng) (hG : ln_G L n ng) : ln_R (p_night L n ng s) n ng := by
  obtain ⟨v, hv, ev⟩ := h.2.2
  have nt : ∀ (M : mm_I) (q i : Nat), (q ≠ 0 ∨ i ≠ 3) → p_nt M q i = M q i := fun M q i hq => by
    unfold p_nt
    by_cases c : q = 0
    · subst c; rw [mu_j (by omega)]
    · rw [mu_n c]
  unfold p_night
  split
  · refine ⟨fun q hq => ?_, fun g hg => ?_, ⟨v, hv, by rw [nt _ _ _ (by omega), p_fill_keep _ _ _ _ (by decide)]; exact ev⟩⟩
    · rw [nt _ _ _ (by omega), nt _ _ _ (by omega), nt _ _ _ (by omega), p_fill_keep _ _ _ _ (by decide), p_fill_keep _ _ _ _ (by decide), p_fill_keep _ _ _ _ (by decide)]
      exact h.1 q hq
    · rw [nt _ _ _ (by omega), nt _ _ _ (by omega), p_fill_keep _ _ _ _ (by decide), p_fill_keep _ _ _ _ (by decide)]
      exact h.2.1 g hg
  · have hE := p_hogs_E s (p_fill_E false h) (ln_G_keep hG (by rw [p_fill_keep _ _ _ _ (by decide)]) (by rw [p_fill_keep _ _ _ _ (by decide)]) (p_fill_keep _ _ _ _ (by decide))) ng (Nat.le_refl _)
    have e2 : ∀ i, p_hogs (p_fill L false n) n ng s ng 2 i = L 2 i := fun i => by rw [p_hogs_keep _ _ _ _ _ _ (by omega), p_fill_keep _ _ _ _ (by decide)]
    have e02 : p_hogs (p_fill L false n) n ng s ng 0 2 = nI v := by rw [p_hogs_keep _ _ _ _ _ _ (by omega), p_fill_keep _ _ _ _ (by decide)]; exact ev
    refine ⟨fun q hq => ?_, fun g hg => ?_, ⟨v, hv, by rw [nt _ _ _ (by omega), p_int_keep _ _ _ (by decide)]; exact e02⟩⟩
    · obtain ⟨lk, ow, lf, a1, a2, a3, a4, a5, a6, a7⟩ := hE.1 q hq
      obtain ⟨lk0, ow0, sc, b1, b2, b3, b4, b5, b6⟩ := h.1 q hq
      obtain ⟨o, c1, c2⟩ := p_int_r (n := n) ⟨hv, e02⟩ (fun q2 hq2 => by
        obtain ⟨_, ow2, _, _, z2, _, _, z5, _⟩ := hE.1 q2 hq2
        exact ⟨ow2, z2, z5⟩) n q hq
      refine ⟨lk, o, sc, a1, c1, b3, ?_, ?_, ?_⟩
      · rw [nt _ _ _ (by omega), p_int_keep _ _ _ (by decide)]; exact a4
      · rw [nt _ _ _ (by omega)]; exact c2
      · rw [nt _ _ _ (by omega), p_int_keep _ _ _ (by decide), e2]; exact b6
    · rw [nt _ _ _ (by omega), nt _ _ _ (by omega), p_int_keep _ _ _ (by decide), p_int_keep _ _ _ (by decide), p_hogs_keep _ _ _ _ _ _ (by omega), p_hogs_keep _ _ _ _ _ _ (by omega), p_fill_keep _ _ _ _ (by decide), p_fill_keep _ _ _ _ (by decide)]
      exact h.2.1 g hg
