/-- longs written to a row: n of them from i on -/
def wr (r r1 : mm_R) (a i n : Nat) (W : Nat → Int64) : Prop := r1.2 = r.2 ∧ (∀ q, q ≠ a → mm_G r1 q = mm_G r q) ∧ ∀ t, mm_G r1 a t = if i ≤ t ∧ t < i + n then W (t - i) else mm_G r a t
theorem wr_0 {r : mm_R} {a i : Nat} {W : Nat → Int64} : wr r r a i 0 W := ⟨rfl, fun _ _ => rfl, fun t => by rw [if_neg (by omega)]⟩
theorem wr_S {r r1 : mm_R} {a i n : Nat} {W : Nat → Int64} (h : wr r r1 a i n W) {v : Int64} (hv : v = W n) : wr r (mm_uG r1 a (i + n) v) a i (n + 1) W := by
  obtain ⟨h1, h2, h3⟩ := h
  refine ⟨h1, fun q hq => ?_, fun t => ?_⟩
  · show (if q = a then vp_updL (r1.1 a) (i + n) v else r1.1 q) = _
    rw [if_neg hq]
    exact h2 q hq
  · show (if a = a then vp_updL (r1.1 a) (i + n) v else r1.1 a) t = _
    rw [if_pos rfl]
    unfold vp_updL
    by_cases c : t = i + n
    · subst c
      rw [if_pos rfl, if_pos (by omega), hv]
      congr 1
      omega
    · rw [if_neg c]
      have := h3 t
      unfold mm_G at this
      rw [this]
      by_cases c2 : i ≤ t ∧ t < i + n
      · rw [if_pos c2, if_pos (by omega)]
      · rw [if_neg c2, if_neg (by omega)]; rfl
theorem G4_W {I J : mm_I} {r r1 r2 : mm_R} {x m k i n : Nat} {W : Nat → Int64} (hm : m = x + 199) (h : G4 I r x m) (hk : k < 4) (h1 : wr r r1 (x + 109 + 2 * k) i n W) (h2 : wr r1 r2 (m + 3) (24 * k + i) n W) (hn : i + n ≤ 24) : ∀ j, j < 4 → ∀ t, t < 24 → mm_G r2 (x + 109 + 2 * j) t = mm_G r2 (m + 3) (24 * j + t) := by
  intro j hj t ht
  have e := (h j hj).2.2.2 t ht
  rw [h2.2.1 _ (by omega), h2.2.2]
  by_cases c : j = k
  · subst c
    rw [h1.2.2]
    by_cases c2 : i ≤ t ∧ t < i + n
    · rw [if_pos c2, if_pos (by omega)]
      congr 1
      omega
    · rw [if_neg c2, if_neg (by omega), h1.2.1 _ (by omega)]
      exact e
  · rw [h1.2.1 _ (by omega), if_neg (by omega), h1.2.1 _ (by omega)]
    exact e
/-- the cells that the sheets' calls may change -/
def scs (x m q : Nat) : Prop := scr x m q ∨ (x + 107 ≤ q ∧ q < x + 116) ∨ q = m + 1 ∨ q = m + 2
theorem ALL_w {I J : mm_I} {r r2 : mm_R} {x m : Nat} (h : ALL I r x m) (hr : r2.2 = r.2) (hj : ∀ q, ¬ scs x m q → J q = I q) (h4 : G4 J r2 x m) : ALL J r2 x m := by
  obtain ⟨g, s⟩ := r
  obtain ⟨g2, s2⟩ := r2
  dsimp only at hr
  subst hr
  obtain ⟨hS, ⟨sg, L, bn, B, n, ng, Lr, Br, h1⟩, h2, h3, -⟩ := h
  have hS2 : HS (g2, s2) x m := hS
  have hm := hS.1
  unfold scs scr at hj
  exact ⟨hS2, ⟨sg, L, bn, B, n, ng, Lr, Br, g1_keep h1 h1.1.1 (fun q z1 z2 => hj q (by omega)) (fun q z1 z2 => hj q (by omega)) (hj _ (by omega))⟩, G2_keep h2 hS2 (rd_F (hj _ (by omega))) (rd_F (hj _ (by omega))) (fun q z1 z2 => hj q (by omega)) (hj _ (by omega)), G3_keep h3 (rd_F (hj _ (by omega))) (rd_F (hj _ (by omega))) (hj _ (by omega)) (hj _ (by omega)), h4⟩
def hit (i n : Int32) (z : Nat) : Bool := decide (0 ≤ i.toInt ∧ 0 ≤ n.toInt ∧ i.toInt + n.toInt ≤ (z : Int))
theorem hit_of {i n : Int32} {z : Nat} (h : hit i n z = true) (hz : z ≤ 24) : ∃ i' n', i = nI i' ∧ n = nI n' ∧ i' + n' ≤ z := by
  obtain ⟨h1, h2, h3⟩ := of_decide_eq_true h
  obtain ⟨i', hi, e1⟩ := nI_of (x := i) (fun c => by rw [Int32.lt_iff_toInt_lt] at c; change i.toInt < 0 at c; omega)
  obtain ⟨n', hn, e2⟩ := nI_of (x := n) (fun c => by rw [Int32.lt_iff_toInt_lt] at c; change n.toInt < 0 at c; omega)
  subst e1; subst e2
  rw [nI_toInt hi, nI_toInt hn] at h3
  exact ⟨i', n', rfl, rfl, by omega⟩
theorem hit_nI {i n z : Nat} (h : i + n ≤ z) (hz : z ≤ 24) : hit (nI i) (nI n) z = true := by
  unfold hit
  rw [nI_toInt (by omega), nI_toInt (by omega)]
  exact decide_eq_true (by omega)
theorem t_lt0 (i : Int32) : (i < 0) = (i.toInt < 0) := propext Int32.lt_iff_toInt_lt
theorem hit_sub {i n : Int32} {z : Nat} (hz : z ≤ 24) (hn : ¬ n < 0) : (nI z - n).toInt = (z : Int) - n.toInt := by
  obtain ⟨k, hk, e⟩ := nI_of hn
  subst e
  rw [Int32.toInt_sub, nI_toInt (by omega), nI_toInt hk]
  exact Int.bmod_eq_of_le (by omega) (by omega)
theorem hit_c {i n : Int32} {z : Nat} (hz : z ≤ 24) : (if i < 0 then (0 : Int32) else if n < 0 then 0 else if nI z - n < i then 0 else 1) = bI (hit i n z) := by
  unfold hit
  by_cases c1 : i < 0
  · rw [if_pos c1, bI_0 _ _ (fun q => by rw [t_lt0] at c1; omega)]
  · rw [if_neg c1]
    by_cases c2 : n < 0
    · rw [if_pos c2, bI_0 _ _ (fun q => by rw [t_lt0] at c2; omega)]
    · rw [if_neg c2]
      have e := hit_sub (i := i) hz c2
      rw [t_lt0] at c1 c2
      by_cases c3 : nI z - n < i
      · rw [if_pos c3, bI_0 _ _ (fun q => by rw [Int32.lt_iff_toInt_lt, e] at c3; omega)]
      · rw [if_neg c3]
        rw [Int32.lt_iff_toInt_lt, e] at c3
        rw [bI_1 _ _ (by omega)]
theorem hit_m {i n : Int32} {z : Nat} (hz : z ≤ 24) : (if n < 0 then (0 : Int32) else if i < 0 then 0 else if nI z < n then 0 else if nI z - n < i then 0 else 1) = bI (hit i n z) := by
  rw [← hit_c hz]
  by_cases c1 : n < 0
  · rw [if_pos c1, if_pos c1, ite_self]
  · rw [if_neg c1, if_neg c1]
    by_cases c2 : i < 0
    · rw [if_pos c2, if_pos c2]
    · rw [if_neg c2, if_neg c2]
      by_cases c3 : nI z < n
      · rw [if_pos c3]
        have e := hit_sub (i := i) hz c1
        rw [Int32.lt_iff_toInt_lt, nI_toInt (by omega)] at c3
        rw [t_lt0] at c1 c2
        rw [if_pos (by rw [Int32.lt_iff_toInt_lt, e]; omega)]
      · rw [if_neg c3]
def v_why (hb : Bool) (l z : Nat) (y i n : Int32) : Int32 := if hb = true then (if nI l = y then (if hit i n z = true then 0 else -13) else -12) else -11
theorem why_0 {hb : Bool} {l z : Nat} {y i n : Int32} (h : v_why hb l z y i n = 0) : hb = true ∧ y = nI l ∧ hit i n z = true := by
  unfold v_why at h
  by_cases c1 : hb = true
  · rw [if_pos c1] at h
    by_cases c2 : nI l = y
    · rw [if_pos c2] at h
      by_cases c3 : hit i n z = true
      · exact ⟨c1, c2.symm, c3⟩
      · rw [if_neg c3] at h
        exact absurd h (by decide)
    · rw [if_neg c2] at h
      exact absurd h (by decide)
  · rw [if_neg c1] at h
    exact absurd h (by decide)
/-- what both sides know of sheet k -/
def sk (I : mm_I) (x m k : Nat) (hb : Bool) (l z : Nat) : Prop := (mm_rd I (x + 108 + 2 * k) 0 = bI hb ∧ mm_rd I (x + 108 + 2 * k) 1 = nI l ∧ mm_rd I (x + 108 + 2 * k) 2 = nI z) ∧ (mm_rd I (m + 1) k = (if hb = true then nI l else -1) ∧ mm_rd I (m + 2) k = nI z) ∧ l < 4 ∧ z ≤ 24
theorem G4_sk {I : mm_I} {r : mm_R} {x m k : Nat} (h : G4 I r x m) (hk : k < 4) : ∃ hb l z, sk I x m k hb l z := by
  obtain ⟨h1, ⟨l, hl, h2⟩, ⟨z, hz, h3, h4⟩, -⟩ := h k hk
  rcases h1 with ⟨a, b⟩ | ⟨a, b⟩
  · exact ⟨false, l, z, ⟨a, h2, h3⟩, ⟨b, h4⟩, hl, hz⟩
  · exact ⟨true, l, z, ⟨a, h2, h3⟩, ⟨b.trans h2, h4⟩, hl, hz⟩
theorem G4_of {I : mm_I} {r : mm_R} {x m : Nat} (h : ∀ k, k < 4 → ∃ hb l z, sk I x m k hb l z) (hG : ∀ j, j < 4 → ∀ t, t < 24 → mm_G r (x + 109 + 2 * j) t = mm_G r (m + 3) (24 * j + t)) : G4 I r x m := by
  intro k hk
  obtain ⟨hb, l, z, ⟨a1, a2, a3⟩, ⟨b1, b2⟩, hl, hz⟩ := h k hk
  refine ⟨?_, ⟨l, hl, a2⟩, ⟨z, hz, a3, b2⟩, hG k hk⟩
  cases hb with
  | false => exact Or.inl ⟨a1, b1⟩
  | true => exact Or.inr ⟨a1, by rw [a2]; exact b1⟩
theorem sk_k {I J : mm_I} {x m k : Nat} {hb : Bool} {l z : Nat} (h : sk I x m k hb l z) (h1 : J (x + 108 + 2 * k) = I (x + 108 + 2 * k)) (h2 : J (m + 1) k = I (m + 1) k) (h3 : J (m + 2) k = I (m + 2) k) : sk J x m k hb l z := by
  unfold sk mm_rd at h ⊢
  rw [h1, h2, h3]
  exact h
def ct (l : Nat) (v : Int64) : Int64 := if l = 0 then v.toInt32.toInt8.toInt32.toInt64 else if l = 1 then v.toInt32.toInt16.toInt32.toInt64 else if l = 2 then v.toInt32.toInt64 else v
theorem in4 {k : Nat} (h : k < 4) : vp_in (nI k) 4 := vp_in_nI h (by decide)
theorem in24 {k : Nat} (h : k < 24) : vp_in (nI k) 24 := vp_in_nI h (by decide)
theorem in96 {k : Nat} (h : k < 96) : vp_in (nI k) 96 := vp_in_nI h (by decide)
theorem in80 {k : Nat} (h : k < 80) : vp_in (nI k) 80 := vp_in_nI h (by decide)
theorem k24 (k i : Nat) : (24 : Int32) * nI k + nI i = nI (24 * k + i) := by rw [show (24 : Int32) = nI 24 from by decide, pk_mul, nI_add]
section
variable {r : mm_R} {I : mm_I} {x m : Nat} {Q : Option Value → mm_I → mm_R → Prop}
theorem t_hasItems {a z : Nat} (h : mm_S r a = (1, 3)) (h2 : mm_rd I a 2 = nI z) (hz : z ≤ 24) (i n : Int32) : mm_E 33 0 [some (.ref a), some (.int i), some (.int n)] [] I r Q ↔ Q (some (.int (bI (hit i n z)))) I r := by
  simp only [e33_0, e33_1, e33_4, e33_5, e33_8, e33_9, e33_10, e33_13, e33_14, e33_15, e33_18, e33_19, e33_22, mm_pu_n, mm_pu_s, va_rf_s, mm_w8_0, mm_w8_1, mm_w8_2, mm_w8_3, mm_w8_4, mm_c1_n, mm_c1_i, mm_c1_a, mm_ct_a, mm_ct_i, true_and, and_true, and_self, eq_self, if_true, if_false, ite_true, ite_false, bI_t, bI_z, bI_nz, bI_01, true_or, or_true, reduceCtorEq, false_or, or_false, decide_eq_false_iff_not, decide_eq_true_eq, ite_not, h, h2, it_i, hit_c hz]
  simp only [e33_23, mm_pu_n, mm_pu_s, va_rf_s, mm_w8_0, mm_w8_1, mm_w8_2, mm_w8_3, mm_w8_4, mm_c1_n, mm_c1_i, mm_c1_a, mm_ct_a, mm_ct_i, true_and, and_true, and_self, eq_self, if_true, if_false, ite_true, ite_false, bI_t, bI_z, bI_nz, bI_01, true_or, or_true, reduceCtorEq, false_or, or_false, decide_eq_false_iff_not, decide_eq_true_eq, ite_not]
theorem t_refusal {a z l : Nat} {hb : Bool} (h : mm_S r a = (1, 3)) (h0 : mm_rd I a 0 = bI hb) (h1 : mm_rd I a 1 = nI l) (h2 : mm_rd I a 2 = nI z) (hz : z ≤ 24) (y i n : Int32) : mm_E 34 0 [some (.ref a), some (.int y), some (.int i), some (.int n)] [] I r Q ↔ Q (some (.int (v_why hb l z y i n))) I r := by
  unfold v_why
  cases hb with
  | false => simp only [e34_0, e34_1, e34_4, e34_7, e34_9, mm_pu_n, mm_pu_s, va_rf_s, mm_w8_0, mm_w8_1, mm_w8_2, mm_w8_3, mm_w8_4, mm_c1_n, mm_c1_i, mm_c1_a, mm_ct_a, mm_ct_i, true_and, and_true, and_self, eq_self, if_true, if_false, ite_true, ite_false, bI_t, bI_z, bI_nz, bI_01, true_or, or_true, reduceCtorEq, false_or, or_false, decide_eq_false_iff_not, decide_eq_true_eq, ite_not, h, h0, Bool.false_eq_true]
  | true =>
    by_cases c : nI l = y
    · simp only [e34_0, e34_1, e34_4, e34_7, e34_9, e34_10, e34_11, e34_14, e34_15, e34_18, e34_20, e34_21, e34_22, e34_23, e34_24, e34_27, e34_30, e34_31, e34_34, mm_pu_n, mm_pu_s, va_rf_s, mm_w8_0, mm_w8_1, mm_w8_2, mm_w8_3, mm_w8_4, mm_c1_n, mm_c1_i, mm_c1_a, mm_ct_a, mm_ct_i, true_and, and_true, and_self, eq_self, if_true, if_false, ite_true, ite_false, bI_t, bI_z, bI_nz, bI_01, true_or, or_true, reduceCtorEq, false_or, or_false, decide_eq_false_iff_not, decide_eq_true_eq, ite_not, h, h0, h1, c, t_hasItems h h2 hz, Bool.true_eq_false, it_i]
      rw [e34_36]
      cases hit i n z <;> rfl
    · simp only [e34_0, e34_1, e34_4, e34_7, e34_9, e34_10, e34_11, e34_14, e34_15, e34_18, e34_20, e34_21, e34_22, e34_23, e34_24, e34_27, e34_30, e34_31, e34_34, mm_pu_n, mm_pu_s, va_rf_s, mm_w8_0, mm_w8_1, mm_w8_2, mm_w8_3, mm_w8_4, mm_c1_n, mm_c1_i, mm_c1_a, mm_ct_a, mm_ct_i, true_and, and_true, and_self, eq_self, if_true, if_false, ite_true, ite_false, bI_t, bI_z, bI_nz, bI_01, true_or, or_true, reduceCtorEq, false_or, or_false, decide_eq_false_iff_not, decide_eq_true_eq, ite_not, h, h0, h1, c, Bool.true_eq_false]
theorem u_isPart {z : Nat} (hz : z ≤ 24) (i n : Int32) : mm_E 153 0 [some (.int i), some (.int n), some (.int (nI z))] [] I r Q ↔ Q (some (.int (bI (hit i n z)))) I r := by
  simp only [e153_0, e153_1, e153_4, e153_5, e153_8, e153_9, e153_10, e153_13, e153_14, e153_15, e153_16, e153_17, e153_20, e153_21, e153_24, mm_pu_n, mm_pu_s, va_rf_s, mm_w8_0, mm_w8_1, mm_w8_2, mm_w8_3, mm_w8_4, mm_c1_n, mm_c1_i, mm_c1_a, mm_ct_a, mm_ct_i, true_and, and_true, and_self, eq_self, if_true, if_false, ite_true, ite_false, bI_t, bI_z, bI_nz, bI_01, true_or, or_true, reduceCtorEq, false_or, or_false, decide_eq_false_iff_not, decide_eq_true_eq, ite_not, it_i, hit_m hz]
  simp only [e153_25, mm_pu_n, mm_pu_s, va_rf_s, mm_w8_0, mm_w8_1, mm_w8_2, mm_w8_3, mm_w8_4, mm_c1_n, mm_c1_i, mm_c1_a, mm_ct_a, mm_ct_i, true_and, and_true, and_self, eq_self, if_true, if_false, ite_true, ite_false, bI_t, bI_z, bI_nz, bI_01, true_or, or_true, reduceCtorEq, false_or, or_false, decide_eq_false_iff_not, decide_eq_true_eq, ite_not]
theorem u_wrong {k z l : Nat} {hb : Bool} (hml : ml_S r m) (hk : k < 4) (h1 : mm_rd I (m + 1) k = (if hb = true then nI l else -1)) (hl : l < 4) (h2 : mm_rd I (m + 2) k = nI z) (hz : z ≤ 24) (y i n : Int32) : mm_E 154 0 [some (.ref m), some (.int (nI k)), some (.int y), some (.int i), some (.int n)] [] I r Q ↔ Q (some (.int (v_why hb l z y i n))) I r := by
  unfold v_why
  cases hb with
  | false =>
    simp only [e154_0, e154_1, e154_4, e154_5, e154_6, e154_9, e154_11, e154_14, e154_15, e154_18, e154_19, e154_20, e154_21, e154_24, e154_26, e154_29, e154_30, e154_32, e154_33, e154_36, e154_37, e154_38, e154_41, e154_44, e154_45, e154_48, mm_pu_n, mm_pu_s, va_rf_s, mm_w8_0, mm_w8_1, mm_w8_2, mm_w8_3, mm_w8_4, mm_c1_n, mm_c1_i, mm_c1_a, mm_ct_a, mm_ct_i, true_and, and_true, and_self, eq_self, if_true, if_false, ite_true, ite_false, bI_t, bI_z, bI_nz, bI_01, true_or, or_true, reduceCtorEq, false_or, or_false, decide_eq_false_iff_not, decide_eq_true_eq, ite_not, hml.s0, hml.p0, hml.i1, in4 hk, cl_nI (show k < 6 by omega), h1, Bool.false_eq_true, show ((0 : Int32) ≤ -1) = False from eq_false (by decide)]
    rw [e154_50]
  | true =>
    have hp : (0 : Int32) ≤ nI l := nI_pos' (by omega)
    by_cases c : nI l = y
    · simp only [e154_0, e154_1, e154_4, e154_5, e154_6, e154_9, e154_11, e154_14, e154_15, e154_18, e154_19, e154_20, e154_21, e154_24, e154_26, e154_29, e154_30, e154_32, e154_33, e154_36, e154_37, e154_38, e154_41, e154_44, e154_45, e154_48, mm_pu_n, mm_pu_s, va_rf_s, mm_w8_0, mm_w8_1, mm_w8_2, mm_w8_3, mm_w8_4, mm_c1_n, mm_c1_i, mm_c1_a, mm_ct_a, mm_ct_i, true_and, and_true, and_self, eq_self, if_true, if_false, ite_true, ite_false, bI_t, bI_z, bI_nz, bI_01, true_or, or_true, reduceCtorEq, false_or, or_false, decide_eq_false_iff_not, decide_eq_true_eq, ite_not, hml.s0, hml.p0, hml.p1, hml.i1, hml.i2, in4 hk, cl_nI (show k < 6 by omega), h1, h2, hp, c, u_isPart hz, it_i]
      rw [← c]
      simp only [hp, if_true]
      rw [e154_50]
      cases hit i n z <;> rfl
    · simp only [e154_0, e154_1, e154_4, e154_5, e154_6, e154_9, e154_11, e154_14, e154_15, e154_18, e154_19, e154_20, e154_21, e154_24, e154_26, e154_29, e154_30, e154_32, e154_33, e154_36, e154_37, e154_38, e154_41, e154_44, e154_45, e154_48, mm_pu_n, mm_pu_s, va_rf_s, mm_w8_0, mm_w8_1, mm_w8_2, mm_w8_3, mm_w8_4, mm_c1_n, mm_c1_i, mm_c1_a, mm_ct_a, mm_ct_i, true_and, and_true, and_self, eq_self, if_true, if_false, ite_true, ite_false, bI_t, bI_z, bI_nz, bI_01, true_or, or_true, reduceCtorEq, false_or, or_false, decide_eq_false_iff_not, decide_eq_true_eq, ite_not, hml.s0, hml.p0, hml.p1, hml.i1, hml.i2, in4 hk, cl_nI (show k < 6 by omega), h1, h2, hp, c]
      rw [e154_50]
end
