def ml_S (r : mm_R) (m : Nat) : Prop := mm_S r m = (1, 6) ∧ (mm_P r m 0 = some (m + 1) ∧ mm_P r m 1 = some (m + 2) ∧ mm_P r m 2 = some (m + 3) ∧ mm_P r m 4 = some (m + 4) ∧ mm_P r m 7 = some (m + 5) ∧ mm_P r m 8 = some (m + 6) ∧ mm_P r m 9 = some (m + 7) ∧ mm_P r m 10 = some (m + 8) ∧ mm_P r m 12 = some (m + 9) ∧ mm_P r m 13 = some (m + 10) ∧ mm_P r m 14 = some (m + 11) ∧ mm_P r m 15 = some (m + 12)) ∧ (mm_S r (m + 1) = (2, 4) ∧ mm_S r (m + 2) = (2, 4) ∧ mm_S r (m + 3) = (3, 96) ∧ mm_S r (m + 4) = (2, 80) ∧ mm_S r (m + 5) = (2, 248) ∧ mm_S r (m + 6) = (2, 248) ∧ mm_S r (m + 7) = (2, 248) ∧ mm_S r (m + 8) = (2, 248) ∧ mm_S r (m + 9) = (2, 6) ∧ mm_S r (m + 10) = (2, 6) ∧ mm_S r (m + 11) = (2, 6) ∧ mm_S r (m + 12) = (2, 6))
section
variable {r : mm_R} {m : Nat}
theorem ml_S.s0 (h : ml_S r m) : mm_S r m = (1, 6) := h.1
theorem ml_S.p0 (h : ml_S r m) : mm_P r m 0 = some (m + 1) := h.2.1.1
theorem ml_S.p1 (h : ml_S r m) : mm_P r m 1 = some (m + 2) := h.2.1.2.1
theorem ml_S.p2 (h : ml_S r m) : mm_P r m 2 = some (m + 3) := h.2.1.2.2.1
theorem ml_S.p4 (h : ml_S r m) : mm_P r m 4 = some (m + 4) := h.2.1.2.2.2.1
theorem ml_S.p7 (h : ml_S r m) : mm_P r m 7 = some (m + 5) := h.2.1.2.2.2.2.1
theorem ml_S.p8 (h : ml_S r m) : mm_P r m 8 = some (m + 6) := h.2.1.2.2.2.2.2.1
theorem ml_S.p9 (h : ml_S r m) : mm_P r m 9 = some (m + 7) := h.2.1.2.2.2.2.2.2.1
theorem ml_S.p10 (h : ml_S r m) : mm_P r m 10 = some (m + 8) := h.2.1.2.2.2.2.2.2.2.1
theorem ml_S.p12 (h : ml_S r m) : mm_P r m 12 = some (m + 9) := h.2.1.2.2.2.2.2.2.2.2.1
theorem ml_S.p13 (h : ml_S r m) : mm_P r m 13 = some (m + 10) := h.2.1.2.2.2.2.2.2.2.2.2.1
theorem ml_S.p14 (h : ml_S r m) : mm_P r m 14 = some (m + 11) := h.2.1.2.2.2.2.2.2.2.2.2.2.1
theorem ml_S.p15 (h : ml_S r m) : mm_P r m 15 = some (m + 12) := h.2.1.2.2.2.2.2.2.2.2.2.2.2
theorem ml_S.i1 (h : ml_S r m) (x : Int32) : mm_ix r (m + 1) 2 x = vp_in x 4 := mm_ixs h.2.2.1
theorem ml_S.i2 (h : ml_S r m) (x : Int32) : mm_ix r (m + 2) 2 x = vp_in x 4 := mm_ixs h.2.2.2.1
theorem ml_S.i3 (h : ml_S r m) (x : Int32) : mm_ix r (m + 3) 3 x = vp_in x 96 := mm_ixs h.2.2.2.2.1
theorem ml_S.i4 (h : ml_S r m) (x : Int32) : mm_ix r (m + 4) 2 x = vp_in x 80 := mm_ixs h.2.2.2.2.2.1
theorem ml_S.i5 (h : ml_S r m) (x : Int32) : mm_ix r (m + 5) 2 x = vp_in x 248 := mm_ixs h.2.2.2.2.2.2.1
theorem ml_S.i6 (h : ml_S r m) (x : Int32) : mm_ix r (m + 6) 2 x = vp_in x 248 := mm_ixs h.2.2.2.2.2.2.2.1
theorem ml_S.i7 (h : ml_S r m) (x : Int32) : mm_ix r (m + 7) 2 x = vp_in x 248 := mm_ixs h.2.2.2.2.2.2.2.2.1
theorem ml_S.i8 (h : ml_S r m) (x : Int32) : mm_ix r (m + 8) 2 x = vp_in x 248 := mm_ixs h.2.2.2.2.2.2.2.2.2.1
theorem ml_S.i9 (h : ml_S r m) (x : Int32) : mm_ix r (m + 9) 2 x = vp_in x 6 := mm_ixs h.2.2.2.2.2.2.2.2.2.2.1
theorem ml_S.i10 (h : ml_S r m) (x : Int32) : mm_ix r (m + 10) 2 x = vp_in x 6 := mm_ixs h.2.2.2.2.2.2.2.2.2.2.2.1
theorem ml_S.i11 (h : ml_S r m) (x : Int32) : mm_ix r (m + 11) 2 x = vp_in x 6 := mm_ixs h.2.2.2.2.2.2.2.2.2.2.2.2.1
theorem ml_S.i12 (h : ml_S r m) (x : Int32) : mm_ix r (m + 12) 2 x = vp_in x 6 := mm_ixs h.2.2.2.2.2.2.2.2.2.2.2.2.2
end
/-- where the reference's row of ints holds what a lane holds -/
def ps (k i : Nat) : Nat := match k with
  | 0 => (match i with
    | 0 => 27
    | 1 => 28
    | 2 => 26
    | 3 => 0
    | 4 => 2
    | _ => 1)
  | 1 => 3 + i
  | 2 => 9 + i
  | 3 => 15 + i
  | 4 => 29 + i
  | 5 => 34 + i
  | _ => 21 + i
theorem ps_inj1 : ((List.range 7).all fun k => (List.range 6).all fun i => (List.range 7).all fun q => (List.range 6).all fun j => decide (i < wd k ∧ j < wd q ∧ ps k i = ps q j → k = q ∧ i = j)) = true := by decide +kernel
theorem ps_inj0 : ∀ k, k < 7 → ∀ i, i < 6 → ∀ q, q < 7 → ∀ j, j < 6 → i < wd k → j < wd q → ps k i = ps q j → k = q ∧ i = j := by
  intro k hk i hi q hq j hj h1 h2 h3
  have a := List.all_eq_true.mp (List.all_eq_true.mp (List.all_eq_true.mp (List.all_eq_true.mp ps_inj1 k (List.mem_range.mpr hk)) i (List.mem_range.mpr hi)) q (List.mem_range.mpr hq)) j (List.mem_range.mpr hj)
  exact of_decide_eq_true a ⟨h1, h2, h3⟩
theorem ps_lt0 : ∀ k, k < 7 → ∀ i, i < 6 → i < wd k → ps k i < 39 := by decide +kernel
theorem wd_le (k : Nat) : wd k ≤ 6 := by unfold wd; split <;> decide
theorem ps_inj {k i q j : Nat} (hk : k < 7) (hi : i < wd k) (hq : q < 7) (hj : j < wd q) (h : ps k i = ps q j) : k = q ∧ i = j := ps_inj0 k hk i (Nat.lt_of_lt_of_le hi (wd_le k)) q hq j (Nat.lt_of_lt_of_le hj (wd_le q)) hi hj h
theorem ps_lt {k i : Nat} (hk : k < 7) (hi : i < wd k) : ps k i < 39 := ps_lt0 k hk i (Nat.lt_of_lt_of_le hi (wd_le k)) hi
def vr (I : mm_I) (s m : Nat) : mm_I := fun k i => if k < 9 ∧ i < wd k then (if k < 7 then I s (ps k i) else I (m + 2 + k) i) else 0
theorem rr_k {I : mm_I} {s m k i : Nat} (hk : k < 7 ∧ i < wd k) : mm_rd I s (ps k i) = vr I s m k i := by unfold mm_rd vr; rw [if_pos ⟨by omega, hk.2⟩, if_pos hk.1]
theorem rr_7 {I : mm_I} {s m i : Nat} (hi : i < 6) : mm_rd I (m + 9) i = vr I s m 7 i := by unfold mm_rd vr; rw [if_pos ⟨by decide, hi⟩, if_neg (by decide)]
theorem rr_8 {I : mm_I} {s m i : Nat} (hi : i < 6) : mm_rd I (m + 10) i = vr I s m 8 i := by unfold mm_rd vr; rw [if_pos ⟨by decide, hi⟩, if_neg (by decide)]
/-- the row s is none of the rows of what is left and how often -/
def rw_ok (s m : Nat) : Prop := s ≠ m + 9 ∧ s ≠ m + 10
theorem vr_u {I : mm_I} {s m k i : Nat} {x : Int32} (hs : rw_ok s m) (hk : k < 7 ∧ i < wd k) : vr (mm_uI I s (ps k i) x) s m = mm_uI (vr I s m) k i x := by
  funext q j
  unfold vr mm_uI upd
  by_cases hq : q < 9 ∧ j < wd q
  · rw [if_pos hq]
    by_cases h7 : q < 7
    · rw [if_pos h7, if_pos rfl]
      by_cases he : q = k
      · subst he
        rw [if_pos rfl]
        by_cases hj : j = i
        · subst hj; simp
        · rw [if_neg (fun h => hj (ps_inj h7 hq.2 hk.1 hk.2 h).2), if_neg hj]; dsimp only; rw [if_pos hq, if_pos h7]
      · rw [if_neg (fun h => he (ps_inj h7 hq.2 hk.1 hk.2 h).1), if_neg he]; dsimp only; rw [if_pos hq, if_pos h7]
    · rw [if_neg h7, if_neg (by unfold rw_ok at hs; omega), if_neg (by omega)]; dsimp only; rw [if_pos hq, if_neg h7]
  · rw [if_neg hq]
    by_cases he : q = k
    · subst he
      rw [if_pos rfl, if_neg (fun h => hq ⟨by omega, by rw [h]; exact hk.2⟩)]; dsimp only; rw [if_neg hq]
    · rw [if_neg he]; dsimp only; rw [if_neg hq]
theorem vr_w {I : mm_I} {s m k i : Nat} {x : Int32} (hs : rw_ok s m) (hk : 7 ≤ k ∧ k < 9 ∧ i < wd k) : vr (mm_uI I (m + 2 + k) i x) s m = mm_uI (vr I s m) k i x := by
  funext q j
  unfold vr mm_uI upd
  have hsk : s ≠ m + 2 + k := by unfold rw_ok at hs; omega
  by_cases hq : q < 9 ∧ j < wd q
  · rw [if_pos hq]
    by_cases h7 : q < 7
    · rw [if_pos h7, if_neg hsk, if_neg (by omega)]; dsimp only; rw [if_pos hq, if_pos h7]
    · rw [if_neg h7]
      by_cases he : q = k
      · subst he
        rw [if_pos rfl, if_pos rfl]
        by_cases hj : j = i
        · subst hj; simp
        · rw [if_neg hj, if_neg hj]; dsimp only; rw [if_pos hq, if_neg h7]
      · rw [if_neg (by omega), if_neg he]; dsimp only; rw [if_pos hq, if_neg h7]
  · rw [if_neg hq]
    by_cases he : q = k
    · subst he
      rw [if_pos rfl, if_neg (fun h => hq ⟨by omega, by rw [h]; exact hk.2.2⟩)]; dsimp only; rw [if_neg hq]
    · rw [if_neg he]; dsimp only; rw [if_neg hq]
theorem vr_7 {I : mm_I} {s m i : Nat} {x : Int32} (hs : rw_ok s m) (hi : i < 6) : vr (mm_uI I (m + 9) i x) s m = mm_uI (vr I s m) 7 i x := vr_w (k := 7) hs ⟨by decide, by decide, hi⟩
theorem vr_8 {I : mm_I} {s m i : Nat} {x : Int32} (hs : rw_ok s m) (hi : i < 6) : vr (mm_uI I (m + 10) i x) s m = mm_uI (vr I s m) 8 i x := vr_w (k := 8) hs ⟨by decide, by decide, hi⟩
/-- what the reference's night leaves: all other rows, and what is noted behind the lane -/
def ml_F (s m : Nat) (I J : mm_I) : Prop := (∀ q, q ≠ s → q ≠ m + 9 → q ≠ m + 10 → J q = I q) ∧ ∀ i, 39 ≤ i → J s i = I s i
theorem ml_F.rf {s m : Nat} {I : mm_I} : ml_F s m I I := ⟨fun _ _ _ _ => rfl, fun _ _ => rfl⟩
theorem ml_F.tr {s m : Nat} {I J K : mm_I} (h1 : ml_F s m I J) (h2 : ml_F s m J K) : ml_F s m I K := ⟨fun q a b c => (h2.1 q a b c).trans (h1.1 q a b c), fun i hi => (h2.2 i hi).trans (h1.2 i hi)⟩
theorem ml_F.u {s m : Nat} {I J : mm_I} {i : Nat} {x : Int32} (h : ml_F s m I J) (hi : i < 39) : ml_F s m I (mm_uI J s i x) := ⟨fun q a b c => by rw [mu_n a]; exact h.1 q a b c, fun j hj => by rw [mu_j (by omega)]; exact h.2 j hj⟩
theorem ml_F.w7 {s m : Nat} {I J : mm_I} {i : Nat} {x : Int32} (hs : rw_ok s m) (h : ml_F s m I J) : ml_F s m I (mm_uI J (m + 9) i x) := ⟨fun q a b c => by rw [mu_n b]; exact h.1 q a b c, fun j hj => by rw [mu_n hs.1]; exact h.2 j hj⟩
theorem ml_F.w8 {s m : Nat} {I J : mm_I} {i : Nat} {x : Int32} (hs : rw_ok s m) (h : ml_F s m I J) : ml_F s m I (mm_uI J (m + 10) i x) := ⟨fun q a b c => by rw [mu_n c]; exact h.1 q a b c, fun j hj => by rw [mu_n hs.2]; exact h.2 j hj⟩
theorem k3 (k : Nat) : (3 : Int32) + nI k = nI (3 + k) := by rw [show (3 : Int32) = nI 3 from by decide, nI_add]
theorem k9 (k : Nat) : (9 : Int32) + nI k = nI (9 + k) := by rw [show (9 : Int32) = nI 9 from by decide, nI_add]
theorem k15 (k : Nat) : (15 : Int32) + nI k = nI (15 + k) := by rw [show (15 : Int32) = nI 15 from by decide, nI_add]
theorem k21 (k : Nat) : (21 : Int32) + nI k = nI (21 + k) := by rw [show (21 : Int32) = nI 21 from by decide, nI_add]
theorem k29 (k : Nat) : (29 : Int32) + nI k = nI (29 + k) := by rw [show (29 : Int32) = nI 29 from by decide, nI_add]
theorem k34 (k : Nat) : (34 : Int32) + nI k = nI (34 + k) := by rw [show (34 : Int32) = nI 34 from by decide, nI_add]
theorem cl2 {k : Nat} (h : k < 248) : (nI k).toNatClampNeg = k := nI_clamp (by omega)
theorem in2 {k : Nat} (h : k < 248) : vp_in (nI k) 248 := vp_in_nI h (by decide)
theorem c27 : vp_in 27 248 ∧ vp_in 28 248 ∧ vp_in 26 248 ∧ vp_in 0 248 ∧ vp_in 2 248 ∧ vp_in 1 248 ∧ vp_in 39 248 := by unfold vp_in; decide
theorem d27 : (27 : Int32).toNatClampNeg = 27 ∧ (28 : Int32).toNatClampNeg = 28 ∧ (26 : Int32).toNatClampNeg = 26 ∧ (0 : Int32).toNatClampNeg = 0 ∧ (2 : Int32).toNatClampNeg = 2 ∧ (1 : Int32).toNatClampNeg = 1 ∧ (39 : Int32).toNatClampNeg = 39 := by decide
section
variable {I : mm_I} {s m : Nat}
theorem r27 (m : Nat) : mm_rd I s 27 = vr I s m 0 0 := rr_k (k := 0) (i := 0) ⟨by decide, by decide⟩
theorem r28 (m : Nat) : mm_rd I s 28 = vr I s m 0 1 := rr_k (k := 0) (i := 1) ⟨by decide, by decide⟩
theorem r26 (m : Nat) : mm_rd I s 26 = vr I s m 0 2 := rr_k (k := 0) (i := 2) ⟨by decide, by decide⟩
theorem r0 (m : Nat) : mm_rd I s 0 = vr I s m 0 3 := rr_k (k := 0) (i := 3) ⟨by decide, by decide⟩
theorem r2 (m : Nat) : mm_rd I s 2 = vr I s m 0 4 := rr_k (k := 0) (i := 4) ⟨by decide, by decide⟩
theorem r1 (m : Nat) : mm_rd I s 1 = vr I s m 0 5 := rr_k (k := 0) (i := 5) ⟨by decide, by decide⟩
theorem r3 (m : Nat) {k : Nat} (h : k < 6) : mm_rd I s (3 + k) = vr I s m 1 k := rr_k (k := 1) ⟨by decide, h⟩
theorem r9 (m : Nat) {k : Nat} (h : k < 6) : mm_rd I s (9 + k) = vr I s m 2 k := rr_k (k := 2) ⟨by decide, h⟩
theorem r15 (m : Nat) {k : Nat} (h : k < 6) : mm_rd I s (15 + k) = vr I s m 3 k := rr_k (k := 3) ⟨by decide, h⟩
theorem r29 (m : Nat) {k : Nat} (h : k < 5) : mm_rd I s (29 + k) = vr I s m 4 k := rr_k (k := 4) ⟨by decide, h⟩
theorem r34 (m : Nat) {k : Nat} (h : k < 5) : mm_rd I s (34 + k) = vr I s m 5 k := rr_k (k := 5) ⟨by decide, h⟩
theorem r21 (m : Nat) {k : Nat} (h : k < 5) : mm_rd I s (21 + k) = vr I s m 6 k := rr_k (k := 6) ⟨by decide, h⟩
end
section
variable {r : mm_R} {I : mm_I} {s : Nat} {Q : Option Value → mm_I → mm_R → Prop}
theorem u_in (x lo hi : Int32) : mm_E 93 0 [some (.int x), some (.int lo), some (.int hi)] [] I r Q ↔ Q (some (.int (bI (decide (lo ≤ x ∧ x ≤ hi))))) I r := by
  simp only [e93_0, e93_1, e93_2, e93_5, e93_6, e93_7, e93_10, e93_11, e93_14, e93_15, mm_pu_n, mm_pu_s, va_rf_s, mm_w8_0, mm_w8_1, mm_w8_2, mm_w8_3, mm_w8_4, mm_c1_n, mm_c1_i, mm_c1_a, mm_ct_a, mm_ct_i, true_and, and_true, and_self, eq_self, if_true, if_false, ite_true, ite_false, bI_t, bI_z, bI_nz, bI_01, true_or, or_true, reduceCtorEq, false_or, or_false, decide_eq_false_iff_not, decide_eq_true_eq, ite_not]
  by_cases h1 : x < lo
  · rw [if_pos h1, bI_0 _ _ (fun q => Int32.not_lt.mpr q.1 h1)]
  · rw [if_neg h1]
    by_cases h2 : hi < x
    · rw [if_pos h2, bI_0 _ _ (fun q => Int32.not_lt.mpr q.2 h2)]
    · rw [if_neg h2, bI_1 _ _ ⟨Int32.not_lt.mp h1, Int32.not_lt.mp h2⟩]
theorem u_has (x k : Int32) : mm_E 94 0 [some (.int x), some (.int k)] [] I r Q ↔ Q (some (.int (bI (decide ((x >>> (k &&& 31)) &&& 1 = 1))))) I r := by
  simp only [e94_0, e94_1, e94_2, e94_3, e94_4, e94_5, e94_6, e94_9, e94_10, e94_13, e94_14, mm_pu_n, mm_pu_s, va_rf_s, mm_w8_0, mm_w8_1, mm_w8_2, mm_w8_3, mm_w8_4, mm_c1_n, mm_c1_i, mm_c1_a, mm_ct_a, mm_ct_i, true_and, and_true, and_self, eq_self, if_true, if_false, ite_true, ite_false, bI_t, bI_z, bI_nz, bI_01, true_or, or_true, reduceCtorEq, false_or, or_false, decide_eq_false_iff_not, decide_eq_true_eq, ite_not]
  by_cases h1 : (x >>> (k &&& 31)) &&& 1 = 1
  · rw [if_pos h1, bI_1 _ _ h1]
  · rw [if_neg h1, bI_0 _ _ h1]
theorem u_isLost (m : Nat) (h : ∀ x, mm_ix r s 2 x = vp_in x 248) {k : Nat} (hk : k < 6) : mm_E 105 0 [some (.ref s), some (.int (nI k))] [] I r Q ↔ Q (some (.int (bI (decide (vr I s m 3 k = 3))))) I r := by
  simp only [e105_0, e105_1, e105_3, e105_4, e105_5, e105_6, e105_7, e105_10, e105_11, e105_14, e105_15, mm_pu_n, mm_pu_s, va_rf_s, mm_w8_0, mm_w8_1, mm_w8_2, mm_w8_3, mm_w8_4, mm_c1_n, mm_c1_i, mm_c1_a, mm_ct_a, mm_ct_i, true_and, and_true, and_self, eq_self, if_true, if_false, ite_true, ite_false, bI_t, bI_z, bI_nz, bI_01, true_or, or_true, reduceCtorEq, false_or, or_false, decide_eq_false_iff_not, decide_eq_true_eq, ite_not, h, k15, in2 (show 15 + k < 248 by omega), cl2 (show 15 + k < 248 by omega), r15 m hk]
  by_cases h1 : vr I s m 3 k = 3
  · rw [if_pos h1, bI_1 _ _ h1]
  · rw [if_neg h1, bI_0 _ _ h1]
theorem u_isWinter (m : Nat) (h : ∀ x, mm_ix r s 2 x = vp_in x 248) : mm_E 121 0 [some (.ref s)] [] I r Q ↔ Q (some (.int (bI (p_win (vr I s m))))) I r := by
  simp only [e121_0, e121_1, e121_2, e121_3, e121_5, e121_6, e121_8, e121_11, e121_12, e121_15, e121_16, mm_pu_n, mm_pu_s, va_rf_s, mm_w8_0, mm_w8_1, mm_w8_2, mm_w8_3, mm_w8_4, mm_c1_n, mm_c1_i, mm_c1_a, mm_ct_a, mm_ct_i, true_and, and_true, and_self, eq_self, if_true, if_false, ite_true, ite_false, bI_t, bI_z, bI_nz, bI_01, true_or, or_true, reduceCtorEq, false_or, or_false, decide_eq_false_iff_not, decide_eq_true_eq, ite_not, h, c27.2.2.2.1, d27.2.2.2.1, r0 m, show ¬ ((20 : Int32) = 0) by decide, not_false_eq_true]
  unfold p_win
  by_cases h1 : vr I s m 0 3 - vr I s m 0 3 / 20 * 20 < 15
  · rw [if_pos h1, bI_0 _ _ (fun q => Int32.not_lt.mpr q h1)]
  · rw [if_neg h1, bI_1 _ _ (Int32.not_lt.mp h1)]
theorem u_mealOf (m : Nat) (h : ∀ x, mm_ix r s 2 x = vp_in x 248) {g : Nat} (hg : g < 5) : mm_E 107 0 [some (.ref s), some (.int (nI g)), none] [] I r Q ↔ Q (some (.int (p_ap (vr I s m) g))) I r := by
  simp only [e107_0, e107_1, e107_3, e107_4, e107_5, e107_6, e107_7, e107_8, e107_10, e107_11, e107_12, e107_13, e107_14, e107_17, e107_18, e107_19, e107_20, e107_23, e107_24, e107_26, e107_27, e107_28, e107_29, e107_30, e107_33, e107_34, e107_35, e107_36, e107_39, e107_40, mm_pu_n, mm_pu_s, va_rf_s, mm_w8_0, mm_w8_1, mm_w8_2, mm_w8_3, mm_w8_4, mm_c1_n, mm_c1_i, mm_c1_a, mm_ct_a, mm_ct_i, true_and, and_true, and_self, eq_self, if_true, if_false, ite_true, ite_false, bI_t, bI_z, bI_nz, bI_01, true_or, or_true, reduceCtorEq, false_or, or_false, decide_eq_false_iff_not, decide_eq_true_eq, ite_not, h, k29, k34, in2 (show 29 + g < 248 by omega), cl2 (show 29 + g < 248 by omega), in2 (show 34 + g < 248 by omega), cl2 (show 34 + g < 248 by omega), r29 m hg, r34 m hg, show ¬ ((2 : Int32) = 0) by decide, not_false_eq_true]
  unfold p_ap
  by_cases c1 : vr I s m 4 g = 3
  · simp [c1]
  · by_cases c2 : vr I s m 4 g = 4
    · simp [c2]
    · simp [c1, c2]
theorem u_hogsAt (m : Nat) (h : ∀ x, mm_ix r s 2 x = vp_in x 248) (x : Int32) {n : Nat} (hn : n ≤ 5) (h0 : vr I s m 0 1 = nI n) : mm_E 104 0 [some (.ref s), some (.int x), none, none] [] I r Q ↔ Q (some (.int (p_gs (vr I s m) x n))) I r := by
  have loop : ∀ d k, k + d = n → (mm_E 104 4 [some (.ref s), some (.int x), some (.int (p_gs (vr I s m) x k)), some (.int (nI k))] [] I r Q ↔ Q (some (.int (p_gs (vr I s m) x n))) I r) := by
    intro d
    induction d with
    | zero =>
      intro k hk
      have : k = n := by omega
      subst this
      rw [e104_4]
      simp only [e104_0, e104_1, e104_2, e104_3, e104_5, e104_6, e104_8, e104_9, e104_12, e104_13, e104_14, e104_16, e104_17, e104_18, e104_19, e104_20, e104_23, e104_24, e104_25, e104_26, e104_29, e104_30, e104_31, e104_32, e104_35, e104_38, e104_39, mm_pu_n, mm_pu_s, va_rf_s, mm_w8_0, mm_w8_1, mm_w8_2, mm_w8_3, mm_w8_4, mm_c1_n, mm_c1_i, mm_c1_a, mm_ct_a, mm_ct_i, true_and, and_true, and_self, eq_self, if_true, if_false, ite_true, ite_false, bI_t, bI_z, bI_nz, bI_01, true_or, or_true, reduceCtorEq, false_or, or_false, decide_eq_false_iff_not, decide_eq_true_eq, ite_not, h, c27.2.1, d27.2.1, r28 m, h0, Int32.le_refl]
    | succ d ih =>
      intro k hk
      have hk5 : k < 5 := by omega
      have ih2 := ih (k + 1) (by omega)
      rw [e104_4]
      simp only [e104_5, e104_6, e104_8, e104_9, e104_12, e104_13, e104_14, e104_16, e104_17, e104_18, e104_19, e104_20, e104_23, e104_24, e104_25, e104_26, e104_29, mm_pu_n, mm_pu_s, va_rf_s, mm_w8_0, mm_w8_1, mm_w8_2, mm_w8_3, mm_w8_4, mm_c1_n, mm_c1_i, mm_c1_a, mm_ct_a, mm_ct_i, true_and, and_true, and_self, eq_self, if_true, if_false, ite_true, ite_false, bI_t, bI_z, bI_nz, bI_01, true_or, or_true, reduceCtorEq, false_or, or_false, decide_eq_false_iff_not, decide_eq_true_eq, ite_not, h, c27.2.1, d27.2.1, r28 m, h0, k21, in2 (show 21 + k < 248 by omega), cl2 (show 21 + k < 248 by omega), r21 m hk5, nle6 (show k < n by omega) (show n ≤ 6 by omega), it_i]
      simp only [e104_30, e104_31, e104_32, e104_35, mm_pu_n, mm_pu_s, va_rf_s, mm_w8_0, mm_w8_1, mm_w8_2, mm_w8_3, mm_w8_4, mm_c1_n, mm_c1_i, mm_c1_a, mm_ct_a, mm_ct_i, true_and, and_true, and_self, eq_self, if_true, if_false, ite_true, ite_false, bI_t, bI_z, bI_nz, bI_01, true_or, or_true, reduceCtorEq, false_or, or_false, decide_eq_false_iff_not, decide_eq_true_eq, ite_not, nI_1]
      rw [p_gs] at ih2
      by_cases hl : vr I s m 6 k = x
      · rw [if_pos hl] at ih2 ⊢; exact ih2
      · rw [if_neg hl] at ih2 ⊢
        rw [show p_gs (vr I s m) x k ||| 0 = p_gs (vr I s m) x k by simp]
        exact ih2
  have := loop n 0 (by omega)
  simp only [e104_0, e104_1, e104_2, e104_3, mm_pu_n, mm_pu_s, va_rf_s, mm_w8_0, mm_w8_1, mm_w8_2, mm_w8_3, mm_w8_4, mm_c1_n, mm_c1_i, mm_c1_a, mm_ct_a, mm_ct_i, true_and, and_true, and_self, eq_self, if_true, if_false, ite_true, ite_false, bI_t, bI_z, bI_nz, bI_01, true_or, or_true, reduceCtorEq, false_or, or_false, decide_eq_false_iff_not, decide_eq_true_eq, ite_not]
  exact this
end
