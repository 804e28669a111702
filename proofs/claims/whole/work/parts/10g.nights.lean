theorem wz_tb (n : Nat) : (lN n).toBitVec = BitVec.ofNat 64 n := rfl
theorem wz_and {a b : Nat} (ha : a < 2 ^ 64) (hb : b < 2 ^ 64) : lN a &&& lN b = lN (a &&& b) := by
  apply Int64.toBitVec_inj.mp
  rw [Int64.toBitVec_and, wz_tb, wz_tb, wz_tb]
  apply BitVec.eq_of_toNat_eq
  rw [BitVec.toNat_and, BitVec.toNat_ofNat, BitVec.toNat_ofNat, BitVec.toNat_ofNat, Nat.mod_eq_of_lt ha, Nat.mod_eq_of_lt hb, Nat.mod_eq_of_lt (Nat.and_lt_two_pow _ hb)]
def dr (d : Nat) : Nat := (d * 1103515245 + 12345) % 2147483648
theorem dr_lt (d : Nat) : dr d < 2 ^ 31 := Nat.mod_lt _ (by decide)
theorem dr_x {d : Nat} (h : d < 2 ^ 31) : d * 1103515245 + 12345 < 2 ^ 63 := by omega
theorem dr_c {d : Nat} (h : d < 2 ^ 31) : ((nI d).toInt64 * 1103515245 + 12345 &&& 2147483647).toInt32 = nI (dr d) := by
  have hx := dr_x h
  rw [nI_l h, show (1103515245 : Int64) = lN 1103515245 from by decide, show (12345 : Int64) = lN 12345 from by decide, show (2147483647 : Int64) = lN (2 ^ 31 - 1) from by decide, lN_mul, lN_add, wz_and (by omega) (by decide), Nat.and_two_pow_sub_one_eq_mod, lN_i]
  rfl
theorem dr_m {d : Nat} (h : d < 2 ^ 31) : ((nI d).toInt64 * 1103515245 + 12345 - ((nI d).toInt64 * 1103515245 + 12345) / 2147483648 * 2147483648).toInt32 = nI (dr d) := by
  have hx := dr_x h
  rw [nI_l h, show (1103515245 : Int64) = lN 1103515245 from by decide, show (12345 : Int64) = lN 12345 from by decide, show (2147483648 : Int64) = lN 2147483648 from by decide, lN_mul, lN_add, pk_lRem hx (by decide) (by decide), lN_i]
  rfl
def p_dr (L : mm_I) (n d : Nat) : mm_I := if n = 0 then mm_uI L 0 5 (nI d) else mm_uI (mm_uI L 0 5 (nI d)) 2 (d / 65536 % n) (nI (d / 128 % 21))
theorem dl_dr (M : mm_I) (n d : Nat) : dl (p_dr M n d) = p_dr (dl M) n d := by
  unfold p_dr
  split
  · rw [dl_u (by decide)]
  · rw [dl_u (by decide), dl_u (by decide)]
theorem ix_dr {d n : Nat} (hd : d < 2 ^ 31) (hn : 0 < n) (hn6 : n ≤ 6) : nI d / 65536 - nI d / 65536 / nI n * nI n = nI (d / 65536 % n) := by
  have : d / 65536 ≤ d := Nat.div_le_self _ _
  rw [show (65536 : Int32) = nI 65536 from by decide, pk_div hd (by decide) (by decide), pk_rem (by omega) hn (by omega)]
theorem sc_dr {d : Nat} (hd : d < 2 ^ 31) : nI d / 128 - nI d / 128 / 21 * 21 = nI (d / 128 % 21) := by
  have : d / 128 ≤ d := Nat.div_le_self _ _
  rw [show (128 : Int32) = nI 128 from by decide, show (21 : Int32) = nI 21 from by decide, pk_div hd (by decide) (by decide), pk_rem (by omega) (by decide) (by decide)]
theorem rP.tr {p : Nat} {r s t : mm_R} (h1 : rP p r s) (h2 : rP p s t) : rP p r t := ⟨h2.1.trans h1.1, fun a ha => (h2.2.1 a ha).trans (h1.2.1 a ha), h2.2.2.1.trans h1.2.2.1, h2.2.2.2.1.trans h1.2.2.2.1, h2.2.2.2.2.trans h1.2.2.2.2⟩
def nL (f : mm_I → mm_I) (L : mm_I) : Nat → mm_I
  | 0 => L
  | k + 1 => f (nL f L k)
def nb (bn : Nat) : Nat → Nat
  | 0 => bn
  | k + 1 => b_n (nb bn k)
def nB (f : mm_I → mm_I) (L : mm_I) (B : Nat → mm_I) (bn : Nat) : Nat → Nat → mm_I
  | 0 => B
  | k + 1 => b_push (nB f L B bn k) (nb bn k) (nL f L k)
/-- a step of a run of nights keeps the ranges and tells the next night -/
def stp (f : mm_I → mm_I) (n ng : Nat) : Prop := ∀ (M : mm_I) (t : Nat), gl M n ng → M 0 3 = nI t → t + 1 ≤ 9999 → gl (f M) n ng ∧ f M 0 3 = nI (t + 1) ∧ ∀ i, f M 4 i = M 4 i ∧ f M 5 i = M 5 i
theorem nL_gd {f : mm_I → mm_I} {L : mm_I} {B : Nat → mm_I} {bn n ng t0 t : Nat} (hf : stp f n ng) (h : gd L bn B n ng) (h0 : L 0 3 = nI t0) (ht : t0 + t ≤ 9999) : ∀ k, k ≤ t → gd (nL f L k) (nb bn k) (nB f L B bn k) n ng ∧ nL f L k 0 3 = nI (t0 + k) := by
  intro k
  induction k with
  | zero => intro _; exact ⟨h, h0⟩
  | succ k ih =>
    intro hk
    obtain ⟨i1, i2⟩ := ih (by omega)
    obtain ⟨j1, j2, j3⟩ := hf _ _ i1.1 i2 (by omega)
    exact ⟨gd_push i1 j1 j3, j2⟩
theorem p_night_keep (L : mm_I) (n ng : Nat) (s : Int32) : p_night L n ng s 0 3 = L 0 3 + 1 ∧ p_night L n ng s 0 5 = L 0 5 ∧ ∀ i, p_night L n ng s 4 i = L 4 i ∧ p_night L n ng s 5 i = L 5 i := by
  have k : ∀ q i, (q = 4 ∨ q = 5 ∨ (q = 0 ∧ i ≠ 4)) → (if p_win L = true then p_fill L true n else p_int (p_hogs (p_fill L false n) n ng s ng) n) q i = L q i := by
    intro q i hq
    split
    · rw [p_fill_keep _ _ _ _ (by omega)]
    · rw [p_int_keep _ _ _ (by omega), p_hogs_keep _ _ _ _ _ _ (by omega), p_fill_keep _ _ _ _ (by omega)]
  unfold p_night p_nt
  exact ⟨by rw [mu_s, k 0 3 (by omega)], by rw [mu_j (by decide), k 0 5 (by omega)], fun i => ⟨by rw [mu_n (by decide), k 4 i (by omega)], by rw [mu_n (by decide), k 5 i (by omega)]⟩⟩
theorem d_nt_stp {n ng : Nat} (s : Int32) : stp (fun M => d_nt M n ng s) n ng := by
  intro M t hg h0 ht
  obtain ⟨k1, k2, k3⟩ := p_night_keep M n ng s
  obtain ⟨hG, hR, hd, -⟩ := hg
  have e3 : d_nt M n ng s 0 3 = nI (t + 1) := by unfold d_nt; rw [dl_at (by decide), k1, h0, nI_1]
  refine ⟨⟨dl_G.mpr (p_night_G s hG), dl_R.mpr (p_night_R s hR hG), ?_, ⟨t + 1, by omega, e3⟩⟩, e3, fun i => ?_⟩
  · show ∃ d, d < 2 ^ 31 ∧ dl (p_night M n ng s) 0 5 = nI d
    rw [dl_at (by decide), k2]; exact hd
  · show dl (p_night M n ng s) 4 i = M 4 i ∧ dl (p_night M n ng s) 5 i = M 5 i
    rw [dl_at (by decide), dl_at (by decide)]; exact k3 i
theorem p_dr_gl {M : mm_I} {n ng d : Nat} (h : gl M n ng) (hd : d < 2 ^ 31) : gl (p_dr M n d) n ng ∧ p_dr M n d 0 3 = M 0 3 ∧ ∀ i, p_dr M n d 4 i = M 4 i ∧ p_dr M n d 5 i = M 5 i := by
  have h1 : gl (mm_uI M 0 5 (nI d)) n ng := gl_0 h (Or.inr rfl) (fun z => absurd z (by decide)) (fun _ => ⟨d, hd, rfl⟩)
  unfold p_dr
  split
  · exact ⟨h1, mu_j (by decide), fun i => ⟨by rw [mu_n (by decide)], by rw [mu_n (by decide)]⟩⟩
  · exact ⟨gl_h h1 (Or.inr (Or.inl ⟨rfl, _, by omega, rfl⟩)), by rw [mu_n (by decide), mu_j (by decide)], fun i => ⟨by rw [mu_n (by decide), mu_n (by decide)], by rw [mu_n (by decide), mu_n (by decide)]⟩⟩
/-- a step's answer is a day lane, and the same where the lanes are the same -/
def stq (f : mm_I → mm_I) (n ng : Nat) : Prop := ∀ M N : mm_I, gl M n ng → dl M = M → dl N = N → ag (wc n ng) M N → ag (wc n ng) (f M) (f N) ∧ dl (f M) = f M ∧ dl (f N) = f N
theorem d_nt_stq {n ng : Nat} (s : Int32) : stq (fun M => d_nt M n ng s) n ng := fun M N hg h1 h2 h => ⟨s_d_nt h h1 h2 s hg.1, dl_dl _, dl_dl _⟩
theorem nL_gdd {f : mm_I → mm_I} {L Lr : mm_I} {B Br : Nat → mm_I} {bn n ng t0 t : Nat} (hf : stp f n ng) (hf2 : stq f n ng) (h : gdd L Lr bn B Br n ng) (h1 : dl L = L) (h2 : dl Lr = Lr) (h0 : L 0 3 = nI t0) (ht : t0 + t ≤ 9999) : ∀ k, k ≤ t → (gdd (nL f L k) (nL f Lr k) (nb bn k) (nB f L B bn k) (nB f Lr Br bn k) n ng ∧ dl (nL f L k) = nL f L k ∧ dl (nL f Lr k) = nL f Lr k) ∧ nL f L k 0 3 = nI (t0 + k) := by
  intro k
  induction k with
  | zero => intro _; exact ⟨⟨h, h1, h2⟩, h0⟩
  | succ k ih =>
    intro hk
    obtain ⟨⟨i1, i3, i4⟩, i2⟩ := ih (by omega)
    obtain ⟨j1, j2, j3⟩ := hf _ _ i1.1.1 i2 (by omega)
    obtain ⟨k1, k2, k3⟩ := hf _ _ i1.2.1.1 (by rw [← i1.2.2.1 0 3 wc_0]; exact i2) (by omega)
    obtain ⟨q1, q2, q3⟩ := hf2 _ _ i1.1.1 i3 i4 i1.2.2.1
    exact ⟨⟨gdd_push i1 j1 q1 j3 k3, q2, q3⟩, j2⟩
/-- a drift's step -/
def d_df (M : mm_I) (n ng : Nat) : mm_I := d_nt (p_dr M n (dr (M 0 5).toNatClampNeg)) n ng 0
theorem d_df_stp {n ng : Nat} : stp (fun M => d_df M n ng) n ng := by
  intro M t hg h0 ht
  obtain ⟨k1, k2, k3⟩ := p_dr_gl hg (dr_lt (M 0 5).toNatClampNeg)
  obtain ⟨j1, j2, j3⟩ := d_nt_stp 0 _ t k1 (k2.trans h0) ht
  exact ⟨j1, j2, fun i => ⟨(j3 i).1.trans (k3 i).1, (j3 i).2.trans (k3 i).2⟩⟩
section
variable {r : mm_R} {I : mm_I} {a x m : Nat} {Q : Option Value → mm_I → mm_R → Prop}
theorem t_drawSaucer (h : ln_S r a) {n d : Nat} (hn : n ≤ 6) (h0 : vc I a 0 0 = nI n) (hd : d < 2 ^ 31) (h5 : vc I a 0 5 = nI d) (hq : ∀ J, vc J a = p_dr (vc I a) n (dr d) → ln_F a I J → Q none J r) : mm_E 14 0 [some (.ref a)] [] I r Q := by
  have v5 : ∀ (N : mm_I) (y : Int32), vc (mm_uI N a 5 y) a = mm_uI (vc N a) 0 5 y := fun N y => vc_u0 (by decide)
  have e0 : ∀ (y : Int32), mm_uI (vc I a) 0 5 y 0 0 = nI n := fun y => by rw [mu_j (by decide)]; exact h0
  have hdr := dr_lt d
  simp only [e14_0, e14_1, e14_2, e14_5, e14_6, e14_9, e14_10, e14_13, e14_14, e14_17, e14_18, e14_19, e14_22, e14_23, e14_26, mm_pu_n, mm_pu_s, va_rf_s, mm_w8_0, mm_w8_1, mm_w8_2, mm_w8_3, mm_w8_4, mm_c1_n, mm_c1_i, mm_c1_a, mm_ct_a, mm_ct_i, true_and, and_true, and_self, eq_self, if_true, if_false, ite_true, ite_false, bI_t, bI_z, bI_nz, bI_01, true_or, or_true, reduceCtorEq, false_or, or_false, decide_eq_false_iff_not, decide_eq_true_eq, ite_not, h.s0, rd_0 (a := a) (i := 5) (by decide), rd_0 (a := a) (i := 0) (by decide), h5, dr_c hd, v5, e0]
  by_cases c : n = 0
  · subst c
    rw [if_pos (by decide)]
    simp only [e14_57]
    refine hq _ ?_ ln_F.rf.u0
    rw [v5]; rfl
  · have hm6 : dr d / 65536 % n < 6 := Nat.lt_of_lt_of_le (Nat.mod_lt _ (by omega)) hn
    rw [if_neg (nI_nle (by omega) (by omega))]
    simp only [e14_29, e14_30, e14_33, e14_34, e14_37, e14_39, e14_40, e14_41, e14_44, e14_45, e14_46, e14_49, e14_52, e14_53, e14_55, e14_56, e14_57, mm_pu_n, mm_pu_s, va_rf_s, mm_w8_0, mm_w8_1, mm_w8_2, mm_w8_3, mm_w8_4, mm_c1_n, mm_c1_i, mm_c1_a, mm_ct_a, mm_ct_i, true_and, and_true, and_self, eq_self, if_true, if_false, ite_true, ite_false, bI_t, bI_z, bI_nz, bI_01, true_or, or_true, reduceCtorEq, false_or, or_false, decide_eq_false_iff_not, decide_eq_true_eq, ite_not, h.s0, h.p6, h.p7, h.p8, h.p9, h.p10, h.p11, h.p12, h.p13, h.i1, h.i2, h.i3, h.i4, h.i5, h.i6, h.i7, h.i8, rd_0 (a := a) (i := 5) (by decide), rd_0 (a := a) (i := 0) (by decide), v5, e0, mu_s, ix_dr hdr (show 0 < n by omega) hn, sc_dr hdr, in6 hm6, cl_nI hm6, nI_ne0 (show 0 < n by omega) (show n < 2 ^ 31 by omega), show ¬ ((65536 : Int32) = 0) by decide, show ¬ ((128 : Int32) = 0) by decide, show ¬ ((21 : Int32) = 0) by decide, not_false_eq_true]
    refine hq _ ?_ (ln_F.rf.u0.u (by decide))
    rw [vc_u ⟨by decide, hm6⟩, v5]
    unfold p_dr
    rw [if_neg c]
/-- the class's run of nights -/
theorem c_nights {sg : Nat → Nat} {L : mm_I} {bn : Nat} {B : Nat → mm_I} {n ng t : Nat} (hS : HS r x m) (hps : pa_S r (x + 19) sg) (hL : dl (vc I (x + 1)) = L) (hpv : pa_V I (x + 19) sg bn B) (hgd : ∀ k, k ≤ t → gl (nL (fun M => d_nt M n ng 0) L k) n ng) (ht : t ≤ 40) (hq : ∀ J r' sg', rP (x + 19) r r' → pa_S r' (x + 19) sg' → dl (vc J (x + 1)) = nL (fun M => d_nt M n ng 0) L t → pa_V J (x + 19) sg' (nb bn t) (nB (fun M => d_nt M n ng 0) L B bn t) → (∀ q, ¬ (x + 1 ≤ q ∧ q < x + 93) → J q = I q) → Q (some (.int (p_ls (nL (fun M => d_nt M n ng 0) L t) n))) J r') : mm_E 58 30 [some (.ref x), some (.int (nI t)), none] [] I r Q := by
  have loop : ∀ d k J r' sg', k + d = t → rP (x + 19) r r' → pa_S r' (x + 19) sg' → dl (vc J (x + 1)) = nL (fun M => d_nt M n ng 0) L k → pa_V J (x + 19) sg' (nb bn k) (nB (fun M => d_nt M n ng 0) L B bn k) → (∀ q, ¬ (x + 1 ≤ q ∧ q < x + 93) → J q = I q) → mm_E 58 32 [some (.ref x), some (.int (nI t)), some (.int (nI k))] [] J r' Q := by
    intro d
    induction d with
    | zero =>
      intro k J r' sg' hk hr hs1 hJ hV hF
      have : k = t := by omega
      subst this
      have hS2 := HS_P hS hr
      obtain ⟨y0, y1, -⟩ := id hS2.2.1
      have l1 := hS2.2.2.1.1
      have hG := (hgd k (Nat.le_refl _)).1
      have f0 : vc J (x + 1) 0 0 = nI n := by rw [← dl_at (M := vc J (x + 1)) (show 0 < 7 by decide), hJ]; exact hG.1.2
      rw [e58_32]
      simp only [e58_33, e58_34, e58_62, e58_63, e58_66, e58_69, mm_pu_n, mm_pu_s, va_rf_s, mm_w8_0, mm_w8_1, mm_w8_2, mm_w8_3, mm_w8_4, mm_c1_n, mm_c1_i, mm_c1_a, mm_ct_a, mm_ct_i, true_and, and_true, and_self, eq_self, if_true, if_false, ite_true, ite_false, bI_t, bI_z, bI_nz, bI_01, true_or, or_true, reduceCtorEq, false_or, or_false, decide_eq_false_iff_not, decide_eq_true_eq, ite_not, Int32.le_refl, y0, y1, l1.s0, t_lostSet l1 hG.1.1 f0]
      rw [ag_ls (N := nL (fun M => d_nt M n ng 0) L k) (fun i => by rw [← hJ, dl_at (by decide)])]
      exact hq J r' sg' hr hs1 hJ hV hF
    | succ d ih =>
      intro k J r' sg' hk hr hs1 hJ hV hF
      have hS2 := HS_P hS hr
      obtain ⟨y0, y1, y2, y3, -⟩ := id hS2.2.1
      have l1 := hS2.2.2.1.1
      rw [e58_32]
      simp only [e58_33, e58_34, e58_37, e58_38, e58_41, e58_42, e58_45, mm_pu_n, mm_pu_s, va_rf_s, mm_w8_0, mm_w8_1, mm_w8_2, mm_w8_3, mm_w8_4, mm_c1_n, mm_c1_i, mm_c1_a, mm_ct_a, mm_ct_i, true_and, and_true, and_self, eq_self, if_true, if_false, ite_true, ite_false, bI_t, bI_z, bI_nz, bI_01, true_or, or_true, reduceCtorEq, false_or, or_false, decide_eq_false_iff_not, decide_eq_true_eq, ite_not, nI_ge (show k < t by omega) (show t < 2 ^ 31 by omega), y0, y1, y3, hs1.1]
      refine t_remember hs1 hV l1 (by omega) (fun J2 r2 sg2 hr2 hs2 hV2 hF2 => ?_)
      have hS3 := HS_P hS2 hr2
      obtain ⟨z0, z1, -⟩ := id hS3.2.1
      have l3 := hS3.2.2.1.1
      simp only [mm_pu_n, e58_48, e58_49, e58_52, e58_53, mm_pu_n, mm_pu_s, va_rf_s, mm_w8_0, mm_w8_1, mm_w8_2, mm_w8_3, mm_w8_4, mm_c1_n, mm_c1_i, mm_c1_a, mm_ct_a, mm_ct_i, true_and, and_true, and_self, eq_self, if_true, if_false, ite_true, ite_false, bI_t, bI_z, bI_nz, bI_01, true_or, or_true, reduceCtorEq, false_or, or_false, decide_eq_false_iff_not, decide_eq_true_eq, ite_not, z0, z1, l3.s0]
      have eJ2 : vc J2 (x + 1) = vc J (x + 1) := vc_eq (fun q a b => hF2 q (by omega))
      have hGk := (hgd k (by omega)).1
      have hGJ2 : ln_G (vc J2 (x + 1)) n ng := by rw [eJ2]; exact dl_G.mp (by rw [hJ]; exact hGk)
      refine t_passNight l3 hGJ2 0 (fun K hK hFK => ?_)
      simp only [mm_pu_n, e58_56, e58_59, mm_pu_n, mm_pu_s, va_rf_s, mm_w8_0, mm_w8_1, mm_w8_2, mm_w8_3, mm_w8_4, mm_c1_n, mm_c1_i, mm_c1_a, mm_ct_a, mm_ct_i, true_and, and_true, and_self, eq_self, if_true, if_false, ite_true, ite_false, bI_t, bI_z, bI_nz, bI_01, true_or, or_true, reduceCtorEq, false_or, or_false, decide_eq_false_iff_not, decide_eq_true_eq, ite_not, nI_1]
      refine ih (k + 1) K r2 sg2 (by omega) (hr.tr hr2) hs2 ?_ ⟨⟨hV2.1.1, ?_⟩, fun i hi => ?_⟩ (fun q hq => by rw [hFK q (by omega), hF2 q (by omega)]; exact hF q hq)
      · rw [hK, d_nt_dl 0 hGJ2, eJ2, hJ]; rfl
      · rw [rd_F (hFK _ (by omega))]; exact hV2.1.2
      · have hle := hV2.1.1
        have hi' : i < b_n (nb bn k) := hi
        have l2 := (hs2.2.2.2.2.1 i (by omega)).1
        rw [vc_F (a := x + 1) (by unfold dj; omega) hFK, hV2.2 i hi', hJ]
        rfl
  simp only [e58_30, e58_31, mm_pu_n, mm_pu_s, va_rf_s, mm_w8_0, mm_w8_1, mm_w8_2, mm_w8_3, mm_w8_4, mm_c1_n, mm_c1_i, mm_c1_a, mm_ct_a, mm_ct_i, true_and, and_true, and_self, eq_self, if_true, if_false, ite_true, ite_false, bI_t, bI_z, bI_nz, bI_01, true_or, or_true, reduceCtorEq, false_or, or_false, decide_eq_false_iff_not, decide_eq_true_eq, ite_not]
  exact loop t 0 I r sg (by omega) rP.rf hps hL hpv (fun _ _ => rfl)
/-- the reference's -/
theorem m_nights {L : mm_I} {bn : Nat} {B : Nat → mm_I} {n ng t : Nat} (hml : ml_S r m) (hR : dl (vr I (m + 5) m) = L) (hB : ml_B I (m + 5) bn B) (hgd : ∀ k, k ≤ t → gl (nL (fun M => d_nt M n ng 0) L k) n ng) (ht : t ≤ 40) (hq : ∀ J, dl (vr J (m + 5) m) = nL (fun M => d_nt M n ng 0) L t → ml_B J (m + 5) (nb bn t) (nB (fun M => d_nt M n ng 0) L B bn t) → (∀ q, q ≠ m + 5 → q ≠ m + 9 → q ≠ m + 10 → J q = I q) → Q (some (.int (p_ls (nL (fun M => d_nt M n ng 0) L t) n))) J r) : mm_E 128 29 [some (.ref m), some (.int (nI t)), none] [] I r Q := by
  have hsr : rw_ok (m + 5) m := ⟨by omega, by omega⟩
  have loop : ∀ d k J, k + d = t → dl (vr J (m + 5) m) = nL (fun M => d_nt M n ng 0) L k → ml_B J (m + 5) (nb bn k) (nB (fun M => d_nt M n ng 0) L B bn k) → (∀ q, q ≠ m + 5 → q ≠ m + 9 → q ≠ m + 10 → J q = I q) → mm_E 128 31 [some (.ref m), some (.int (nI t)), some (.int (nI k))] [] J r Q := by
    intro d
    induction d with
    | zero =>
      intro k J hk hJ hV hF
      have : k = t := by omega
      subst this
      have hgk := hgd k (Nat.le_refl _)
      have f0 : vr J (m + 5) m 0 0 = nI n := by rw [← dl_at (M := vr J (m + 5) m) (show 0 < 7 by decide), hJ]; exact hgk.1.1.2
      have hlk : ∀ i, i < n → (vr J (m + 5) m 3 i = 3) = (3 ≤ vr J (m + 5) m 3 i) := fun i hi => (dl_R.mp (by rw [hJ]; exact hgk.2.1)).lk hi
      rw [e128_31]
      simp only [e128_32, e128_33, e128_55, e128_56, e128_59, e128_62, mm_pu_n, mm_pu_s, va_rf_s, mm_w8_0, mm_w8_1, mm_w8_2, mm_w8_3, mm_w8_4, mm_c1_n, mm_c1_i, mm_c1_a, mm_ct_a, mm_ct_i, true_and, and_true, and_self, eq_self, if_true, if_false, ite_true, ite_false, bI_t, bI_z, bI_nz, bI_01, true_or, or_true, reduceCtorEq, false_or, or_false, decide_eq_false_iff_not, decide_eq_true_eq, ite_not, Int32.le_refl, hml.s0, hml.p7, u_lostOnes m hml.i5 hgk.1.1.1 f0 hlk]
      rw [ag_ls (N := nL (fun M => d_nt M n ng 0) L k) (fun i => by rw [← hJ, dl_at (by decide)])]
      exact hq J hJ hV hF
    | succ d ih =>
      intro k J hk hJ hV hF
      have hgk := hgd k (by omega)
      rw [e128_31]
      simp only [e128_32, e128_33, e128_36, e128_37, mm_pu_n, mm_pu_s, va_rf_s, mm_w8_0, mm_w8_1, mm_w8_2, mm_w8_3, mm_w8_4, mm_c1_n, mm_c1_i, mm_c1_a, mm_ct_a, mm_ct_i, true_and, and_true, and_self, eq_self, if_true, if_false, ite_true, ite_false, bI_t, bI_z, bI_nz, bI_01, true_or, or_true, reduceCtorEq, false_or, or_false, decide_eq_false_iff_not, decide_eq_true_eq, ite_not, nI_ge (show k < t by omega) (show t < 2 ^ 31 by omega), hml.s0]
      refine u_note hml hV (fun J2 h1 h2 h3 => ?_)
      simp only [mm_pu_n, e128_40, e128_41, e128_42, e128_45, e128_46, mm_pu_n, mm_pu_s, va_rf_s, mm_w8_0, mm_w8_1, mm_w8_2, mm_w8_3, mm_w8_4, mm_c1_n, mm_c1_i, mm_c1_a, mm_ct_a, mm_ct_i, true_and, and_true, and_self, eq_self, if_true, if_false, ite_true, ite_false, bI_t, bI_z, bI_nz, bI_01, true_or, or_true, reduceCtorEq, false_or, or_false, decide_eq_false_iff_not, decide_eq_true_eq, ite_not, hml.s0, hml.p7]
      have e2 : dl (vr J2 (m + 5) m) = nL (fun M => d_nt M n ng 0) L k := by rw [← hJ]; exact vr_row h2
      have hGJ2 : ln_G (vr J2 (m + 5) m) n ng := dl_G.mp (by rw [e2]; exact hgk.1)
      refine u_nightIn hml hml.i5 hsr hGJ2 (dl_R.mp (by rw [e2]; exact hgk.2.1)) 0 (fun K hK hFK => ?_)
      simp only [mm_pu_n, e128_49, e128_52, mm_pu_n, mm_pu_s, va_rf_s, mm_w8_0, mm_w8_1, mm_w8_2, mm_w8_3, mm_w8_4, mm_c1_n, mm_c1_i, mm_c1_a, mm_ct_a, mm_ct_i, true_and, and_true, and_self, eq_self, if_true, if_false, ite_true, ite_false, bI_t, bI_z, bI_nz, bI_01, true_or, or_true, reduceCtorEq, false_or, or_false, decide_eq_false_iff_not, decide_eq_true_eq, ite_not, nI_1]
      refine ih (k + 1) K (by omega) ?_ ?_ (fun q a b c => by rw [hFK.1 q a b c, h1 q a]; exact hF q a b c)
      · rw [hK, d_nt_dl 0 hGJ2, e2]; rfl
      · rw [hJ] at h3
        exact ml_B_keep h3 (fun i a b => hFK.2 i a)
  simp only [e128_29, e128_30, mm_pu_n, mm_pu_s, va_rf_s, mm_w8_0, mm_w8_1, mm_w8_2, mm_w8_3, mm_w8_4, mm_c1_n, mm_c1_i, mm_c1_a, mm_ct_a, mm_ct_i, true_and, and_true, and_self, eq_self, if_true, if_false, ite_true, ite_false, bI_t, bI_z, bI_nz, bI_01, true_or, or_true, reduceCtorEq, false_or, or_false, decide_eq_false_iff_not, decide_eq_true_eq, ite_not]
  exact loop t 0 I (by omega) hR hB (fun _ _ _ _ => rfl)
theorem a_nights (h : ALL I r x m) (t : Int32) : pr 58 128 [some (.ref x), some (.int t), none] [some (.ref m), some (.int t), none] I r x m := by
  obtain ⟨hS, ⟨sg, L, bn, B, n, ng, Lr, Br, hg⟩, hG2, hG3, hG4⟩ := id h
  obtain ⟨hm, hx, ⟨l1, l2, l3, l4⟩, hip, hpt, htp, hsh, hml⟩ := id hS
  obtain ⟨x0, x1, x2, x3, x4, x5, x6, x7, x8⟩ := id hx
  obtain ⟨⟨hps, hL, hpv⟩, ⟨hR, hB⟩, ⟨⟨⟨hG, hRR, hdr, hnt⟩, hbk⟩, ⟨⟨hG', hRR', hdr', hnt'⟩, hbk'⟩, hsm, hsB⟩⟩ := id hg
  have hLL : dl L = L := by rw [← hL]; exact dl_dl _
  have hLr : dl Lr = Lr := by rw [← hR]; exact dl_dl _
  have hs6 := s_6 hsm hLL hLr
  have vL : ∀ q i, q < 7 → vc I (x + 1) q i = L q i := fun q i hq => by rw [← hL, dl_at hq]
  have vR : ∀ q i, q < 7 → vr I (m + 5) m q i = Lr q i := fun q i hq => by rw [← hR, dl_at hq]
  have vRh : ∀ {k : Nat}, k < n → ∀ q, 1 ≤ q ∧ q ≤ 3 → vr I (m + 5) m q k = L q k := fun hk q hq => (vR q _ (by omega)).trans (hsm q _ (wc_h hq hk)).symm
  have vRg : ∀ {k : Nat}, k < ng → ∀ q, 4 ≤ q ∧ q ≤ 6 → vr I (m + 5) m q k = L q k := fun hk q hq => (vR q _ (by omega)).trans (hsm q _ (wc_g hq hk)).symm
  obtain ⟨⟨hn, e0⟩, ⟨hng, e1⟩, hpl⟩ := id hG
  have f0 : vc I (x + 1) 0 0 = nI n := by rw [vL 0 0 (by decide)]; exact e0
  have f1 : vc I (x + 1) 0 1 = nI ng := by rw [vL 0 1 (by decide)]; exact e1
  have g0 : vr I (m + 5) m 0 0 = nI n := by rw [vR 0 0 (by decide)]; exact hG'.1.2
  have g1 : vr I (m + 5) m 0 1 = nI ng := by rw [vR 0 1 (by decide)]; exact hG'.2.1.2
  unfold pr
  cases hk : wth t 1 40 with
  | false =>
    simp only [e58_0, e58_1, e58_2, e58_4, e58_7, e58_10, e58_11, e58_12, e58_13, e58_16, e58_19, e58_20, e58_21, e58_24, e58_27, e58_29, e58_30, e58_31, e58_32, e58_33, e58_34, e58_37, e58_38, e58_41, e58_42, e58_45, e58_48, e58_49, e58_52, e58_53, e58_56, e58_59, e58_62, e58_63, e58_66, e58_69, e128_0, e128_1, e128_2, e128_4, e128_7, e128_10, e128_11, e128_12, e128_13, e128_16, e128_17, e128_18, e128_19, e128_20, e128_23, e128_26, e128_28, e128_29, e128_30, e128_31, e128_32, e128_33, e128_36, e128_37, e128_40, e128_41, e128_42, e128_45, e128_46, e128_49, e128_52, e128_55, e128_56, e128_59, e128_62, mm_pu_n, mm_pu_s, va_rf_s, mm_w8_0, mm_w8_1, mm_w8_2, mm_w8_3, mm_w8_4, mm_c1_n, mm_c1_i, mm_c1_a, mm_ct_a, mm_ct_i, true_and, and_true, and_self, eq_self, if_true, if_false, ite_true, ite_false, bI_t, bI_z, bI_nz, bI_01, true_or, or_true, reduceCtorEq, false_or, or_false, decide_eq_false_iff_not, decide_eq_true_eq, ite_not, t_within, u_inw, hk, Bool.false_eq_true]
    exact fi_i _ h rfl rfl
  | true =>
    obtain ⟨t', ht1, ht, rfl⟩ := wth_of hk (a := 1) (b := 40) (by decide) (by decide) (by decide) (by decide)
    obtain ⟨t0, ht0, et0⟩ := id hnt
    simp only [e58_0, e58_1, e58_2, e58_4, e58_7, e58_10, e58_11, e58_12, e58_13, e58_16, e58_19, e58_20, e58_21, e58_24, e58_27, e58_29, mm_pu_n, mm_pu_s, va_rf_s, mm_w8_0, mm_w8_1, mm_w8_2, mm_w8_3, mm_w8_4, mm_c1_n, mm_c1_i, mm_c1_a, mm_ct_a, mm_ct_i, true_and, and_true, and_self, eq_self, if_true, if_false, ite_true, ite_false, bI_t, bI_z, bI_nz, bI_01, true_or, or_true, reduceCtorEq, false_or, or_false, decide_eq_false_iff_not, decide_eq_true_eq, ite_not, x0, x1, x2, x3, x4, x5, x6, x7, x8, l1.s0, l1.p6, l1.p7, l1.p8, l1.p9, l1.p10, l1.p11, l1.p12, l1.p13, l1.i1, l1.i2, l1.i3, l1.i4, l1.i5, l1.i6, l1.i7, l1.i8, t_within, hk, Bool.true_eq_false, rd_0 (a := x + 1) (i := 3) (by decide), vL 0 3 (by decide), et0, nI_add]
    by_cases c : t0 + t' ≤ 9999
    · rw [if_pos (by rw [show (9999 : Int32) = nI 9999 from by decide]; exact nI_le c (by decide))]
      have hall := nL_gdd (t := t') (d_nt_stp 0) (d_nt_stq 0) hg.2.2 hLL hLr et0 c
      refine c_nights hS hps hL hpv (fun k hk => (hall k hk).1.1.1.1) ht (fun J r' sg' hr hs1 hJ hV hF => ?_)
      have hS2 := HS_P hS hr
      have hml' : ml_S r' m := hS2.2.2.2.2.2.2.2
      obtain ⟨q1, q2⟩ := rM (I1 := J) ⟨hR, hB⟩ (hF _ (by omega))
      have gJ3 : vr J (m + 5) m 0 3 = nI t0 := by rw [← dl_at (M := vr J (m + 5) m) (show 0 < 7 by decide), q1, ← hsm 0 3 wc_0]; exact et0
      simp only [e128_0, e128_1, e128_2, e128_4, e128_7, e128_10, e128_11, e128_12, e128_13, e128_16, e128_17, e128_18, e128_19, e128_20, e128_23, e128_26, e128_28, mm_pu_n, mm_pu_s, va_rf_s, mm_w8_0, mm_w8_1, mm_w8_2, mm_w8_3, mm_w8_4, mm_c1_n, mm_c1_i, mm_c1_a, mm_ct_a, mm_ct_i, true_and, and_true, and_self, eq_self, if_true, if_false, ite_true, ite_false, bI_t, bI_z, bI_nz, bI_01, true_or, or_true, reduceCtorEq, false_or, or_false, decide_eq_false_iff_not, decide_eq_true_eq, ite_not, hml'.s0, hml'.p7, hml'.i5, u_inw, hk, Bool.true_eq_false, c27.2.2.2.1, d27.2.2.2.1, r0 m, gJ3, nI_add]
      rw [if_pos (by rw [show (9999 : Int32) = nI 9999 from by decide]; exact nI_le c (by decide))]
      rw [s_ls (hall t' (Nat.le_refl _)).1.1.2.2.1 n (Nat.le_refl _)]
      refine m_nights hml' q1 q2 (fun k hk => (hall k hk).1.1.2.1.1) ht (fun K hK hKB hKF => ?_)
      exact fi_i _ (ALL_mk h hS2 hr.1 ⟨hs1, hJ, hV⟩ hF ⟨hK, hKB⟩ hKF (hall t' (Nat.le_refl _)).1.1) hr.2.2.2.1 hr.2.2.2.2
    · have nc : ¬ nI (t0 + t') ≤ 9999 := by rw [show (9999 : Int32) = nI 9999 from by decide]; exact nI_ge (by omega) (by omega)
      rw [if_neg nc]
      simp only [e128_0, e128_1, e128_2, e128_4, e128_7, e128_10, e128_11, e128_12, e128_13, e128_16, e128_17, e128_18, e128_19, e128_20, e128_23, e128_26, e128_28, mm_pu_n, mm_pu_s, va_rf_s, mm_w8_0, mm_w8_1, mm_w8_2, mm_w8_3, mm_w8_4, mm_c1_n, mm_c1_i, mm_c1_a, mm_ct_a, mm_ct_i, true_and, and_true, and_self, eq_self, if_true, if_false, ite_true, ite_false, bI_t, bI_z, bI_nz, bI_01, true_or, or_true, reduceCtorEq, false_or, or_false, decide_eq_false_iff_not, decide_eq_true_eq, ite_not, hml.s0, hml.p7, hml.i5, u_inw, hk, Bool.true_eq_false, c27.2.2.2.1, d27.2.2.2.1, r0 m, vR 0 3 (by decide), ← hsm 0 3 wc_0, et0, nI_add]
      rw [if_neg nc]
      exact fi_i _ h rfl rfl
end
