section
variable (ls : mm_L) (st : List Value) (I : mm_I) (r : mm_R) (Q : Option Value → mm_I → mm_R → Prop) (l0 l1 l2 l3 l4 l5 l6 l7 l8 l9 l10 l11 l12 l13 l14 : Option Value) (x y : Int32) (z w : Int64) (a b : Nat) (v u : Value)
theorem mc_32 : mm_c 32 = cX3_begin := rfl
theorem e32_0 : mm_E 32 0 [some (.ref a), l1, l2, l3] st I r Q ↔ mm_E 32 1 [some (.ref a), l1, l2, l3] (.ref a :: st) I r Q := me_al mc_32 dX3_begin_0 rfl
theorem e32_1 : mm_E 32 1 ls st I r Q ↔ mm_E 32 2 ls (.int 1 :: st) I r Q := me_ic mc_32 dX3_begin_1 (by decide)
theorem e32_2 : mm_E 32 2 ls (.int x :: .ref a :: st) I r Q ↔ (mm_S r a = (1, 3) ∧ (x = 0 ∨ x = 1)) ∧ mm_E 32 5 ls st (mm_uI I a 0 x) r Q := me_pb mc_32 dX3_begin_2 (by decide +kernel) (by decide +kernel)
theorem e32_5 : mm_E 32 5 [some (.ref a), l1, l2, l3] st I r Q ↔ mm_E 32 6 [some (.ref a), l1, l2, l3] (.ref a :: st) I r Q := me_al mc_32 dX3_begin_5 rfl
theorem e32_6 : mm_E 32 6 [l0, some (.int x), l2, l3] st I r Q ↔ mm_E 32 7 [l0, some (.int x), l2, l3] (.int x :: st) I r Q := me_il mc_32 dX3_begin_6 rfl
theorem e32_7 : mm_E 32 7 ls (.int x :: .ref a :: st) I r Q ↔ mm_S r a = (1, 3) ∧ mm_E 32 10 ls st (mm_uI I a 1 x) r Q := me_pi mc_32 dX3_begin_7 (by decide +kernel) (by decide +kernel)
theorem e32_10 : mm_E 32 10 [some (.ref a), l1, l2, l3] st I r Q ↔ mm_E 32 11 [some (.ref a), l1, l2, l3] (.ref a :: st) I r Q := me_al mc_32 dX3_begin_10 rfl
theorem e32_11 : mm_E 32 11 [l0, l1, some (.int x), l3] st I r Q ↔ mm_E 32 12 [l0, l1, some (.int x), l3] (.int x :: st) I r Q := me_il mc_32 dX3_begin_11 rfl
theorem e32_12 : mm_E 32 12 ls (.int x :: .ref a :: st) I r Q ↔ mm_S r a = (1, 3) ∧ mm_E 32 15 ls st (mm_uI I a 2 x) r Q := me_pi mc_32 dX3_begin_12 (by decide +kernel) (by decide +kernel)
theorem e32_15 : mm_E 32 15 ls st I r Q ↔ mm_E 32 16 ls (.int 0 :: st) I r Q := me_ic mc_32 dX3_begin_15 (by decide)
theorem e32_16 : mm_E 32 16 [l0, l1, l2, l3] (.int x :: st) I r Q ↔ mm_c1 l2 ∧ mm_E 32 17 [l0, l1, l2, some (.int x)] st I r Q := me_st (k := 3) (v := .int x) mc_32 dX3_begin_16 rfl rfl (Nat.le_of_ble_eq_true rfl) rfl ⟨Or.inr, fun h => h.resolve_left (by decide)⟩
theorem e32_17 : mm_E 32 17 [l0, l1, l2, some (.int x)] st I r Q ↔ mm_E 32 18 [l0, l1, l2, some (.int x)] (.int x :: st) I r Q := me_il mc_32 dX3_begin_17 rfl
theorem e32_18 : mm_E 32 18 ls st I r Q ↔ mm_E 32 20 ls (.int 24 :: st) I r Q := me_bi mc_32 dX3_begin_18 (by decide)
theorem e32_20 : mm_E 32 20 ls (.int y :: .int x :: st) I r Q ↔ if y ≤ x then mm_E 32 36 ls st I r Q else mm_E 32 23 ls st I r Q := me_cge mc_32 dX3_begin_20 (by decide)
theorem e32_23 : mm_E 32 23 [some (.ref a), l1, l2, l3] st I r Q ↔ mm_E 32 24 [some (.ref a), l1, l2, l3] (.ref a :: st) I r Q := me_al mc_32 dX3_begin_23 rfl
theorem e32_24 : mm_E 32 24 ls (.ref a :: st) I r Q ↔ mm_S r a = (1, 3) ∧ mm_E 32 27 ls (va_rf (mm_P r a 3) :: st) I r Q := me_gr mc_32 dX3_begin_24 (by decide +kernel) rfl
theorem e32_27 : mm_E 32 27 [l0, l1, l2, some (.int x)] st I r Q ↔ mm_E 32 28 [l0, l1, l2, some (.int x)] (.int x :: st) I r Q := me_il mc_32 dX3_begin_27 rfl
theorem e32_28 : mm_E 32 28 ls st I r Q ↔ mm_E 32 29 ls (.long 0 :: st) I r Q := me_lc mc_32 dX3_begin_28 (by decide)
theorem e32_29 : mm_E 32 29 ls (.long z :: .int x :: .ref a :: st) I r Q ↔ mm_ix r a 3 x ∧ mm_E 32 30 ls st I (mm_uG r a x.toNatClampNeg z) Q := me_ls mc_32 dX3_begin_29
theorem e32_30 : mm_E 32 30 [l0, l1, l2, some (.int x)] st I r Q ↔ mm_c1 l2 ∧ mm_E 32 33 [l0, l1, l2, some (.int (x + 1))] st I r Q := me_st (k := 3) (v := .int (x + 1)) mc_32 dX3_begin_30 rfl rfl (Nat.le_of_ble_eq_true rfl) rfl ⟨Or.inr, fun h => h.resolve_left (by decide)⟩
theorem e32_33 : mm_E 32 33 ls st I r Q ↔ mm_E 32 17 ls st I r Q := me_goto mc_32 dX3_begin_33 (by decide)
theorem e32_36 : mm_E 32 36 ls [] I r Q ↔ Q none I r := me_rv mc_32 dX3_begin_36 rfl
theorem mc_33 : mm_c 33 = cX3_hasItems := rfl
theorem e33_0 : mm_E 33 0 [l0, some (.int x), l2] st I r Q ↔ mm_E 33 1 [l0, some (.int x), l2] (.int x :: st) I r Q := me_il mc_33 dX3_hasItems_0 rfl
theorem e33_1 : mm_E 33 1 ls (.int x :: st) I r Q ↔ if x < 0 then mm_E 33 22 ls st I r Q else mm_E 33 4 ls st I r Q := me_zlt mc_33 dX3_hasItems_1 (by decide)
theorem e33_4 : mm_E 33 4 [l0, l1, some (.int x)] st I r Q ↔ mm_E 33 5 [l0, l1, some (.int x)] (.int x :: st) I r Q := me_il mc_33 dX3_hasItems_4 rfl
theorem e33_5 : mm_E 33 5 ls (.int x :: st) I r Q ↔ if x < 0 then mm_E 33 22 ls st I r Q else mm_E 33 8 ls st I r Q := me_zlt mc_33 dX3_hasItems_5 (by decide)
theorem e33_8 : mm_E 33 8 [l0, some (.int x), l2] st I r Q ↔ mm_E 33 9 [l0, some (.int x), l2] (.int x :: st) I r Q := me_il mc_33 dX3_hasItems_8 rfl
theorem e33_9 : mm_E 33 9 [some (.ref a), l1, l2] st I r Q ↔ mm_E 33 10 [some (.ref a), l1, l2] (.ref a :: st) I r Q := me_al mc_33 dX3_hasItems_9 rfl
theorem e33_10 : mm_E 33 10 ls (.ref a :: st) I r Q ↔ mm_S r a = (1, 3) ∧ mm_E 33 13 ls (.int (mm_rd I a 2) :: st) I r Q := me_gi mc_33 dX3_hasItems_10 (by decide +kernel) rfl
theorem e33_13 : mm_E 33 13 [l0, l1, some (.int x)] st I r Q ↔ mm_E 33 14 [l0, l1, some (.int x)] (.int x :: st) I r Q := me_il mc_33 dX3_hasItems_13 rfl
theorem e33_14 : mm_E 33 14 ls (.int y :: .int x :: st) I r Q ↔ mm_E 33 15 ls (.int (x - y) :: st) I r Q := me_isub mc_33 dX3_hasItems_14
theorem e33_15 : mm_E 33 15 ls (.int y :: .int x :: st) I r Q ↔ if y < x then mm_E 33 22 ls st I r Q else mm_E 33 18 ls st I r Q := me_cgt mc_33 dX3_hasItems_15 (by decide)
theorem e33_18 : mm_E 33 18 ls st I r Q ↔ mm_E 33 19 ls (.int 1 :: st) I r Q := me_ic mc_33 dX3_hasItems_18 (by decide)
theorem e33_19 : mm_E 33 19 ls st I r Q ↔ mm_E 33 23 ls st I r Q := me_goto mc_33 dX3_hasItems_19 (by decide)
theorem e33_22 : mm_E 33 22 ls st I r Q ↔ mm_E 33 23 ls (.int 0 :: st) I r Q := me_ic mc_33 dX3_hasItems_22 (by decide)
theorem e33_23 : mm_E 33 23 ls [.int x] I r Q ↔ (x = 0 ∨ x = 1) ∧ Q (some (.int x)) I r := me_rz mc_33 dX3_hasItems_23 rfl
theorem mc_34 : mm_c 34 = cX3_refusal := rfl
theorem e34_0 : mm_E 34 0 [some (.ref a), l1, l2, l3] st I r Q ↔ mm_E 34 1 [some (.ref a), l1, l2, l3] (.ref a :: st) I r Q := me_al mc_34 dX3_refusal_0 rfl
theorem e34_1 : mm_E 34 1 ls (.ref a :: st) I r Q ↔ mm_S r a = (1, 3) ∧ mm_E 34 4 ls (.int (mm_rd I a 0) :: st) I r Q := me_gi mc_34 dX3_refusal_1 (by decide +kernel) rfl
theorem e34_4 : mm_E 34 4 ls (.int x :: st) I r Q ↔ if ¬ x = 0 then mm_E 34 10 ls st I r Q else mm_E 34 7 ls st I r Q := me_zne mc_34 dX3_refusal_4 (by decide)
theorem e34_7 : mm_E 34 7 ls st I r Q ↔ mm_E 34 9 ls (.int (-11) :: st) I r Q := me_bi mc_34 dX3_refusal_7 (by decide)
theorem e34_9 : mm_E 34 9 ls [.int x] I r Q ↔ Q (some (.int x)) I r := me_ri mc_34 dX3_refusal_9 rfl
theorem e34_10 : mm_E 34 10 [some (.ref a), l1, l2, l3] st I r Q ↔ mm_E 34 11 [some (.ref a), l1, l2, l3] (.ref a :: st) I r Q := me_al mc_34 dX3_refusal_10 rfl
theorem e34_11 : mm_E 34 11 ls (.ref a :: st) I r Q ↔ mm_S r a = (1, 3) ∧ mm_E 34 14 ls (.int (mm_rd I a 1) :: st) I r Q := me_gi mc_34 dX3_refusal_11 (by decide +kernel) rfl
theorem e34_14 : mm_E 34 14 [l0, some (.int x), l2, l3] st I r Q ↔ mm_E 34 15 [l0, some (.int x), l2, l3] (.int x :: st) I r Q := me_il mc_34 dX3_refusal_14 rfl
theorem e34_15 : mm_E 34 15 ls (.int y :: .int x :: st) I r Q ↔ if x = y then mm_E 34 21 ls st I r Q else mm_E 34 18 ls st I r Q := me_ceq mc_34 dX3_refusal_15 (by decide)
theorem e34_18 : mm_E 34 18 ls st I r Q ↔ mm_E 34 20 ls (.int (-12) :: st) I r Q := me_bi mc_34 dX3_refusal_18 (by decide)
theorem e34_20 : mm_E 34 20 ls [.int x] I r Q ↔ Q (some (.int x)) I r := me_ri mc_34 dX3_refusal_20 rfl
theorem e34_21 : mm_E 34 21 [some (.ref a), l1, l2, l3] st I r Q ↔ mm_E 34 22 [some (.ref a), l1, l2, l3] (.ref a :: st) I r Q := me_al mc_34 dX3_refusal_21 rfl
theorem e34_22 : mm_E 34 22 [l0, l1, some (.int x), l3] st I r Q ↔ mm_E 34 23 [l0, l1, some (.int x), l3] (.int x :: st) I r Q := me_il mc_34 dX3_refusal_22 rfl
theorem e34_23 : mm_E 34 23 [l0, l1, l2, some (.int x)] st I r Q ↔ mm_E 34 24 [l0, l1, l2, some (.int x)] (.int x :: st) I r Q := me_il mc_34 dX3_refusal_23 rfl
theorem e34_24 : ∀ (x0 : Int32) (x1 : Int32), (mm_E 34 24 ls (.int x1 :: .int x0 :: .ref a :: st) I r Q ↔ (mm_w8 st = true ∧ mm_S r a = (1, 3)) ∧ mm_E 33 0 [some (.ref a), some (.int x0), some (.int x1)] [] I r (fun v I2 r2 => mm_E 34 27 ls (mm_pu v st) I2 r2 Q)) := fun x0 x1 => me_vc (n := 2) (As := [.int x0, .int x1]) (xs := [.int x1, .int x0]) (a := a) mc_34 dX3_refusal_24 (by decide +kernel) (by decide +kernel) rfl rfl (Nat.le_of_ble_eq_true rfl) rfl
theorem e34_27 : mm_E 34 27 ls (.int x :: st) I r Q ↔ if x = 0 then mm_E 34 34 ls st I r Q else mm_E 34 30 ls st I r Q := me_zeq mc_34 dX3_refusal_27 (by decide)
theorem e34_30 : mm_E 34 30 ls st I r Q ↔ mm_E 34 31 ls (.int 0 :: st) I r Q := me_ic mc_34 dX3_refusal_30 (by decide)
theorem e34_31 : mm_E 34 31 ls st I r Q ↔ mm_E 34 36 ls st I r Q := me_goto mc_34 dX3_refusal_31 (by decide)
theorem e34_34 : mm_E 34 34 ls st I r Q ↔ mm_E 34 36 ls (.int (-13) :: st) I r Q := me_bi mc_34 dX3_refusal_34 (by decide)
theorem e34_36 : mm_E 34 36 ls [.int x] I r Q ↔ Q (some (.int x)) I r := me_ri mc_34 dX3_refusal_36 rfl
theorem mc_35 : mm_c 35 = cX3_write := rfl
theorem e35_0 : mm_E 35 0 [some (.ref a), l1, l2, l3] st I r Q ↔ mm_E 35 1 [some (.ref a), l1, l2, l3] (.ref a :: st) I r Q := me_al mc_35 dX3_write_0 rfl
theorem e35_1 : mm_E 35 1 [l0, some (.int x), l2, l3] st I r Q ↔ mm_E 35 2 [l0, some (.int x), l2, l3] (.int x :: st) I r Q := me_il mc_35 dX3_write_1 rfl
theorem e35_2 : mm_E 35 2 ls st I r Q ↔ mm_E 35 3 ls (.int 1 :: st) I r Q := me_ic mc_35 dX3_write_2 (by decide)
theorem e35_3 : ∀ (x0 : Int32) (x1 : Int32), (mm_E 35 3 ls (.int x1 :: .int x0 :: .ref a :: st) I r Q ↔ (mm_w8 st = true ∧ mm_S r a = (1, 3)) ∧ mm_E 33 0 [some (.ref a), some (.int x0), some (.int x1)] [] I r (fun v I2 r2 => mm_E 35 6 ls (mm_pu v st) I2 r2 Q)) := fun x0 x1 => me_vc (n := 2) (As := [.int x0, .int x1]) (xs := [.int x1, .int x0]) (a := a) mc_35 dX3_write_3 (by decide +kernel) (by decide +kernel) rfl rfl (Nat.le_of_ble_eq_true rfl) rfl
theorem e35_6 : mm_E 35 6 ls (.int x :: st) I r Q ↔ if ¬ x = 0 then mm_E 35 10 ls st I r Q else mm_E 35 9 ls st I r Q := me_zne mc_35 dX3_write_6 (by decide)
theorem e35_9 : mm_E 35 9 ls [] I r Q ↔ Q none I r := me_rv mc_35 dX3_write_9 rfl
theorem e35_10 : mm_E 35 10 [some (.ref a), l1, l2, l3] st I r Q ↔ mm_E 35 11 [some (.ref a), l1, l2, l3] (.ref a :: st) I r Q := me_al mc_35 dX3_write_10 rfl
theorem e35_11 : mm_E 35 11 ls (.ref a :: st) I r Q ↔ mm_S r a = (1, 3) ∧ mm_E 35 14 ls (.int (mm_rd I a 1) :: st) I r Q := me_gi mc_35 dX3_write_11 (by decide +kernel) rfl
theorem e35_14 : mm_E 35 14 ls (.int x :: st) I r Q ↔ if x = 0 then mm_E 35 40 ls st I r Q else if x = 1 then mm_E 35 53 ls st I r Q else if x = 2 then mm_E 35 66 ls st I r Q else mm_E 35 78 ls st I r Q := by
  by_cases h0 : x = 0
  · subst h0
    simp only [if_true, if_pos]
    exact me_sw (off := 26) mc_35 dX3_write_14 rfl rfl (by decide)
  by_cases h1 : x = 1
  · subst h1
    simp only [if_true, if_pos]
    exact me_sw (off := 39) mc_35 dX3_write_14 rfl rfl (by decide)
  by_cases h2 : x = 2
  · subst h2
    simp only [if_true, if_pos]
    exact me_sw (off := 52) mc_35 dX3_write_14 rfl rfl (by decide)
  simp only [if_neg h0, if_neg h1, if_neg h2]
  have hx : x.toInt < 0 ∨ 2 < x.toInt := by
    rcases Int.lt_or_le x.toInt 0 with h | h
    · exact Or.inl h
    · rcases Int.lt_or_le 2 x.toInt with g | g
      · exact Or.inr g
      · exfalso
        have g0 : x.toInt ≠ 0 := fun q => h0 (Int32.toInt_inj.mp q)
        have g1 : x.toInt ≠ 1 := fun q => h1 (Int32.toInt_inj.mp q)
        have g2 : x.toInt ≠ 2 := fun q => h2 (Int32.toInt_inj.mp q)
        omega
  exact me_sw (off := 64) mc_35 dX3_write_14 rfl (by simp only [mm_act, mm_i1, mm_ts]; rw [if_pos hx]) (by decide)
theorem e35_40 : mm_E 35 40 [some (.ref a), l1, l2, l3] st I r Q ↔ mm_E 35 41 [some (.ref a), l1, l2, l3] (.ref a :: st) I r Q := me_al mc_35 dX3_write_40 rfl
theorem e35_41 : mm_E 35 41 ls (.ref a :: st) I r Q ↔ mm_S r a = (1, 3) ∧ mm_E 35 44 ls (va_rf (mm_P r a 3) :: st) I r Q := me_gr mc_35 dX3_write_41 (by decide +kernel) rfl
theorem e35_44 : mm_E 35 44 [l0, some (.int x), l2, l3] st I r Q ↔ mm_E 35 45 [l0, some (.int x), l2, l3] (.int x :: st) I r Q := me_il mc_35 dX3_write_44 rfl
theorem e35_45 : mm_E 35 45 [l0, l1, some (.long z), l3] st I r Q ↔ mm_E 35 46 [l0, l1, some (.long z), l3] (.long z :: st) I r Q := me_ll mc_35 dX3_write_45 rfl
theorem e35_46 : mm_E 35 46 ls (.long z :: st) I r Q ↔ mm_E 35 47 ls (.int z.toInt32 :: st) I r Q := me_l2i mc_35 dX3_write_46
theorem e35_47 : mm_E 35 47 ls (.int x :: st) I r Q ↔ mm_E 35 48 ls (.int x.toInt8.toInt32 :: st) I r Q := me_i2b mc_35 dX3_write_47
theorem e35_48 : mm_E 35 48 ls (.int x :: st) I r Q ↔ mm_E 35 49 ls (.long x.toInt64 :: st) I r Q := me_i2l mc_35 dX3_write_48
theorem e35_49 : mm_E 35 49 ls (.long z :: .int x :: .ref a :: st) I r Q ↔ mm_ix r a 3 x ∧ mm_E 35 50 ls st I (mm_uG r a x.toNatClampNeg z) Q := me_ls mc_35 dX3_write_49
theorem e35_50 : mm_E 35 50 ls st I r Q ↔ mm_E 35 85 ls st I r Q := me_goto mc_35 dX3_write_50 (by decide)
theorem e35_53 : mm_E 35 53 [some (.ref a), l1, l2, l3] st I r Q ↔ mm_E 35 54 [some (.ref a), l1, l2, l3] (.ref a :: st) I r Q := me_al mc_35 dX3_write_53 rfl
theorem e35_54 : mm_E 35 54 ls (.ref a :: st) I r Q ↔ mm_S r a = (1, 3) ∧ mm_E 35 57 ls (va_rf (mm_P r a 3) :: st) I r Q := me_gr mc_35 dX3_write_54 (by decide +kernel) rfl
theorem e35_57 : mm_E 35 57 [l0, some (.int x), l2, l3] st I r Q ↔ mm_E 35 58 [l0, some (.int x), l2, l3] (.int x :: st) I r Q := me_il mc_35 dX3_write_57 rfl
theorem e35_58 : mm_E 35 58 [l0, l1, some (.long z), l3] st I r Q ↔ mm_E 35 59 [l0, l1, some (.long z), l3] (.long z :: st) I r Q := me_ll mc_35 dX3_write_58 rfl
theorem e35_59 : mm_E 35 59 ls (.long z :: st) I r Q ↔ mm_E 35 60 ls (.int z.toInt32 :: st) I r Q := me_l2i mc_35 dX3_write_59
theorem e35_60 : mm_E 35 60 ls (.int x :: st) I r Q ↔ mm_E 35 61 ls (.int x.toInt16.toInt32 :: st) I r Q := me_i2s mc_35 dX3_write_60
theorem e35_61 : mm_E 35 61 ls (.int x :: st) I r Q ↔ mm_E 35 62 ls (.long x.toInt64 :: st) I r Q := me_i2l mc_35 dX3_write_61
theorem e35_62 : mm_E 35 62 ls (.long z :: .int x :: .ref a :: st) I r Q ↔ mm_ix r a 3 x ∧ mm_E 35 63 ls st I (mm_uG r a x.toNatClampNeg z) Q := me_ls mc_35 dX3_write_62
theorem e35_63 : mm_E 35 63 ls st I r Q ↔ mm_E 35 85 ls st I r Q := me_goto mc_35 dX3_write_63 (by decide)
theorem e35_66 : mm_E 35 66 [some (.ref a), l1, l2, l3] st I r Q ↔ mm_E 35 67 [some (.ref a), l1, l2, l3] (.ref a :: st) I r Q := me_al mc_35 dX3_write_66 rfl
theorem e35_67 : mm_E 35 67 ls (.ref a :: st) I r Q ↔ mm_S r a = (1, 3) ∧ mm_E 35 70 ls (va_rf (mm_P r a 3) :: st) I r Q := me_gr mc_35 dX3_write_67 (by decide +kernel) rfl
theorem e35_70 : mm_E 35 70 [l0, some (.int x), l2, l3] st I r Q ↔ mm_E 35 71 [l0, some (.int x), l2, l3] (.int x :: st) I r Q := me_il mc_35 dX3_write_70 rfl
theorem e35_71 : mm_E 35 71 [l0, l1, some (.long z), l3] st I r Q ↔ mm_E 35 72 [l0, l1, some (.long z), l3] (.long z :: st) I r Q := me_ll mc_35 dX3_write_71 rfl
theorem e35_72 : mm_E 35 72 ls (.long z :: st) I r Q ↔ mm_E 35 73 ls (.int z.toInt32 :: st) I r Q := me_l2i mc_35 dX3_write_72
theorem e35_73 : mm_E 35 73 ls (.int x :: st) I r Q ↔ mm_E 35 74 ls (.long x.toInt64 :: st) I r Q := me_i2l mc_35 dX3_write_73
theorem e35_74 : mm_E 35 74 ls (.long z :: .int x :: .ref a :: st) I r Q ↔ mm_ix r a 3 x ∧ mm_E 35 75 ls st I (mm_uG r a x.toNatClampNeg z) Q := me_ls mc_35 dX3_write_74
theorem e35_75 : mm_E 35 75 ls st I r Q ↔ mm_E 35 85 ls st I r Q := me_goto mc_35 dX3_write_75 (by decide)
theorem e35_78 : mm_E 35 78 [some (.ref a), l1, l2, l3] st I r Q ↔ mm_E 35 79 [some (.ref a), l1, l2, l3] (.ref a :: st) I r Q := me_al mc_35 dX3_write_78 rfl
theorem e35_79 : mm_E 35 79 ls (.ref a :: st) I r Q ↔ mm_S r a = (1, 3) ∧ mm_E 35 82 ls (va_rf (mm_P r a 3) :: st) I r Q := me_gr mc_35 dX3_write_79 (by decide +kernel) rfl
theorem e35_82 : mm_E 35 82 [l0, some (.int x), l2, l3] st I r Q ↔ mm_E 35 83 [l0, some (.int x), l2, l3] (.int x :: st) I r Q := me_il mc_35 dX3_write_82 rfl
theorem e35_83 : mm_E 35 83 [l0, l1, some (.long z), l3] st I r Q ↔ mm_E 35 84 [l0, l1, some (.long z), l3] (.long z :: st) I r Q := me_ll mc_35 dX3_write_83 rfl
theorem e35_84 : mm_E 35 84 ls (.long z :: .int x :: .ref a :: st) I r Q ↔ mm_ix r a 3 x ∧ mm_E 35 85 ls st I (mm_uG r a x.toNatClampNeg z) Q := me_ls mc_35 dX3_write_84
theorem e35_85 : mm_E 35 85 ls [] I r Q ↔ Q none I r := me_rv mc_35 dX3_write_85 rfl
theorem mc_36 : mm_c 36 = cX4_init := rfl
theorem e36_0 : mm_E 36 0 [some (.ref a)] st I r Q ↔ mm_E 36 1 [some (.ref a)] (.ref a :: st) I r Q := me_al mc_36 dX4_init_0 rfl
theorem e36_1 : mm_E 36 1 ls (.ref a :: st) I r Q ↔ mm_w8 st = true ∧ mm_E 36 4 ls st I r Q := me_oi mc_36 dX4_init_1 (by decide +kernel)
theorem e36_4 : mm_E 36 4 [some (.ref a)] st I r Q ↔ mm_E 36 5 [some (.ref a)] (.ref a :: st) I r Q := me_al mc_36 dX4_init_4 rfl
theorem e36_5 : mm_E 36 5 ls st I r Q ↔ mm_E 36 7 ls (.int 80 :: st) I r Q := me_bi mc_36 dX4_init_5 (by decide)
theorem e36_7 : mm_E 36 7 ls (.int x :: st) I r Q ↔ (¬ x < 0 ∧ x.toNatClampNeg ≤ 1000) ∧ mm_E 36 9 ls (.ref (mm_t r) :: st) (mm_nI I r) (mm_nR r (2, x.toNatClampNeg) x.toNatClampNeg) Q := me_nai mc_36 dX4_init_7
theorem e36_9 : mm_E 36 9 ls (.ref b :: .ref a :: st) I r Q ↔ mm_S r a = (1, 4) ∧ mm_E 36 12 ls st I (mm_uP r a 3 (some b)) Q := me_pr mc_36 dX4_init_9 (by decide +kernel) (by decide +kernel)
theorem e36_12 : mm_E 36 12 [some (.ref a)] st I r Q ↔ mm_E 36 13 [some (.ref a)] (.ref a :: st) I r Q := me_al mc_36 dX4_init_12 rfl
theorem e36_13 : mm_E 36 13 ls st I r Q ↔ mm_E 36 16 ls (.ref (mm_t r) :: st) (mm_nI I r) (mm_nR r (1, 0) 14) Q := me_new mc_36 dX4_init_13 (by decide +kernel)
theorem e36_16 : mm_E 36 16 ls (v :: st) I r Q ↔ v.category = 1 ∧ mm_E 36 17 ls (v :: v :: st) I r Q := me_dup mc_36 dX4_init_16
theorem e36_17 : (mm_E 36 17 ls (.ref a :: st) I r Q ↔ mm_w8 st = true ∧ mm_E 0 0 [some (.ref a)] [] I r (fun v I2 r2 => mm_E 36 20 ls (mm_pu v st) I2 r2 Q)) := me_xc (n := 0) (As := []) (xs := []) (a := a) mc_36 dX4_init_17 (by decide +kernel) (by decide +kernel) rfl rfl (Nat.le_of_ble_eq_true rfl) rfl
theorem e36_20 : mm_E 36 20 ls (.ref b :: .ref a :: st) I r Q ↔ mm_S r a = (1, 4) ∧ mm_E 36 23 ls st I (mm_uP r a 2 (some b)) Q := me_pr mc_36 dX4_init_20 (by decide +kernel) (by decide +kernel)
theorem e36_23 : mm_E 36 23 ls [] I r Q ↔ Q none I r := me_rv mc_36 dX4_init_23 rfl
theorem mc_37 : mm_c 37 = cX4_add := rfl
theorem e37_0 : mm_E 37 0 [some (.ref a), l1] st I r Q ↔ mm_E 37 1 [some (.ref a), l1] (.ref a :: st) I r Q := me_al mc_37 dX4_add_0 rfl
theorem e37_1 : mm_E 37 1 ls (.ref a :: st) I r Q ↔ mm_S r a = (1, 4) ∧ mm_E 37 4 ls (.int (mm_rd I a 0) :: st) I r Q := me_gi mc_37 dX4_add_1 (by decide +kernel) rfl
theorem e37_4 : mm_E 37 4 ls st I r Q ↔ mm_E 37 6 ls (.int 80 :: st) I r Q := me_bi mc_37 dX4_add_4 (by decide)
theorem e37_6 : mm_E 37 6 ls (.int y :: .int x :: st) I r Q ↔ if y ≤ x then mm_E 37 29 ls st I r Q else mm_E 37 9 ls st I r Q := me_cge mc_37 dX4_add_6 (by decide)
theorem e37_9 : mm_E 37 9 [some (.ref a), l1] st I r Q ↔ mm_E 37 10 [some (.ref a), l1] (.ref a :: st) I r Q := me_al mc_37 dX4_add_9 rfl
theorem e37_10 : mm_E 37 10 ls (.ref a :: st) I r Q ↔ mm_S r a = (1, 4) ∧ mm_E 37 13 ls (va_rf (mm_P r a 3) :: st) I r Q := me_gr mc_37 dX4_add_10 (by decide +kernel) rfl
theorem e37_13 : mm_E 37 13 [some (.ref a), l1] st I r Q ↔ mm_E 37 14 [some (.ref a), l1] (.ref a :: st) I r Q := me_al mc_37 dX4_add_13 rfl
theorem e37_14 : mm_E 37 14 ls (.ref a :: st) I r Q ↔ mm_S r a = (1, 4) ∧ mm_E 37 17 ls (.int (mm_rd I a 0) :: st) I r Q := me_gi mc_37 dX4_add_14 (by decide +kernel) rfl
theorem e37_17 : mm_E 37 17 [l0, some (.int x)] st I r Q ↔ mm_E 37 18 [l0, some (.int x)] (.int x :: st) I r Q := me_il mc_37 dX4_add_17 rfl
theorem e37_18 : mm_E 37 18 ls (.int y :: .int x :: .ref a :: st) I r Q ↔ mm_ix r a 2 x ∧ mm_E 37 19 ls st (mm_uI I a x.toNatClampNeg y) r Q := me_is mc_37 dX4_add_18
theorem e37_19 : mm_E 37 19 [some (.ref a), l1] st I r Q ↔ mm_E 37 20 [some (.ref a), l1] (.ref a :: st) I r Q := me_al mc_37 dX4_add_19 rfl
theorem e37_20 : mm_E 37 20 ls (v :: st) I r Q ↔ v.category = 1 ∧ mm_E 37 21 ls (v :: v :: st) I r Q := me_dup mc_37 dX4_add_20
theorem e37_21 : mm_E 37 21 ls (.ref a :: st) I r Q ↔ mm_S r a = (1, 4) ∧ mm_E 37 24 ls (.int (mm_rd I a 0) :: st) I r Q := me_gi mc_37 dX4_add_21 (by decide +kernel) rfl
theorem e37_24 : mm_E 37 24 ls st I r Q ↔ mm_E 37 25 ls (.int 1 :: st) I r Q := me_ic mc_37 dX4_add_24 (by decide)
theorem e37_25 : mm_E 37 25 ls (.int y :: .int x :: st) I r Q ↔ mm_E 37 26 ls (.int (x + y) :: st) I r Q := me_iadd mc_37 dX4_add_25
theorem e37_26 : mm_E 37 26 ls (.int x :: .ref a :: st) I r Q ↔ mm_S r a = (1, 4) ∧ mm_E 37 29 ls st (mm_uI I a 0 x) r Q := me_pi mc_37 dX4_add_26 (by decide +kernel) (by decide +kernel)
theorem e37_29 : mm_E 37 29 [some (.ref a), l1] st I r Q ↔ mm_E 37 30 [some (.ref a), l1] (.ref a :: st) I r Q := me_al mc_37 dX4_add_29 rfl
theorem e37_30 : mm_E 37 30 ls (.ref a :: st) I r Q ↔ mm_S r a = (1, 4) ∧ mm_E 37 33 ls (.int (mm_rd I a 0) :: st) I r Q := me_gi mc_37 dX4_add_30 (by decide +kernel) rfl
theorem e37_33 : mm_E 37 33 ls [.int x] I r Q ↔ Q (some (.int x)) I r := me_ri mc_37 dX4_add_33 rfl
theorem mc_38 : mm_c 38 = cX4_tellLane := rfl
theorem e38_0 : mm_E 38 0 [some (.ref a), l1] st I r Q ↔ mm_E 38 1 [some (.ref a), l1] (.ref a :: st) I r Q := me_al mc_38 dX4_tellLane_0 rfl
theorem e38_1 : mm_E 38 1 ls st I r Q ↔ mm_E 38 2 ls (.int 0 :: st) I r Q := me_ic mc_38 dX4_tellLane_1 (by decide)
theorem e38_2 : mm_E 38 2 ls (.int x :: .ref a :: st) I r Q ↔ mm_S r a = (1, 4) ∧ mm_E 38 5 ls st (mm_uI I a 4 x) r Q := me_pi mc_38 dX4_tellLane_2 (by decide +kernel) (by decide +kernel)
theorem e38_5 : mm_E 38 5 [some (.ref a), l1] st I r Q ↔ mm_E 38 6 [some (.ref a), l1] (.ref a :: st) I r Q := me_al mc_38 dX4_tellLane_5 rfl
theorem e38_6 : mm_E 38 6 ls (.ref a :: st) I r Q ↔ mm_S r a = (1, 4) ∧ mm_E 38 9 ls (va_rf (mm_P r a 2) :: st) I r Q := me_gr mc_38 dX4_tellLane_6 (by decide +kernel) rfl
theorem e38_9 : (mm_E 38 9 ls (.ref a :: st) I r Q ↔ (mm_w8 st = true ∧ mm_S r a = (1, 0)) ∧ mm_E 2 0 [some (.ref a)] [] I r (fun v I2 r2 => mm_E 38 12 ls (mm_pu v st) I2 r2 Q)) := me_vc (n := 0) (As := []) (xs := []) (a := a) mc_38 dX4_tellLane_9 (by decide +kernel) (by decide +kernel) rfl rfl (Nat.le_of_ble_eq_true rfl) rfl
theorem e38_12 : mm_E 38 12 [some (.ref a), l1] st I r Q ↔ mm_E 38 13 [some (.ref a), l1] (.ref a :: st) I r Q := me_al mc_38 dX4_tellLane_12 rfl
theorem e38_13 : mm_E 38 13 ls st I r Q ↔ mm_E 38 15 ls (.int 20 :: st) I r Q := me_bi mc_38 dX4_tellLane_13 (by decide)
theorem e38_15 : ∀ (x0 : Int32), (mm_E 38 15 ls (.int x0 :: .ref a :: st) I r Q ↔ (mm_w8 st = true ∧ mm_S r a = (1, 4)) ∧ mm_E 44 0 [some (.ref a), some (.int x0), none, none, none] [] I r (fun v I2 r2 => mm_E 38 18 ls (mm_pu v st) I2 r2 Q)) := fun x0 => me_vc (n := 1) (As := [.int x0]) (xs := [.int x0]) (a := a) mc_38 dX4_tellLane_15 (by decide +kernel) (by decide +kernel) rfl rfl (Nat.le_of_ble_eq_true rfl) rfl
theorem e38_18 : mm_E 38 18 [l0, l1] (.int x :: st) I r Q ↔ mm_c1 l0 ∧ mm_E 38 19 [l0, some (.int x)] st I r Q := me_st (k := 1) (v := .int x) mc_38 dX4_tellLane_18 rfl rfl (Nat.le_of_ble_eq_true rfl) rfl ⟨Or.inr, fun h => h.resolve_left (by decide)⟩
theorem e38_19 : mm_E 38 19 [l0, some (.int x)] st I r Q ↔ mm_E 38 20 [l0, some (.int x)] (.int x :: st) I r Q := me_il mc_38 dX4_tellLane_19 rfl
theorem e38_20 : mm_E 38 20 ls (.int x :: st) I r Q ↔ if 0 ≤ x then mm_E 38 25 ls st I r Q else mm_E 38 23 ls st I r Q := me_zge mc_38 dX4_tellLane_20 (by decide)
theorem e38_23 : mm_E 38 23 ls st I r Q ↔ mm_E 38 24 ls (.int 0 :: st) I r Q := me_ic mc_38 dX4_tellLane_23 (by decide)
theorem e38_24 : mm_E 38 24 ls [.int x] I r Q ↔ (x = 0 ∨ x = 1) ∧ Q (some (.int x)) I r := me_rz mc_38 dX4_tellLane_24 rfl
theorem e38_25 : mm_E 38 25 [some (.ref a), l1] st I r Q ↔ mm_E 38 26 [some (.ref a), l1] (.ref a :: st) I r Q := me_al mc_38 dX4_tellLane_25 rfl
theorem e38_26 : mm_E 38 26 ls (.ref a :: st) I r Q ↔ mm_S r a = (1, 4) ∧ mm_E 38 29 ls (va_rf (mm_P r a 2) :: st) I r Q := me_gr mc_38 dX4_tellLane_26 (by decide +kernel) rfl
theorem e38_29 : mm_E 38 29 [l0, some (.int x)] st I r Q ↔ mm_E 38 30 [l0, some (.int x)] (.int x :: st) I r Q := me_il mc_38 dX4_tellLane_29 rfl
theorem e38_30 : mm_E 38 30 ls (.int x :: .ref a :: st) I r Q ↔ mm_S r a = (1, 0) ∧ mm_E 38 33 ls st (mm_uI I a 2 x) r Q := me_pi mc_38 dX4_tellLane_30 (by decide +kernel) (by decide +kernel)
theorem e38_33 : mm_E 38 33 [some (.ref a), l1] st I r Q ↔ mm_E 38 34 [some (.ref a), l1] (.ref a :: st) I r Q := me_al mc_38 dX4_tellLane_33 rfl
theorem e38_34 : mm_E 38 34 ls st I r Q ↔ mm_E 38 36 ls (.int 59 :: st) I r Q := me_bi mc_38 dX4_tellLane_34 (by decide)
theorem e38_36 : ∀ (x0 : Int32), (mm_E 38 36 ls (.int x0 :: .ref a :: st) I r Q ↔ (mm_w8 st = true ∧ mm_S r a = (1, 4)) ∧ mm_E 47 0 [some (.ref a), some (.int x0)] [] I r (fun v I2 r2 => mm_E 38 39 ls (mm_pu v st) I2 r2 Q)) := fun x0 => me_vc (n := 1) (As := [.int x0]) (xs := [.int x0]) (a := a) mc_38 dX4_tellLane_36 (by decide +kernel) (by decide +kernel) rfl rfl (Nat.le_of_ble_eq_true rfl) rfl
theorem e38_39 : mm_E 38 39 ls (.int x :: st) I r Q ↔ if ¬ x = 0 then mm_E 38 51 ls st I r Q else mm_E 38 42 ls st I r Q := me_zne mc_38 dX4_tellLane_39 (by decide)
theorem e38_42 : mm_E 38 42 [some (.ref a), l1] st I r Q ↔ mm_E 38 43 [some (.ref a), l1] (.ref a :: st) I r Q := me_al mc_38 dX4_tellLane_42 rfl
theorem e38_43 : mm_E 38 43 [some (.ref a), l1] st I r Q ↔ mm_E 38 44 [some (.ref a), l1] (.ref a :: st) I r Q := me_al mc_38 dX4_tellLane_43 rfl
theorem e38_44 : mm_E 38 44 ls (.ref a :: st) I r Q ↔ mm_S r a = (1, 4) ∧ mm_E 38 47 ls (.int (mm_rd I a 4) :: st) I r Q := me_gi mc_38 dX4_tellLane_44 (by decide +kernel) rfl
theorem e38_47 : ∀ (x0 : Int32), (mm_E 38 47 ls (.int x0 :: .ref a :: st) I r Q ↔ (mm_w8 st = true ∧ mm_S r a = (1, 4)) ∧ mm_E 48 0 [some (.ref a), some (.int x0)] [] I r (fun v I2 r2 => mm_E 38 50 ls (mm_pu v st) I2 r2 Q)) := fun x0 => me_vc (n := 1) (As := [.int x0]) (xs := [.int x0]) (a := a) mc_38 dX4_tellLane_47 (by decide +kernel) (by decide +kernel) rfl rfl (Nat.le_of_ble_eq_true rfl) rfl
theorem e38_50 : mm_E 38 50 ls [.int x] I r Q ↔ (x = 0 ∨ x = 1) ∧ Q (some (.int x)) I r := me_rz mc_38 dX4_tellLane_50 rfl
theorem e38_51 : mm_E 38 51 [some (.ref a), l1] st I r Q ↔ mm_E 38 52 [some (.ref a), l1] (.ref a :: st) I r Q := me_al mc_38 dX4_tellLane_51 rfl
theorem e38_52 : (mm_E 38 52 ls (.ref a :: st) I r Q ↔ (mm_w8 st = true ∧ mm_S r a = (1, 4)) ∧ mm_E 39 0 [some (.ref a), none] [] I r (fun v I2 r2 => mm_E 38 55 ls (mm_pu v st) I2 r2 Q)) := me_vc (n := 0) (As := []) (xs := []) (a := a) mc_38 dX4_tellLane_52 (by decide +kernel) (by decide +kernel) rfl rfl (Nat.le_of_ble_eq_true rfl) rfl
theorem e38_55 : mm_E 38 55 ls (.int x :: st) I r Q ↔ if ¬ x = 0 then mm_E 38 60 ls st I r Q else mm_E 38 58 ls st I r Q := me_zne mc_38 dX4_tellLane_55 (by decide)
theorem e38_58 : mm_E 38 58 ls st I r Q ↔ mm_E 38 59 ls (.int 0 :: st) I r Q := me_ic mc_38 dX4_tellLane_58 (by decide)
theorem e38_59 : mm_E 38 59 ls [.int x] I r Q ↔ (x = 0 ∨ x = 1) ∧ Q (some (.int x)) I r := me_rz mc_38 dX4_tellLane_59 rfl
theorem e38_60 : mm_E 38 60 [some (.ref a), l1] st I r Q ↔ mm_E 38 61 [some (.ref a), l1] (.ref a :: st) I r Q := me_al mc_38 dX4_tellLane_60 rfl
theorem e38_61 : mm_E 38 61 ls st I r Q ↔ mm_E 38 63 ls (.int 59 :: st) I r Q := me_bi mc_38 dX4_tellLane_61 (by decide)
theorem e38_63 : ∀ (x0 : Int32), (mm_E 38 63 ls (.int x0 :: .ref a :: st) I r Q ↔ (mm_w8 st = true ∧ mm_S r a = (1, 4)) ∧ mm_E 47 0 [some (.ref a), some (.int x0)] [] I r (fun v I2 r2 => mm_E 38 66 ls (mm_pu v st) I2 r2 Q)) := fun x0 => me_vc (n := 1) (As := [.int x0]) (xs := [.int x0]) (a := a) mc_38 dX4_tellLane_63 (by decide +kernel) (by decide +kernel) rfl rfl (Nat.le_of_ble_eq_true rfl) rfl
theorem e38_66 : mm_E 38 66 ls (.int x :: st) I r Q ↔ if x = 0 then mm_E 38 78 ls st I r Q else mm_E 38 69 ls st I r Q := me_zeq mc_38 dX4_tellLane_66 (by decide)
theorem e38_69 : mm_E 38 69 [some (.ref a), l1] st I r Q ↔ mm_E 38 70 [some (.ref a), l1] (.ref a :: st) I r Q := me_al mc_38 dX4_tellLane_69 rfl
theorem e38_70 : (mm_E 38 70 ls (.ref a :: st) I r Q ↔ (mm_w8 st = true ∧ mm_S r a = (1, 4)) ∧ mm_E 41 0 [some (.ref a), none] [] I r (fun v I2 r2 => mm_E 38 73 ls (mm_pu v st) I2 r2 Q)) := me_vc (n := 0) (As := []) (xs := []) (a := a) mc_38 dX4_tellLane_70 (by decide +kernel) (by decide +kernel) rfl rfl (Nat.le_of_ble_eq_true rfl) rfl
theorem e38_73 : mm_E 38 73 ls (.int x :: st) I r Q ↔ if ¬ x = 0 then mm_E 38 78 ls st I r Q else mm_E 38 76 ls st I r Q := me_zne mc_38 dX4_tellLane_73 (by decide)
theorem e38_76 : mm_E 38 76 ls st I r Q ↔ mm_E 38 77 ls (.int 0 :: st) I r Q := me_ic mc_38 dX4_tellLane_76 (by decide)
theorem e38_77 : mm_E 38 77 ls [.int x] I r Q ↔ (x = 0 ∨ x = 1) ∧ Q (some (.int x)) I r := me_rz mc_38 dX4_tellLane_77 rfl
theorem e38_78 : mm_E 38 78 [some (.ref a), l1] st I r Q ↔ mm_E 38 79 [some (.ref a), l1] (.ref a :: st) I r Q := me_al mc_38 dX4_tellLane_78 rfl
theorem e38_79 : (mm_E 38 79 ls (.ref a :: st) I r Q ↔ (mm_w8 st = true ∧ mm_S r a = (1, 4)) ∧ mm_E 46 0 [some (.ref a)] [] I r (fun v I2 r2 => mm_E 38 82 ls (mm_pu v st) I2 r2 Q)) := me_vc (n := 0) (As := []) (xs := []) (a := a) mc_38 dX4_tellLane_79 (by decide +kernel) (by decide +kernel) rfl rfl (Nat.le_of_ble_eq_true rfl) rfl
theorem e38_82 : mm_E 38 82 ls st I r Q ↔ mm_E 38 83 ls (.int (-1) :: st) I r Q := me_ic mc_38 dX4_tellLane_82 (by decide)
theorem e38_83 : mm_E 38 83 ls (.int y :: .int x :: st) I r Q ↔ if x = y then mm_E 38 97 ls st I r Q else mm_E 38 86 ls st I r Q := me_ceq mc_38 dX4_tellLane_83 (by decide)
theorem e38_86 : mm_E 38 86 [some (.ref a), l1] st I r Q ↔ mm_E 38 87 [some (.ref a), l1] (.ref a :: st) I r Q := me_al mc_38 dX4_tellLane_86 rfl
theorem e38_87 : mm_E 38 87 [some (.ref a), l1] st I r Q ↔ mm_E 38 88 [some (.ref a), l1] (.ref a :: st) I r Q := me_al mc_38 dX4_tellLane_87 rfl
theorem e38_88 : mm_E 38 88 ls (.ref a :: st) I r Q ↔ mm_S r a = (1, 4) ∧ mm_E 38 91 ls (.int (mm_rd I a 4) :: st) I r Q := me_gi mc_38 dX4_tellLane_88 (by decide +kernel) rfl
theorem e38_91 : ∀ (x0 : Int32), (mm_E 38 91 ls (.int x0 :: .ref a :: st) I r Q ↔ (mm_w8 st = true ∧ mm_S r a = (1, 4)) ∧ mm_E 48 0 [some (.ref a), some (.int x0)] [] I r (fun v I2 r2 => mm_E 38 94 ls (mm_pu v st) I2 r2 Q)) := fun x0 => me_vc (n := 1) (As := [.int x0]) (xs := [.int x0]) (a := a) mc_38 dX4_tellLane_91 (by decide +kernel) (by decide +kernel) rfl rfl (Nat.le_of_ble_eq_true rfl) rfl
theorem e38_94 : mm_E 38 94 ls (.int x :: st) I r Q ↔ if x = 0 then mm_E 38 101 ls st I r Q else mm_E 38 97 ls st I r Q := me_zeq mc_38 dX4_tellLane_94 (by decide)
theorem e38_97 : mm_E 38 97 ls st I r Q ↔ mm_E 38 98 ls (.int 1 :: st) I r Q := me_ic mc_38 dX4_tellLane_97 (by decide)
theorem e38_98 : mm_E 38 98 ls st I r Q ↔ mm_E 38 102 ls st I r Q := me_goto mc_38 dX4_tellLane_98 (by decide)
theorem e38_101 : mm_E 38 101 ls st I r Q ↔ mm_E 38 102 ls (.int 0 :: st) I r Q := me_ic mc_38 dX4_tellLane_101 (by decide)
theorem e38_102 : mm_E 38 102 ls [.int x] I r Q ↔ (x = 0 ∨ x = 1) ∧ Q (some (.int x)) I r := me_rz mc_38 dX4_tellLane_102 rfl
theorem mc_39 : mm_c 39 = cX4_tellHouses := rfl
theorem e39_0 : mm_E 39 0 ls st I r Q ↔ mm_E 39 1 ls (.int 1 :: st) I r Q := me_ic mc_39 dX4_tellHouses_0 (by decide)
theorem e39_1 : mm_E 39 1 [l0, l1] (.int x :: st) I r Q ↔ mm_c1 l0 ∧ mm_E 39 2 [l0, some (.int x)] st I r Q := me_st (k := 1) (v := .int x) mc_39 dX4_tellHouses_1 rfl rfl (Nat.le_of_ble_eq_true rfl) rfl ⟨Or.inr, fun h => h.resolve_left (by decide)⟩
theorem e39_2 : mm_E 39 2 [l0, some (.int x)] st I r Q ↔ mm_E 39 3 [l0, some (.int x)] (.int x :: st) I r Q := me_il mc_39 dX4_tellHouses_2 rfl
theorem e39_3 : mm_E 39 3 ls st I r Q ↔ mm_E 39 5 ls (.int 6 :: st) I r Q := me_bi mc_39 dX4_tellHouses_3 (by decide)
theorem e39_5 : mm_E 39 5 ls (.int y :: .int x :: st) I r Q ↔ if y < x then mm_E 39 41 ls st I r Q else mm_E 39 8 ls st I r Q := me_cgt mc_39 dX4_tellHouses_5 (by decide)
theorem e39_8 : mm_E 39 8 [some (.ref a), l1] st I r Q ↔ mm_E 39 9 [some (.ref a), l1] (.ref a :: st) I r Q := me_al mc_39 dX4_tellHouses_8 rfl
theorem e39_9 : (mm_E 39 9 ls (.ref a :: st) I r Q ↔ (mm_w8 st = true ∧ mm_S r a = (1, 4)) ∧ mm_E 40 0 [some (.ref a), none, none, none] [] I r (fun v I2 r2 => mm_E 39 12 ls (mm_pu v st) I2 r2 Q)) := me_vc (n := 0) (As := []) (xs := []) (a := a) mc_39 dX4_tellHouses_9 (by decide +kernel) (by decide +kernel) rfl rfl (Nat.le_of_ble_eq_true rfl) rfl
theorem e39_12 : mm_E 39 12 ls (.int x :: st) I r Q ↔ if ¬ x = 0 then mm_E 39 17 ls st I r Q else mm_E 39 15 ls st I r Q := me_zne mc_39 dX4_tellHouses_12 (by decide)
theorem e39_15 : mm_E 39 15 ls st I r Q ↔ mm_E 39 16 ls (.int 0 :: st) I r Q := me_ic mc_39 dX4_tellHouses_15 (by decide)
theorem e39_16 : mm_E 39 16 ls [.int x] I r Q ↔ (x = 0 ∨ x = 1) ∧ Q (some (.int x)) I r := me_rz mc_39 dX4_tellHouses_16 rfl
theorem e39_17 : mm_E 39 17 [l0, some (.int x)] st I r Q ↔ mm_E 39 18 [l0, some (.int x)] (.int x :: st) I r Q := me_il mc_39 dX4_tellHouses_17 rfl
theorem e39_18 : mm_E 39 18 ls st I r Q ↔ mm_E 39 20 ls (.int 6 :: st) I r Q := me_bi mc_39 dX4_tellHouses_18 (by decide)
theorem e39_20 : mm_E 39 20 ls (.int y :: .int x :: st) I r Q ↔ if x = y then mm_E 39 41 ls st I r Q else mm_E 39 23 ls st I r Q := me_ceq mc_39 dX4_tellHouses_20 (by decide)
theorem e39_23 : mm_E 39 23 [some (.ref a), l1] st I r Q ↔ mm_E 39 24 [some (.ref a), l1] (.ref a :: st) I r Q := me_al mc_39 dX4_tellHouses_23 rfl
theorem e39_24 : mm_E 39 24 ls st I r Q ↔ mm_E 39 26 ls (.int 44 :: st) I r Q := me_bi mc_39 dX4_tellHouses_24 (by decide)
theorem e39_26 : ∀ (x0 : Int32), (mm_E 39 26 ls (.int x0 :: .ref a :: st) I r Q ↔ (mm_w8 st = true ∧ mm_S r a = (1, 4)) ∧ mm_E 47 0 [some (.ref a), some (.int x0)] [] I r (fun v I2 r2 => mm_E 39 29 ls (mm_pu v st) I2 r2 Q)) := fun x0 => me_vc (n := 1) (As := [.int x0]) (xs := [.int x0]) (a := a) mc_39 dX4_tellHouses_26 (by decide +kernel) (by decide +kernel) rfl rfl (Nat.le_of_ble_eq_true rfl) rfl
theorem e39_29 : mm_E 39 29 ls (.int x :: st) I r Q ↔ if ¬ x = 0 then mm_E 39 35 ls st I r Q else mm_E 39 32 ls st I r Q := me_zne mc_39 dX4_tellHouses_29 (by decide)
theorem e39_32 : mm_E 39 32 ls st I r Q ↔ mm_E 39 41 ls st I r Q := me_goto mc_39 dX4_tellHouses_32 (by decide)
theorem e39_35 : mm_E 39 35 [l0, some (.int x)] st I r Q ↔ mm_c1 l0 ∧ mm_E 39 38 [l0, some (.int (x + 1))] st I r Q := me_st (k := 1) (v := .int (x + 1)) mc_39 dX4_tellHouses_35 rfl rfl (Nat.le_of_ble_eq_true rfl) rfl ⟨Or.inr, fun h => h.resolve_left (by decide)⟩
theorem e39_38 : mm_E 39 38 ls st I r Q ↔ mm_E 39 2 ls st I r Q := me_goto mc_39 dX4_tellHouses_38 (by decide)
theorem e39_41 : mm_E 39 41 ls st I r Q ↔ mm_E 39 42 ls (.int 1 :: st) I r Q := me_ic mc_39 dX4_tellHouses_41 (by decide)
theorem e39_42 : mm_E 39 42 ls [.int x] I r Q ↔ (x = 0 ∨ x = 1) ∧ Q (some (.int x)) I r := me_rz mc_39 dX4_tellHouses_42 rfl
theorem mc_40 : mm_c 40 = cX4_tellHouse := rfl
theorem e40_0 : mm_E 40 0 [some (.ref a), l1, l2, l3] st I r Q ↔ mm_E 40 1 [some (.ref a), l1, l2, l3] (.ref a :: st) I r Q := me_al mc_40 dX4_tellHouse_0 rfl
theorem e40_1 : mm_E 40 1 ls st I r Q ↔ mm_E 40 3 ls (.int 99 :: st) I r Q := me_bi mc_40 dX4_tellHouse_1 (by decide)
theorem e40_3 : ∀ (x0 : Int32), (mm_E 40 3 ls (.int x0 :: .ref a :: st) I r Q ↔ (mm_w8 st = true ∧ mm_S r a = (1, 4)) ∧ mm_E 44 0 [some (.ref a), some (.int x0), none, none, none] [] I r (fun v I2 r2 => mm_E 40 6 ls (mm_pu v st) I2 r2 Q)) := fun x0 => me_vc (n := 1) (As := [.int x0]) (xs := [.int x0]) (a := a) mc_40 dX4_tellHouse_3 (by decide +kernel) (by decide +kernel) rfl rfl (Nat.le_of_ble_eq_true rfl) rfl
theorem e40_6 : mm_E 40 6 [l0, l1, l2, l3] (.int x :: st) I r Q ↔ mm_c1 l0 ∧ mm_E 40 7 [l0, some (.int x), l2, l3] st I r Q := me_st (k := 1) (v := .int x) mc_40 dX4_tellHouse_6 rfl rfl (Nat.le_of_ble_eq_true rfl) rfl ⟨Or.inr, fun h => h.resolve_left (by decide)⟩
theorem e40_7 : mm_E 40 7 [l0, some (.int x), l2, l3] st I r Q ↔ mm_E 40 8 [l0, some (.int x), l2, l3] (.int x :: st) I r Q := me_il mc_40 dX4_tellHouse_7 rfl
theorem e40_8 : mm_E 40 8 ls (.int x :: st) I r Q ↔ if 0 ≤ x then mm_E 40 13 ls st I r Q else mm_E 40 11 ls st I r Q := me_zge mc_40 dX4_tellHouse_8 (by decide)
theorem e40_11 : mm_E 40 11 ls st I r Q ↔ mm_E 40 12 ls (.int 0 :: st) I r Q := me_ic mc_40 dX4_tellHouse_11 (by decide)
theorem e40_12 : mm_E 40 12 ls [.int x] I r Q ↔ (x = 0 ∨ x = 1) ∧ Q (some (.int x)) I r := me_rz mc_40 dX4_tellHouse_12 rfl
theorem e40_13 : mm_E 40 13 [some (.ref a), l1, l2, l3] st I r Q ↔ mm_E 40 14 [some (.ref a), l1, l2, l3] (.ref a :: st) I r Q := me_al mc_40 dX4_tellHouse_13 rfl
theorem e40_14 : mm_E 40 14 ls st I r Q ↔ mm_E 40 16 ls (.int 46 :: st) I r Q := me_bi mc_40 dX4_tellHouse_14 (by decide)
theorem e40_16 : ∀ (x0 : Int32), (mm_E 40 16 ls (.int x0 :: .ref a :: st) I r Q ↔ (mm_w8 st = true ∧ mm_S r a = (1, 4)) ∧ mm_E 47 0 [some (.ref a), some (.int x0)] [] I r (fun v I2 r2 => mm_E 40 19 ls (mm_pu v st) I2 r2 Q)) := fun x0 => me_vc (n := 1) (As := [.int x0]) (xs := [.int x0]) (a := a) mc_40 dX4_tellHouse_16 (by decide +kernel) (by decide +kernel) rfl rfl (Nat.le_of_ble_eq_true rfl) rfl
theorem e40_19 : mm_E 40 19 ls (.int x :: st) I r Q ↔ if ¬ x = 0 then mm_E 40 31 ls st I r Q else mm_E 40 22 ls st I r Q := me_zne mc_40 dX4_tellHouse_19 (by decide)
theorem e40_22 : mm_E 40 22 [some (.ref a), l1, l2, l3] st I r Q ↔ mm_E 40 23 [some (.ref a), l1, l2, l3] (.ref a :: st) I r Q := me_al mc_40 dX4_tellHouse_22 rfl
theorem e40_23 : mm_E 40 23 [some (.ref a), l1, l2, l3] st I r Q ↔ mm_E 40 24 [some (.ref a), l1, l2, l3] (.ref a :: st) I r Q := me_al mc_40 dX4_tellHouse_23 rfl
theorem e40_24 : mm_E 40 24 ls (.ref a :: st) I r Q ↔ mm_S r a = (1, 4) ∧ mm_E 40 27 ls (.int (mm_rd I a 4) :: st) I r Q := me_gi mc_40 dX4_tellHouse_24 (by decide +kernel) rfl
theorem e40_27 : ∀ (x0 : Int32), (mm_E 40 27 ls (.int x0 :: .ref a :: st) I r Q ↔ (mm_w8 st = true ∧ mm_S r a = (1, 4)) ∧ mm_E 48 0 [some (.ref a), some (.int x0)] [] I r (fun v I2 r2 => mm_E 40 30 ls (mm_pu v st) I2 r2 Q)) := fun x0 => me_vc (n := 1) (As := [.int x0]) (xs := [.int x0]) (a := a) mc_40 dX4_tellHouse_27 (by decide +kernel) (by decide +kernel) rfl rfl (Nat.le_of_ble_eq_true rfl) rfl
theorem e40_30 : mm_E 40 30 ls [.int x] I r Q ↔ (x = 0 ∨ x = 1) ∧ Q (some (.int x)) I r := me_rz mc_40 dX4_tellHouse_30 rfl
theorem e40_31 : mm_E 40 31 [some (.ref a), l1, l2, l3] st I r Q ↔ mm_E 40 32 [some (.ref a), l1, l2, l3] (.ref a :: st) I r Q := me_al mc_40 dX4_tellHouse_31 rfl
theorem e40_32 : mm_E 40 32 ls st I r Q ↔ mm_E 40 34 ls (.int 20 :: st) I r Q := me_bi mc_40 dX4_tellHouse_32 (by decide)
theorem e40_34 : ∀ (x0 : Int32), (mm_E 40 34 ls (.int x0 :: .ref a :: st) I r Q ↔ (mm_w8 st = true ∧ mm_S r a = (1, 4)) ∧ mm_E 44 0 [some (.ref a), some (.int x0), none, none, none] [] I r (fun v I2 r2 => mm_E 40 37 ls (mm_pu v st) I2 r2 Q)) := fun x0 => me_vc (n := 1) (As := [.int x0]) (xs := [.int x0]) (a := a) mc_40 dX4_tellHouse_34 (by decide +kernel) (by decide +kernel) rfl rfl (Nat.le_of_ble_eq_true rfl) rfl
theorem e40_37 : mm_E 40 37 [l0, l1, l2, l3] (.int x :: st) I r Q ↔ mm_c1 l1 ∧ mm_E 40 38 [l0, l1, some (.int x), l3] st I r Q := me_st (k := 2) (v := .int x) mc_40 dX4_tellHouse_37 rfl rfl (Nat.le_of_ble_eq_true rfl) rfl ⟨Or.inr, fun h => h.resolve_left (by decide)⟩
theorem e40_38 : mm_E 40 38 [l0, l1, some (.int x), l3] st I r Q ↔ mm_E 40 39 [l0, l1, some (.int x), l3] (.int x :: st) I r Q := me_il mc_40 dX4_tellHouse_38 rfl
theorem e40_39 : mm_E 40 39 ls (.int x :: st) I r Q ↔ if 0 ≤ x then mm_E 40 44 ls st I r Q else mm_E 40 42 ls st I r Q := me_zge mc_40 dX4_tellHouse_39 (by decide)
theorem e40_42 : mm_E 40 42 ls st I r Q ↔ mm_E 40 43 ls (.int 0 :: st) I r Q := me_ic mc_40 dX4_tellHouse_42 (by decide)
theorem e40_43 : mm_E 40 43 ls [.int x] I r Q ↔ (x = 0 ∨ x = 1) ∧ Q (some (.int x)) I r := me_rz mc_40 dX4_tellHouse_43 rfl
theorem e40_44 : mm_E 40 44 ls st I r Q ↔ mm_E 40 45 ls (.int 0 :: st) I r Q := me_ic mc_40 dX4_tellHouse_44 (by decide)
theorem e40_45 : mm_E 40 45 [l0, l1, l2, l3] (.int x :: st) I r Q ↔ mm_c1 l2 ∧ mm_E 40 46 [l0, l1, l2, some (.int x)] st I r Q := me_st (k := 3) (v := .int x) mc_40 dX4_tellHouse_45 rfl rfl (Nat.le_of_ble_eq_true rfl) rfl ⟨Or.inr, fun h => h.resolve_left (by decide)⟩
theorem e40_46 : mm_E 40 46 [l0, l1, l2, some (.int x)] st I r Q ↔ mm_E 40 47 [l0, l1, l2, some (.int x)] (.int x :: st) I r Q := me_il mc_40 dX4_tellHouse_46 rfl
theorem e40_47 : mm_E 40 47 ls st I r Q ↔ mm_E 40 48 ls (.int 3 :: st) I r Q := me_ic mc_40 dX4_tellHouse_47 (by decide)
theorem e40_48 : mm_E 40 48 ls (.int y :: .int x :: st) I r Q ↔ if y ≤ x then mm_E 40 66 ls st I r Q else mm_E 40 51 ls st I r Q := me_cge mc_40 dX4_tellHouse_48 (by decide)
theorem e40_51 : mm_E 40 51 [some (.ref a), l1, l2, l3] st I r Q ↔ mm_E 40 52 [some (.ref a), l1, l2, l3] (.ref a :: st) I r Q := me_al mc_40 dX4_tellHouse_51 rfl
theorem e40_52 : mm_E 40 52 ls st I r Q ↔ mm_E 40 54 ls (.int 33 :: st) I r Q := me_bi mc_40 dX4_tellHouse_52 (by decide)
theorem e40_54 : ∀ (x0 : Int32), (mm_E 40 54 ls (.int x0 :: .ref a :: st) I r Q ↔ (mm_w8 st = true ∧ mm_S r a = (1, 4)) ∧ mm_E 47 0 [some (.ref a), some (.int x0)] [] I r (fun v I2 r2 => mm_E 40 57 ls (mm_pu v st) I2 r2 Q)) := fun x0 => me_vc (n := 1) (As := [.int x0]) (xs := [.int x0]) (a := a) mc_40 dX4_tellHouse_54 (by decide +kernel) (by decide +kernel) rfl rfl (Nat.le_of_ble_eq_true rfl) rfl
theorem e40_57 : mm_E 40 57 ls (.int x :: st) I r Q ↔ if x = 0 then mm_E 40 66 ls st I r Q else mm_E 40 60 ls st I r Q := me_zeq mc_40 dX4_tellHouse_57 (by decide)
theorem e40_60 : mm_E 40 60 [l0, l1, l2, some (.int x)] st I r Q ↔ mm_c1 l2 ∧ mm_E 40 63 [l0, l1, l2, some (.int (x + 1))] st I r Q := me_st (k := 3) (v := .int (x + 1)) mc_40 dX4_tellHouse_60 rfl rfl (Nat.le_of_ble_eq_true rfl) rfl ⟨Or.inr, fun h => h.resolve_left (by decide)⟩
theorem e40_63 : mm_E 40 63 ls st I r Q ↔ mm_E 40 46 ls st I r Q := me_goto mc_40 dX4_tellHouse_63 (by decide)
theorem e40_66 : mm_E 40 66 [some (.ref a), l1, l2, l3] st I r Q ↔ mm_E 40 67 [some (.ref a), l1, l2, l3] (.ref a :: st) I r Q := me_al mc_40 dX4_tellHouse_66 rfl
theorem e40_67 : mm_E 40 67 ls (.ref a :: st) I r Q ↔ mm_S r a = (1, 4) ∧ mm_E 40 70 ls (va_rf (mm_P r a 2) :: st) I r Q := me_gr mc_40 dX4_tellHouse_67 (by decide +kernel) rfl
theorem e40_70 : mm_E 40 70 ls st I r Q ↔ mm_E 40 72 ls (.int 10 :: st) I r Q := me_bi mc_40 dX4_tellHouse_70 (by decide)
theorem e40_72 : mm_E 40 72 [l0, some (.int x), l2, l3] st I r Q ↔ mm_E 40 73 [l0, some (.int x), l2, l3] (.int x :: st) I r Q := me_il mc_40 dX4_tellHouse_72 rfl
theorem e40_73 : mm_E 40 73 ls (.int y :: .int x :: st) I r Q ↔ mm_E 40 74 ls (.int (x * y) :: st) I r Q := me_imul mc_40 dX4_tellHouse_73
theorem e40_74 : mm_E 40 74 [l0, l1, some (.int x), l3] st I r Q ↔ mm_E 40 75 [l0, l1, some (.int x), l3] (.int x :: st) I r Q := me_il mc_40 dX4_tellHouse_74 rfl
theorem e40_75 : mm_E 40 75 [l0, l1, l2, some (.int x)] st I r Q ↔ mm_E 40 76 [l0, l1, l2, some (.int x)] (.int x :: st) I r Q := me_il mc_40 dX4_tellHouse_75 rfl
theorem e40_76 : ∀ (x0 : Int32) (x1 : Int32) (x2 : Int32), (mm_E 40 76 ls (.int x2 :: .int x1 :: .int x0 :: .ref a :: st) I r Q ↔ (mm_w8 st = true ∧ mm_S r a = (1, 0)) ∧ mm_E 5 0 [some (.ref a), some (.int x0), some (.int x1), some (.int x2), none] [] I r (fun v I2 r2 => mm_E 40 79 ls (mm_pu v st) I2 r2 Q)) := fun x0 x1 x2 => me_vc (n := 3) (As := [.int x0, .int x1, .int x2]) (xs := [.int x2, .int x1, .int x0]) (a := a) mc_40 dX4_tellHouse_76 (by decide +kernel) (by decide +kernel) rfl rfl (Nat.le_of_ble_eq_true rfl) rfl
theorem e40_79 : mm_E 40 79 ls (v :: st) I r Q ↔ v.category = 1 ∧ mm_E 40 80 ls st I r Q := me_pop mc_40 dX4_tellHouse_79
theorem e40_80 : mm_E 40 80 ls st I r Q ↔ mm_E 40 81 ls (.int 1 :: st) I r Q := me_ic mc_40 dX4_tellHouse_80 (by decide)
theorem e40_81 : mm_E 40 81 ls [.int x] I r Q ↔ (x = 0 ∨ x = 1) ∧ Q (some (.int x)) I r := me_rz mc_40 dX4_tellHouse_81 rfl
theorem mc_41 : mm_c 41 = cX4_tellHogs := rfl
theorem e41_0 : mm_E 41 0 ls st I r Q ↔ mm_E 41 1 ls (.int 1 :: st) I r Q := me_ic mc_41 dX4_tellHogs_0 (by decide)
theorem e41_1 : mm_E 41 1 [l0, l1] (.int x :: st) I r Q ↔ mm_c1 l0 ∧ mm_E 41 2 [l0, some (.int x)] st I r Q := me_st (k := 1) (v := .int x) mc_41 dX4_tellHogs_1 rfl rfl (Nat.le_of_ble_eq_true rfl) rfl ⟨Or.inr, fun h => h.resolve_left (by decide)⟩
theorem e41_2 : mm_E 41 2 [l0, some (.int x)] st I r Q ↔ mm_E 41 3 [l0, some (.int x)] (.int x :: st) I r Q := me_il mc_41 dX4_tellHogs_2 rfl
theorem e41_3 : mm_E 41 3 ls st I r Q ↔ mm_E 41 4 ls (.int 5 :: st) I r Q := me_ic mc_41 dX4_tellHogs_3 (by decide)
theorem e41_4 : mm_E 41 4 ls (.int y :: .int x :: st) I r Q ↔ if y < x then mm_E 41 39 ls st I r Q else mm_E 41 7 ls st I r Q := me_cgt mc_41 dX4_tellHogs_4 (by decide)
theorem e41_7 : mm_E 41 7 [some (.ref a), l1] st I r Q ↔ mm_E 41 8 [some (.ref a), l1] (.ref a :: st) I r Q := me_al mc_41 dX4_tellHogs_7 rfl
theorem e41_8 : (mm_E 41 8 ls (.ref a :: st) I r Q ↔ (mm_w8 st = true ∧ mm_S r a = (1, 4)) ∧ mm_E 42 0 [some (.ref a), none, none, none] [] I r (fun v I2 r2 => mm_E 41 11 ls (mm_pu v st) I2 r2 Q)) := me_vc (n := 0) (As := []) (xs := []) (a := a) mc_41 dX4_tellHogs_8 (by decide +kernel) (by decide +kernel) rfl rfl (Nat.le_of_ble_eq_true rfl) rfl
theorem e41_11 : mm_E 41 11 ls (.int x :: st) I r Q ↔ if ¬ x = 0 then mm_E 41 16 ls st I r Q else mm_E 41 14 ls st I r Q := me_zne mc_41 dX4_tellHogs_11 (by decide)
theorem e41_14 : mm_E 41 14 ls st I r Q ↔ mm_E 41 15 ls (.int 0 :: st) I r Q := me_ic mc_41 dX4_tellHogs_14 (by decide)
theorem e41_15 : mm_E 41 15 ls [.int x] I r Q ↔ (x = 0 ∨ x = 1) ∧ Q (some (.int x)) I r := me_rz mc_41 dX4_tellHogs_15 rfl
theorem e41_16 : mm_E 41 16 [l0, some (.int x)] st I r Q ↔ mm_E 41 17 [l0, some (.int x)] (.int x :: st) I r Q := me_il mc_41 dX4_tellHogs_16 rfl
theorem e41_17 : mm_E 41 17 ls st I r Q ↔ mm_E 41 18 ls (.int 5 :: st) I r Q := me_ic mc_41 dX4_tellHogs_17 (by decide)
theorem e41_18 : mm_E 41 18 ls (.int y :: .int x :: st) I r Q ↔ if x = y then mm_E 41 39 ls st I r Q else mm_E 41 21 ls st I r Q := me_ceq mc_41 dX4_tellHogs_18 (by decide)
theorem e41_21 : mm_E 41 21 [some (.ref a), l1] st I r Q ↔ mm_E 41 22 [some (.ref a), l1] (.ref a :: st) I r Q := me_al mc_41 dX4_tellHogs_21 rfl
theorem e41_22 : mm_E 41 22 ls st I r Q ↔ mm_E 41 24 ls (.int 44 :: st) I r Q := me_bi mc_41 dX4_tellHogs_22 (by decide)
theorem e41_24 : ∀ (x0 : Int32), (mm_E 41 24 ls (.int x0 :: .ref a :: st) I r Q ↔ (mm_w8 st = true ∧ mm_S r a = (1, 4)) ∧ mm_E 47 0 [some (.ref a), some (.int x0)] [] I r (fun v I2 r2 => mm_E 41 27 ls (mm_pu v st) I2 r2 Q)) := fun x0 => me_vc (n := 1) (As := [.int x0]) (xs := [.int x0]) (a := a) mc_41 dX4_tellHogs_24 (by decide +kernel) (by decide +kernel) rfl rfl (Nat.le_of_ble_eq_true rfl) rfl
theorem e41_27 : mm_E 41 27 ls (.int x :: st) I r Q ↔ if ¬ x = 0 then mm_E 41 33 ls st I r Q else mm_E 41 30 ls st I r Q := me_zne mc_41 dX4_tellHogs_27 (by decide)
theorem e41_30 : mm_E 41 30 ls st I r Q ↔ mm_E 41 39 ls st I r Q := me_goto mc_41 dX4_tellHogs_30 (by decide)
theorem e41_33 : mm_E 41 33 [l0, some (.int x)] st I r Q ↔ mm_c1 l0 ∧ mm_E 41 36 [l0, some (.int (x + 1))] st I r Q := me_st (k := 1) (v := .int (x + 1)) mc_41 dX4_tellHogs_33 rfl rfl (Nat.le_of_ble_eq_true rfl) rfl ⟨Or.inr, fun h => h.resolve_left (by decide)⟩
theorem e41_36 : mm_E 41 36 ls st I r Q ↔ mm_E 41 2 ls st I r Q := me_goto mc_41 dX4_tellHogs_36 (by decide)
theorem e41_39 : mm_E 41 39 ls st I r Q ↔ mm_E 41 40 ls (.int 1 :: st) I r Q := me_ic mc_41 dX4_tellHogs_39 (by decide)
theorem e41_40 : mm_E 41 40 ls [.int x] I r Q ↔ (x = 0 ∨ x = 1) ∧ Q (some (.int x)) I r := me_rz mc_41 dX4_tellHogs_40 rfl
theorem mc_42 : mm_c 42 = cX4_tellHog := rfl
theorem e42_0 : mm_E 42 0 [some (.ref a), l1, l2, l3] st I r Q ↔ mm_E 42 1 [some (.ref a), l1, l2, l3] (.ref a :: st) I r Q := me_al mc_42 dX4_tellHog_0 rfl
theorem e42_1 : (mm_E 42 1 ls (.ref a :: st) I r Q ↔ (mm_w8 st = true ∧ mm_S r a = (1, 4)) ∧ mm_E 46 0 [some (.ref a)] [] I r (fun v I2 r2 => mm_E 42 4 ls (mm_pu v st) I2 r2 Q)) := me_vc (n := 0) (As := []) (xs := []) (a := a) mc_42 dX4_tellHog_1 (by decide +kernel) (by decide +kernel) rfl rfl (Nat.le_of_ble_eq_true rfl) rfl
theorem e42_4 : ∀ (x0 : Int32), (mm_E 42 4 ls (.int x0 :: st) I r Q ↔ mm_w8 st = true ∧ mm_E 43 0 [some (.int x0)] [] I r (fun v I2 r2 => mm_E 42 7 ls (mm_pu v st) I2 r2 Q)) := fun x0 => me_sc (n := 1) (As := [.int x0]) (xs := [.int x0]) mc_42 dX4_tellHog_4 (by decide +kernel) (by decide +kernel) rfl rfl (Nat.le_of_ble_eq_true rfl) rfl
theorem e42_7 : mm_E 42 7 [l0, l1, l2, l3] (.int x :: st) I r Q ↔ mm_c1 l0 ∧ mm_E 42 8 [l0, some (.int x), l2, l3] st I r Q := me_st (k := 1) (v := .int x) mc_42 dX4_tellHog_7 rfl rfl (Nat.le_of_ble_eq_true rfl) rfl ⟨Or.inr, fun h => h.resolve_left (by decide)⟩
theorem e42_8 : mm_E 42 8 [l0, some (.int x), l2, l3] st I r Q ↔ mm_E 42 9 [l0, some (.int x), l2, l3] (.int x :: st) I r Q := me_il mc_42 dX4_tellHog_8 rfl
theorem e42_9 : mm_E 42 9 ls (.int x :: st) I r Q ↔ if 0 ≤ x then mm_E 42 21 ls st I r Q else mm_E 42 12 ls st I r Q := me_zge mc_42 dX4_tellHog_9 (by decide)
theorem e42_12 : mm_E 42 12 [some (.ref a), l1, l2, l3] st I r Q ↔ mm_E 42 13 [some (.ref a), l1, l2, l3] (.ref a :: st) I r Q := me_al mc_42 dX4_tellHog_12 rfl
theorem e42_13 : mm_E 42 13 [some (.ref a), l1, l2, l3] st I r Q ↔ mm_E 42 14 [some (.ref a), l1, l2, l3] (.ref a :: st) I r Q := me_al mc_42 dX4_tellHog_13 rfl
theorem e42_14 : mm_E 42 14 ls (.ref a :: st) I r Q ↔ mm_S r a = (1, 4) ∧ mm_E 42 17 ls (.int (mm_rd I a 4) :: st) I r Q := me_gi mc_42 dX4_tellHog_14 (by decide +kernel) rfl
theorem e42_17 : ∀ (x0 : Int32), (mm_E 42 17 ls (.int x0 :: .ref a :: st) I r Q ↔ (mm_w8 st = true ∧ mm_S r a = (1, 4)) ∧ mm_E 48 0 [some (.ref a), some (.int x0)] [] I r (fun v I2 r2 => mm_E 42 20 ls (mm_pu v st) I2 r2 Q)) := fun x0 => me_vc (n := 1) (As := [.int x0]) (xs := [.int x0]) (a := a) mc_42 dX4_tellHog_17 (by decide +kernel) (by decide +kernel) rfl rfl (Nat.le_of_ble_eq_true rfl) rfl
theorem e42_20 : mm_E 42 20 ls [.int x] I r Q ↔ (x = 0 ∨ x = 1) ∧ Q (some (.int x)) I r := me_rz mc_42 dX4_tellHog_20 rfl
theorem e42_21 : mm_E 42 21 [some (.ref a), l1, l2, l3] st I r Q ↔ mm_E 42 22 [some (.ref a), l1, l2, l3] (.ref a :: st) I r Q := me_al mc_42 dX4_tellHog_21 rfl
theorem e42_22 : mm_E 42 22 ls (v :: st) I r Q ↔ v.category = 1 ∧ mm_E 42 23 ls (v :: v :: st) I r Q := me_dup mc_42 dX4_tellHog_22
theorem e42_23 : mm_E 42 23 ls (.ref a :: st) I r Q ↔ mm_S r a = (1, 4) ∧ mm_E 42 26 ls (.int (mm_rd I a 4) :: st) I r Q := me_gi mc_42 dX4_tellHog_23 (by decide +kernel) rfl
theorem e42_26 : mm_E 42 26 ls st I r Q ↔ mm_E 42 27 ls (.int 1 :: st) I r Q := me_ic mc_42 dX4_tellHog_26 (by decide)
theorem e42_27 : mm_E 42 27 ls (.int y :: .int x :: st) I r Q ↔ mm_E 42 28 ls (.int (x + y) :: st) I r Q := me_iadd mc_42 dX4_tellHog_27
theorem e42_28 : mm_E 42 28 ls (.int x :: .ref a :: st) I r Q ↔ mm_S r a = (1, 4) ∧ mm_E 42 31 ls st (mm_uI I a 4 x) r Q := me_pi mc_42 dX4_tellHog_28 (by decide +kernel) (by decide +kernel)
theorem e42_31 : mm_E 42 31 [some (.ref a), l1, l2, l3] st I r Q ↔ mm_E 42 32 [some (.ref a), l1, l2, l3] (.ref a :: st) I r Q := me_al mc_42 dX4_tellHog_31 rfl
theorem e42_32 : (mm_E 42 32 ls (.ref a :: st) I r Q ↔ (mm_w8 st = true ∧ mm_S r a = (1, 4)) ∧ mm_E 46 0 [some (.ref a)] [] I r (fun v I2 r2 => mm_E 42 35 ls (mm_pu v st) I2 r2 Q)) := me_vc (n := 0) (As := []) (xs := []) (a := a) mc_42 dX4_tellHog_32 (by decide +kernel) (by decide +kernel) rfl rfl (Nat.le_of_ble_eq_true rfl) rfl
theorem e42_35 : mm_E 42 35 ls st I r Q ↔ mm_E 42 37 ls (.int 48 :: st) I r Q := me_bi mc_42 dX4_tellHog_35 (by decide)
theorem e42_37 : mm_E 42 37 ls (.int y :: .int x :: st) I r Q ↔ mm_E 42 38 ls (.int (x - y) :: st) I r Q := me_isub mc_42 dX4_tellHog_37
theorem e42_38 : mm_E 42 38 [l0, l1, l2, l3] (.int x :: st) I r Q ↔ mm_c1 l1 ∧ mm_E 42 39 [l0, l1, some (.int x), l3] st I r Q := me_st (k := 2) (v := .int x) mc_42 dX4_tellHog_38 rfl rfl (Nat.le_of_ble_eq_true rfl) rfl ⟨Or.inr, fun h => h.resolve_left (by decide)⟩
theorem e42_39 : mm_E 42 39 [l0, l1, some (.int x), l3] st I r Q ↔ mm_E 42 40 [l0, l1, some (.int x), l3] (.int x :: st) I r Q := me_il mc_42 dX4_tellHog_39 rfl
theorem e42_40 : mm_E 42 40 ls st I r Q ↔ mm_E 42 41 ls (.int 1 :: st) I r Q := me_ic mc_42 dX4_tellHog_40 (by decide)
theorem e42_41 : mm_E 42 41 ls (.int y :: .int x :: st) I r Q ↔ if x < y then mm_E 42 50 ls st I r Q else mm_E 42 44 ls st I r Q := me_clt mc_42 dX4_tellHog_41 (by decide)
theorem e42_44 : mm_E 42 44 [l0, l1, some (.int x), l3] st I r Q ↔ mm_E 42 45 [l0, l1, some (.int x), l3] (.int x :: st) I r Q := me_il mc_42 dX4_tellHog_44 rfl
theorem e42_45 : mm_E 42 45 ls st I r Q ↔ mm_E 42 47 ls (.int 9 :: st) I r Q := me_bi mc_42 dX4_tellHog_45 (by decide)
theorem e42_47 : mm_E 42 47 ls (.int y :: .int x :: st) I r Q ↔ if x ≤ y then mm_E 42 59 ls st I r Q else mm_E 42 50 ls st I r Q := me_cle mc_42 dX4_tellHog_47 (by decide)
theorem e42_50 : mm_E 42 50 [some (.ref a), l1, l2, l3] st I r Q ↔ mm_E 42 51 [some (.ref a), l1, l2, l3] (.ref a :: st) I r Q := me_al mc_42 dX4_tellHog_50 rfl
theorem e42_51 : mm_E 42 51 [some (.ref a), l1, l2, l3] st I r Q ↔ mm_E 42 52 [some (.ref a), l1, l2, l3] (.ref a :: st) I r Q := me_al mc_42 dX4_tellHog_51 rfl
theorem e42_52 : mm_E 42 52 ls (.ref a :: st) I r Q ↔ mm_S r a = (1, 4) ∧ mm_E 42 55 ls (.int (mm_rd I a 4) :: st) I r Q := me_gi mc_42 dX4_tellHog_52 (by decide +kernel) rfl
theorem e42_55 : ∀ (x0 : Int32), (mm_E 42 55 ls (.int x0 :: .ref a :: st) I r Q ↔ (mm_w8 st = true ∧ mm_S r a = (1, 4)) ∧ mm_E 48 0 [some (.ref a), some (.int x0)] [] I r (fun v I2 r2 => mm_E 42 58 ls (mm_pu v st) I2 r2 Q)) := fun x0 => me_vc (n := 1) (As := [.int x0]) (xs := [.int x0]) (a := a) mc_42 dX4_tellHog_55 (by decide +kernel) (by decide +kernel) rfl rfl (Nat.le_of_ble_eq_true rfl) rfl
theorem e42_58 : mm_E 42 58 ls [.int x] I r Q ↔ (x = 0 ∨ x = 1) ∧ Q (some (.int x)) I r := me_rz mc_42 dX4_tellHog_58 rfl
theorem e42_59 : mm_E 42 59 [some (.ref a), l1, l2, l3] st I r Q ↔ mm_E 42 60 [some (.ref a), l1, l2, l3] (.ref a :: st) I r Q := me_al mc_42 dX4_tellHog_59 rfl
theorem e42_60 : mm_E 42 60 ls (v :: st) I r Q ↔ v.category = 1 ∧ mm_E 42 61 ls (v :: v :: st) I r Q := me_dup mc_42 dX4_tellHog_60
theorem e42_61 : mm_E 42 61 ls (.ref a :: st) I r Q ↔ mm_S r a = (1, 4) ∧ mm_E 42 64 ls (.int (mm_rd I a 4) :: st) I r Q := me_gi mc_42 dX4_tellHog_61 (by decide +kernel) rfl
theorem e42_64 : mm_E 42 64 ls st I r Q ↔ mm_E 42 65 ls (.int 1 :: st) I r Q := me_ic mc_42 dX4_tellHog_64 (by decide)
theorem e42_65 : mm_E 42 65 ls (.int y :: .int x :: st) I r Q ↔ mm_E 42 66 ls (.int (x + y) :: st) I r Q := me_iadd mc_42 dX4_tellHog_65
theorem e42_66 : mm_E 42 66 ls (.int x :: .ref a :: st) I r Q ↔ mm_S r a = (1, 4) ∧ mm_E 42 69 ls st (mm_uI I a 4 x) r Q := me_pi mc_42 dX4_tellHog_66 (by decide +kernel) (by decide +kernel)
theorem e42_69 : mm_E 42 69 ls st I r Q ↔ mm_E 42 70 ls (.int 0 :: st) I r Q := me_ic mc_42 dX4_tellHog_69 (by decide)
theorem e42_70 : mm_E 42 70 [l0, l1, l2, l3] (.int x :: st) I r Q ↔ mm_c1 l2 ∧ mm_E 42 71 [l0, l1, l2, some (.int x)] st I r Q := me_st (k := 3) (v := .int x) mc_42 dX4_tellHog_70 rfl rfl (Nat.le_of_ble_eq_true rfl) rfl ⟨Or.inr, fun h => h.resolve_left (by decide)⟩
theorem e42_71 : mm_E 42 71 [some (.ref a), l1, l2, l3] st I r Q ↔ mm_E 42 72 [some (.ref a), l1, l2, l3] (.ref a :: st) I r Q := me_al mc_42 dX4_tellHog_71 rfl
theorem e42_72 : mm_E 42 72 ls st I r Q ↔ mm_E 42 74 ls (.int 64 :: st) I r Q := me_bi mc_42 dX4_tellHog_72 (by decide)
theorem e42_74 : ∀ (x0 : Int32), (mm_E 42 74 ls (.int x0 :: .ref a :: st) I r Q ↔ (mm_w8 st = true ∧ mm_S r a = (1, 4)) ∧ mm_E 47 0 [some (.ref a), some (.int x0)] [] I r (fun v I2 r2 => mm_E 42 77 ls (mm_pu v st) I2 r2 Q)) := fun x0 => me_vc (n := 1) (As := [.int x0]) (xs := [.int x0]) (a := a) mc_42 dX4_tellHog_74 (by decide +kernel) (by decide +kernel) rfl rfl (Nat.le_of_ble_eq_true rfl) rfl
theorem e42_77 : mm_E 42 77 ls (.int x :: st) I r Q ↔ if x = 0 then mm_E 42 118 ls st I r Q else mm_E 42 80 ls st I r Q := me_zeq mc_42 dX4_tellHog_77 (by decide)
theorem e42_80 : mm_E 42 80 [some (.ref a), l1, l2, l3] st I r Q ↔ mm_E 42 81 [some (.ref a), l1, l2, l3] (.ref a :: st) I r Q := me_al mc_42 dX4_tellHog_80 rfl
theorem e42_81 : (mm_E 42 81 ls (.ref a :: st) I r Q ↔ (mm_w8 st = true ∧ mm_S r a = (1, 4)) ∧ mm_E 46 0 [some (.ref a)] [] I r (fun v I2 r2 => mm_E 42 84 ls (mm_pu v st) I2 r2 Q)) := me_vc (n := 0) (As := []) (xs := []) (a := a) mc_42 dX4_tellHog_81 (by decide +kernel) (by decide +kernel) rfl rfl (Nat.le_of_ble_eq_true rfl) rfl
theorem e42_84 : mm_E 42 84 ls st I r Q ↔ mm_E 42 86 ls (.int 48 :: st) I r Q := me_bi mc_42 dX4_tellHog_84 (by decide)
theorem e42_86 : mm_E 42 86 ls (.int y :: .int x :: st) I r Q ↔ mm_E 42 87 ls (.int (x - y) :: st) I r Q := me_isub mc_42 dX4_tellHog_86
theorem e42_87 : mm_E 42 87 [l0, l1, l2, l3] (.int x :: st) I r Q ↔ mm_c1 l2 ∧ mm_E 42 88 [l0, l1, l2, some (.int x)] st I r Q := me_st (k := 3) (v := .int x) mc_42 dX4_tellHog_87 rfl rfl (Nat.le_of_ble_eq_true rfl) rfl ⟨Or.inr, fun h => h.resolve_left (by decide)⟩
theorem e42_88 : mm_E 42 88 [some (.ref a), l1, l2, l3] st I r Q ↔ mm_E 42 89 [some (.ref a), l1, l2, l3] (.ref a :: st) I r Q := me_al mc_42 dX4_tellHog_88 rfl
theorem e42_89 : mm_E 42 89 ls (.ref a :: st) I r Q ↔ mm_S r a = (1, 4) ∧ mm_E 42 92 ls (va_rf (mm_P r a 2) :: st) I r Q := me_gr mc_42 dX4_tellHog_89 (by decide +kernel) rfl
theorem e42_92 : mm_E 42 92 [l0, l1, l2, some (.int x)] st I r Q ↔ mm_E 42 93 [l0, l1, l2, some (.int x)] (.int x :: st) I r Q := me_il mc_42 dX4_tellHog_92 rfl
theorem e42_93 : ∀ (x0 : Int32), (mm_E 42 93 ls (.int x0 :: .ref a :: st) I r Q ↔ (mm_w8 st = true ∧ mm_S r a = (1, 0)) ∧ mm_E 3 0 [some (.ref a), some (.int x0)] [] I r (fun v I2 r2 => mm_E 42 96 ls (mm_pu v st) I2 r2 Q)) := fun x0 => me_vc (n := 1) (As := [.int x0]) (xs := [.int x0]) (a := a) mc_42 dX4_tellHog_93 (by decide +kernel) (by decide +kernel) rfl rfl (Nat.le_of_ble_eq_true rfl) rfl
theorem e42_96 : mm_E 42 96 ls (.int x :: st) I r Q ↔ if ¬ x = 0 then mm_E 42 108 ls st I r Q else mm_E 42 99 ls st I r Q := me_zne mc_42 dX4_tellHog_96 (by decide)
theorem e42_99 : mm_E 42 99 [some (.ref a), l1, l2, l3] st I r Q ↔ mm_E 42 100 [some (.ref a), l1, l2, l3] (.ref a :: st) I r Q := me_al mc_42 dX4_tellHog_99 rfl
theorem e42_100 : mm_E 42 100 [some (.ref a), l1, l2, l3] st I r Q ↔ mm_E 42 101 [some (.ref a), l1, l2, l3] (.ref a :: st) I r Q := me_al mc_42 dX4_tellHog_100 rfl
theorem e42_101 : mm_E 42 101 ls (.ref a :: st) I r Q ↔ mm_S r a = (1, 4) ∧ mm_E 42 104 ls (.int (mm_rd I a 4) :: st) I r Q := me_gi mc_42 dX4_tellHog_101 (by decide +kernel) rfl
theorem e42_104 : ∀ (x0 : Int32), (mm_E 42 104 ls (.int x0 :: .ref a :: st) I r Q ↔ (mm_w8 st = true ∧ mm_S r a = (1, 4)) ∧ mm_E 48 0 [some (.ref a), some (.int x0)] [] I r (fun v I2 r2 => mm_E 42 107 ls (mm_pu v st) I2 r2 Q)) := fun x0 => me_vc (n := 1) (As := [.int x0]) (xs := [.int x0]) (a := a) mc_42 dX4_tellHog_104 (by decide +kernel) (by decide +kernel) rfl rfl (Nat.le_of_ble_eq_true rfl) rfl
theorem e42_107 : mm_E 42 107 ls [.int x] I r Q ↔ (x = 0 ∨ x = 1) ∧ Q (some (.int x)) I r := me_rz mc_42 dX4_tellHog_107 rfl
theorem e42_108 : mm_E 42 108 [some (.ref a), l1, l2, l3] st I r Q ↔ mm_E 42 109 [some (.ref a), l1, l2, l3] (.ref a :: st) I r Q := me_al mc_42 dX4_tellHog_108 rfl
theorem e42_109 : mm_E 42 109 ls (v :: st) I r Q ↔ v.category = 1 ∧ mm_E 42 110 ls (v :: v :: st) I r Q := me_dup mc_42 dX4_tellHog_109
theorem e42_110 : mm_E 42 110 ls (.ref a :: st) I r Q ↔ mm_S r a = (1, 4) ∧ mm_E 42 113 ls (.int (mm_rd I a 4) :: st) I r Q := me_gi mc_42 dX4_tellHog_110 (by decide +kernel) rfl
theorem e42_113 : mm_E 42 113 ls st I r Q ↔ mm_E 42 114 ls (.int 1 :: st) I r Q := me_ic mc_42 dX4_tellHog_113 (by decide)
theorem e42_114 : mm_E 42 114 ls (.int y :: .int x :: st) I r Q ↔ mm_E 42 115 ls (.int (x + y) :: st) I r Q := me_iadd mc_42 dX4_tellHog_114
theorem e42_115 : mm_E 42 115 ls (.int x :: .ref a :: st) I r Q ↔ mm_S r a = (1, 4) ∧ mm_E 42 118 ls st (mm_uI I a 4 x) r Q := me_pi mc_42 dX4_tellHog_115 (by decide +kernel) (by decide +kernel)
theorem e42_118 : mm_E 42 118 [some (.ref a), l1, l2, l3] st I r Q ↔ mm_E 42 119 [some (.ref a), l1, l2, l3] (.ref a :: st) I r Q := me_al mc_42 dX4_tellHog_118 rfl
theorem e42_119 : mm_E 42 119 ls (.ref a :: st) I r Q ↔ mm_S r a = (1, 4) ∧ mm_E 42 122 ls (va_rf (mm_P r a 2) :: st) I r Q := me_gr mc_42 dX4_tellHog_119 (by decide +kernel) rfl
theorem e42_122 : mm_E 42 122 [l0, some (.int x), l2, l3] st I r Q ↔ mm_E 42 123 [l0, some (.int x), l2, l3] (.int x :: st) I r Q := me_il mc_42 dX4_tellHog_122 rfl
theorem e42_123 : mm_E 42 123 [l0, l1, some (.int x), l3] st I r Q ↔ mm_E 42 124 [l0, l1, some (.int x), l3] (.int x :: st) I r Q := me_il mc_42 dX4_tellHog_123 rfl
theorem e42_124 : mm_E 42 124 [l0, l1, l2, some (.int x)] st I r Q ↔ mm_E 42 125 [l0, l1, l2, some (.int x)] (.int x :: st) I r Q := me_il mc_42 dX4_tellHog_124 rfl
theorem e42_125 : ∀ (x0 : Int32) (x1 : Int32) (x2 : Int32), (mm_E 42 125 ls (.int x2 :: .int x1 :: .int x0 :: .ref a :: st) I r Q ↔ (mm_w8 st = true ∧ mm_S r a = (1, 0)) ∧ mm_E 6 0 [some (.ref a), some (.int x0), some (.int x1), some (.int x2), none] [] I r (fun v I2 r2 => mm_E 42 128 ls (mm_pu v st) I2 r2 Q)) := fun x0 x1 x2 => me_vc (n := 3) (As := [.int x0, .int x1, .int x2]) (xs := [.int x2, .int x1, .int x0]) (a := a) mc_42 dX4_tellHog_125 (by decide +kernel) (by decide +kernel) rfl rfl (Nat.le_of_ble_eq_true rfl) rfl
theorem e42_128 : mm_E 42 128 ls (v :: st) I r Q ↔ v.category = 1 ∧ mm_E 42 129 ls st I r Q := me_pop mc_42 dX4_tellHog_128
theorem e42_129 : mm_E 42 129 ls st I r Q ↔ mm_E 42 130 ls (.int 1 :: st) I r Q := me_ic mc_42 dX4_tellHog_129 (by decide)
theorem e42_130 : mm_E 42 130 ls [.int x] I r Q ↔ (x = 0 ∨ x = 1) ∧ Q (some (.int x)) I r := me_rz mc_42 dX4_tellHog_130 rfl
theorem mc_43 : mm_c 43 = cX4_kindOf := rfl
theorem e43_0 : mm_E 43 0 [some (.int x)] st I r Q ↔ mm_E 43 1 [some (.int x)] (.int x :: st) I r Q := me_il mc_43 dX4_kindOf_0 rfl
theorem e43_1 : mm_E 43 1 ls (.int x :: st) I r Q ↔ if x = 102 then mm_E 43 58 ls st I r Q else if x = 103 then mm_E 43 54 ls st I r Q else if x = 112 then mm_E 43 52 ls st I r Q else if x = 115 then mm_E 43 56 ls st I r Q else if x = 121 then mm_E 43 60 ls st I r Q else mm_E 43 62 ls st I r Q := by
  by_cases h0 : x = 102
  · subst h0
    simp only [if_true, if_pos]
    exact me_sw (off := 57) mc_43 dX4_kindOf_1 rfl rfl (by decide)
  by_cases h1 : x = 103
  · subst h1
    simp only [if_true, if_pos]
    exact me_sw (off := 53) mc_43 dX4_kindOf_1 rfl rfl (by decide)
  by_cases h2 : x = 112
  · subst h2
    simp only [if_true, if_pos]
    exact me_sw (off := 51) mc_43 dX4_kindOf_1 rfl rfl (by decide)
  by_cases h3 : x = 115
  · subst h3
    simp only [if_true, if_pos]
    exact me_sw (off := 55) mc_43 dX4_kindOf_1 rfl rfl (by decide)
  by_cases h4 : x = 121
  · subst h4
    simp only [if_true, if_pos]
    exact me_sw (off := 59) mc_43 dX4_kindOf_1 rfl rfl (by decide)
  simp only [if_neg h0, if_neg h1, if_neg h2, if_neg h3, if_neg h4]
  have g0 : x.toInt ≠ 102 := fun q => h0 (Int32.toInt_inj.mp q)
  have g1 : x.toInt ≠ 103 := fun q => h1 (Int32.toInt_inj.mp q)
  have g2 : x.toInt ≠ 112 := fun q => h2 (Int32.toInt_inj.mp q)
  have g3 : x.toInt ≠ 115 := fun q => h3 (Int32.toInt_inj.mp q)
  have g4 : x.toInt ≠ 121 := fun q => h4 (Int32.toInt_inj.mp q)
  exact me_sw (off := 61) mc_43 dX4_kindOf_1 rfl (by simp only [mm_act, mm_i1]; rw [if_pos (by decide)]; congr 1; simp [Op.lookupswitch.offset, g0, Ne.symm g0, g1, Ne.symm g1, g2, Ne.symm g2, g3, Ne.symm g3, g4, Ne.symm g4]) (by decide)
theorem e43_52 : mm_E 43 52 ls st I r Q ↔ mm_E 43 53 ls (.int 0 :: st) I r Q := me_ic mc_43 dX4_kindOf_52 (by decide)
theorem e43_53 : mm_E 43 53 ls [.int x] I r Q ↔ Q (some (.int x)) I r := me_ri mc_43 dX4_kindOf_53 rfl
theorem e43_54 : mm_E 43 54 ls st I r Q ↔ mm_E 43 55 ls (.int 1 :: st) I r Q := me_ic mc_43 dX4_kindOf_54 (by decide)
theorem e43_55 : mm_E 43 55 ls [.int x] I r Q ↔ Q (some (.int x)) I r := me_ri mc_43 dX4_kindOf_55 rfl
theorem e43_56 : mm_E 43 56 ls st I r Q ↔ mm_E 43 57 ls (.int 2 :: st) I r Q := me_ic mc_43 dX4_kindOf_56 (by decide)
theorem e43_57 : mm_E 43 57 ls [.int x] I r Q ↔ Q (some (.int x)) I r := me_ri mc_43 dX4_kindOf_57 rfl
theorem e43_58 : mm_E 43 58 ls st I r Q ↔ mm_E 43 59 ls (.int 3 :: st) I r Q := me_ic mc_43 dX4_kindOf_58 (by decide)
theorem e43_59 : mm_E 43 59 ls [.int x] I r Q ↔ Q (some (.int x)) I r := me_ri mc_43 dX4_kindOf_59 rfl
theorem e43_60 : mm_E 43 60 ls st I r Q ↔ mm_E 43 61 ls (.int 4 :: st) I r Q := me_ic mc_43 dX4_kindOf_60 (by decide)
theorem e43_61 : mm_E 43 61 ls [.int x] I r Q ↔ Q (some (.int x)) I r := me_ri mc_43 dX4_kindOf_61 rfl
theorem e43_62 : mm_E 43 62 ls st I r Q ↔ mm_E 43 63 ls (.int (-1) :: st) I r Q := me_ic mc_43 dX4_kindOf_62 (by decide)
theorem e43_63 : mm_E 43 63 ls [.int x] I r Q ↔ Q (some (.int x)) I r := me_ri mc_43 dX4_kindOf_63 rfl
theorem mc_44 : mm_c 44 = cX4_number := rfl
theorem e44_0 : mm_E 44 0 [some (.ref a), l1, l2, l3, l4] st I r Q ↔ mm_E 44 1 [some (.ref a), l1, l2, l3, l4] (.ref a :: st) I r Q := me_al mc_44 dX4_number_0 rfl
theorem e44_1 : (mm_E 44 1 ls (.ref a :: st) I r Q ↔ (mm_w8 st = true ∧ mm_S r a = (1, 4)) ∧ mm_E 46 0 [some (.ref a)] [] I r (fun v I2 r2 => mm_E 44 4 ls (mm_pu v st) I2 r2 Q)) := me_vc (n := 0) (As := []) (xs := []) (a := a) mc_44 dX4_number_1 (by decide +kernel) (by decide +kernel) rfl rfl (Nat.le_of_ble_eq_true rfl) rfl
theorem e44_4 : ∀ (x0 : Int32), (mm_E 44 4 ls (.int x0 :: st) I r Q ↔ mm_w8 st = true ∧ mm_E 45 0 [some (.int x0)] [] I r (fun v I2 r2 => mm_E 44 7 ls (mm_pu v st) I2 r2 Q)) := fun x0 => me_sc (n := 1) (As := [.int x0]) (xs := [.int x0]) mc_44 dX4_number_4 (by decide +kernel) (by decide +kernel) rfl rfl (Nat.le_of_ble_eq_true rfl) rfl
theorem e44_7 : mm_E 44 7 ls (.int x :: st) I r Q ↔ if ¬ x = 0 then mm_E 44 21 ls st I r Q else mm_E 44 10 ls st I r Q := me_zne mc_44 dX4_number_7 (by decide)
theorem e44_10 : mm_E 44 10 [some (.ref a), l1, l2, l3, l4] st I r Q ↔ mm_E 44 11 [some (.ref a), l1, l2, l3, l4] (.ref a :: st) I r Q := me_al mc_44 dX4_number_10 rfl
theorem e44_11 : mm_E 44 11 [some (.ref a), l1, l2, l3, l4] st I r Q ↔ mm_E 44 12 [some (.ref a), l1, l2, l3, l4] (.ref a :: st) I r Q := me_al mc_44 dX4_number_11 rfl
theorem e44_12 : mm_E 44 12 ls (.ref a :: st) I r Q ↔ mm_S r a = (1, 4) ∧ mm_E 44 15 ls (.int (mm_rd I a 4) :: st) I r Q := me_gi mc_44 dX4_number_12 (by decide +kernel) rfl
theorem e44_15 : ∀ (x0 : Int32), (mm_E 44 15 ls (.int x0 :: .ref a :: st) I r Q ↔ (mm_w8 st = true ∧ mm_S r a = (1, 4)) ∧ mm_E 48 0 [some (.ref a), some (.int x0)] [] I r (fun v I2 r2 => mm_E 44 18 ls (mm_pu v st) I2 r2 Q)) := fun x0 => me_vc (n := 1) (As := [.int x0]) (xs := [.int x0]) (a := a) mc_44 dX4_number_15 (by decide +kernel) (by decide +kernel) rfl rfl (Nat.le_of_ble_eq_true rfl) rfl
theorem e44_18 : mm_E 44 18 ls (v :: st) I r Q ↔ v.category = 1 ∧ mm_E 44 19 ls st I r Q := me_pop mc_44 dX4_number_18
theorem e44_19 : mm_E 44 19 ls st I r Q ↔ mm_E 44 20 ls (.int (-1) :: st) I r Q := me_ic mc_44 dX4_number_19 (by decide)
theorem e44_20 : mm_E 44 20 ls [.int x] I r Q ↔ Q (some (.int x)) I r := me_ri mc_44 dX4_number_20 rfl
theorem e44_21 : mm_E 44 21 [some (.ref a), l1, l2, l3, l4] st I r Q ↔ mm_E 44 22 [some (.ref a), l1, l2, l3, l4] (.ref a :: st) I r Q := me_al mc_44 dX4_number_21 rfl
theorem e44_22 : mm_E 44 22 ls (.ref a :: st) I r Q ↔ mm_S r a = (1, 4) ∧ mm_E 44 25 ls (.int (mm_rd I a 4) :: st) I r Q := me_gi mc_44 dX4_number_22 (by decide +kernel) rfl
theorem e44_25 : mm_E 44 25 [l0, l1, l2, l3, l4] (.int x :: st) I r Q ↔ mm_c1 l1 ∧ mm_E 44 26 [l0, l1, some (.int x), l3, l4] st I r Q := me_st (k := 2) (v := .int x) mc_44 dX4_number_25 rfl rfl (Nat.le_of_ble_eq_true rfl) rfl ⟨Or.inr, fun h => h.resolve_left (by decide)⟩
theorem e44_26 : mm_E 44 26 ls st I r Q ↔ mm_E 44 27 ls (.int 0 :: st) I r Q := me_ic mc_44 dX4_number_26 (by decide)
theorem e44_27 : mm_E 44 27 [l0, l1, l2, l3, l4] (.int x :: st) I r Q ↔ mm_c1 l2 ∧ mm_E 44 28 [l0, l1, l2, some (.int x), l4] st I r Q := me_st (k := 3) (v := .int x) mc_44 dX4_number_27 rfl rfl (Nat.le_of_ble_eq_true rfl) rfl ⟨Or.inr, fun h => h.resolve_left (by decide)⟩
theorem e44_28 : mm_E 44 28 ls st I r Q ↔ mm_E 44 29 ls (.int 0 :: st) I r Q := me_ic mc_44 dX4_number_28 (by decide)
theorem e44_29 : mm_E 44 29 [l0, l1, l2, l3, l4] (.int x :: st) I r Q ↔ mm_c1 l3 ∧ mm_E 44 31 [l0, l1, l2, l3, some (.int x)] st I r Q := me_st (k := 4) (v := .int x) mc_44 dX4_number_29 rfl rfl (Nat.le_of_ble_eq_true rfl) rfl ⟨Or.inr, fun h => h.resolve_left (by decide)⟩
theorem e44_31 : mm_E 44 31 [l0, l1, l2, l3, some (.int x)] st I r Q ↔ mm_E 44 33 [l0, l1, l2, l3, some (.int x)] (.int x :: st) I r Q := me_il2 mc_44 dX4_number_31 rfl
theorem e44_33 : mm_E 44 33 ls st I r Q ↔ mm_E 44 34 ls (.int 2 :: st) I r Q := me_ic mc_44 dX4_number_33 (by decide)
theorem e44_34 : mm_E 44 34 ls (.int y :: .int x :: st) I r Q ↔ if y ≤ x then mm_E 44 97 ls st I r Q else mm_E 44 37 ls st I r Q := me_cge mc_44 dX4_number_34 (by decide)
theorem e44_37 : mm_E 44 37 [some (.ref a), l1, l2, l3, l4] st I r Q ↔ mm_E 44 38 [some (.ref a), l1, l2, l3, l4] (.ref a :: st) I r Q := me_al mc_44 dX4_number_37 rfl
theorem e44_38 : mm_E 44 38 ls (.ref a :: st) I r Q ↔ mm_S r a = (1, 4) ∧ mm_E 44 41 ls (.int (mm_rd I a 4) :: st) I r Q := me_gi mc_44 dX4_number_38 (by decide +kernel) rfl
theorem e44_41 : mm_E 44 41 [some (.ref a), l1, l2, l3, l4] st I r Q ↔ mm_E 44 42 [some (.ref a), l1, l2, l3, l4] (.ref a :: st) I r Q := me_al mc_44 dX4_number_41 rfl
theorem e44_42 : mm_E 44 42 ls (.ref a :: st) I r Q ↔ mm_S r a = (1, 4) ∧ mm_E 44 45 ls (.int (mm_rd I a 0) :: st) I r Q := me_gi mc_44 dX4_number_42 (by decide +kernel) rfl
theorem e44_45 : mm_E 44 45 ls (.int y :: .int x :: st) I r Q ↔ if y ≤ x then mm_E 44 97 ls st I r Q else mm_E 44 48 ls st I r Q := me_cge mc_44 dX4_number_45 (by decide)
theorem e44_48 : mm_E 44 48 [some (.ref a), l1, l2, l3, l4] st I r Q ↔ mm_E 44 49 [some (.ref a), l1, l2, l3, l4] (.ref a :: st) I r Q := me_al mc_44 dX4_number_48 rfl
theorem e44_49 : mm_E 44 49 ls (.ref a :: st) I r Q ↔ mm_S r a = (1, 4) ∧ mm_E 44 52 ls (va_rf (mm_P r a 3) :: st) I r Q := me_gr mc_44 dX4_number_49 (by decide +kernel) rfl
theorem e44_52 : mm_E 44 52 [some (.ref a), l1, l2, l3, l4] st I r Q ↔ mm_E 44 53 [some (.ref a), l1, l2, l3, l4] (.ref a :: st) I r Q := me_al mc_44 dX4_number_52 rfl
theorem e44_53 : mm_E 44 53 ls (.ref a :: st) I r Q ↔ mm_S r a = (1, 4) ∧ mm_E 44 56 ls (.int (mm_rd I a 4) :: st) I r Q := me_gi mc_44 dX4_number_53 (by decide +kernel) rfl
theorem e44_56 : mm_E 44 56 ls (.int x :: .ref a :: st) I r Q ↔ mm_ix r a 2 x ∧ mm_E 44 57 ls (.int (mm_rd I a x.toNatClampNeg) :: st) I r Q := me_ia mc_44 dX4_number_56
theorem e44_57 : ∀ (x0 : Int32), (mm_E 44 57 ls (.int x0 :: st) I r Q ↔ mm_w8 st = true ∧ mm_E 45 0 [some (.int x0)] [] I r (fun v I2 r2 => mm_E 44 60 ls (mm_pu v st) I2 r2 Q)) := fun x0 => me_sc (n := 1) (As := [.int x0]) (xs := [.int x0]) mc_44 dX4_number_57 (by decide +kernel) (by decide +kernel) rfl rfl (Nat.le_of_ble_eq_true rfl) rfl
theorem e44_60 : mm_E 44 60 ls (.int x :: st) I r Q ↔ if x = 0 then mm_E 44 97 ls st I r Q else mm_E 44 63 ls st I r Q := me_zeq mc_44 dX4_number_60 (by decide)
theorem e44_63 : mm_E 44 63 ls st I r Q ↔ mm_E 44 65 ls (.int 10 :: st) I r Q := me_bi mc_44 dX4_number_63 (by decide)
theorem e44_65 : mm_E 44 65 [l0, l1, l2, some (.int x), l4] st I r Q ↔ mm_E 44 66 [l0, l1, l2, some (.int x), l4] (.int x :: st) I r Q := me_il mc_44 dX4_number_65 rfl
theorem e44_66 : mm_E 44 66 ls (.int y :: .int x :: st) I r Q ↔ mm_E 44 67 ls (.int (x * y) :: st) I r Q := me_imul mc_44 dX4_number_66
theorem e44_67 : mm_E 44 67 [some (.ref a), l1, l2, l3, l4] st I r Q ↔ mm_E 44 68 [some (.ref a), l1, l2, l3, l4] (.ref a :: st) I r Q := me_al mc_44 dX4_number_67 rfl
theorem e44_68 : mm_E 44 68 ls (.ref a :: st) I r Q ↔ mm_S r a = (1, 4) ∧ mm_E 44 71 ls (va_rf (mm_P r a 3) :: st) I r Q := me_gr mc_44 dX4_number_68 (by decide +kernel) rfl
theorem e44_71 : mm_E 44 71 [some (.ref a), l1, l2, l3, l4] st I r Q ↔ mm_E 44 72 [some (.ref a), l1, l2, l3, l4] (.ref a :: st) I r Q := me_al mc_44 dX4_number_71 rfl
theorem e44_72 : mm_E 44 72 ls (.ref a :: st) I r Q ↔ mm_S r a = (1, 4) ∧ mm_E 44 75 ls (.int (mm_rd I a 4) :: st) I r Q := me_gi mc_44 dX4_number_72 (by decide +kernel) rfl
theorem e44_75 : mm_E 44 75 ls (.int x :: .ref a :: st) I r Q ↔ mm_ix r a 2 x ∧ mm_E 44 76 ls (.int (mm_rd I a x.toNatClampNeg) :: st) I r Q := me_ia mc_44 dX4_number_75
theorem e44_76 : mm_E 44 76 ls (.int y :: .int x :: st) I r Q ↔ mm_E 44 77 ls (.int (x + y) :: st) I r Q := me_iadd mc_44 dX4_number_76
theorem e44_77 : mm_E 44 77 ls st I r Q ↔ mm_E 44 79 ls (.int 48 :: st) I r Q := me_bi mc_44 dX4_number_77 (by decide)
theorem e44_79 : mm_E 44 79 ls (.int y :: .int x :: st) I r Q ↔ mm_E 44 80 ls (.int (x - y) :: st) I r Q := me_isub mc_44 dX4_number_79
theorem e44_80 : mm_E 44 80 [l0, l1, l2, l3, l4] (.int x :: st) I r Q ↔ mm_c1 l2 ∧ mm_E 44 81 [l0, l1, l2, some (.int x), l4] st I r Q := me_st (k := 3) (v := .int x) mc_44 dX4_number_80 rfl rfl (Nat.le_of_ble_eq_true rfl) rfl ⟨Or.inr, fun h => h.resolve_left (by decide)⟩
theorem e44_81 : mm_E 44 81 [some (.ref a), l1, l2, l3, l4] st I r Q ↔ mm_E 44 82 [some (.ref a), l1, l2, l3, l4] (.ref a :: st) I r Q := me_al mc_44 dX4_number_81 rfl
theorem e44_82 : mm_E 44 82 ls (v :: st) I r Q ↔ v.category = 1 ∧ mm_E 44 83 ls (v :: v :: st) I r Q := me_dup mc_44 dX4_number_82
theorem e44_83 : mm_E 44 83 ls (.ref a :: st) I r Q ↔ mm_S r a = (1, 4) ∧ mm_E 44 86 ls (.int (mm_rd I a 4) :: st) I r Q := me_gi mc_44 dX4_number_83 (by decide +kernel) rfl
theorem e44_86 : mm_E 44 86 ls st I r Q ↔ mm_E 44 87 ls (.int 1 :: st) I r Q := me_ic mc_44 dX4_number_86 (by decide)
theorem e44_87 : mm_E 44 87 ls (.int y :: .int x :: st) I r Q ↔ mm_E 44 88 ls (.int (x + y) :: st) I r Q := me_iadd mc_44 dX4_number_87
theorem e44_88 : mm_E 44 88 ls (.int x :: .ref a :: st) I r Q ↔ mm_S r a = (1, 4) ∧ mm_E 44 91 ls st (mm_uI I a 4 x) r Q := me_pi mc_44 dX4_number_88 (by decide +kernel) (by decide +kernel)
theorem e44_91 : mm_E 44 91 [l0, l1, l2, l3, some (.int x)] st I r Q ↔ mm_c1 l3 ∧ mm_E 44 94 [l0, l1, l2, l3, some (.int (x + 1))] st I r Q := me_st (k := 4) (v := .int (x + 1)) mc_44 dX4_number_91 rfl rfl (Nat.le_of_ble_eq_true rfl) rfl ⟨Or.inr, fun h => h.resolve_left (by decide)⟩
theorem e44_94 : mm_E 44 94 ls st I r Q ↔ mm_E 44 31 ls st I r Q := me_goto mc_44 dX4_number_94 (by decide)
theorem e44_97 : mm_E 44 97 [l0, l1, l2, some (.int x), l4] st I r Q ↔ mm_E 44 98 [l0, l1, l2, some (.int x), l4] (.int x :: st) I r Q := me_il mc_44 dX4_number_97 rfl
theorem e44_98 : mm_E 44 98 [l0, some (.int x), l2, l3, l4] st I r Q ↔ mm_E 44 99 [l0, some (.int x), l2, l3, l4] (.int x :: st) I r Q := me_il mc_44 dX4_number_98 rfl
theorem e44_99 : mm_E 44 99 ls (.int y :: .int x :: st) I r Q ↔ if x ≤ y then mm_E 44 110 ls st I r Q else mm_E 44 102 ls st I r Q := me_cle mc_44 dX4_number_99 (by decide)
theorem e44_102 : mm_E 44 102 [some (.ref a), l1, l2, l3, l4] st I r Q ↔ mm_E 44 103 [some (.ref a), l1, l2, l3, l4] (.ref a :: st) I r Q := me_al mc_44 dX4_number_102 rfl
theorem e44_103 : mm_E 44 103 [l0, l1, some (.int x), l3, l4] st I r Q ↔ mm_E 44 104 [l0, l1, some (.int x), l3, l4] (.int x :: st) I r Q := me_il mc_44 dX4_number_103 rfl
theorem e44_104 : ∀ (x0 : Int32), (mm_E 44 104 ls (.int x0 :: .ref a :: st) I r Q ↔ (mm_w8 st = true ∧ mm_S r a = (1, 4)) ∧ mm_E 48 0 [some (.ref a), some (.int x0)] [] I r (fun v I2 r2 => mm_E 44 107 ls (mm_pu v st) I2 r2 Q)) := fun x0 => me_vc (n := 1) (As := [.int x0]) (xs := [.int x0]) (a := a) mc_44 dX4_number_104 (by decide +kernel) (by decide +kernel) rfl rfl (Nat.le_of_ble_eq_true rfl) rfl
theorem e44_107 : mm_E 44 107 ls (v :: st) I r Q ↔ v.category = 1 ∧ mm_E 44 108 ls st I r Q := me_pop mc_44 dX4_number_107
theorem e44_108 : mm_E 44 108 ls st I r Q ↔ mm_E 44 109 ls (.int (-1) :: st) I r Q := me_ic mc_44 dX4_number_108 (by decide)
theorem e44_109 : mm_E 44 109 ls [.int x] I r Q ↔ Q (some (.int x)) I r := me_ri mc_44 dX4_number_109 rfl
theorem e44_110 : mm_E 44 110 [l0, l1, l2, some (.int x), l4] st I r Q ↔ mm_E 44 111 [l0, l1, l2, some (.int x), l4] (.int x :: st) I r Q := me_il mc_44 dX4_number_110 rfl
theorem e44_111 : mm_E 44 111 ls [.int x] I r Q ↔ Q (some (.int x)) I r := me_ri mc_44 dX4_number_111 rfl
theorem mc_45 : mm_c 45 = cX4_isDigit := rfl
theorem e45_0 : mm_E 45 0 [some (.int x)] st I r Q ↔ mm_E 45 1 [some (.int x)] (.int x :: st) I r Q := me_il mc_45 dX4_isDigit_0 rfl
theorem e45_1 : mm_E 45 1 ls st I r Q ↔ mm_E 45 3 ls (.int 48 :: st) I r Q := me_bi mc_45 dX4_isDigit_1 (by decide)
theorem e45_3 : mm_E 45 3 ls (.int y :: .int x :: st) I r Q ↔ if x < y then mm_E 45 16 ls st I r Q else mm_E 45 6 ls st I r Q := me_clt mc_45 dX4_isDigit_3 (by decide)
theorem e45_6 : mm_E 45 6 [some (.int x)] st I r Q ↔ mm_E 45 7 [some (.int x)] (.int x :: st) I r Q := me_il mc_45 dX4_isDigit_6 rfl
theorem e45_7 : mm_E 45 7 ls st I r Q ↔ mm_E 45 9 ls (.int 57 :: st) I r Q := me_bi mc_45 dX4_isDigit_7 (by decide)
theorem e45_9 : mm_E 45 9 ls (.int y :: .int x :: st) I r Q ↔ if y < x then mm_E 45 16 ls st I r Q else mm_E 45 12 ls st I r Q := me_cgt mc_45 dX4_isDigit_9 (by decide)
theorem e45_12 : mm_E 45 12 ls st I r Q ↔ mm_E 45 13 ls (.int 1 :: st) I r Q := me_ic mc_45 dX4_isDigit_12 (by decide)
theorem e45_13 : mm_E 45 13 ls st I r Q ↔ mm_E 45 17 ls st I r Q := me_goto mc_45 dX4_isDigit_13 (by decide)
theorem e45_16 : mm_E 45 16 ls st I r Q ↔ mm_E 45 17 ls (.int 0 :: st) I r Q := me_ic mc_45 dX4_isDigit_16 (by decide)
theorem e45_17 : mm_E 45 17 ls [.int x] I r Q ↔ (x = 0 ∨ x = 1) ∧ Q (some (.int x)) I r := me_rz mc_45 dX4_isDigit_17 rfl
theorem mc_46 : mm_c 46 = cX4_look := rfl
theorem e46_0 : mm_E 46 0 [some (.ref a)] st I r Q ↔ mm_E 46 1 [some (.ref a)] (.ref a :: st) I r Q := me_al mc_46 dX4_look_0 rfl
theorem e46_1 : mm_E 46 1 ls (.ref a :: st) I r Q ↔ mm_S r a = (1, 4) ∧ mm_E 46 4 ls (.int (mm_rd I a 4) :: st) I r Q := me_gi mc_46 dX4_look_1 (by decide +kernel) rfl
theorem e46_4 : mm_E 46 4 [some (.ref a)] st I r Q ↔ mm_E 46 5 [some (.ref a)] (.ref a :: st) I r Q := me_al mc_46 dX4_look_4 rfl
theorem e46_5 : mm_E 46 5 ls (.ref a :: st) I r Q ↔ mm_S r a = (1, 4) ∧ mm_E 46 8 ls (.int (mm_rd I a 0) :: st) I r Q := me_gi mc_46 dX4_look_5 (by decide +kernel) rfl
theorem e46_8 : mm_E 46 8 ls (.int y :: .int x :: st) I r Q ↔ if y ≤ x then mm_E 46 38 ls st I r Q else mm_E 46 11 ls st I r Q := me_cge mc_46 dX4_look_8 (by decide)
theorem e46_11 : mm_E 46 11 [some (.ref a)] st I r Q ↔ mm_E 46 12 [some (.ref a)] (.ref a :: st) I r Q := me_al mc_46 dX4_look_11 rfl
theorem e46_12 : mm_E 46 12 ls (.ref a :: st) I r Q ↔ mm_S r a = (1, 4) ∧ mm_E 46 15 ls (va_rf (mm_P r a 3) :: st) I r Q := me_gr mc_46 dX4_look_12 (by decide +kernel) rfl
theorem e46_15 : mm_E 46 15 [some (.ref a)] st I r Q ↔ mm_E 46 16 [some (.ref a)] (.ref a :: st) I r Q := me_al mc_46 dX4_look_15 rfl
theorem e46_16 : mm_E 46 16 ls (.ref a :: st) I r Q ↔ mm_S r a = (1, 4) ∧ mm_E 46 19 ls (.int (mm_rd I a 4) :: st) I r Q := me_gi mc_46 dX4_look_16 (by decide +kernel) rfl
theorem e46_19 : mm_E 46 19 ls (.int x :: .ref a :: st) I r Q ↔ mm_ix r a 2 x ∧ mm_E 46 20 ls (.int (mm_rd I a x.toNatClampNeg) :: st) I r Q := me_ia mc_46 dX4_look_19
theorem e46_20 : mm_E 46 20 ls st I r Q ↔ mm_E 46 22 ls (.int 32 :: st) I r Q := me_bi mc_46 dX4_look_20 (by decide)
theorem e46_22 : mm_E 46 22 ls (.int y :: .int x :: st) I r Q ↔ if ¬ x = y then mm_E 46 38 ls st I r Q else mm_E 46 25 ls st I r Q := me_cne mc_46 dX4_look_22 (by decide)
theorem e46_25 : mm_E 46 25 [some (.ref a)] st I r Q ↔ mm_E 46 26 [some (.ref a)] (.ref a :: st) I r Q := me_al mc_46 dX4_look_25 rfl
theorem e46_26 : mm_E 46 26 ls (v :: st) I r Q ↔ v.category = 1 ∧ mm_E 46 27 ls (v :: v :: st) I r Q := me_dup mc_46 dX4_look_26
theorem e46_27 : mm_E 46 27 ls (.ref a :: st) I r Q ↔ mm_S r a = (1, 4) ∧ mm_E 46 30 ls (.int (mm_rd I a 4) :: st) I r Q := me_gi mc_46 dX4_look_27 (by decide +kernel) rfl
theorem e46_30 : mm_E 46 30 ls st I r Q ↔ mm_E 46 31 ls (.int 1 :: st) I r Q := me_ic mc_46 dX4_look_30 (by decide)
theorem e46_31 : mm_E 46 31 ls (.int y :: .int x :: st) I r Q ↔ mm_E 46 32 ls (.int (x + y) :: st) I r Q := me_iadd mc_46 dX4_look_31
theorem e46_32 : mm_E 46 32 ls (.int x :: .ref a :: st) I r Q ↔ mm_S r a = (1, 4) ∧ mm_E 46 35 ls st (mm_uI I a 4 x) r Q := me_pi mc_46 dX4_look_32 (by decide +kernel) (by decide +kernel)
theorem e46_35 : mm_E 46 35 ls st I r Q ↔ mm_E 46 0 ls st I r Q := me_goto mc_46 dX4_look_35 (by decide)
theorem e46_38 : mm_E 46 38 [some (.ref a)] st I r Q ↔ mm_E 46 39 [some (.ref a)] (.ref a :: st) I r Q := me_al mc_46 dX4_look_38 rfl
theorem e46_39 : mm_E 46 39 ls (.ref a :: st) I r Q ↔ mm_S r a = (1, 4) ∧ mm_E 46 42 ls (.int (mm_rd I a 4) :: st) I r Q := me_gi mc_46 dX4_look_39 (by decide +kernel) rfl
theorem e46_42 : mm_E 46 42 [some (.ref a)] st I r Q ↔ mm_E 46 43 [some (.ref a)] (.ref a :: st) I r Q := me_al mc_46 dX4_look_42 rfl
theorem e46_43 : mm_E 46 43 ls (.ref a :: st) I r Q ↔ mm_S r a = (1, 4) ∧ mm_E 46 46 ls (.int (mm_rd I a 0) :: st) I r Q := me_gi mc_46 dX4_look_43 (by decide +kernel) rfl
theorem e46_46 : mm_E 46 46 ls (.int y :: .int x :: st) I r Q ↔ if y ≤ x then mm_E 46 61 ls st I r Q else mm_E 46 49 ls st I r Q := me_cge mc_46 dX4_look_46 (by decide)
theorem e46_49 : mm_E 46 49 [some (.ref a)] st I r Q ↔ mm_E 46 50 [some (.ref a)] (.ref a :: st) I r Q := me_al mc_46 dX4_look_49 rfl
theorem e46_50 : mm_E 46 50 ls (.ref a :: st) I r Q ↔ mm_S r a = (1, 4) ∧ mm_E 46 53 ls (va_rf (mm_P r a 3) :: st) I r Q := me_gr mc_46 dX4_look_50 (by decide +kernel) rfl
theorem e46_53 : mm_E 46 53 [some (.ref a)] st I r Q ↔ mm_E 46 54 [some (.ref a)] (.ref a :: st) I r Q := me_al mc_46 dX4_look_53 rfl
theorem e46_54 : mm_E 46 54 ls (.ref a :: st) I r Q ↔ mm_S r a = (1, 4) ∧ mm_E 46 57 ls (.int (mm_rd I a 4) :: st) I r Q := me_gi mc_46 dX4_look_54 (by decide +kernel) rfl
theorem e46_57 : mm_E 46 57 ls (.int x :: .ref a :: st) I r Q ↔ mm_ix r a 2 x ∧ mm_E 46 58 ls (.int (mm_rd I a x.toNatClampNeg) :: st) I r Q := me_ia mc_46 dX4_look_57
theorem e46_58 : mm_E 46 58 ls st I r Q ↔ mm_E 46 62 ls st I r Q := me_goto mc_46 dX4_look_58 (by decide)
theorem e46_61 : mm_E 46 61 ls st I r Q ↔ mm_E 46 62 ls (.int (-1) :: st) I r Q := me_ic mc_46 dX4_look_61 (by decide)
theorem e46_62 : mm_E 46 62 ls [.int x] I r Q ↔ Q (some (.int x)) I r := me_ri mc_46 dX4_look_62 rfl
theorem mc_47 : mm_c 47 = cX4_takes := rfl
theorem e47_0 : mm_E 47 0 [some (.ref a), l1] st I r Q ↔ mm_E 47 1 [some (.ref a), l1] (.ref a :: st) I r Q := me_al mc_47 dX4_takes_0 rfl
theorem e47_1 : (mm_E 47 1 ls (.ref a :: st) I r Q ↔ (mm_w8 st = true ∧ mm_S r a = (1, 4)) ∧ mm_E 46 0 [some (.ref a)] [] I r (fun v I2 r2 => mm_E 47 4 ls (mm_pu v st) I2 r2 Q)) := me_vc (n := 0) (As := []) (xs := []) (a := a) mc_47 dX4_takes_1 (by decide +kernel) (by decide +kernel) rfl rfl (Nat.le_of_ble_eq_true rfl) rfl
theorem e47_4 : mm_E 47 4 [l0, some (.int x)] st I r Q ↔ mm_E 47 5 [l0, some (.int x)] (.int x :: st) I r Q := me_il mc_47 dX4_takes_4 rfl
theorem e47_5 : mm_E 47 5 ls (.int y :: .int x :: st) I r Q ↔ if x = y then mm_E 47 10 ls st I r Q else mm_E 47 8 ls st I r Q := me_ceq mc_47 dX4_takes_5 (by decide)
theorem e47_8 : mm_E 47 8 ls st I r Q ↔ mm_E 47 9 ls (.int 0 :: st) I r Q := me_ic mc_47 dX4_takes_8 (by decide)
theorem e47_9 : mm_E 47 9 ls [.int x] I r Q ↔ (x = 0 ∨ x = 1) ∧ Q (some (.int x)) I r := me_rz mc_47 dX4_takes_9 rfl
theorem e47_10 : mm_E 47 10 [some (.ref a), l1] st I r Q ↔ mm_E 47 11 [some (.ref a), l1] (.ref a :: st) I r Q := me_al mc_47 dX4_takes_10 rfl
theorem e47_11 : mm_E 47 11 ls (v :: st) I r Q ↔ v.category = 1 ∧ mm_E 47 12 ls (v :: v :: st) I r Q := me_dup mc_47 dX4_takes_11
theorem e47_12 : mm_E 47 12 ls (.ref a :: st) I r Q ↔ mm_S r a = (1, 4) ∧ mm_E 47 15 ls (.int (mm_rd I a 4) :: st) I r Q := me_gi mc_47 dX4_takes_12 (by decide +kernel) rfl
theorem e47_15 : mm_E 47 15 ls st I r Q ↔ mm_E 47 16 ls (.int 1 :: st) I r Q := me_ic mc_47 dX4_takes_15 (by decide)
theorem e47_16 : mm_E 47 16 ls (.int y :: .int x :: st) I r Q ↔ mm_E 47 17 ls (.int (x + y) :: st) I r Q := me_iadd mc_47 dX4_takes_16
theorem e47_17 : mm_E 47 17 ls (.int x :: .ref a :: st) I r Q ↔ mm_S r a = (1, 4) ∧ mm_E 47 20 ls st (mm_uI I a 4 x) r Q := me_pi mc_47 dX4_takes_17 (by decide +kernel) (by decide +kernel)
theorem e47_20 : mm_E 47 20 ls st I r Q ↔ mm_E 47 21 ls (.int 1 :: st) I r Q := me_ic mc_47 dX4_takes_20 (by decide)
theorem e47_21 : mm_E 47 21 ls [.int x] I r Q ↔ (x = 0 ∨ x = 1) ∧ Q (some (.int x)) I r := me_rz mc_47 dX4_takes_21 rfl
theorem mc_48 : mm_c 48 = cX4_faultAt := rfl
theorem e48_0 : mm_E 48 0 [some (.ref a), l1] st I r Q ↔ mm_E 48 1 [some (.ref a), l1] (.ref a :: st) I r Q := me_al mc_48 dX4_faultAt_0 rfl
theorem e48_1 : mm_E 48 1 ls st I r Q ↔ mm_E 48 3 ls (.int (-20) :: st) I r Q := me_bi mc_48 dX4_faultAt_1 (by decide)
theorem e48_3 : mm_E 48 3 [l0, some (.int x)] st I r Q ↔ mm_E 48 4 [l0, some (.int x)] (.int x :: st) I r Q := me_il mc_48 dX4_faultAt_3 rfl
theorem e48_4 : mm_E 48 4 ls (.int y :: .int x :: st) I r Q ↔ mm_E 48 5 ls (.int (x - y) :: st) I r Q := me_isub mc_48 dX4_faultAt_4
theorem e48_5 : mm_E 48 5 ls (.int x :: .ref a :: st) I r Q ↔ mm_S r a = (1, 4) ∧ mm_E 48 8 ls st (mm_uI I a 1 x) r Q := me_pi mc_48 dX4_faultAt_5 (by decide +kernel) (by decide +kernel)
theorem e48_8 : mm_E 48 8 ls st I r Q ↔ mm_E 48 9 ls (.int 0 :: st) I r Q := me_ic mc_48 dX4_faultAt_8 (by decide)
theorem e48_9 : mm_E 48 9 ls [.int x] I r Q ↔ (x = 0 ∨ x = 1) ∧ Q (some (.int x)) I r := me_rz mc_48 dX4_faultAt_9 rfl
theorem mc_49 : mm_c 49 = cX5_init := rfl
theorem e49_0 : mm_E 49 0 [some (.ref a), l1] st I r Q ↔ mm_E 49 1 [some (.ref a), l1] (.ref a :: st) I r Q := me_al mc_49 dX5_init_0 rfl
theorem e49_1 : mm_E 49 1 ls (.ref a :: st) I r Q ↔ mm_w8 st = true ∧ mm_E 49 4 ls st I r Q := me_oi mc_49 dX5_init_1 (by decide +kernel)
theorem e49_4 : mm_E 49 4 [some (.ref a), l1] st I r Q ↔ mm_E 49 5 [some (.ref a), l1] (.ref a :: st) I r Q := me_al mc_49 dX5_init_4 rfl
theorem e49_5 : mm_E 49 5 ls st I r Q ↔ mm_E 49 8 ls (.ref (mm_t r) :: st) (mm_nI I r) (mm_nR r (1, 0) 14) Q := me_new mc_49 dX5_init_5 (by decide +kernel)
theorem e49_8 : mm_E 49 8 ls (v :: st) I r Q ↔ v.category = 1 ∧ mm_E 49 9 ls (v :: v :: st) I r Q := me_dup mc_49 dX5_init_8
theorem e49_9 : (mm_E 49 9 ls (.ref a :: st) I r Q ↔ mm_w8 st = true ∧ mm_E 0 0 [some (.ref a)] [] I r (fun v I2 r2 => mm_E 49 12 ls (mm_pu v st) I2 r2 Q)) := me_xc (n := 0) (As := []) (xs := []) (a := a) mc_49 dX5_init_9 (by decide +kernel) (by decide +kernel) rfl rfl (Nat.le_of_ble_eq_true rfl) rfl
theorem e49_12 : mm_E 49 12 ls (.ref b :: .ref a :: st) I r Q ↔ mm_S r a = (1, 5) ∧ mm_E 49 15 ls st I (mm_uP r a 0 (some b)) Q := me_pr mc_49 dX5_init_12 (by decide +kernel) (by decide +kernel)
theorem e49_15 : mm_E 49 15 [some (.ref a), l1] st I r Q ↔ mm_E 49 16 [some (.ref a), l1] (.ref a :: st) I r Q := me_al mc_49 dX5_init_15 rfl
theorem e49_16 : mm_E 49 16 ls st I r Q ↔ mm_E 49 19 ls (.ref (mm_t r) :: st) (mm_nI I r) (mm_nR r (1, 0) 14) Q := me_new mc_49 dX5_init_16 (by decide +kernel)
theorem e49_19 : mm_E 49 19 ls (v :: st) I r Q ↔ v.category = 1 ∧ mm_E 49 20 ls (v :: v :: st) I r Q := me_dup mc_49 dX5_init_19
theorem e49_20 : (mm_E 49 20 ls (.ref a :: st) I r Q ↔ mm_w8 st = true ∧ mm_E 0 0 [some (.ref a)] [] I r (fun v I2 r2 => mm_E 49 23 ls (mm_pu v st) I2 r2 Q)) := me_xc (n := 0) (As := []) (xs := []) (a := a) mc_49 dX5_init_20 (by decide +kernel) (by decide +kernel) rfl rfl (Nat.le_of_ble_eq_true rfl) rfl
theorem e49_23 : mm_E 49 23 ls (.ref b :: .ref a :: st) I r Q ↔ mm_S r a = (1, 5) ∧ mm_E 49 26 ls st I (mm_uP r a 1 (some b)) Q := me_pr mc_49 dX5_init_23 (by decide +kernel) (by decide +kernel)
theorem e49_26 : mm_E 49 26 [some (.ref a), l1] st I r Q ↔ mm_E 49 27 [some (.ref a), l1] (.ref a :: st) I r Q := me_al mc_49 dX5_init_26 rfl
theorem e49_27 : mm_E 49 27 ls st I r Q ↔ mm_E 49 30 ls (.ref (mm_t r) :: st) (mm_nI I r) (mm_nR r (1, 2) 2) Q := me_new mc_49 dX5_init_27 (by decide +kernel)
theorem e49_30 : mm_E 49 30 ls (v :: st) I r Q ↔ v.category = 1 ∧ mm_E 49 31 ls (v :: v :: st) I r Q := me_dup mc_49 dX5_init_30
theorem e49_31 : (mm_E 49 31 ls (.ref a :: st) I r Q ↔ mm_w8 st = true ∧ mm_E 25 0 [some (.ref a), none] [] I r (fun v I2 r2 => mm_E 49 34 ls (mm_pu v st) I2 r2 Q)) := me_xc (n := 0) (As := []) (xs := []) (a := a) mc_49 dX5_init_31 (by decide +kernel) (by decide +kernel) rfl rfl (Nat.le_of_ble_eq_true rfl) rfl
theorem e49_34 : mm_E 49 34 ls (.ref b :: .ref a :: st) I r Q ↔ mm_S r a = (1, 5) ∧ mm_E 49 37 ls st I (mm_uP r a 2 (some b)) Q := me_pr mc_49 dX5_init_34 (by decide +kernel) (by decide +kernel)
theorem e49_37 : mm_E 49 37 [some (.ref a), l1] st I r Q ↔ mm_E 49 38 [some (.ref a), l1] (.ref a :: st) I r Q := me_al mc_49 dX5_init_37 rfl
theorem e49_38 : mm_E 49 38 ls st I r Q ↔ mm_E 49 41 ls (.ref (mm_t r) :: st) (mm_nI I r) (mm_nR r (1, 1) 4) Q := me_new mc_49 dX5_init_38 (by decide +kernel)
theorem e49_41 : mm_E 49 41 ls (v :: st) I r Q ↔ v.category = 1 ∧ mm_E 49 42 ls (v :: v :: st) I r Q := me_dup mc_49 dX5_init_41
theorem e49_42 : (mm_E 49 42 ls (.ref a :: st) I r Q ↔ mm_w8 st = true ∧ mm_E 21 0 [some (.ref a)] [] I r (fun v I2 r2 => mm_E 49 45 ls (mm_pu v st) I2 r2 Q)) := me_xc (n := 0) (As := []) (xs := []) (a := a) mc_49 dX5_init_42 (by decide +kernel) (by decide +kernel) rfl rfl (Nat.le_of_ble_eq_true rfl) rfl
theorem e49_45 : mm_E 49 45 ls (.ref b :: .ref a :: st) I r Q ↔ mm_S r a = (1, 5) ∧ mm_E 49 48 ls st I (mm_uP r a 3 (some b)) Q := me_pr mc_49 dX5_init_45 (by decide +kernel) (by decide +kernel)
theorem e49_48 : mm_E 49 48 [some (.ref a), l1] st I r Q ↔ mm_E 49 49 [some (.ref a), l1] (.ref a :: st) I r Q := me_al mc_49 dX5_init_48 rfl
theorem e49_49 : mm_E 49 49 ls st I r Q ↔ mm_E 49 52 ls (.ref (mm_t r) :: st) (mm_nI I r) (mm_nR r (1, 4) 5) Q := me_new mc_49 dX5_init_49 (by decide +kernel)
theorem e49_52 : mm_E 49 52 ls (v :: st) I r Q ↔ v.category = 1 ∧ mm_E 49 53 ls (v :: v :: st) I r Q := me_dup mc_49 dX5_init_52
theorem e49_53 : (mm_E 49 53 ls (.ref a :: st) I r Q ↔ mm_w8 st = true ∧ mm_E 36 0 [some (.ref a)] [] I r (fun v I2 r2 => mm_E 49 56 ls (mm_pu v st) I2 r2 Q)) := me_xc (n := 0) (As := []) (xs := []) (a := a) mc_49 dX5_init_53 (by decide +kernel) (by decide +kernel) rfl rfl (Nat.le_of_ble_eq_true rfl) rfl
theorem e49_56 : mm_E 49 56 ls (.ref b :: .ref a :: st) I r Q ↔ mm_S r a = (1, 5) ∧ mm_E 49 59 ls st I (mm_uP r a 4 (some b)) Q := me_pr mc_49 dX5_init_56 (by decide +kernel) (by decide +kernel)
theorem e49_59 : mm_E 49 59 [some (.ref a), l1] st I r Q ↔ mm_E 49 60 [some (.ref a), l1] (.ref a :: st) I r Q := me_al mc_49 dX5_init_59 rfl
theorem e49_60 : mm_E 49 60 ls st I r Q ↔ mm_E 49 61 ls (.int 4 :: st) I r Q := me_ic mc_49 dX5_init_60 (by decide)
theorem e49_61 : mm_E 49 61 ls (.int x :: st) I r Q ↔ (¬ x < 0 ∧ x.toNatClampNeg ≤ 1000) ∧ mm_E 49 64 ls (.ref (mm_t r) :: st) (mm_nI I r) (mm_nR r (5, x.toNatClampNeg) x.toNatClampNeg) Q := me_na3 mc_49 dX5_init_61 (by decide +kernel)
theorem e49_64 : mm_E 49 64 ls (.ref b :: .ref a :: st) I r Q ↔ mm_S r a = (1, 5) ∧ mm_E 49 67 ls st I (mm_uP r a 5 (some b)) Q := me_pr mc_49 dX5_init_64 (by decide +kernel) (by decide +kernel)
theorem e49_67 : mm_E 49 67 ls st I r Q ↔ mm_E 49 68 ls (.int 0 :: st) I r Q := me_ic mc_49 dX5_init_67 (by decide)
theorem e49_68 : mm_E 49 68 [l0, l1] (.int x :: st) I r Q ↔ mm_c1 l0 ∧ mm_E 49 69 [l0, some (.int x)] st I r Q := me_st (k := 1) (v := .int x) mc_49 dX5_init_68 rfl rfl (Nat.le_of_ble_eq_true rfl) rfl ⟨Or.inr, fun h => h.resolve_left (by decide)⟩
theorem e49_69 : mm_E 49 69 [l0, some (.int x)] st I r Q ↔ mm_E 49 70 [l0, some (.int x)] (.int x :: st) I r Q := me_il mc_49 dX5_init_69 rfl
theorem e49_70 : mm_E 49 70 ls st I r Q ↔ mm_E 49 71 ls (.int 4 :: st) I r Q := me_ic mc_49 dX5_init_70 (by decide)
theorem e49_71 : mm_E 49 71 ls (.int y :: .int x :: st) I r Q ↔ if y ≤ x then mm_E 49 93 ls st I r Q else mm_E 49 74 ls st I r Q := me_cge mc_49 dX5_init_71 (by decide)
theorem e49_74 : mm_E 49 74 [some (.ref a), l1] st I r Q ↔ mm_E 49 75 [some (.ref a), l1] (.ref a :: st) I r Q := me_al mc_49 dX5_init_74 rfl
theorem e49_75 : mm_E 49 75 ls (.ref a :: st) I r Q ↔ mm_S r a = (1, 5) ∧ mm_E 49 78 ls (va_rf (mm_P r a 5) :: st) I r Q := me_gr mc_49 dX5_init_75 (by decide +kernel) rfl
theorem e49_78 : mm_E 49 78 [l0, some (.int x)] st I r Q ↔ mm_E 49 79 [l0, some (.int x)] (.int x :: st) I r Q := me_il mc_49 dX5_init_78 rfl
theorem e49_79 : mm_E 49 79 ls st I r Q ↔ mm_E 49 82 ls (.ref (mm_t r) :: st) (mm_nI I r) (mm_nR r (1, 3) 4) Q := me_new mc_49 dX5_init_79 (by decide +kernel)
theorem e49_82 : mm_E 49 82 ls (v :: st) I r Q ↔ v.category = 1 ∧ mm_E 49 83 ls (v :: v :: st) I r Q := me_dup mc_49 dX5_init_82
theorem e49_83 : (mm_E 49 83 ls (.ref a :: st) I r Q ↔ mm_w8 st = true ∧ mm_E 31 0 [some (.ref a)] [] I r (fun v I2 r2 => mm_E 49 86 ls (mm_pu v st) I2 r2 Q)) := me_xc (n := 0) (As := []) (xs := []) (a := a) mc_49 dX5_init_83 (by decide +kernel) (by decide +kernel) rfl rfl (Nat.le_of_ble_eq_true rfl) rfl
theorem e49_86 : mm_E 49 86 ls (.ref b :: .int x :: .ref a :: st) I r Q ↔ (((mm_S r a).1 = 4 ∧ mm_S r b = (1, 0) ∨ (mm_S r a).1 = 5 ∧ mm_S r b = (1, 3)) ∧ vp_in x (mm_S r a).2) ∧ mm_E 49 87 ls st I (mm_uP r a x.toNatClampNeg (some b)) Q := me_as mc_49 dX5_init_86
theorem e49_87 : mm_E 49 87 [l0, some (.int x)] st I r Q ↔ mm_c1 l0 ∧ mm_E 49 90 [l0, some (.int (x + 1))] st I r Q := me_st (k := 1) (v := .int (x + 1)) mc_49 dX5_init_87 rfl rfl (Nat.le_of_ble_eq_true rfl) rfl ⟨Or.inr, fun h => h.resolve_left (by decide)⟩
theorem e49_90 : mm_E 49 90 ls st I r Q ↔ mm_E 49 69 ls st I r Q := me_goto mc_49 dX5_init_90 (by decide)
theorem e49_93 : mm_E 49 93 [some (.ref a), l1] st I r Q ↔ mm_E 49 94 [some (.ref a), l1] (.ref a :: st) I r Q := me_al mc_49 dX5_init_93 rfl
theorem e49_94 : mm_E 49 94 ls st I r Q ↔ mm_E 49 97 ls (.ref (mm_t r) :: st) (mm_nI I r) (mm_nR r (1, 0) 14) Q := me_new mc_49 dX5_init_94 (by decide +kernel)
theorem e49_97 : mm_E 49 97 ls (v :: st) I r Q ↔ v.category = 1 ∧ mm_E 49 98 ls (v :: v :: st) I r Q := me_dup mc_49 dX5_init_97
theorem e49_98 : (mm_E 49 98 ls (.ref a :: st) I r Q ↔ mm_w8 st = true ∧ mm_E 0 0 [some (.ref a)] [] I r (fun v I2 r2 => mm_E 49 101 ls (mm_pu v st) I2 r2 Q)) := me_xc (n := 0) (As := []) (xs := []) (a := a) mc_49 dX5_init_98 (by decide +kernel) (by decide +kernel) rfl rfl (Nat.le_of_ble_eq_true rfl) rfl
theorem e49_101 : mm_E 49 101 ls (.ref b :: .ref a :: st) I r Q ↔ mm_S r a = (1, 5) ∧ mm_E 49 104 ls st I (mm_uP r a 6 (some b)) Q := me_pr mc_49 dX5_init_101 (by decide +kernel) (by decide +kernel)
theorem e49_104 : mm_E 49 104 [some (.ref a), l1] st I r Q ↔ mm_E 49 105 [some (.ref a), l1] (.ref a :: st) I r Q := me_al mc_49 dX5_init_104 rfl
theorem e49_105 : mm_E 49 105 ls st I r Q ↔ mm_E 49 108 ls (.ref (mm_t r) :: st) (mm_nI I r) (mm_nR r (1, 2) 2) Q := me_new mc_49 dX5_init_105 (by decide +kernel)
theorem e49_108 : mm_E 49 108 ls (v :: st) I r Q ↔ v.category = 1 ∧ mm_E 49 109 ls (v :: v :: st) I r Q := me_dup mc_49 dX5_init_108
theorem e49_109 : (mm_E 49 109 ls (.ref a :: st) I r Q ↔ mm_w8 st = true ∧ mm_E 25 0 [some (.ref a), none] [] I r (fun v I2 r2 => mm_E 49 112 ls (mm_pu v st) I2 r2 Q)) := me_xc (n := 0) (As := []) (xs := []) (a := a) mc_49 dX5_init_109 (by decide +kernel) (by decide +kernel) rfl rfl (Nat.le_of_ble_eq_true rfl) rfl
theorem e49_112 : mm_E 49 112 ls (.ref b :: .ref a :: st) I r Q ↔ mm_S r a = (1, 5) ∧ mm_E 49 115 ls st I (mm_uP r a 7 (some b)) Q := me_pr mc_49 dX5_init_112 (by decide +kernel) (by decide +kernel)
theorem e49_115 : mm_E 49 115 [some (.ref a), l1] st I r Q ↔ mm_E 49 116 [some (.ref a), l1] (.ref a :: st) I r Q := me_al mc_49 dX5_init_115 rfl
theorem e49_116 : mm_E 49 116 ls st I r Q ↔ mm_E 49 117 ls (.int 0 :: st) I r Q := me_ic mc_49 dX5_init_116 (by decide)
theorem e49_117 : mm_E 49 117 ls (.int x :: .ref a :: st) I r Q ↔ (mm_S r a = (1, 5) ∧ (x = 0 ∨ x = 1)) ∧ mm_E 49 120 ls st (mm_uI I a 8 x) r Q := me_pb mc_49 dX5_init_117 (by decide +kernel) (by decide +kernel)
theorem e49_120 : mm_E 49 120 ls [] I r Q ↔ Q none I r := me_rv mc_49 dX5_init_120 rfl
theorem mc_50 : mm_c 50 = cX5_house := rfl
theorem e50_0 : mm_E 50 0 [l0, some (.int x), l2] st I r Q ↔ mm_E 50 1 [l0, some (.int x), l2] (.int x :: st) I r Q := me_il mc_50 dX5_house_0 rfl
theorem e50_1 : mm_E 50 1 ls st I r Q ↔ mm_E 50 2 ls (.int 0 :: st) I r Q := me_ic mc_50 dX5_house_1 (by decide)
theorem e50_2 : mm_E 50 2 ls st I r Q ↔ mm_E 50 5 ls (.int 9999 :: st) I r Q := me_si mc_50 dX5_house_2 (by decide)
theorem e50_5 : ∀ (x0 : Int32) (x1 : Int32) (x2 : Int32), (mm_E 50 5 ls (.int x2 :: .int x1 :: .int x0 :: st) I r Q ↔ mm_w8 st = true ∧ mm_E 85 0 [some (.int x0), some (.int x1), some (.int x2)] [] I r (fun v I2 r2 => mm_E 50 8 ls (mm_pu v st) I2 r2 Q)) := fun x0 x1 x2 => me_sc (n := 3) (As := [.int x0, .int x1, .int x2]) (xs := [.int x2, .int x1, .int x0]) mc_50 dX5_house_5 (by decide +kernel) (by decide +kernel) rfl rfl (Nat.le_of_ble_eq_true rfl) rfl
theorem e50_8 : mm_E 50 8 ls (.int x :: st) I r Q ↔ if x = 0 then mm_E 50 21 ls st I r Q else mm_E 50 11 ls st I r Q := me_zeq mc_50 dX5_house_8 (by decide)
theorem e50_11 : mm_E 50 11 [l0, l1, some (.int x)] st I r Q ↔ mm_E 50 12 [l0, l1, some (.int x)] (.int x :: st) I r Q := me_il mc_50 dX5_house_11 rfl
theorem e50_12 : mm_E 50 12 ls st I r Q ↔ mm_E 50 13 ls (.int 0 :: st) I r Q := me_ic mc_50 dX5_house_12 (by decide)
theorem e50_13 : mm_E 50 13 ls st I r Q ↔ mm_E 50 15 ls (.int 20 :: st) I r Q := me_bi mc_50 dX5_house_13 (by decide)
theorem e50_15 : ∀ (x0 : Int32) (x1 : Int32) (x2 : Int32), (mm_E 50 15 ls (.int x2 :: .int x1 :: .int x0 :: st) I r Q ↔ mm_w8 st = true ∧ mm_E 85 0 [some (.int x0), some (.int x1), some (.int x2)] [] I r (fun v I2 r2 => mm_E 50 18 ls (mm_pu v st) I2 r2 Q)) := fun x0 x1 x2 => me_sc (n := 3) (As := [.int x0, .int x1, .int x2]) (xs := [.int x2, .int x1, .int x0]) mc_50 dX5_house_15 (by decide +kernel) (by decide +kernel) rfl rfl (Nat.le_of_ble_eq_true rfl) rfl
theorem e50_18 : mm_E 50 18 ls (.int x :: st) I r Q ↔ if ¬ x = 0 then mm_E 50 23 ls st I r Q else mm_E 50 21 ls st I r Q := me_zne mc_50 dX5_house_18 (by decide)
theorem e50_21 : mm_E 50 21 ls st I r Q ↔ mm_E 50 22 ls (.int (-1) :: st) I r Q := me_ic mc_50 dX5_house_21 (by decide)
theorem e50_22 : mm_E 50 22 ls [.int x] I r Q ↔ Q (some (.int x)) I r := me_ri mc_50 dX5_house_22 rfl
theorem e50_23 : mm_E 50 23 [some (.ref a), l1, l2] st I r Q ↔ mm_E 50 24 [some (.ref a), l1, l2] (.ref a :: st) I r Q := me_al mc_50 dX5_house_23 rfl
theorem e50_24 : mm_E 50 24 ls (.ref a :: st) I r Q ↔ mm_S r a = (1, 5) ∧ mm_E 50 27 ls (va_rf (mm_P r a 0) :: st) I r Q := me_gr mc_50 dX5_house_24 (by decide +kernel) rfl
theorem e50_27 : mm_E 50 27 ls (.ref a :: st) I r Q ↔ mm_S r a = (1, 0) ∧ mm_E 50 30 ls (.int (mm_rd I a 0) :: st) I r Q := me_gi mc_50 dX5_house_27 (by decide +kernel) rfl
theorem e50_30 : mm_E 50 30 ls st I r Q ↔ mm_E 50 32 ls (.int 6 :: st) I r Q := me_bi mc_50 dX5_house_30 (by decide)
theorem e50_32 : mm_E 50 32 ls (.int y :: .int x :: st) I r Q ↔ if x < y then mm_E 50 38 ls st I r Q else mm_E 50 35 ls st I r Q := me_clt mc_50 dX5_house_32 (by decide)
theorem e50_35 : mm_E 50 35 ls st I r Q ↔ mm_E 50 37 ls (.int (-3) :: st) I r Q := me_bi mc_50 dX5_house_35 (by decide)
theorem e50_37 : mm_E 50 37 ls [.int x] I r Q ↔ Q (some (.int x)) I r := me_ri mc_50 dX5_house_37 rfl
theorem e50_38 : mm_E 50 38 [some (.ref a), l1, l2] st I r Q ↔ mm_E 50 39 [some (.ref a), l1, l2] (.ref a :: st) I r Q := me_al mc_50 dX5_house_38 rfl
theorem e50_39 : mm_E 50 39 ls (.ref a :: st) I r Q ↔ mm_S r a = (1, 5) ∧ mm_E 50 42 ls (va_rf (mm_P r a 2) :: st) I r Q := me_gr mc_50 dX5_house_39 (by decide +kernel) rfl
theorem e50_42 : (mm_E 50 42 ls (.ref a :: st) I r Q ↔ (mm_w8 st = true ∧ mm_S r a = (1, 2)) ∧ mm_E 26 0 [some (.ref a)] [] I r (fun v I2 r2 => mm_E 50 45 ls (mm_pu v st) I2 r2 Q)) := me_vc (n := 0) (As := []) (xs := []) (a := a) mc_50 dX5_house_42 (by decide +kernel) (by decide +kernel) rfl rfl (Nat.le_of_ble_eq_true rfl) rfl
theorem e50_45 : mm_E 50 45 [some (.ref a), l1, l2] st I r Q ↔ mm_E 50 46 [some (.ref a), l1, l2] (.ref a :: st) I r Q := me_al mc_50 dX5_house_45 rfl
theorem e50_46 : mm_E 50 46 ls (.ref a :: st) I r Q ↔ mm_S r a = (1, 5) ∧ mm_E 50 49 ls (va_rf (mm_P r a 0) :: st) I r Q := me_gr mc_50 dX5_house_46 (by decide +kernel) rfl
theorem e50_49 : mm_E 50 49 [l0, some (.int x), l2] st I r Q ↔ mm_E 50 50 [l0, some (.int x), l2] (.int x :: st) I r Q := me_il mc_50 dX5_house_49 rfl
theorem e50_50 : mm_E 50 50 [l0, l1, some (.int x)] st I r Q ↔ mm_E 50 51 [l0, l1, some (.int x)] (.int x :: st) I r Q := me_il mc_50 dX5_house_50 rfl
theorem e50_51 : mm_E 50 51 ls st I r Q ↔ mm_E 50 52 ls (.int 0 :: st) I r Q := me_ic mc_50 dX5_house_51 (by decide)
theorem e50_52 : ∀ (x0 : Int32) (x1 : Int32) (x2 : Int32), (mm_E 50 52 ls (.int x2 :: .int x1 :: .int x0 :: .ref a :: st) I r Q ↔ (mm_w8 st = true ∧ mm_S r a = (1, 0)) ∧ mm_E 5 0 [some (.ref a), some (.int x0), some (.int x1), some (.int x2), none] [] I r (fun v I2 r2 => mm_E 50 55 ls (mm_pu v st) I2 r2 Q)) := fun x0 x1 x2 => me_vc (n := 3) (As := [.int x0, .int x1, .int x2]) (xs := [.int x2, .int x1, .int x0]) (a := a) mc_50 dX5_house_52 (by decide +kernel) (by decide +kernel) rfl rfl (Nat.le_of_ble_eq_true rfl) rfl
theorem e50_55 : mm_E 50 55 ls [.int x] I r Q ↔ Q (some (.int x)) I r := me_ri mc_50 dX5_house_55 rfl
theorem mc_51 : mm_c 51 = cX5_hog := rfl
theorem e51_0 : mm_E 51 0 [l0, some (.int x), l2, l3] st I r Q ↔ mm_E 51 1 [l0, some (.int x), l2, l3] (.int x :: st) I r Q := me_il mc_51 dX5_hog_0 rfl
theorem e51_1 : mm_E 51 1 ls st I r Q ↔ mm_E 51 2 ls (.int 0 :: st) I r Q := me_ic mc_51 dX5_hog_1 (by decide)
theorem e51_2 : mm_E 51 2 ls st I r Q ↔ mm_E 51 3 ls (.int 4 :: st) I r Q := me_ic mc_51 dX5_hog_2 (by decide)
theorem e51_3 : ∀ (x0 : Int32) (x1 : Int32) (x2 : Int32), (mm_E 51 3 ls (.int x2 :: .int x1 :: .int x0 :: st) I r Q ↔ mm_w8 st = true ∧ mm_E 85 0 [some (.int x0), some (.int x1), some (.int x2)] [] I r (fun v I2 r2 => mm_E 51 6 ls (mm_pu v st) I2 r2 Q)) := fun x0 x1 x2 => me_sc (n := 3) (As := [.int x0, .int x1, .int x2]) (xs := [.int x2, .int x1, .int x0]) mc_51 dX5_hog_3 (by decide +kernel) (by decide +kernel) rfl rfl (Nat.le_of_ble_eq_true rfl) rfl
theorem e51_6 : mm_E 51 6 ls (.int x :: st) I r Q ↔ if x = 0 then mm_E 51 30 ls st I r Q else mm_E 51 9 ls st I r Q := me_zeq mc_51 dX5_hog_6 (by decide)
theorem e51_9 : mm_E 51 9 [l0, l1, some (.int x), l3] st I r Q ↔ mm_E 51 10 [l0, l1, some (.int x), l3] (.int x :: st) I r Q := me_il mc_51 dX5_hog_9 rfl
theorem e51_10 : mm_E 51 10 ls st I r Q ↔ mm_E 51 11 ls (.int 1 :: st) I r Q := me_ic mc_51 dX5_hog_10 (by decide)
theorem e51_11 : mm_E 51 11 ls st I r Q ↔ mm_E 51 13 ls (.int 9 :: st) I r Q := me_bi mc_51 dX5_hog_11 (by decide)
theorem e51_13 : ∀ (x0 : Int32) (x1 : Int32) (x2 : Int32), (mm_E 51 13 ls (.int x2 :: .int x1 :: .int x0 :: st) I r Q ↔ mm_w8 st = true ∧ mm_E 85 0 [some (.int x0), some (.int x1), some (.int x2)] [] I r (fun v I2 r2 => mm_E 51 16 ls (mm_pu v st) I2 r2 Q)) := fun x0 x1 x2 => me_sc (n := 3) (As := [.int x0, .int x1, .int x2]) (xs := [.int x2, .int x1, .int x0]) mc_51 dX5_hog_13 (by decide +kernel) (by decide +kernel) rfl rfl (Nat.le_of_ble_eq_true rfl) rfl
theorem e51_16 : mm_E 51 16 ls (.int x :: st) I r Q ↔ if x = 0 then mm_E 51 30 ls st I r Q else mm_E 51 19 ls st I r Q := me_zeq mc_51 dX5_hog_16 (by decide)
theorem e51_19 : mm_E 51 19 [some (.ref a), l1, l2, l3] st I r Q ↔ mm_E 51 20 [some (.ref a), l1, l2, l3] (.ref a :: st) I r Q := me_al mc_51 dX5_hog_19 rfl
theorem e51_20 : mm_E 51 20 ls (.ref a :: st) I r Q ↔ mm_S r a = (1, 5) ∧ mm_E 51 23 ls (va_rf (mm_P r a 0) :: st) I r Q := me_gr mc_51 dX5_hog_20 (by decide +kernel) rfl
theorem e51_23 : mm_E 51 23 [l0, l1, l2, some (.int x)] st I r Q ↔ mm_E 51 24 [l0, l1, l2, some (.int x)] (.int x :: st) I r Q := me_il mc_51 dX5_hog_23 rfl
theorem e51_24 : ∀ (x0 : Int32), (mm_E 51 24 ls (.int x0 :: .ref a :: st) I r Q ↔ (mm_w8 st = true ∧ mm_S r a = (1, 0)) ∧ mm_E 3 0 [some (.ref a), some (.int x0)] [] I r (fun v I2 r2 => mm_E 51 27 ls (mm_pu v st) I2 r2 Q)) := fun x0 => me_vc (n := 1) (As := [.int x0]) (xs := [.int x0]) (a := a) mc_51 dX5_hog_24 (by decide +kernel) (by decide +kernel) rfl rfl (Nat.le_of_ble_eq_true rfl) rfl
theorem e51_27 : mm_E 51 27 ls (.int x :: st) I r Q ↔ if ¬ x = 0 then mm_E 51 32 ls st I r Q else mm_E 51 30 ls st I r Q := me_zne mc_51 dX5_hog_27 (by decide)
theorem e51_30 : mm_E 51 30 ls st I r Q ↔ mm_E 51 31 ls (.int (-1) :: st) I r Q := me_ic mc_51 dX5_hog_30 (by decide)
theorem e51_31 : mm_E 51 31 ls [.int x] I r Q ↔ Q (some (.int x)) I r := me_ri mc_51 dX5_hog_31 rfl
theorem e51_32 : mm_E 51 32 [some (.ref a), l1, l2, l3] st I r Q ↔ mm_E 51 33 [some (.ref a), l1, l2, l3] (.ref a :: st) I r Q := me_al mc_51 dX5_hog_32 rfl
theorem e51_33 : mm_E 51 33 ls (.ref a :: st) I r Q ↔ mm_S r a = (1, 5) ∧ mm_E 51 36 ls (va_rf (mm_P r a 0) :: st) I r Q := me_gr mc_51 dX5_hog_33 (by decide +kernel) rfl
theorem e51_36 : mm_E 51 36 ls (.ref a :: st) I r Q ↔ mm_S r a = (1, 0) ∧ mm_E 51 39 ls (.int (mm_rd I a 1) :: st) I r Q := me_gi mc_51 dX5_hog_36 (by decide +kernel) rfl
theorem e51_39 : mm_E 51 39 ls st I r Q ↔ mm_E 51 40 ls (.int 5 :: st) I r Q := me_ic mc_51 dX5_hog_39 (by decide)
theorem e51_40 : mm_E 51 40 ls (.int y :: .int x :: st) I r Q ↔ if x < y then mm_E 51 46 ls st I r Q else mm_E 51 43 ls st I r Q := me_clt mc_51 dX5_hog_40 (by decide)
theorem e51_43 : mm_E 51 43 ls st I r Q ↔ mm_E 51 45 ls (.int (-3) :: st) I r Q := me_bi mc_51 dX5_hog_43 (by decide)
theorem e51_45 : mm_E 51 45 ls [.int x] I r Q ↔ Q (some (.int x)) I r := me_ri mc_51 dX5_hog_45 rfl
theorem e51_46 : mm_E 51 46 [some (.ref a), l1, l2, l3] st I r Q ↔ mm_E 51 47 [some (.ref a), l1, l2, l3] (.ref a :: st) I r Q := me_al mc_51 dX5_hog_46 rfl
theorem e51_47 : mm_E 51 47 ls (.ref a :: st) I r Q ↔ mm_S r a = (1, 5) ∧ mm_E 51 50 ls (va_rf (mm_P r a 2) :: st) I r Q := me_gr mc_51 dX5_hog_47 (by decide +kernel) rfl
theorem e51_50 : (mm_E 51 50 ls (.ref a :: st) I r Q ↔ (mm_w8 st = true ∧ mm_S r a = (1, 2)) ∧ mm_E 26 0 [some (.ref a)] [] I r (fun v I2 r2 => mm_E 51 53 ls (mm_pu v st) I2 r2 Q)) := me_vc (n := 0) (As := []) (xs := []) (a := a) mc_51 dX5_hog_50 (by decide +kernel) (by decide +kernel) rfl rfl (Nat.le_of_ble_eq_true rfl) rfl
theorem e51_53 : mm_E 51 53 [some (.ref a), l1, l2, l3] st I r Q ↔ mm_E 51 54 [some (.ref a), l1, l2, l3] (.ref a :: st) I r Q := me_al mc_51 dX5_hog_53 rfl
theorem e51_54 : mm_E 51 54 ls (.ref a :: st) I r Q ↔ mm_S r a = (1, 5) ∧ mm_E 51 57 ls (va_rf (mm_P r a 0) :: st) I r Q := me_gr mc_51 dX5_hog_54 (by decide +kernel) rfl
theorem e51_57 : mm_E 51 57 [l0, some (.int x), l2, l3] st I r Q ↔ mm_E 51 58 [l0, some (.int x), l2, l3] (.int x :: st) I r Q := me_il mc_51 dX5_hog_57 rfl
theorem e51_58 : mm_E 51 58 [l0, l1, some (.int x), l3] st I r Q ↔ mm_E 51 59 [l0, l1, some (.int x), l3] (.int x :: st) I r Q := me_il mc_51 dX5_hog_58 rfl
theorem e51_59 : mm_E 51 59 [l0, l1, l2, some (.int x)] st I r Q ↔ mm_E 51 60 [l0, l1, l2, some (.int x)] (.int x :: st) I r Q := me_il mc_51 dX5_hog_59 rfl
theorem e51_60 : ∀ (x0 : Int32) (x1 : Int32) (x2 : Int32), (mm_E 51 60 ls (.int x2 :: .int x1 :: .int x0 :: .ref a :: st) I r Q ↔ (mm_w8 st = true ∧ mm_S r a = (1, 0)) ∧ mm_E 6 0 [some (.ref a), some (.int x0), some (.int x1), some (.int x2), none] [] I r (fun v I2 r2 => mm_E 51 63 ls (mm_pu v st) I2 r2 Q)) := fun x0 x1 x2 => me_vc (n := 3) (As := [.int x0, .int x1, .int x2]) (xs := [.int x2, .int x1, .int x0]) (a := a) mc_51 dX5_hog_60 (by decide +kernel) (by decide +kernel) rfl rfl (Nat.le_of_ble_eq_true rfl) rfl
theorem e51_63 : mm_E 51 63 ls [.int x] I r Q ↔ Q (some (.int x)) I r := me_ri mc_51 dX5_hog_63 rfl
theorem mc_52 : mm_c 52 = cX5_interest := rfl
theorem e52_0 : mm_E 52 0 [l0, some (.int x), l2] st I r Q ↔ mm_E 52 1 [l0, some (.int x), l2] (.int x :: st) I r Q := me_il mc_52 dX5_interest_0 rfl
theorem e52_1 : mm_E 52 1 ls st I r Q ↔ mm_E 52 2 ls (.int 0 :: st) I r Q := me_ic mc_52 dX5_interest_1 (by decide)
theorem e52_2 : mm_E 52 2 ls st I r Q ↔ mm_E 52 4 ls (.int 20 :: st) I r Q := me_bi mc_52 dX5_interest_2 (by decide)
theorem e52_4 : ∀ (x0 : Int32) (x1 : Int32) (x2 : Int32), (mm_E 52 4 ls (.int x2 :: .int x1 :: .int x0 :: st) I r Q ↔ mm_w8 st = true ∧ mm_E 85 0 [some (.int x0), some (.int x1), some (.int x2)] [] I r (fun v I2 r2 => mm_E 52 7 ls (mm_pu v st) I2 r2 Q)) := fun x0 x1 x2 => me_sc (n := 3) (As := [.int x0, .int x1, .int x2]) (xs := [.int x2, .int x1, .int x0]) mc_52 dX5_interest_4 (by decide +kernel) (by decide +kernel) rfl rfl (Nat.le_of_ble_eq_true rfl) rfl
theorem e52_7 : mm_E 52 7 ls (.int x :: st) I r Q ↔ if ¬ x = 0 then mm_E 52 12 ls st I r Q else mm_E 52 10 ls st I r Q := me_zne mc_52 dX5_interest_7 (by decide)
theorem e52_10 : mm_E 52 10 ls st I r Q ↔ mm_E 52 11 ls (.int (-1) :: st) I r Q := me_ic mc_52 dX5_interest_10 (by decide)
theorem e52_11 : mm_E 52 11 ls [.int x] I r Q ↔ Q (some (.int x)) I r := me_ri mc_52 dX5_interest_11 rfl
theorem e52_12 : mm_E 52 12 [some (.ref a), l1, l2] st I r Q ↔ mm_E 52 13 [some (.ref a), l1, l2] (.ref a :: st) I r Q := me_al mc_52 dX5_interest_12 rfl
theorem e52_13 : mm_E 52 13 ls (.ref a :: st) I r Q ↔ mm_S r a = (1, 5) ∧ mm_E 52 16 ls (va_rf (mm_P r a 0) :: st) I r Q := me_gr mc_52 dX5_interest_13 (by decide +kernel) rfl
theorem e52_16 : mm_E 52 16 ls (.ref a :: st) I r Q ↔ mm_S r a = (1, 0) ∧ mm_E 52 19 ls (.int (mm_rd I a 2) :: st) I r Q := me_gi mc_52 dX5_interest_16 (by decide +kernel) rfl
theorem e52_19 : mm_E 52 19 [l0, l1, l2] (.int x :: st) I r Q ↔ mm_c1 l1 ∧ mm_E 52 20 [l0, l1, some (.int x)] st I r Q := me_st (k := 2) (v := .int x) mc_52 dX5_interest_19 rfl rfl (Nat.le_of_ble_eq_true rfl) rfl ⟨Or.inr, fun h => h.resolve_left (by decide)⟩
theorem e52_20 : mm_E 52 20 [some (.ref a), l1, l2] st I r Q ↔ mm_E 52 21 [some (.ref a), l1, l2] (.ref a :: st) I r Q := me_al mc_52 dX5_interest_20 rfl
theorem e52_21 : mm_E 52 21 ls (.ref a :: st) I r Q ↔ mm_S r a = (1, 5) ∧ mm_E 52 24 ls (va_rf (mm_P r a 0) :: st) I r Q := me_gr mc_52 dX5_interest_21 (by decide +kernel) rfl
theorem e52_24 : mm_E 52 24 [l0, some (.int x), l2] st I r Q ↔ mm_E 52 25 [l0, some (.int x), l2] (.int x :: st) I r Q := me_il mc_52 dX5_interest_24 rfl
theorem e52_25 : mm_E 52 25 ls (.int x :: .ref a :: st) I r Q ↔ mm_S r a = (1, 0) ∧ mm_E 52 28 ls st (mm_uI I a 2 x) r Q := me_pi mc_52 dX5_interest_25 (by decide +kernel) (by decide +kernel)
theorem e52_28 : mm_E 52 28 [l0, l1, some (.int x)] st I r Q ↔ mm_E 52 29 [l0, l1, some (.int x)] (.int x :: st) I r Q := me_il mc_52 dX5_interest_28 rfl
theorem e52_29 : mm_E 52 29 ls [.int x] I r Q ↔ Q (some (.int x)) I r := me_ri mc_52 dX5_interest_29 rfl
theorem mc_53 : mm_c 53 = cX5_of := rfl
theorem e53_0 : mm_E 53 0 [some (.ref a), l1, l2] st I r Q ↔ mm_E 53 1 [some (.ref a), l1, l2] (.ref a :: st) I r Q := me_al mc_53 dX5_of_0 rfl
theorem e53_1 : mm_E 53 1 ls (.ref a :: st) I r Q ↔ mm_S r a = (1, 5) ∧ mm_E 53 4 ls (va_rf (mm_P r a 0) :: st) I r Q := me_gr mc_53 dX5_of_1 (by decide +kernel) rfl
theorem e53_4 : mm_E 53 4 [l0, some (.int x), l2] st I r Q ↔ mm_E 53 5 [l0, some (.int x), l2] (.int x :: st) I r Q := me_il mc_53 dX5_of_4 rfl
theorem e53_5 : ∀ (x0 : Int32), (mm_E 53 5 ls (.int x0 :: .ref a :: st) I r Q ↔ (mm_w8 st = true ∧ mm_S r a = (1, 0)) ∧ mm_E 3 0 [some (.ref a), some (.int x0)] [] I r (fun v I2 r2 => mm_E 53 8 ls (mm_pu v st) I2 r2 Q)) := fun x0 => me_vc (n := 1) (As := [.int x0]) (xs := [.int x0]) (a := a) mc_53 dX5_of_5 (by decide +kernel) (by decide +kernel) rfl rfl (Nat.le_of_ble_eq_true rfl) rfl
theorem e53_8 : mm_E 53 8 ls (.int x :: st) I r Q ↔ if ¬ x = 0 then mm_E 53 13 ls st I r Q else mm_E 53 11 ls st I r Q := me_zne mc_53 dX5_of_8 (by decide)
theorem e53_11 : mm_E 53 11 ls st I r Q ↔ mm_E 53 12 ls (.int (-1) :: st) I r Q := me_ic mc_53 dX5_of_11 (by decide)
theorem e53_12 : mm_E 53 12 ls [.int x] I r Q ↔ Q (some (.int x)) I r := me_ri mc_53 dX5_of_12 rfl
theorem e53_13 : mm_E 53 13 [l0, l1, some (.int x)] st I r Q ↔ mm_E 53 14 [l0, l1, some (.int x)] (.int x :: st) I r Q := me_il mc_53 dX5_of_13 rfl
theorem e53_14 : mm_E 53 14 ls (.int x :: st) I r Q ↔ if x = 0 then mm_E 53 48 ls st I r Q else if x = 1 then mm_E 53 58 ls st I r Q else if x = 2 then mm_E 53 68 ls st I r Q else if x = 3 then mm_E 53 78 ls st I r Q else if x = 4 then mm_E 53 95 ls st I r Q else mm_E 53 104 ls st I r Q := by
  by_cases h0 : x = 0
  · subst h0
    simp only [if_true, if_pos]
    exact me_sw (off := 34) mc_53 dX5_of_14 rfl rfl (by decide)
  by_cases h1 : x = 1
  · subst h1
    simp only [if_true, if_pos]
    exact me_sw (off := 44) mc_53 dX5_of_14 rfl rfl (by decide)
  by_cases h2 : x = 2
  · subst h2
    simp only [if_true, if_pos]
    exact me_sw (off := 54) mc_53 dX5_of_14 rfl rfl (by decide)
  by_cases h3 : x = 3
  · subst h3
    simp only [if_true, if_pos]
    exact me_sw (off := 64) mc_53 dX5_of_14 rfl rfl (by decide)
  by_cases h4 : x = 4
  · subst h4
    simp only [if_true, if_pos]
    exact me_sw (off := 81) mc_53 dX5_of_14 rfl rfl (by decide)
  simp only [if_neg h0, if_neg h1, if_neg h2, if_neg h3, if_neg h4]
  have hx : x.toInt < 0 ∨ 4 < x.toInt := by
    rcases Int.lt_or_le x.toInt 0 with h | h
    · exact Or.inl h
    · rcases Int.lt_or_le 4 x.toInt with g | g
      · exact Or.inr g
      · exfalso
        have g0 : x.toInt ≠ 0 := fun q => h0 (Int32.toInt_inj.mp q)
        have g1 : x.toInt ≠ 1 := fun q => h1 (Int32.toInt_inj.mp q)
        have g2 : x.toInt ≠ 2 := fun q => h2 (Int32.toInt_inj.mp q)
        have g3 : x.toInt ≠ 3 := fun q => h3 (Int32.toInt_inj.mp q)
        have g4 : x.toInt ≠ 4 := fun q => h4 (Int32.toInt_inj.mp q)
        omega
  exact me_sw (off := 90) mc_53 dX5_of_14 rfl (by simp only [mm_act, mm_i1, mm_ts]; rw [if_pos hx]) (by decide)
theorem e53_48 : mm_E 53 48 [some (.ref a), l1, l2] st I r Q ↔ mm_E 53 49 [some (.ref a), l1, l2] (.ref a :: st) I r Q := me_al mc_53 dX5_of_48 rfl
theorem e53_49 : mm_E 53 49 ls (.ref a :: st) I r Q ↔ mm_S r a = (1, 5) ∧ mm_E 53 52 ls (va_rf (mm_P r a 0) :: st) I r Q := me_gr mc_53 dX5_of_49 (by decide +kernel) rfl
theorem e53_52 : mm_E 53 52 ls (.ref a :: st) I r Q ↔ mm_S r a = (1, 0) ∧ mm_E 53 55 ls (va_rf (mm_P r a 6) :: st) I r Q := me_gr mc_53 dX5_of_52 (by decide +kernel) rfl
theorem e53_55 : mm_E 53 55 [l0, some (.int x), l2] st I r Q ↔ mm_E 53 56 [l0, some (.int x), l2] (.int x :: st) I r Q := me_il mc_53 dX5_of_55 rfl
theorem e53_56 : mm_E 53 56 ls (.int x :: .ref a :: st) I r Q ↔ mm_ix r a 2 x ∧ mm_E 53 57 ls (.int (mm_rd I a x.toNatClampNeg) :: st) I r Q := me_ia mc_53 dX5_of_56
theorem e53_57 : mm_E 53 57 ls [.int x] I r Q ↔ Q (some (.int x)) I r := me_ri mc_53 dX5_of_57 rfl
theorem e53_58 : mm_E 53 58 [some (.ref a), l1, l2] st I r Q ↔ mm_E 53 59 [some (.ref a), l1, l2] (.ref a :: st) I r Q := me_al mc_53 dX5_of_58 rfl
theorem e53_59 : mm_E 53 59 ls (.ref a :: st) I r Q ↔ mm_S r a = (1, 5) ∧ mm_E 53 62 ls (va_rf (mm_P r a 0) :: st) I r Q := me_gr mc_53 dX5_of_59 (by decide +kernel) rfl
theorem e53_62 : mm_E 53 62 ls (.ref a :: st) I r Q ↔ mm_S r a = (1, 0) ∧ mm_E 53 65 ls (va_rf (mm_P r a 7) :: st) I r Q := me_gr mc_53 dX5_of_62 (by decide +kernel) rfl
theorem e53_65 : mm_E 53 65 [l0, some (.int x), l2] st I r Q ↔ mm_E 53 66 [l0, some (.int x), l2] (.int x :: st) I r Q := me_il mc_53 dX5_of_65 rfl
theorem e53_66 : mm_E 53 66 ls (.int x :: .ref a :: st) I r Q ↔ mm_ix r a 2 x ∧ mm_E 53 67 ls (.int (mm_rd I a x.toNatClampNeg) :: st) I r Q := me_ia mc_53 dX5_of_66
theorem e53_67 : mm_E 53 67 ls [.int x] I r Q ↔ Q (some (.int x)) I r := me_ri mc_53 dX5_of_67 rfl
theorem e53_68 : mm_E 53 68 [some (.ref a), l1, l2] st I r Q ↔ mm_E 53 69 [some (.ref a), l1, l2] (.ref a :: st) I r Q := me_al mc_53 dX5_of_68 rfl
theorem e53_69 : mm_E 53 69 ls (.ref a :: st) I r Q ↔ mm_S r a = (1, 5) ∧ mm_E 53 72 ls (va_rf (mm_P r a 0) :: st) I r Q := me_gr mc_53 dX5_of_69 (by decide +kernel) rfl
theorem e53_72 : mm_E 53 72 ls (.ref a :: st) I r Q ↔ mm_S r a = (1, 0) ∧ mm_E 53 75 ls (va_rf (mm_P r a 8) :: st) I r Q := me_gr mc_53 dX5_of_72 (by decide +kernel) rfl
theorem e53_75 : mm_E 53 75 [l0, some (.int x), l2] st I r Q ↔ mm_E 53 76 [l0, some (.int x), l2] (.int x :: st) I r Q := me_il mc_53 dX5_of_75 rfl
theorem e53_76 : mm_E 53 76 ls (.int x :: .ref a :: st) I r Q ↔ mm_ix r a 2 x ∧ mm_E 53 77 ls (.int (mm_rd I a x.toNatClampNeg) :: st) I r Q := me_ia mc_53 dX5_of_76
theorem e53_77 : mm_E 53 77 ls [.int x] I r Q ↔ Q (some (.int x)) I r := me_ri mc_53 dX5_of_77 rfl
theorem e53_78 : mm_E 53 78 [some (.ref a), l1, l2] st I r Q ↔ mm_E 53 79 [some (.ref a), l1, l2] (.ref a :: st) I r Q := me_al mc_53 dX5_of_78 rfl
theorem e53_79 : mm_E 53 79 ls (.ref a :: st) I r Q ↔ mm_S r a = (1, 5) ∧ mm_E 53 82 ls (va_rf (mm_P r a 0) :: st) I r Q := me_gr mc_53 dX5_of_79 (by decide +kernel) rfl
theorem e53_82 : mm_E 53 82 [l0, some (.int x), l2] st I r Q ↔ mm_E 53 83 [l0, some (.int x), l2] (.int x :: st) I r Q := me_il mc_53 dX5_of_82 rfl
theorem e53_83 : ∀ (x0 : Int32), (mm_E 53 83 ls (.int x0 :: .ref a :: st) I r Q ↔ (mm_w8 st = true ∧ mm_S r a = (1, 0)) ∧ mm_E 7 0 [some (.ref a), some (.int x0)] [] I r (fun v I2 r2 => mm_E 53 86 ls (mm_pu v st) I2 r2 Q)) := fun x0 => me_vc (n := 1) (As := [.int x0]) (xs := [.int x0]) (a := a) mc_53 dX5_of_83 (by decide +kernel) (by decide +kernel) rfl rfl (Nat.le_of_ble_eq_true rfl) rfl
theorem e53_86 : mm_E 53 86 ls (.int x :: st) I r Q ↔ if x = 0 then mm_E 53 93 ls st I r Q else mm_E 53 89 ls st I r Q := me_zeq mc_53 dX5_of_86 (by decide)
theorem e53_89 : mm_E 53 89 ls st I r Q ↔ mm_E 53 90 ls (.int 1 :: st) I r Q := me_ic mc_53 dX5_of_89 (by decide)
theorem e53_90 : mm_E 53 90 ls st I r Q ↔ mm_E 53 94 ls st I r Q := me_goto mc_53 dX5_of_90 (by decide)
theorem e53_93 : mm_E 53 93 ls st I r Q ↔ mm_E 53 94 ls (.int 0 :: st) I r Q := me_ic mc_53 dX5_of_93 (by decide)
theorem e53_94 : mm_E 53 94 ls [.int x] I r Q ↔ Q (some (.int x)) I r := me_ri mc_53 dX5_of_94 rfl
theorem e53_95 : mm_E 53 95 [some (.ref a), l1, l2] st I r Q ↔ mm_E 53 96 [some (.ref a), l1, l2] (.ref a :: st) I r Q := me_al mc_53 dX5_of_95 rfl
theorem e53_96 : mm_E 53 96 ls (.ref a :: st) I r Q ↔ mm_S r a = (1, 5) ∧ mm_E 53 99 ls (va_rf (mm_P r a 0) :: st) I r Q := me_gr mc_53 dX5_of_96 (by decide +kernel) rfl
theorem e53_99 : mm_E 53 99 [l0, some (.int x), l2] st I r Q ↔ mm_E 53 100 [l0, some (.int x), l2] (.int x :: st) I r Q := me_il mc_53 dX5_of_99 rfl
theorem e53_100 : ∀ (x0 : Int32), (mm_E 53 100 ls (.int x0 :: .ref a :: st) I r Q ↔ (mm_w8 st = true ∧ mm_S r a = (1, 0)) ∧ mm_E 11 0 [some (.ref a), some (.int x0), none, none] [] I r (fun v I2 r2 => mm_E 53 103 ls (mm_pu v st) I2 r2 Q)) := fun x0 => me_vc (n := 1) (As := [.int x0]) (xs := [.int x0]) (a := a) mc_53 dX5_of_100 (by decide +kernel) (by decide +kernel) rfl rfl (Nat.le_of_ble_eq_true rfl) rfl
theorem e53_103 : mm_E 53 103 ls [.int x] I r Q ↔ Q (some (.int x)) I r := me_ri mc_53 dX5_of_103 rfl
theorem e53_104 : mm_E 53 104 ls st I r Q ↔ mm_E 53 105 ls (.int (-1) :: st) I r Q := me_ic mc_53 dX5_of_104 (by decide)
theorem e53_105 : mm_E 53 105 ls [.int x] I r Q ↔ Q (some (.int x)) I r := me_ri mc_53 dX5_of_105 rfl
theorem mc_54 : mm_c 54 = cX5_at := rfl
theorem e54_0 : mm_E 54 0 [some (.ref a), l1, l2] st I r Q ↔ mm_E 54 1 [some (.ref a), l1, l2] (.ref a :: st) I r Q := me_al mc_54 dX5_at_0 rfl
theorem e54_1 : mm_E 54 1 ls (.ref a :: st) I r Q ↔ mm_S r a = (1, 5) ∧ mm_E 54 4 ls (va_rf (mm_P r a 0) :: st) I r Q := me_gr mc_54 dX5_at_1 (by decide +kernel) rfl
theorem e54_4 : mm_E 54 4 [l0, some (.int x), l2] st I r Q ↔ mm_E 54 5 [l0, some (.int x), l2] (.int x :: st) I r Q := me_il mc_54 dX5_at_4 rfl
theorem e54_5 : ∀ (x0 : Int32), (mm_E 54 5 ls (.int x0 :: .ref a :: st) I r Q ↔ (mm_w8 st = true ∧ mm_S r a = (1, 0)) ∧ mm_E 4 0 [some (.ref a), some (.int x0)] [] I r (fun v I2 r2 => mm_E 54 8 ls (mm_pu v st) I2 r2 Q)) := fun x0 => me_vc (n := 1) (As := [.int x0]) (xs := [.int x0]) (a := a) mc_54 dX5_at_5 (by decide +kernel) (by decide +kernel) rfl rfl (Nat.le_of_ble_eq_true rfl) rfl
theorem e54_8 : mm_E 54 8 ls (.int x :: st) I r Q ↔ if ¬ x = 0 then mm_E 54 13 ls st I r Q else mm_E 54 11 ls st I r Q := me_zne mc_54 dX5_at_8 (by decide)
theorem e54_11 : mm_E 54 11 ls st I r Q ↔ mm_E 54 12 ls (.int (-1) :: st) I r Q := me_ic mc_54 dX5_at_11 (by decide)
theorem e54_12 : mm_E 54 12 ls [.int x] I r Q ↔ Q (some (.int x)) I r := me_ri mc_54 dX5_at_12 rfl
theorem e54_13 : mm_E 54 13 [l0, l1, some (.int x)] st I r Q ↔ mm_E 54 14 [l0, l1, some (.int x)] (.int x :: st) I r Q := me_il mc_54 dX5_at_13 rfl
theorem e54_14 : mm_E 54 14 ls (.int x :: st) I r Q ↔ if x = 0 then mm_E 54 44 ls st I r Q else if x = 1 then mm_E 54 54 ls st I r Q else if x = 2 then mm_E 54 64 ls st I r Q else if x = 3 then mm_E 54 74 ls st I r Q else mm_E 54 83 ls st I r Q := by
  by_cases h0 : x = 0
  · subst h0
    simp only [if_true, if_pos]
    exact me_sw (off := 30) mc_54 dX5_at_14 rfl rfl (by decide)
  by_cases h1 : x = 1
  · subst h1
    simp only [if_true, if_pos]
    exact me_sw (off := 40) mc_54 dX5_at_14 rfl rfl (by decide)
  by_cases h2 : x = 2
  · subst h2
    simp only [if_true, if_pos]
    exact me_sw (off := 50) mc_54 dX5_at_14 rfl rfl (by decide)
  by_cases h3 : x = 3
  · subst h3
    simp only [if_true, if_pos]
    exact me_sw (off := 60) mc_54 dX5_at_14 rfl rfl (by decide)
  simp only [if_neg h0, if_neg h1, if_neg h2, if_neg h3]
  have hx : x.toInt < 0 ∨ 3 < x.toInt := by
    rcases Int.lt_or_le x.toInt 0 with h | h
    · exact Or.inl h
    · rcases Int.lt_or_le 3 x.toInt with g | g
      · exact Or.inr g
      · exfalso
        have g0 : x.toInt ≠ 0 := fun q => h0 (Int32.toInt_inj.mp q)
        have g1 : x.toInt ≠ 1 := fun q => h1 (Int32.toInt_inj.mp q)
        have g2 : x.toInt ≠ 2 := fun q => h2 (Int32.toInt_inj.mp q)
        have g3 : x.toInt ≠ 3 := fun q => h3 (Int32.toInt_inj.mp q)
        omega
  exact me_sw (off := 69) mc_54 dX5_at_14 rfl (by simp only [mm_act, mm_i1, mm_ts]; rw [if_pos hx]) (by decide)
theorem e54_44 : mm_E 54 44 [some (.ref a), l1, l2] st I r Q ↔ mm_E 54 45 [some (.ref a), l1, l2] (.ref a :: st) I r Q := me_al mc_54 dX5_at_44 rfl
theorem e54_45 : mm_E 54 45 ls (.ref a :: st) I r Q ↔ mm_S r a = (1, 5) ∧ mm_E 54 48 ls (va_rf (mm_P r a 0) :: st) I r Q := me_gr mc_54 dX5_at_45 (by decide +kernel) rfl
theorem e54_48 : mm_E 54 48 ls (.ref a :: st) I r Q ↔ mm_S r a = (1, 0) ∧ mm_E 54 51 ls (va_rf (mm_P r a 9) :: st) I r Q := me_gr mc_54 dX5_at_48 (by decide +kernel) rfl
theorem e54_51 : mm_E 54 51 [l0, some (.int x), l2] st I r Q ↔ mm_E 54 52 [l0, some (.int x), l2] (.int x :: st) I r Q := me_il mc_54 dX5_at_51 rfl
theorem e54_52 : mm_E 54 52 ls (.int x :: .ref a :: st) I r Q ↔ mm_ix r a 2 x ∧ mm_E 54 53 ls (.int (mm_rd I a x.toNatClampNeg) :: st) I r Q := me_ia mc_54 dX5_at_52
theorem e54_53 : mm_E 54 53 ls [.int x] I r Q ↔ Q (some (.int x)) I r := me_ri mc_54 dX5_at_53 rfl
theorem e54_54 : mm_E 54 54 [some (.ref a), l1, l2] st I r Q ↔ mm_E 54 55 [some (.ref a), l1, l2] (.ref a :: st) I r Q := me_al mc_54 dX5_at_54 rfl
theorem e54_55 : mm_E 54 55 ls (.ref a :: st) I r Q ↔ mm_S r a = (1, 5) ∧ mm_E 54 58 ls (va_rf (mm_P r a 0) :: st) I r Q := me_gr mc_54 dX5_at_55 (by decide +kernel) rfl
theorem e54_58 : mm_E 54 58 ls (.ref a :: st) I r Q ↔ mm_S r a = (1, 0) ∧ mm_E 54 61 ls (va_rf (mm_P r a 10) :: st) I r Q := me_gr mc_54 dX5_at_58 (by decide +kernel) rfl
theorem e54_61 : mm_E 54 61 [l0, some (.int x), l2] st I r Q ↔ mm_E 54 62 [l0, some (.int x), l2] (.int x :: st) I r Q := me_il mc_54 dX5_at_61 rfl
theorem e54_62 : mm_E 54 62 ls (.int x :: .ref a :: st) I r Q ↔ mm_ix r a 2 x ∧ mm_E 54 63 ls (.int (mm_rd I a x.toNatClampNeg) :: st) I r Q := me_ia mc_54 dX5_at_62
theorem e54_63 : mm_E 54 63 ls [.int x] I r Q ↔ Q (some (.int x)) I r := me_ri mc_54 dX5_at_63 rfl
theorem e54_64 : mm_E 54 64 [some (.ref a), l1, l2] st I r Q ↔ mm_E 54 65 [some (.ref a), l1, l2] (.ref a :: st) I r Q := me_al mc_54 dX5_at_64 rfl
theorem e54_65 : mm_E 54 65 ls (.ref a :: st) I r Q ↔ mm_S r a = (1, 5) ∧ mm_E 54 68 ls (va_rf (mm_P r a 0) :: st) I r Q := me_gr mc_54 dX5_at_65 (by decide +kernel) rfl
theorem e54_68 : mm_E 54 68 ls (.ref a :: st) I r Q ↔ mm_S r a = (1, 0) ∧ mm_E 54 71 ls (va_rf (mm_P r a 11) :: st) I r Q := me_gr mc_54 dX5_at_68 (by decide +kernel) rfl
theorem e54_71 : mm_E 54 71 [l0, some (.int x), l2] st I r Q ↔ mm_E 54 72 [l0, some (.int x), l2] (.int x :: st) I r Q := me_il mc_54 dX5_at_71 rfl
theorem e54_72 : mm_E 54 72 ls (.int x :: .ref a :: st) I r Q ↔ mm_ix r a 2 x ∧ mm_E 54 73 ls (.int (mm_rd I a x.toNatClampNeg) :: st) I r Q := me_ia mc_54 dX5_at_72
theorem e54_73 : mm_E 54 73 ls [.int x] I r Q ↔ Q (some (.int x)) I r := me_ri mc_54 dX5_at_73 rfl
theorem e54_74 : mm_E 54 74 [some (.ref a), l1, l2] st I r Q ↔ mm_E 54 75 [some (.ref a), l1, l2] (.ref a :: st) I r Q := me_al mc_54 dX5_at_74 rfl
theorem e54_75 : mm_E 54 75 ls (.ref a :: st) I r Q ↔ mm_S r a = (1, 5) ∧ mm_E 54 78 ls (va_rf (mm_P r a 0) :: st) I r Q := me_gr mc_54 dX5_at_75 (by decide +kernel) rfl
theorem e54_78 : mm_E 54 78 [l0, some (.int x), l2] st I r Q ↔ mm_E 54 79 [l0, some (.int x), l2] (.int x :: st) I r Q := me_il mc_54 dX5_at_78 rfl
theorem e54_79 : ∀ (x0 : Int32), (mm_E 54 79 ls (.int x0 :: .ref a :: st) I r Q ↔ (mm_w8 st = true ∧ mm_S r a = (1, 0)) ∧ mm_E 12 0 [some (.ref a), some (.int x0)] [] I r (fun v I2 r2 => mm_E 54 82 ls (mm_pu v st) I2 r2 Q)) := fun x0 => me_vc (n := 1) (As := [.int x0]) (xs := [.int x0]) (a := a) mc_54 dX5_at_79 (by decide +kernel) (by decide +kernel) rfl rfl (Nat.le_of_ble_eq_true rfl) rfl
theorem e54_82 : mm_E 54 82 ls [.int x] I r Q ↔ Q (some (.int x)) I r := me_ri mc_54 dX5_at_82 rfl
theorem e54_83 : mm_E 54 83 ls st I r Q ↔ mm_E 54 84 ls (.int (-1) :: st) I r Q := me_ic mc_54 dX5_at_83 (by decide)
theorem e54_84 : mm_E 54 84 ls [.int x] I r Q ↔ Q (some (.int x)) I r := me_ri mc_54 dX5_at_84 rfl
theorem mc_55 : mm_c 55 = cX5_type := rfl
theorem e55_0 : mm_E 55 0 [l0, some (.int x)] st I r Q ↔ mm_E 55 1 [l0, some (.int x)] (.int x :: st) I r Q := me_il mc_55 dX5_type_0 rfl
theorem e55_1 : mm_E 55 1 ls st I r Q ↔ mm_E 55 3 ls (.int 32 :: st) I r Q := me_bi mc_55 dX5_type_1 (by decide)
theorem e55_3 : mm_E 55 3 ls st I r Q ↔ mm_E 55 5 ls (.int 126 :: st) I r Q := me_bi mc_55 dX5_type_3 (by decide)
theorem e55_5 : ∀ (x0 : Int32) (x1 : Int32) (x2 : Int32), (mm_E 55 5 ls (.int x2 :: .int x1 :: .int x0 :: st) I r Q ↔ mm_w8 st = true ∧ mm_E 85 0 [some (.int x0), some (.int x1), some (.int x2)] [] I r (fun v I2 r2 => mm_E 55 8 ls (mm_pu v st) I2 r2 Q)) := fun x0 x1 x2 => me_sc (n := 3) (As := [.int x0, .int x1, .int x2]) (xs := [.int x2, .int x1, .int x0]) mc_55 dX5_type_5 (by decide +kernel) (by decide +kernel) rfl rfl (Nat.le_of_ble_eq_true rfl) rfl
theorem e55_8 : mm_E 55 8 ls (.int x :: st) I r Q ↔ if ¬ x = 0 then mm_E 55 13 ls st I r Q else mm_E 55 11 ls st I r Q := me_zne mc_55 dX5_type_8 (by decide)
theorem e55_11 : mm_E 55 11 ls st I r Q ↔ mm_E 55 12 ls (.int (-1) :: st) I r Q := me_ic mc_55 dX5_type_11 (by decide)
theorem e55_12 : mm_E 55 12 ls [.int x] I r Q ↔ Q (some (.int x)) I r := me_ri mc_55 dX5_type_12 rfl
theorem e55_13 : mm_E 55 13 [some (.ref a), l1] st I r Q ↔ mm_E 55 14 [some (.ref a), l1] (.ref a :: st) I r Q := me_al mc_55 dX5_type_13 rfl
theorem e55_14 : mm_E 55 14 ls (.ref a :: st) I r Q ↔ mm_S r a = (1, 5) ∧ mm_E 55 17 ls (va_rf (mm_P r a 4) :: st) I r Q := me_gr mc_55 dX5_type_14 (by decide +kernel) rfl
theorem e55_17 : mm_E 55 17 ls (.ref a :: st) I r Q ↔ mm_S r a = (1, 4) ∧ mm_E 55 20 ls (.int (mm_rd I a 0) :: st) I r Q := me_gi mc_55 dX5_type_17 (by decide +kernel) rfl
theorem e55_20 : mm_E 55 20 ls st I r Q ↔ mm_E 55 22 ls (.int 80 :: st) I r Q := me_bi mc_55 dX5_type_20 (by decide)
theorem e55_22 : mm_E 55 22 ls (.int y :: .int x :: st) I r Q ↔ if x < y then mm_E 55 28 ls st I r Q else mm_E 55 25 ls st I r Q := me_clt mc_55 dX5_type_22 (by decide)
theorem e55_25 : mm_E 55 25 ls st I r Q ↔ mm_E 55 27 ls (.int (-3) :: st) I r Q := me_bi mc_55 dX5_type_25 (by decide)
theorem e55_27 : mm_E 55 27 ls [.int x] I r Q ↔ Q (some (.int x)) I r := me_ri mc_55 dX5_type_27 rfl
theorem e55_28 : mm_E 55 28 [some (.ref a), l1] st I r Q ↔ mm_E 55 29 [some (.ref a), l1] (.ref a :: st) I r Q := me_al mc_55 dX5_type_28 rfl
theorem e55_29 : mm_E 55 29 ls (.ref a :: st) I r Q ↔ mm_S r a = (1, 5) ∧ mm_E 55 32 ls (va_rf (mm_P r a 4) :: st) I r Q := me_gr mc_55 dX5_type_29 (by decide +kernel) rfl
theorem e55_32 : mm_E 55 32 [l0, some (.int x)] st I r Q ↔ mm_E 55 33 [l0, some (.int x)] (.int x :: st) I r Q := me_il mc_55 dX5_type_32 rfl
theorem e55_33 : ∀ (x0 : Int32), (mm_E 55 33 ls (.int x0 :: .ref a :: st) I r Q ↔ (mm_w8 st = true ∧ mm_S r a = (1, 4)) ∧ mm_E 37 0 [some (.ref a), some (.int x0)] [] I r (fun v I2 r2 => mm_E 55 36 ls (mm_pu v st) I2 r2 Q)) := fun x0 => me_vc (n := 1) (As := [.int x0]) (xs := [.int x0]) (a := a) mc_55 dX5_type_33 (by decide +kernel) (by decide +kernel) rfl rfl (Nat.le_of_ble_eq_true rfl) rfl
theorem e55_36 : mm_E 55 36 ls [.int x] I r Q ↔ Q (some (.int x)) I r := me_ri mc_55 dX5_type_36 rfl
theorem mc_56 : mm_c 56 = cX5_read := rfl
theorem e56_0 : mm_E 56 0 [some (.ref a), l1, l2] st I r Q ↔ mm_E 56 1 [some (.ref a), l1, l2] (.ref a :: st) I r Q := me_al mc_56 dX5_read_0 rfl
theorem e56_1 : mm_E 56 1 ls (.ref a :: st) I r Q ↔ mm_S r a = (1, 5) ∧ mm_E 56 4 ls (va_rf (mm_P r a 4) :: st) I r Q := me_gr mc_56 dX5_read_1 (by decide +kernel) rfl
theorem e56_4 : (mm_E 56 4 ls (.ref a :: st) I r Q ↔ (mm_w8 st = true ∧ mm_S r a = (1, 4)) ∧ mm_E 38 0 [some (.ref a), none] [] I r (fun v I2 r2 => mm_E 56 7 ls (mm_pu v st) I2 r2 Q)) := me_vc (n := 0) (As := []) (xs := []) (a := a) mc_56 dX5_read_4 (by decide +kernel) (by decide +kernel) rfl rfl (Nat.le_of_ble_eq_true rfl) rfl
theorem e56_7 : mm_E 56 7 [l0, l1, l2] (.int x :: st) I r Q ↔ mm_c1 l0 ∧ mm_E 56 8 [l0, some (.int x), l2] st I r Q := me_st (k := 1) (v := .int x) mc_56 dX5_read_7 rfl rfl (Nat.le_of_ble_eq_true rfl) rfl ⟨Or.inr, fun h => h.resolve_left (by decide)⟩
theorem e56_8 : mm_E 56 8 [some (.ref a), l1, l2] st I r Q ↔ mm_E 56 9 [some (.ref a), l1, l2] (.ref a :: st) I r Q := me_al mc_56 dX5_read_8 rfl
theorem e56_9 : mm_E 56 9 ls (.ref a :: st) I r Q ↔ mm_S r a = (1, 5) ∧ mm_E 56 12 ls (va_rf (mm_P r a 4) :: st) I r Q := me_gr mc_56 dX5_read_9 (by decide +kernel) rfl
theorem e56_12 : mm_E 56 12 ls st I r Q ↔ mm_E 56 13 ls (.int 0 :: st) I r Q := me_ic mc_56 dX5_read_12 (by decide)
theorem e56_13 : mm_E 56 13 ls (.int x :: .ref a :: st) I r Q ↔ mm_S r a = (1, 4) ∧ mm_E 56 16 ls st (mm_uI I a 0 x) r Q := me_pi mc_56 dX5_read_13 (by decide +kernel) (by decide +kernel)
theorem e56_16 : mm_E 56 16 [l0, some (.int x), l2] st I r Q ↔ mm_E 56 17 [l0, some (.int x), l2] (.int x :: st) I r Q := me_il mc_56 dX5_read_16 rfl
theorem e56_17 : mm_E 56 17 ls (.int x :: st) I r Q ↔ if ¬ x = 0 then mm_E 56 28 ls st I r Q else mm_E 56 20 ls st I r Q := me_zne mc_56 dX5_read_17 (by decide)
theorem e56_20 : mm_E 56 20 [some (.ref a), l1, l2] st I r Q ↔ mm_E 56 21 [some (.ref a), l1, l2] (.ref a :: st) I r Q := me_al mc_56 dX5_read_20 rfl
theorem e56_21 : mm_E 56 21 ls (.ref a :: st) I r Q ↔ mm_S r a = (1, 5) ∧ mm_E 56 24 ls (va_rf (mm_P r a 4) :: st) I r Q := me_gr mc_56 dX5_read_21 (by decide +kernel) rfl
theorem e56_24 : mm_E 56 24 ls (.ref a :: st) I r Q ↔ mm_S r a = (1, 4) ∧ mm_E 56 27 ls (.int (mm_rd I a 1) :: st) I r Q := me_gi mc_56 dX5_read_24 (by decide +kernel) rfl
theorem e56_27 : mm_E 56 27 ls [.int x] I r Q ↔ Q (some (.int x)) I r := me_ri mc_56 dX5_read_27 rfl
theorem e56_28 : mm_E 56 28 [some (.ref a), l1, l2] st I r Q ↔ mm_E 56 29 [some (.ref a), l1, l2] (.ref a :: st) I r Q := me_al mc_56 dX5_read_28 rfl
theorem e56_29 : mm_E 56 29 ls (.ref a :: st) I r Q ↔ mm_S r a = (1, 5) ∧ mm_E 56 32 ls (va_rf (mm_P r a 0) :: st) I r Q := me_gr mc_56 dX5_read_29 (by decide +kernel) rfl
theorem e56_32 : mm_E 56 32 ls (.ref a :: st) I r Q ↔ mm_S r a = (1, 0) ∧ mm_E 56 35 ls (.int (mm_rd I a 5) :: st) I r Q := me_gi mc_56 dX5_read_32 (by decide +kernel) rfl
theorem e56_35 : mm_E 56 35 [l0, l1, l2] (.int x :: st) I r Q ↔ mm_c1 l1 ∧ mm_E 56 36 [l0, l1, some (.int x)] st I r Q := me_st (k := 2) (v := .int x) mc_56 dX5_read_35 rfl rfl (Nat.le_of_ble_eq_true rfl) rfl ⟨Or.inr, fun h => h.resolve_left (by decide)⟩
theorem e56_36 : mm_E 56 36 [some (.ref a), l1, l2] st I r Q ↔ mm_E 56 37 [some (.ref a), l1, l2] (.ref a :: st) I r Q := me_al mc_56 dX5_read_36 rfl
theorem e56_37 : mm_E 56 37 ls (.ref a :: st) I r Q ↔ mm_S r a = (1, 5) ∧ mm_E 56 40 ls (va_rf (mm_P r a 0) :: st) I r Q := me_gr mc_56 dX5_read_37 (by decide +kernel) rfl
theorem e56_40 : mm_E 56 40 [some (.ref a), l1, l2] st I r Q ↔ mm_E 56 41 [some (.ref a), l1, l2] (.ref a :: st) I r Q := me_al mc_56 dX5_read_40 rfl
theorem e56_41 : mm_E 56 41 ls (.ref a :: st) I r Q ↔ mm_S r a = (1, 5) ∧ mm_E 56 44 ls (va_rf (mm_P r a 4) :: st) I r Q := me_gr mc_56 dX5_read_41 (by decide +kernel) rfl
theorem e56_44 : mm_E 56 44 ls (.ref a :: st) I r Q ↔ mm_S r a = (1, 4) ∧ mm_E 56 47 ls (va_rf (mm_P r a 2) :: st) I r Q := me_gr mc_56 dX5_read_44 (by decide +kernel) rfl
theorem e56_47 : ∀ (x0 : Nat), (mm_E 56 47 ls (.ref x0 :: .ref a :: st) I r Q ↔ (mm_w8 st = true ∧ mm_S r a = (1, 0)) ∧ mm_E 1 0 [some (.ref a), some (.ref x0), none] [] I r (fun v I2 r2 => mm_E 56 50 ls (mm_pu v st) I2 r2 Q)) := fun x0 => me_vc (n := 1) (As := [.ref x0]) (xs := [.ref x0]) (a := a) mc_56 dX5_read_47 (by decide +kernel) (by decide +kernel) rfl rfl (Nat.le_of_ble_eq_true rfl) rfl
theorem e56_50 : mm_E 56 50 [some (.ref a), l1, l2] st I r Q ↔ mm_E 56 51 [some (.ref a), l1, l2] (.ref a :: st) I r Q := me_al mc_56 dX5_read_50 rfl
theorem e56_51 : mm_E 56 51 ls (.ref a :: st) I r Q ↔ mm_S r a = (1, 5) ∧ mm_E 56 54 ls (va_rf (mm_P r a 0) :: st) I r Q := me_gr mc_56 dX5_read_51 (by decide +kernel) rfl
theorem e56_54 : mm_E 56 54 [l0, l1, some (.int x)] st I r Q ↔ mm_E 56 55 [l0, l1, some (.int x)] (.int x :: st) I r Q := me_il mc_56 dX5_read_54 rfl
theorem e56_55 : mm_E 56 55 ls (.int x :: .ref a :: st) I r Q ↔ mm_S r a = (1, 0) ∧ mm_E 56 58 ls st (mm_uI I a 5 x) r Q := me_pi mc_56 dX5_read_55 (by decide +kernel) (by decide +kernel)
theorem e56_58 : mm_E 56 58 [some (.ref a), l1, l2] st I r Q ↔ mm_E 56 59 [some (.ref a), l1, l2] (.ref a :: st) I r Q := me_al mc_56 dX5_read_58 rfl
theorem e56_59 : mm_E 56 59 ls (.ref a :: st) I r Q ↔ mm_S r a = (1, 5) ∧ mm_E 56 62 ls (va_rf (mm_P r a 2) :: st) I r Q := me_gr mc_56 dX5_read_59 (by decide +kernel) rfl
theorem e56_62 : (mm_E 56 62 ls (.ref a :: st) I r Q ↔ (mm_w8 st = true ∧ mm_S r a = (1, 2)) ∧ mm_E 26 0 [some (.ref a)] [] I r (fun v I2 r2 => mm_E 56 65 ls (mm_pu v st) I2 r2 Q)) := me_vc (n := 0) (As := []) (xs := []) (a := a) mc_56 dX5_read_62 (by decide +kernel) (by decide +kernel) rfl rfl (Nat.le_of_ble_eq_true rfl) rfl
theorem e56_65 : mm_E 56 65 [some (.ref a), l1, l2] st I r Q ↔ mm_E 56 66 [some (.ref a), l1, l2] (.ref a :: st) I r Q := me_al mc_56 dX5_read_65 rfl
theorem e56_66 : mm_E 56 66 ls (.ref a :: st) I r Q ↔ mm_S r a = (1, 5) ∧ mm_E 56 69 ls (va_rf (mm_P r a 0) :: st) I r Q := me_gr mc_56 dX5_read_66 (by decide +kernel) rfl
theorem e56_69 : mm_E 56 69 ls (.ref a :: st) I r Q ↔ mm_S r a = (1, 0) ∧ mm_E 56 72 ls (.int (mm_rd I a 0) :: st) I r Q := me_gi mc_56 dX5_read_69 (by decide +kernel) rfl
theorem e56_72 : mm_E 56 72 ls [.int x] I r Q ↔ Q (some (.int x)) I r := me_ri mc_56 dX5_read_72 rfl
theorem mc_57 : mm_c 57 = cX5_count := rfl
theorem e57_0 : mm_E 57 0 [l0, some (.int x)] st I r Q ↔ mm_E 57 1 [l0, some (.int x)] (.int x :: st) I r Q := me_il mc_57 dX5_count_0 rfl
theorem e57_1 : mm_E 57 1 ls (.int x :: st) I r Q ↔ if x = 0 then mm_E 57 52 ls st I r Q else if x = 1 then mm_E 57 60 ls st I r Q else if x = 2 then mm_E 57 68 ls st I r Q else if x = 3 then mm_E 57 76 ls st I r Q else if x = 4 then mm_E 57 84 ls st I r Q else if x = 5 then mm_E 57 92 ls st I r Q else if x = 6 then mm_E 57 100 ls st I r Q else if x = 7 then mm_E 57 108 ls st I r Q else if x = 8 then mm_E 57 124 ls st I r Q else mm_E 57 132 ls st I r Q := by
  by_cases h0 : x = 0
  · subst h0
    simp only [if_true, if_pos]
    exact me_sw (off := 51) mc_57 dX5_count_1 rfl rfl (by decide)
  by_cases h1 : x = 1
  · subst h1
    simp only [if_true, if_pos]
    exact me_sw (off := 59) mc_57 dX5_count_1 rfl rfl (by decide)
  by_cases h2 : x = 2
  · subst h2
    simp only [if_true, if_pos]
    exact me_sw (off := 67) mc_57 dX5_count_1 rfl rfl (by decide)
  by_cases h3 : x = 3
  · subst h3
    simp only [if_true, if_pos]
    exact me_sw (off := 75) mc_57 dX5_count_1 rfl rfl (by decide)
  by_cases h4 : x = 4
  · subst h4
    simp only [if_true, if_pos]
    exact me_sw (off := 83) mc_57 dX5_count_1 rfl rfl (by decide)
  by_cases h5 : x = 5
  · subst h5
    simp only [if_true, if_pos]
    exact me_sw (off := 91) mc_57 dX5_count_1 rfl rfl (by decide)
  by_cases h6 : x = 6
  · subst h6
    simp only [if_true, if_pos]
    exact me_sw (off := 99) mc_57 dX5_count_1 rfl rfl (by decide)
  by_cases h7 : x = 7
  · subst h7
    simp only [if_true, if_pos]
    exact me_sw (off := 107) mc_57 dX5_count_1 rfl rfl (by decide)
  by_cases h8 : x = 8
  · subst h8
    simp only [if_true, if_pos]
    exact me_sw (off := 123) mc_57 dX5_count_1 rfl rfl (by decide)
  simp only [if_neg h0, if_neg h1, if_neg h2, if_neg h3, if_neg h4, if_neg h5, if_neg h6, if_neg h7, if_neg h8]
  have hx : x.toInt < 0 ∨ 8 < x.toInt := by
    rcases Int.lt_or_le x.toInt 0 with h | h
    · exact Or.inl h
    · rcases Int.lt_or_le 8 x.toInt with g | g
      · exact Or.inr g
      · exfalso
        have g0 : x.toInt ≠ 0 := fun q => h0 (Int32.toInt_inj.mp q)
        have g1 : x.toInt ≠ 1 := fun q => h1 (Int32.toInt_inj.mp q)
        have g2 : x.toInt ≠ 2 := fun q => h2 (Int32.toInt_inj.mp q)
        have g3 : x.toInt ≠ 3 := fun q => h3 (Int32.toInt_inj.mp q)
        have g4 : x.toInt ≠ 4 := fun q => h4 (Int32.toInt_inj.mp q)
        have g5 : x.toInt ≠ 5 := fun q => h5 (Int32.toInt_inj.mp q)
        have g6 : x.toInt ≠ 6 := fun q => h6 (Int32.toInt_inj.mp q)
        have g7 : x.toInt ≠ 7 := fun q => h7 (Int32.toInt_inj.mp q)
        have g8 : x.toInt ≠ 8 := fun q => h8 (Int32.toInt_inj.mp q)
        omega
  exact me_sw (off := 131) mc_57 dX5_count_1 rfl (by simp only [mm_act, mm_i1, mm_ts]; rw [if_pos hx]) (by decide)
theorem e57_52 : mm_E 57 52 [some (.ref a), l1] st I r Q ↔ mm_E 57 53 [some (.ref a), l1] (.ref a :: st) I r Q := me_al mc_57 dX5_count_52 rfl
theorem e57_53 : mm_E 57 53 ls (.ref a :: st) I r Q ↔ mm_S r a = (1, 5) ∧ mm_E 57 56 ls (va_rf (mm_P r a 0) :: st) I r Q := me_gr mc_57 dX5_count_53 (by decide +kernel) rfl
theorem e57_56 : mm_E 57 56 ls (.ref a :: st) I r Q ↔ mm_S r a = (1, 0) ∧ mm_E 57 59 ls (.int (mm_rd I a 0) :: st) I r Q := me_gi mc_57 dX5_count_56 (by decide +kernel) rfl
theorem e57_59 : mm_E 57 59 ls [.int x] I r Q ↔ Q (some (.int x)) I r := me_ri mc_57 dX5_count_59 rfl
theorem e57_60 : mm_E 57 60 [some (.ref a), l1] st I r Q ↔ mm_E 57 61 [some (.ref a), l1] (.ref a :: st) I r Q := me_al mc_57 dX5_count_60 rfl
theorem e57_61 : mm_E 57 61 ls (.ref a :: st) I r Q ↔ mm_S r a = (1, 5) ∧ mm_E 57 64 ls (va_rf (mm_P r a 0) :: st) I r Q := me_gr mc_57 dX5_count_61 (by decide +kernel) rfl
theorem e57_64 : mm_E 57 64 ls (.ref a :: st) I r Q ↔ mm_S r a = (1, 0) ∧ mm_E 57 67 ls (.int (mm_rd I a 1) :: st) I r Q := me_gi mc_57 dX5_count_64 (by decide +kernel) rfl
theorem e57_67 : mm_E 57 67 ls [.int x] I r Q ↔ Q (some (.int x)) I r := me_ri mc_57 dX5_count_67 rfl
theorem e57_68 : mm_E 57 68 [some (.ref a), l1] st I r Q ↔ mm_E 57 69 [some (.ref a), l1] (.ref a :: st) I r Q := me_al mc_57 dX5_count_68 rfl
theorem e57_69 : mm_E 57 69 ls (.ref a :: st) I r Q ↔ mm_S r a = (1, 5) ∧ mm_E 57 72 ls (va_rf (mm_P r a 0) :: st) I r Q := me_gr mc_57 dX5_count_69 (by decide +kernel) rfl
theorem e57_72 : mm_E 57 72 ls (.ref a :: st) I r Q ↔ mm_S r a = (1, 0) ∧ mm_E 57 75 ls (.int (mm_rd I a 3) :: st) I r Q := me_gi mc_57 dX5_count_72 (by decide +kernel) rfl
theorem e57_75 : mm_E 57 75 ls [.int x] I r Q ↔ Q (some (.int x)) I r := me_ri mc_57 dX5_count_75 rfl
theorem e57_76 : mm_E 57 76 [some (.ref a), l1] st I r Q ↔ mm_E 57 77 [some (.ref a), l1] (.ref a :: st) I r Q := me_al mc_57 dX5_count_76 rfl
theorem e57_77 : mm_E 57 77 ls (.ref a :: st) I r Q ↔ mm_S r a = (1, 5) ∧ mm_E 57 80 ls (va_rf (mm_P r a 0) :: st) I r Q := me_gr mc_57 dX5_count_77 (by decide +kernel) rfl
theorem e57_80 : mm_E 57 80 ls (.ref a :: st) I r Q ↔ mm_S r a = (1, 0) ∧ mm_E 57 83 ls (.int (mm_rd I a 2) :: st) I r Q := me_gi mc_57 dX5_count_80 (by decide +kernel) rfl
theorem e57_83 : mm_E 57 83 ls [.int x] I r Q ↔ Q (some (.int x)) I r := me_ri mc_57 dX5_count_83 rfl
theorem e57_84 : mm_E 57 84 [some (.ref a), l1] st I r Q ↔ mm_E 57 85 [some (.ref a), l1] (.ref a :: st) I r Q := me_al mc_57 dX5_count_84 rfl
theorem e57_85 : mm_E 57 85 ls (.ref a :: st) I r Q ↔ mm_S r a = (1, 5) ∧ mm_E 57 88 ls (va_rf (mm_P r a 0) :: st) I r Q := me_gr mc_57 dX5_count_85 (by decide +kernel) rfl
theorem e57_88 : mm_E 57 88 ls (.ref a :: st) I r Q ↔ mm_S r a = (1, 0) ∧ mm_E 57 91 ls (.int (mm_rd I a 4) :: st) I r Q := me_gi mc_57 dX5_count_88 (by decide +kernel) rfl
theorem e57_91 : mm_E 57 91 ls [.int x] I r Q ↔ Q (some (.int x)) I r := me_ri mc_57 dX5_count_91 rfl
theorem e57_92 : mm_E 57 92 [some (.ref a), l1] st I r Q ↔ mm_E 57 93 [some (.ref a), l1] (.ref a :: st) I r Q := me_al mc_57 dX5_count_92 rfl
theorem e57_93 : mm_E 57 93 ls (.ref a :: st) I r Q ↔ mm_S r a = (1, 5) ∧ mm_E 57 96 ls (va_rf (mm_P r a 0) :: st) I r Q := me_gr mc_57 dX5_count_93 (by decide +kernel) rfl
theorem e57_96 : (mm_E 57 96 ls (.ref a :: st) I r Q ↔ (mm_w8 st = true ∧ mm_S r a = (1, 0)) ∧ mm_E 9 0 [some (.ref a), none, none] [] I r (fun v I2 r2 => mm_E 57 99 ls (mm_pu v st) I2 r2 Q)) := me_vc (n := 0) (As := []) (xs := []) (a := a) mc_57 dX5_count_96 (by decide +kernel) (by decide +kernel) rfl rfl (Nat.le_of_ble_eq_true rfl) rfl
theorem e57_99 : mm_E 57 99 ls [.int x] I r Q ↔ Q (some (.int x)) I r := me_ri mc_57 dX5_count_99 rfl
theorem e57_100 : mm_E 57 100 [some (.ref a), l1] st I r Q ↔ mm_E 57 101 [some (.ref a), l1] (.ref a :: st) I r Q := me_al mc_57 dX5_count_100 rfl
theorem e57_101 : mm_E 57 101 ls (.ref a :: st) I r Q ↔ mm_S r a = (1, 5) ∧ mm_E 57 104 ls (va_rf (mm_P r a 0) :: st) I r Q := me_gr mc_57 dX5_count_101 (by decide +kernel) rfl
theorem e57_104 : (mm_E 57 104 ls (.ref a :: st) I r Q ↔ (mm_w8 st = true ∧ mm_S r a = (1, 0)) ∧ mm_E 10 0 [some (.ref a), none, none] [] I r (fun v I2 r2 => mm_E 57 107 ls (mm_pu v st) I2 r2 Q)) := me_vc (n := 0) (As := []) (xs := []) (a := a) mc_57 dX5_count_104 (by decide +kernel) (by decide +kernel) rfl rfl (Nat.le_of_ble_eq_true rfl) rfl
theorem e57_107 : mm_E 57 107 ls [.int x] I r Q ↔ Q (some (.int x)) I r := me_ri mc_57 dX5_count_107 rfl
theorem e57_108 : mm_E 57 108 [some (.ref a), l1] st I r Q ↔ mm_E 57 109 [some (.ref a), l1] (.ref a :: st) I r Q := me_al mc_57 dX5_count_108 rfl
theorem e57_109 : mm_E 57 109 ls (.ref a :: st) I r Q ↔ mm_S r a = (1, 5) ∧ mm_E 57 112 ls (va_rf (mm_P r a 0) :: st) I r Q := me_gr mc_57 dX5_count_109 (by decide +kernel) rfl
theorem e57_112 : (mm_E 57 112 ls (.ref a :: st) I r Q ↔ (mm_w8 st = true ∧ mm_S r a = (1, 0)) ∧ mm_E 8 0 [some (.ref a)] [] I r (fun v I2 r2 => mm_E 57 115 ls (mm_pu v st) I2 r2 Q)) := me_vc (n := 0) (As := []) (xs := []) (a := a) mc_57 dX5_count_112 (by decide +kernel) (by decide +kernel) rfl rfl (Nat.le_of_ble_eq_true rfl) rfl
theorem e57_115 : mm_E 57 115 ls (.int x :: st) I r Q ↔ if x = 0 then mm_E 57 122 ls st I r Q else mm_E 57 118 ls st I r Q := me_zeq mc_57 dX5_count_115 (by decide)
theorem e57_118 : mm_E 57 118 ls st I r Q ↔ mm_E 57 119 ls (.int 1 :: st) I r Q := me_ic mc_57 dX5_count_118 (by decide)
theorem e57_119 : mm_E 57 119 ls st I r Q ↔ mm_E 57 123 ls st I r Q := me_goto mc_57 dX5_count_119 (by decide)
theorem e57_122 : mm_E 57 122 ls st I r Q ↔ mm_E 57 123 ls (.int 0 :: st) I r Q := me_ic mc_57 dX5_count_122 (by decide)
theorem e57_123 : mm_E 57 123 ls [.int x] I r Q ↔ Q (some (.int x)) I r := me_ri mc_57 dX5_count_123 rfl
theorem e57_124 : mm_E 57 124 [some (.ref a), l1] st I r Q ↔ mm_E 57 125 [some (.ref a), l1] (.ref a :: st) I r Q := me_al mc_57 dX5_count_124 rfl
theorem e57_125 : mm_E 57 125 ls (.ref a :: st) I r Q ↔ mm_S r a = (1, 5) ∧ mm_E 57 128 ls (va_rf (mm_P r a 2) :: st) I r Q := me_gr mc_57 dX5_count_125 (by decide +kernel) rfl
theorem e57_128 : mm_E 57 128 ls (.ref a :: st) I r Q ↔ mm_S r a = (1, 2) ∧ mm_E 57 131 ls (.int (mm_rd I a 1) :: st) I r Q := me_gi mc_57 dX5_count_128 (by decide +kernel) rfl
theorem e57_131 : mm_E 57 131 ls [.int x] I r Q ↔ Q (some (.int x)) I r := me_ri mc_57 dX5_count_131 rfl
theorem e57_132 : mm_E 57 132 ls st I r Q ↔ mm_E 57 133 ls (.int (-1) :: st) I r Q := me_ic mc_57 dX5_count_132 (by decide)
theorem e57_133 : mm_E 57 133 ls [.int x] I r Q ↔ Q (some (.int x)) I r := me_ri mc_57 dX5_count_133 rfl
theorem mc_58 : mm_c 58 = cX5_nights := rfl
theorem e58_0 : mm_E 58 0 [l0, some (.int x), l2] st I r Q ↔ mm_E 58 1 [l0, some (.int x), l2] (.int x :: st) I r Q := me_il mc_58 dX5_nights_0 rfl
theorem e58_1 : mm_E 58 1 ls st I r Q ↔ mm_E 58 2 ls (.int 1 :: st) I r Q := me_ic mc_58 dX5_nights_1 (by decide)
theorem e58_2 : mm_E 58 2 ls st I r Q ↔ mm_E 58 4 ls (.int 40 :: st) I r Q := me_bi mc_58 dX5_nights_2 (by decide)
theorem e58_4 : ∀ (x0 : Int32) (x1 : Int32) (x2 : Int32), (mm_E 58 4 ls (.int x2 :: .int x1 :: .int x0 :: st) I r Q ↔ mm_w8 st = true ∧ mm_E 85 0 [some (.int x0), some (.int x1), some (.int x2)] [] I r (fun v I2 r2 => mm_E 58 7 ls (mm_pu v st) I2 r2 Q)) := fun x0 x1 x2 => me_sc (n := 3) (As := [.int x0, .int x1, .int x2]) (xs := [.int x2, .int x1, .int x0]) mc_58 dX5_nights_4 (by decide +kernel) (by decide +kernel) rfl rfl (Nat.le_of_ble_eq_true rfl) rfl
theorem e58_7 : mm_E 58 7 ls (.int x :: st) I r Q ↔ if ¬ x = 0 then mm_E 58 12 ls st I r Q else mm_E 58 10 ls st I r Q := me_zne mc_58 dX5_nights_7 (by decide)
theorem e58_10 : mm_E 58 10 ls st I r Q ↔ mm_E 58 11 ls (.int (-1) :: st) I r Q := me_ic mc_58 dX5_nights_10 (by decide)
theorem e58_11 : mm_E 58 11 ls [.int x] I r Q ↔ Q (some (.int x)) I r := me_ri mc_58 dX5_nights_11 rfl
theorem e58_12 : mm_E 58 12 [some (.ref a), l1, l2] st I r Q ↔ mm_E 58 13 [some (.ref a), l1, l2] (.ref a :: st) I r Q := me_al mc_58 dX5_nights_12 rfl
theorem e58_13 : mm_E 58 13 ls (.ref a :: st) I r Q ↔ mm_S r a = (1, 5) ∧ mm_E 58 16 ls (va_rf (mm_P r a 0) :: st) I r Q := me_gr mc_58 dX5_nights_13 (by decide +kernel) rfl
theorem e58_16 : mm_E 58 16 ls (.ref a :: st) I r Q ↔ mm_S r a = (1, 0) ∧ mm_E 58 19 ls (.int (mm_rd I a 3) :: st) I r Q := me_gi mc_58 dX5_nights_16 (by decide +kernel) rfl
theorem e58_19 : mm_E 58 19 [l0, some (.int x), l2] st I r Q ↔ mm_E 58 20 [l0, some (.int x), l2] (.int x :: st) I r Q := me_il mc_58 dX5_nights_19 rfl
theorem e58_20 : mm_E 58 20 ls (.int y :: .int x :: st) I r Q ↔ mm_E 58 21 ls (.int (x + y) :: st) I r Q := me_iadd mc_58 dX5_nights_20
theorem e58_21 : mm_E 58 21 ls st I r Q ↔ mm_E 58 24 ls (.int 9999 :: st) I r Q := me_si mc_58 dX5_nights_21 (by decide)
theorem e58_24 : mm_E 58 24 ls (.int y :: .int x :: st) I r Q ↔ if x ≤ y then mm_E 58 30 ls st I r Q else mm_E 58 27 ls st I r Q := me_cle mc_58 dX5_nights_24 (by decide)
theorem e58_27 : mm_E 58 27 ls st I r Q ↔ mm_E 58 29 ls (.int (-3) :: st) I r Q := me_bi mc_58 dX5_nights_27 (by decide)
theorem e58_29 : mm_E 58 29 ls [.int x] I r Q ↔ Q (some (.int x)) I r := me_ri mc_58 dX5_nights_29 rfl
theorem e58_30 : mm_E 58 30 ls st I r Q ↔ mm_E 58 31 ls (.int 0 :: st) I r Q := me_ic mc_58 dX5_nights_30 (by decide)
theorem e58_31 : mm_E 58 31 [l0, l1, l2] (.int x :: st) I r Q ↔ mm_c1 l1 ∧ mm_E 58 32 [l0, l1, some (.int x)] st I r Q := me_st (k := 2) (v := .int x) mc_58 dX5_nights_31 rfl rfl (Nat.le_of_ble_eq_true rfl) rfl ⟨Or.inr, fun h => h.resolve_left (by decide)⟩
theorem e58_32 : mm_E 58 32 [l0, l1, some (.int x)] st I r Q ↔ mm_E 58 33 [l0, l1, some (.int x)] (.int x :: st) I r Q := me_il mc_58 dX5_nights_32 rfl
theorem e58_33 : mm_E 58 33 [l0, some (.int x), l2] st I r Q ↔ mm_E 58 34 [l0, some (.int x), l2] (.int x :: st) I r Q := me_il mc_58 dX5_nights_33 rfl
theorem e58_34 : mm_E 58 34 ls (.int y :: .int x :: st) I r Q ↔ if y ≤ x then mm_E 58 62 ls st I r Q else mm_E 58 37 ls st I r Q := me_cge mc_58 dX5_nights_34 (by decide)
theorem e58_37 : mm_E 58 37 [some (.ref a), l1, l2] st I r Q ↔ mm_E 58 38 [some (.ref a), l1, l2] (.ref a :: st) I r Q := me_al mc_58 dX5_nights_37 rfl
theorem e58_38 : mm_E 58 38 ls (.ref a :: st) I r Q ↔ mm_S r a = (1, 5) ∧ mm_E 58 41 ls (va_rf (mm_P r a 2) :: st) I r Q := me_gr mc_58 dX5_nights_38 (by decide +kernel) rfl
theorem e58_41 : mm_E 58 41 [some (.ref a), l1, l2] st I r Q ↔ mm_E 58 42 [some (.ref a), l1, l2] (.ref a :: st) I r Q := me_al mc_58 dX5_nights_41 rfl
theorem e58_42 : mm_E 58 42 ls (.ref a :: st) I r Q ↔ mm_S r a = (1, 5) ∧ mm_E 58 45 ls (va_rf (mm_P r a 0) :: st) I r Q := me_gr mc_58 dX5_nights_42 (by decide +kernel) rfl
theorem e58_45 : ∀ (x0 : Nat), (mm_E 58 45 ls (.ref x0 :: .ref a :: st) I r Q ↔ (mm_w8 st = true ∧ mm_S r a = (1, 2)) ∧ mm_E 27 0 [some (.ref a), some (.ref x0)] [] I r (fun v I2 r2 => mm_E 58 48 ls (mm_pu v st) I2 r2 Q)) := fun x0 => me_vc (n := 1) (As := [.ref x0]) (xs := [.ref x0]) (a := a) mc_58 dX5_nights_45 (by decide +kernel) (by decide +kernel) rfl rfl (Nat.le_of_ble_eq_true rfl) rfl
theorem e58_48 : mm_E 58 48 [some (.ref a), l1, l2] st I r Q ↔ mm_E 58 49 [some (.ref a), l1, l2] (.ref a :: st) I r Q := me_al mc_58 dX5_nights_48 rfl
theorem e58_49 : mm_E 58 49 ls (.ref a :: st) I r Q ↔ mm_S r a = (1, 5) ∧ mm_E 58 52 ls (va_rf (mm_P r a 0) :: st) I r Q := me_gr mc_58 dX5_nights_49 (by decide +kernel) rfl
theorem e58_52 : mm_E 58 52 ls st I r Q ↔ mm_E 58 53 ls (.int 0 :: st) I r Q := me_ic mc_58 dX5_nights_52 (by decide)
theorem e58_53 : ∀ (x0 : Int32), (mm_E 58 53 ls (.int x0 :: .ref a :: st) I r Q ↔ (mm_w8 st = true ∧ mm_S r a = (1, 0)) ∧ mm_E 16 0 [some (.ref a), some (.int x0), none, none] [] I r (fun v I2 r2 => mm_E 58 56 ls (mm_pu v st) I2 r2 Q)) := fun x0 => me_vc (n := 1) (As := [.int x0]) (xs := [.int x0]) (a := a) mc_58 dX5_nights_53 (by decide +kernel) (by decide +kernel) rfl rfl (Nat.le_of_ble_eq_true rfl) rfl
theorem e58_56 : mm_E 58 56 [l0, l1, some (.int x)] st I r Q ↔ mm_c1 l1 ∧ mm_E 58 59 [l0, l1, some (.int (x + 1))] st I r Q := me_st (k := 2) (v := .int (x + 1)) mc_58 dX5_nights_56 rfl rfl (Nat.le_of_ble_eq_true rfl) rfl ⟨Or.inr, fun h => h.resolve_left (by decide)⟩
theorem e58_59 : mm_E 58 59 ls st I r Q ↔ mm_E 58 32 ls st I r Q := me_goto mc_58 dX5_nights_59 (by decide)
theorem e58_62 : mm_E 58 62 [some (.ref a), l1, l2] st I r Q ↔ mm_E 58 63 [some (.ref a), l1, l2] (.ref a :: st) I r Q := me_al mc_58 dX5_nights_62 rfl
theorem e58_63 : mm_E 58 63 ls (.ref a :: st) I r Q ↔ mm_S r a = (1, 5) ∧ mm_E 58 66 ls (va_rf (mm_P r a 0) :: st) I r Q := me_gr mc_58 dX5_nights_63 (by decide +kernel) rfl
theorem e58_66 : (mm_E 58 66 ls (.ref a :: st) I r Q ↔ (mm_w8 st = true ∧ mm_S r a = (1, 0)) ∧ mm_E 9 0 [some (.ref a), none, none] [] I r (fun v I2 r2 => mm_E 58 69 ls (mm_pu v st) I2 r2 Q)) := me_vc (n := 0) (As := []) (xs := []) (a := a) mc_58 dX5_nights_66 (by decide +kernel) (by decide +kernel) rfl rfl (Nat.le_of_ble_eq_true rfl) rfl
theorem e58_69 : mm_E 58 69 ls [.int x] I r Q ↔ Q (some (.int x)) I r := me_ri mc_58 dX5_nights_69 rfl
theorem mc_59 : mm_c 59 = cX5_put := rfl
theorem e59_0 : mm_E 59 0 [some (.ref a), l1, l2, l3] st I r Q ↔ mm_E 59 1 [some (.ref a), l1, l2, l3] (.ref a :: st) I r Q := me_al mc_59 dX5_put_0 rfl
theorem e59_1 : mm_E 59 1 ls (.ref a :: st) I r Q ↔ mm_S r a = (1, 5) ∧ mm_E 59 4 ls (va_rf (mm_P r a 0) :: st) I r Q := me_gr mc_59 dX5_put_1 (by decide +kernel) rfl
theorem e59_4 : mm_E 59 4 [l0, some (.int x), l2, l3] st I r Q ↔ mm_E 59 5 [l0, some (.int x), l2, l3] (.int x :: st) I r Q := me_il mc_59 dX5_put_4 rfl
theorem e59_5 : ∀ (x0 : Int32), (mm_E 59 5 ls (.int x0 :: .ref a :: st) I r Q ↔ (mm_w8 st = true ∧ mm_S r a = (1, 0)) ∧ mm_E 3 0 [some (.ref a), some (.int x0)] [] I r (fun v I2 r2 => mm_E 59 8 ls (mm_pu v st) I2 r2 Q)) := fun x0 => me_vc (n := 1) (As := [.int x0]) (xs := [.int x0]) (a := a) mc_59 dX5_put_5 (by decide +kernel) (by decide +kernel) rfl rfl (Nat.le_of_ble_eq_true rfl) rfl
theorem e59_8 : mm_E 59 8 ls (.int x :: st) I r Q ↔ if x = 0 then mm_E 59 21 ls st I r Q else mm_E 59 11 ls st I r Q := me_zeq mc_59 dX5_put_8 (by decide)
theorem e59_11 : mm_E 59 11 [l0, l1, some (.int x), l3] st I r Q ↔ mm_E 59 12 [l0, l1, some (.int x), l3] (.int x :: st) I r Q := me_il mc_59 dX5_put_11 rfl
theorem e59_12 : mm_E 59 12 ls st I r Q ↔ mm_E 59 13 ls (.int 0 :: st) I r Q := me_ic mc_59 dX5_put_12 (by decide)
theorem e59_13 : mm_E 59 13 ls st I r Q ↔ mm_E 59 15 ls (.int 20 :: st) I r Q := me_bi mc_59 dX5_put_13 (by decide)
theorem e59_15 : ∀ (x0 : Int32) (x1 : Int32) (x2 : Int32), (mm_E 59 15 ls (.int x2 :: .int x1 :: .int x0 :: st) I r Q ↔ mm_w8 st = true ∧ mm_E 85 0 [some (.int x0), some (.int x1), some (.int x2)] [] I r (fun v I2 r2 => mm_E 59 18 ls (mm_pu v st) I2 r2 Q)) := fun x0 x1 x2 => me_sc (n := 3) (As := [.int x0, .int x1, .int x2]) (xs := [.int x2, .int x1, .int x0]) mc_59 dX5_put_15 (by decide +kernel) (by decide +kernel) rfl rfl (Nat.le_of_ble_eq_true rfl) rfl
theorem e59_18 : mm_E 59 18 ls (.int x :: st) I r Q ↔ if ¬ x = 0 then mm_E 59 23 ls st I r Q else mm_E 59 21 ls st I r Q := me_zne mc_59 dX5_put_18 (by decide)
theorem e59_21 : mm_E 59 21 ls st I r Q ↔ mm_E 59 22 ls (.int (-1) :: st) I r Q := me_ic mc_59 dX5_put_21 (by decide)
theorem e59_22 : mm_E 59 22 ls [.int x] I r Q ↔ Q (some (.int x)) I r := me_ri mc_59 dX5_put_22 rfl
theorem e59_23 : mm_E 59 23 [some (.ref a), l1, l2, l3] st I r Q ↔ mm_E 59 24 [some (.ref a), l1, l2, l3] (.ref a :: st) I r Q := me_al mc_59 dX5_put_23 rfl
theorem e59_24 : mm_E 59 24 ls (.ref a :: st) I r Q ↔ mm_S r a = (1, 5) ∧ mm_E 59 27 ls (va_rf (mm_P r a 0) :: st) I r Q := me_gr mc_59 dX5_put_24 (by decide +kernel) rfl
theorem e59_27 : mm_E 59 27 ls (.ref a :: st) I r Q ↔ mm_S r a = (1, 0) ∧ mm_E 59 30 ls (va_rf (mm_P r a 7) :: st) I r Q := me_gr mc_59 dX5_put_27 (by decide +kernel) rfl
theorem e59_30 : mm_E 59 30 [l0, some (.int x), l2, l3] st I r Q ↔ mm_E 59 31 [l0, some (.int x), l2, l3] (.int x :: st) I r Q := me_il mc_59 dX5_put_30 rfl
theorem e59_31 : mm_E 59 31 ls (.int x :: .ref a :: st) I r Q ↔ mm_ix r a 2 x ∧ mm_E 59 32 ls (.int (mm_rd I a x.toNatClampNeg) :: st) I r Q := me_ia mc_59 dX5_put_31
theorem e59_32 : mm_E 59 32 [l0, l1, l2, l3] (.int x :: st) I r Q ↔ mm_c1 l2 ∧ mm_E 59 33 [l0, l1, l2, some (.int x)] st I r Q := me_st (k := 3) (v := .int x) mc_59 dX5_put_32 rfl rfl (Nat.le_of_ble_eq_true rfl) rfl ⟨Or.inr, fun h => h.resolve_left (by decide)⟩
theorem e59_33 : mm_E 59 33 [l0, l1, l2, some (.int x)] st I r Q ↔ mm_E 59 34 [l0, l1, l2, some (.int x)] (.int x :: st) I r Q := me_il mc_59 dX5_put_33 rfl
theorem e59_34 : mm_E 59 34 [l0, l1, some (.int x), l3] st I r Q ↔ mm_E 59 35 [l0, l1, some (.int x), l3] (.int x :: st) I r Q := me_il mc_59 dX5_put_34 rfl
theorem e59_35 : mm_E 59 35 ls (.int y :: .int x :: st) I r Q ↔ if ¬ x = y then mm_E 59 41 ls st I r Q else mm_E 59 38 ls st I r Q := me_cne mc_59 dX5_put_35 (by decide)
theorem e59_38 : mm_E 59 38 ls st I r Q ↔ mm_E 59 40 ls (.int (-2) :: st) I r Q := me_bi mc_59 dX5_put_38 (by decide)
theorem e59_40 : mm_E 59 40 ls [.int x] I r Q ↔ Q (some (.int x)) I r := me_ri mc_59 dX5_put_40 rfl
theorem e59_41 : mm_E 59 41 [some (.ref a), l1, l2, l3] st I r Q ↔ mm_E 59 42 [some (.ref a), l1, l2, l3] (.ref a :: st) I r Q := me_al mc_59 dX5_put_41 rfl
theorem e59_42 : mm_E 59 42 ls (.ref a :: st) I r Q ↔ mm_S r a = (1, 5) ∧ mm_E 59 45 ls (va_rf (mm_P r a 2) :: st) I r Q := me_gr mc_59 dX5_put_42 (by decide +kernel) rfl
theorem e59_45 : mm_E 59 45 [some (.ref a), l1, l2, l3] st I r Q ↔ mm_E 59 46 [some (.ref a), l1, l2, l3] (.ref a :: st) I r Q := me_al mc_59 dX5_put_45 rfl
theorem e59_46 : mm_E 59 46 ls (.ref a :: st) I r Q ↔ mm_S r a = (1, 5) ∧ mm_E 59 49 ls (va_rf (mm_P r a 0) :: st) I r Q := me_gr mc_59 dX5_put_46 (by decide +kernel) rfl
theorem e59_49 : ∀ (x0 : Nat), (mm_E 59 49 ls (.ref x0 :: .ref a :: st) I r Q ↔ (mm_w8 st = true ∧ mm_S r a = (1, 2)) ∧ mm_E 27 0 [some (.ref a), some (.ref x0)] [] I r (fun v I2 r2 => mm_E 59 52 ls (mm_pu v st) I2 r2 Q)) := fun x0 => me_vc (n := 1) (As := [.ref x0]) (xs := [.ref x0]) (a := a) mc_59 dX5_put_49 (by decide +kernel) (by decide +kernel) rfl rfl (Nat.le_of_ble_eq_true rfl) rfl
theorem e59_52 : mm_E 59 52 [some (.ref a), l1, l2, l3] st I r Q ↔ mm_E 59 53 [some (.ref a), l1, l2, l3] (.ref a :: st) I r Q := me_al mc_59 dX5_put_52 rfl
theorem e59_53 : mm_E 59 53 ls (.ref a :: st) I r Q ↔ mm_S r a = (1, 5) ∧ mm_E 59 56 ls (va_rf (mm_P r a 0) :: st) I r Q := me_gr mc_59 dX5_put_53 (by decide +kernel) rfl
theorem e59_56 : mm_E 59 56 ls (.ref a :: st) I r Q ↔ mm_S r a = (1, 0) ∧ mm_E 59 59 ls (va_rf (mm_P r a 7) :: st) I r Q := me_gr mc_59 dX5_put_56 (by decide +kernel) rfl
theorem e59_59 : mm_E 59 59 [l0, some (.int x), l2, l3] st I r Q ↔ mm_E 59 60 [l0, some (.int x), l2, l3] (.int x :: st) I r Q := me_il mc_59 dX5_put_59 rfl
theorem e59_60 : mm_E 59 60 [l0, l1, some (.int x), l3] st I r Q ↔ mm_E 59 61 [l0, l1, some (.int x), l3] (.int x :: st) I r Q := me_il mc_59 dX5_put_60 rfl
theorem e59_61 : mm_E 59 61 ls (.int y :: .int x :: .ref a :: st) I r Q ↔ mm_ix r a 2 x ∧ mm_E 59 62 ls st (mm_uI I a x.toNatClampNeg y) r Q := me_is mc_59 dX5_put_61
theorem e59_62 : mm_E 59 62 [l0, l1, l2, some (.int x)] st I r Q ↔ mm_E 59 63 [l0, l1, l2, some (.int x)] (.int x :: st) I r Q := me_il mc_59 dX5_put_62 rfl
theorem e59_63 : mm_E 59 63 ls [.int x] I r Q ↔ Q (some (.int x)) I r := me_ri mc_59 dX5_put_63 rfl
theorem mc_60 : mm_c 60 = cX5_pay := rfl
theorem e60_0 : mm_E 60 0 [some (.ref a), l1, l2] st I r Q ↔ mm_E 60 1 [some (.ref a), l1, l2] (.ref a :: st) I r Q := me_al mc_60 dX5_pay_0 rfl
theorem e60_1 : mm_E 60 1 ls (.ref a :: st) I r Q ↔ mm_S r a = (1, 5) ∧ mm_E 60 4 ls (va_rf (mm_P r a 0) :: st) I r Q := me_gr mc_60 dX5_pay_1 (by decide +kernel) rfl
theorem e60_4 : mm_E 60 4 [l0, some (.int x), l2] st I r Q ↔ mm_E 60 5 [l0, some (.int x), l2] (.int x :: st) I r Q := me_il mc_60 dX5_pay_4 rfl
theorem e60_5 : ∀ (x0 : Int32), (mm_E 60 5 ls (.int x0 :: .ref a :: st) I r Q ↔ (mm_w8 st = true ∧ mm_S r a = (1, 0)) ∧ mm_E 3 0 [some (.ref a), some (.int x0)] [] I r (fun v I2 r2 => mm_E 60 8 ls (mm_pu v st) I2 r2 Q)) := fun x0 => me_vc (n := 1) (As := [.int x0]) (xs := [.int x0]) (a := a) mc_60 dX5_pay_5 (by decide +kernel) (by decide +kernel) rfl rfl (Nat.le_of_ble_eq_true rfl) rfl
theorem e60_8 : mm_E 60 8 ls (.int x :: st) I r Q ↔ if x = 0 then mm_E 60 22 ls st I r Q else mm_E 60 11 ls st I r Q := me_zeq mc_60 dX5_pay_8 (by decide)
theorem e60_11 : mm_E 60 11 [l0, l1, some (.int x)] st I r Q ↔ mm_E 60 12 [l0, l1, some (.int x)] (.int x :: st) I r Q := me_il mc_60 dX5_pay_11 rfl
theorem e60_12 : mm_E 60 12 ls st I r Q ↔ mm_E 60 13 ls (.int 1 :: st) I r Q := me_ic mc_60 dX5_pay_12 (by decide)
theorem e60_13 : mm_E 60 13 ls st I r Q ↔ mm_E 60 16 ls (.int 9999 :: st) I r Q := me_si mc_60 dX5_pay_13 (by decide)
theorem e60_16 : ∀ (x0 : Int32) (x1 : Int32) (x2 : Int32), (mm_E 60 16 ls (.int x2 :: .int x1 :: .int x0 :: st) I r Q ↔ mm_w8 st = true ∧ mm_E 85 0 [some (.int x0), some (.int x1), some (.int x2)] [] I r (fun v I2 r2 => mm_E 60 19 ls (mm_pu v st) I2 r2 Q)) := fun x0 x1 x2 => me_sc (n := 3) (As := [.int x0, .int x1, .int x2]) (xs := [.int x2, .int x1, .int x0]) mc_60 dX5_pay_16 (by decide +kernel) (by decide +kernel) rfl rfl (Nat.le_of_ble_eq_true rfl) rfl
theorem e60_19 : mm_E 60 19 ls (.int x :: st) I r Q ↔ if ¬ x = 0 then mm_E 60 24 ls st I r Q else mm_E 60 22 ls st I r Q := me_zne mc_60 dX5_pay_19 (by decide)
theorem e60_22 : mm_E 60 22 ls st I r Q ↔ mm_E 60 23 ls (.int (-1) :: st) I r Q := me_ic mc_60 dX5_pay_22 (by decide)
theorem e60_23 : mm_E 60 23 ls [.int x] I r Q ↔ Q (some (.int x)) I r := me_ri mc_60 dX5_pay_23 rfl
theorem e60_24 : mm_E 60 24 [some (.ref a), l1, l2] st I r Q ↔ mm_E 60 25 [some (.ref a), l1, l2] (.ref a :: st) I r Q := me_al mc_60 dX5_pay_24 rfl
theorem e60_25 : mm_E 60 25 ls (.ref a :: st) I r Q ↔ mm_S r a = (1, 5) ∧ mm_E 60 28 ls (va_rf (mm_P r a 0) :: st) I r Q := me_gr mc_60 dX5_pay_25 (by decide +kernel) rfl
theorem e60_28 : mm_E 60 28 ls (.ref a :: st) I r Q ↔ mm_S r a = (1, 0) ∧ mm_E 60 31 ls (va_rf (mm_P r a 6) :: st) I r Q := me_gr mc_60 dX5_pay_28 (by decide +kernel) rfl
theorem e60_31 : mm_E 60 31 [l0, some (.int x), l2] st I r Q ↔ mm_E 60 32 [l0, some (.int x), l2] (.int x :: st) I r Q := me_il mc_60 dX5_pay_31 rfl
theorem e60_32 : mm_E 60 32 ls (.int x :: .ref a :: st) I r Q ↔ mm_ix r a 2 x ∧ mm_E 60 33 ls (.int (mm_rd I a x.toNatClampNeg) :: st) I r Q := me_ia mc_60 dX5_pay_32
theorem e60_33 : mm_E 60 33 ls (.int x :: st) I r Q ↔ if ¬ x = 0 then mm_E 60 39 ls st I r Q else mm_E 60 36 ls st I r Q := me_zne mc_60 dX5_pay_33 (by decide)
theorem e60_36 : mm_E 60 36 ls st I r Q ↔ mm_E 60 38 ls (.int (-2) :: st) I r Q := me_bi mc_60 dX5_pay_36 (by decide)
theorem e60_38 : mm_E 60 38 ls [.int x] I r Q ↔ Q (some (.int x)) I r := me_ri mc_60 dX5_pay_38 rfl
theorem e60_39 : mm_E 60 39 [some (.ref a), l1, l2] st I r Q ↔ mm_E 60 40 [some (.ref a), l1, l2] (.ref a :: st) I r Q := me_al mc_60 dX5_pay_39 rfl
theorem e60_40 : mm_E 60 40 ls (.ref a :: st) I r Q ↔ mm_S r a = (1, 5) ∧ mm_E 60 43 ls (va_rf (mm_P r a 2) :: st) I r Q := me_gr mc_60 dX5_pay_40 (by decide +kernel) rfl
theorem e60_43 : mm_E 60 43 [some (.ref a), l1, l2] st I r Q ↔ mm_E 60 44 [some (.ref a), l1, l2] (.ref a :: st) I r Q := me_al mc_60 dX5_pay_43 rfl
theorem e60_44 : mm_E 60 44 ls (.ref a :: st) I r Q ↔ mm_S r a = (1, 5) ∧ mm_E 60 47 ls (va_rf (mm_P r a 0) :: st) I r Q := me_gr mc_60 dX5_pay_44 (by decide +kernel) rfl
theorem e60_47 : ∀ (x0 : Nat), (mm_E 60 47 ls (.ref x0 :: .ref a :: st) I r Q ↔ (mm_w8 st = true ∧ mm_S r a = (1, 2)) ∧ mm_E 27 0 [some (.ref a), some (.ref x0)] [] I r (fun v I2 r2 => mm_E 60 50 ls (mm_pu v st) I2 r2 Q)) := fun x0 => me_vc (n := 1) (As := [.ref x0]) (xs := [.ref x0]) (a := a) mc_60 dX5_pay_47 (by decide +kernel) (by decide +kernel) rfl rfl (Nat.le_of_ble_eq_true rfl) rfl
theorem e60_50 : mm_E 60 50 [some (.ref a), l1, l2] st I r Q ↔ mm_E 60 51 [some (.ref a), l1, l2] (.ref a :: st) I r Q := me_al mc_60 dX5_pay_50 rfl
theorem e60_51 : mm_E 60 51 ls (.ref a :: st) I r Q ↔ mm_S r a = (1, 5) ∧ mm_E 60 54 ls (va_rf (mm_P r a 0) :: st) I r Q := me_gr mc_60 dX5_pay_51 (by decide +kernel) rfl
theorem e60_54 : mm_E 60 54 [l0, some (.int x), l2] st I r Q ↔ mm_E 60 55 [l0, some (.int x), l2] (.int x :: st) I r Q := me_il mc_60 dX5_pay_54 rfl
theorem e60_55 : mm_E 60 55 [l0, l1, some (.int x)] st I r Q ↔ mm_E 60 56 [l0, l1, some (.int x)] (.int x :: st) I r Q := me_il mc_60 dX5_pay_55 rfl
theorem e60_56 : ∀ (x0 : Int32) (x1 : Int32), (mm_E 60 56 ls (.int x1 :: .int x0 :: .ref a :: st) I r Q ↔ (mm_w8 st = true ∧ mm_S r a = (1, 0)) ∧ mm_E 13 0 [some (.ref a), some (.int x0), some (.int x1)] [] I r (fun v I2 r2 => mm_E 60 59 ls (mm_pu v st) I2 r2 Q)) := fun x0 x1 => me_vc (n := 2) (As := [.int x0, .int x1]) (xs := [.int x1, .int x0]) (a := a) mc_60 dX5_pay_56 (by decide +kernel) (by decide +kernel) rfl rfl (Nat.le_of_ble_eq_true rfl) rfl
theorem e60_59 : mm_E 60 59 [some (.ref a), l1, l2] st I r Q ↔ mm_E 60 60 [some (.ref a), l1, l2] (.ref a :: st) I r Q := me_al mc_60 dX5_pay_59 rfl
theorem e60_60 : mm_E 60 60 ls (.ref a :: st) I r Q ↔ mm_S r a = (1, 5) ∧ mm_E 60 63 ls (va_rf (mm_P r a 0) :: st) I r Q := me_gr mc_60 dX5_pay_60 (by decide +kernel) rfl
theorem e60_63 : mm_E 60 63 ls (.ref a :: st) I r Q ↔ mm_S r a = (1, 0) ∧ mm_E 60 66 ls (va_rf (mm_P r a 6) :: st) I r Q := me_gr mc_60 dX5_pay_63 (by decide +kernel) rfl
theorem e60_66 : mm_E 60 66 [l0, some (.int x), l2] st I r Q ↔ mm_E 60 67 [l0, some (.int x), l2] (.int x :: st) I r Q := me_il mc_60 dX5_pay_66 rfl
theorem e60_67 : mm_E 60 67 ls (.int x :: .ref a :: st) I r Q ↔ mm_ix r a 2 x ∧ mm_E 60 68 ls (.int (mm_rd I a x.toNatClampNeg) :: st) I r Q := me_ia mc_60 dX5_pay_67
theorem e60_68 : mm_E 60 68 ls [.int x] I r Q ↔ Q (some (.int x)) I r := me_ri mc_60 dX5_pay_68 rfl
theorem mc_61 : mm_c 61 = cX5_drive := rfl
theorem e61_0 : mm_E 61 0 [some (.ref a), l1, l2, l3] st I r Q ↔ mm_E 61 1 [some (.ref a), l1, l2, l3] (.ref a :: st) I r Q := me_al mc_61 dX5_drive_0 rfl
theorem e61_1 : mm_E 61 1 ls (.ref a :: st) I r Q ↔ mm_S r a = (1, 5) ∧ mm_E 61 4 ls (va_rf (mm_P r a 0) :: st) I r Q := me_gr mc_61 dX5_drive_1 (by decide +kernel) rfl
theorem e61_4 : mm_E 61 4 [l0, some (.int x), l2, l3] st I r Q ↔ mm_E 61 5 [l0, some (.int x), l2, l3] (.int x :: st) I r Q := me_il mc_61 dX5_drive_4 rfl
theorem e61_5 : ∀ (x0 : Int32), (mm_E 61 5 ls (.int x0 :: .ref a :: st) I r Q ↔ (mm_w8 st = true ∧ mm_S r a = (1, 0)) ∧ mm_E 4 0 [some (.ref a), some (.int x0)] [] I r (fun v I2 r2 => mm_E 61 8 ls (mm_pu v st) I2 r2 Q)) := fun x0 => me_vc (n := 1) (As := [.int x0]) (xs := [.int x0]) (a := a) mc_61 dX5_drive_5 (by decide +kernel) (by decide +kernel) rfl rfl (Nat.le_of_ble_eq_true rfl) rfl
theorem e61_8 : mm_E 61 8 ls (.int x :: st) I r Q ↔ if x = 0 then mm_E 61 22 ls st I r Q else mm_E 61 11 ls st I r Q := me_zeq mc_61 dX5_drive_8 (by decide)
theorem e61_11 : mm_E 61 11 [some (.ref a), l1, l2, l3] st I r Q ↔ mm_E 61 12 [some (.ref a), l1, l2, l3] (.ref a :: st) I r Q := me_al mc_61 dX5_drive_11 rfl
theorem e61_12 : mm_E 61 12 ls (.ref a :: st) I r Q ↔ mm_S r a = (1, 5) ∧ mm_E 61 15 ls (va_rf (mm_P r a 0) :: st) I r Q := me_gr mc_61 dX5_drive_12 (by decide +kernel) rfl
theorem e61_15 : mm_E 61 15 [l0, l1, some (.int x), l3] st I r Q ↔ mm_E 61 16 [l0, l1, some (.int x), l3] (.int x :: st) I r Q := me_il mc_61 dX5_drive_15 rfl
theorem e61_16 : ∀ (x0 : Int32), (mm_E 61 16 ls (.int x0 :: .ref a :: st) I r Q ↔ (mm_w8 st = true ∧ mm_S r a = (1, 0)) ∧ mm_E 3 0 [some (.ref a), some (.int x0)] [] I r (fun v I2 r2 => mm_E 61 19 ls (mm_pu v st) I2 r2 Q)) := fun x0 => me_vc (n := 1) (As := [.int x0]) (xs := [.int x0]) (a := a) mc_61 dX5_drive_16 (by decide +kernel) (by decide +kernel) rfl rfl (Nat.le_of_ble_eq_true rfl) rfl
theorem e61_19 : mm_E 61 19 ls (.int x :: st) I r Q ↔ if ¬ x = 0 then mm_E 61 24 ls st I r Q else mm_E 61 22 ls st I r Q := me_zne mc_61 dX5_drive_19 (by decide)
theorem e61_22 : mm_E 61 22 ls st I r Q ↔ mm_E 61 23 ls (.int (-1) :: st) I r Q := me_ic mc_61 dX5_drive_22 (by decide)
theorem e61_23 : mm_E 61 23 ls [.int x] I r Q ↔ Q (some (.int x)) I r := me_ri mc_61 dX5_drive_23 rfl
theorem e61_24 : mm_E 61 24 [some (.ref a), l1, l2, l3] st I r Q ↔ mm_E 61 25 [some (.ref a), l1, l2, l3] (.ref a :: st) I r Q := me_al mc_61 dX5_drive_24 rfl
theorem e61_25 : mm_E 61 25 ls (.ref a :: st) I r Q ↔ mm_S r a = (1, 5) ∧ mm_E 61 28 ls (va_rf (mm_P r a 0) :: st) I r Q := me_gr mc_61 dX5_drive_25 (by decide +kernel) rfl
theorem e61_28 : mm_E 61 28 ls (.ref a :: st) I r Q ↔ mm_S r a = (1, 0) ∧ mm_E 61 31 ls (va_rf (mm_P r a 11) :: st) I r Q := me_gr mc_61 dX5_drive_28 (by decide +kernel) rfl
theorem e61_31 : mm_E 61 31 [l0, some (.int x), l2, l3] st I r Q ↔ mm_E 61 32 [l0, some (.int x), l2, l3] (.int x :: st) I r Q := me_il mc_61 dX5_drive_31 rfl
theorem e61_32 : mm_E 61 32 ls (.int x :: .ref a :: st) I r Q ↔ mm_ix r a 2 x ∧ mm_E 61 33 ls (.int (mm_rd I a x.toNatClampNeg) :: st) I r Q := me_ia mc_61 dX5_drive_32
theorem e61_33 : mm_E 61 33 [l0, l1, l2, l3] (.int x :: st) I r Q ↔ mm_c1 l2 ∧ mm_E 61 34 [l0, l1, l2, some (.int x)] st I r Q := me_st (k := 3) (v := .int x) mc_61 dX5_drive_33 rfl rfl (Nat.le_of_ble_eq_true rfl) rfl ⟨Or.inr, fun h => h.resolve_left (by decide)⟩
theorem e61_34 : mm_E 61 34 [l0, l1, l2, some (.int x)] st I r Q ↔ mm_E 61 35 [l0, l1, l2, some (.int x)] (.int x :: st) I r Q := me_il mc_61 dX5_drive_34 rfl
theorem e61_35 : mm_E 61 35 [l0, l1, some (.int x), l3] st I r Q ↔ mm_E 61 36 [l0, l1, some (.int x), l3] (.int x :: st) I r Q := me_il mc_61 dX5_drive_35 rfl
theorem e61_36 : mm_E 61 36 ls (.int y :: .int x :: st) I r Q ↔ if ¬ x = y then mm_E 61 42 ls st I r Q else mm_E 61 39 ls st I r Q := me_cne mc_61 dX5_drive_36 (by decide)
theorem e61_39 : mm_E 61 39 ls st I r Q ↔ mm_E 61 41 ls (.int (-2) :: st) I r Q := me_bi mc_61 dX5_drive_39 (by decide)
theorem e61_41 : mm_E 61 41 ls [.int x] I r Q ↔ Q (some (.int x)) I r := me_ri mc_61 dX5_drive_41 rfl
theorem e61_42 : mm_E 61 42 [some (.ref a), l1, l2, l3] st I r Q ↔ mm_E 61 43 [some (.ref a), l1, l2, l3] (.ref a :: st) I r Q := me_al mc_61 dX5_drive_42 rfl
theorem e61_43 : mm_E 61 43 ls (.ref a :: st) I r Q ↔ mm_S r a = (1, 5) ∧ mm_E 61 46 ls (va_rf (mm_P r a 2) :: st) I r Q := me_gr mc_61 dX5_drive_43 (by decide +kernel) rfl
theorem e61_46 : mm_E 61 46 [some (.ref a), l1, l2, l3] st I r Q ↔ mm_E 61 47 [some (.ref a), l1, l2, l3] (.ref a :: st) I r Q := me_al mc_61 dX5_drive_46 rfl
theorem e61_47 : mm_E 61 47 ls (.ref a :: st) I r Q ↔ mm_S r a = (1, 5) ∧ mm_E 61 50 ls (va_rf (mm_P r a 0) :: st) I r Q := me_gr mc_61 dX5_drive_47 (by decide +kernel) rfl
theorem e61_50 : ∀ (x0 : Nat), (mm_E 61 50 ls (.ref x0 :: .ref a :: st) I r Q ↔ (mm_w8 st = true ∧ mm_S r a = (1, 2)) ∧ mm_E 27 0 [some (.ref a), some (.ref x0)] [] I r (fun v I2 r2 => mm_E 61 53 ls (mm_pu v st) I2 r2 Q)) := fun x0 => me_vc (n := 1) (As := [.ref x0]) (xs := [.ref x0]) (a := a) mc_61 dX5_drive_50 (by decide +kernel) (by decide +kernel) rfl rfl (Nat.le_of_ble_eq_true rfl) rfl
theorem e61_53 : mm_E 61 53 [some (.ref a), l1, l2, l3] st I r Q ↔ mm_E 61 54 [some (.ref a), l1, l2, l3] (.ref a :: st) I r Q := me_al mc_61 dX5_drive_53 rfl
theorem e61_54 : mm_E 61 54 ls (.ref a :: st) I r Q ↔ mm_S r a = (1, 5) ∧ mm_E 61 57 ls (va_rf (mm_P r a 0) :: st) I r Q := me_gr mc_61 dX5_drive_54 (by decide +kernel) rfl
theorem e61_57 : mm_E 61 57 ls (.ref a :: st) I r Q ↔ mm_S r a = (1, 0) ∧ mm_E 61 60 ls (va_rf (mm_P r a 11) :: st) I r Q := me_gr mc_61 dX5_drive_57 (by decide +kernel) rfl
theorem e61_60 : mm_E 61 60 [l0, some (.int x), l2, l3] st I r Q ↔ mm_E 61 61 [l0, some (.int x), l2, l3] (.int x :: st) I r Q := me_il mc_61 dX5_drive_60 rfl
theorem e61_61 : mm_E 61 61 [l0, l1, some (.int x), l3] st I r Q ↔ mm_E 61 62 [l0, l1, some (.int x), l3] (.int x :: st) I r Q := me_il mc_61 dX5_drive_61 rfl
theorem e61_62 : mm_E 61 62 ls (.int y :: .int x :: .ref a :: st) I r Q ↔ mm_ix r a 2 x ∧ mm_E 61 63 ls st (mm_uI I a x.toNatClampNeg y) r Q := me_is mc_61 dX5_drive_62
theorem e61_63 : mm_E 61 63 [l0, l1, l2, some (.int x)] st I r Q ↔ mm_E 61 64 [l0, l1, l2, some (.int x)] (.int x :: st) I r Q := me_il mc_61 dX5_drive_63 rfl
theorem e61_64 : mm_E 61 64 ls [.int x] I r Q ↔ Q (some (.int x)) I r := me_ri mc_61 dX5_drive_64 rfl
theorem mc_62 : mm_c 62 = cX5_forgive := rfl
theorem e62_0 : mm_E 62 0 [some (.ref a), l1, l2] st I r Q ↔ mm_E 62 1 [some (.ref a), l1, l2] (.ref a :: st) I r Q := me_al mc_62 dX5_forgive_0 rfl
theorem e62_1 : mm_E 62 1 ls (.ref a :: st) I r Q ↔ mm_S r a = (1, 5) ∧ mm_E 62 4 ls (va_rf (mm_P r a 0) :: st) I r Q := me_gr mc_62 dX5_forgive_1 (by decide +kernel) rfl
theorem e62_4 : mm_E 62 4 [l0, some (.int x), l2] st I r Q ↔ mm_E 62 5 [l0, some (.int x), l2] (.int x :: st) I r Q := me_il mc_62 dX5_forgive_4 rfl
theorem e62_5 : ∀ (x0 : Int32), (mm_E 62 5 ls (.int x0 :: .ref a :: st) I r Q ↔ (mm_w8 st = true ∧ mm_S r a = (1, 0)) ∧ mm_E 3 0 [some (.ref a), some (.int x0)] [] I r (fun v I2 r2 => mm_E 62 8 ls (mm_pu v st) I2 r2 Q)) := fun x0 => me_vc (n := 1) (As := [.int x0]) (xs := [.int x0]) (a := a) mc_62 dX5_forgive_5 (by decide +kernel) (by decide +kernel) rfl rfl (Nat.le_of_ble_eq_true rfl) rfl
theorem e62_8 : mm_E 62 8 ls (.int x :: st) I r Q ↔ if ¬ x = 0 then mm_E 62 13 ls st I r Q else mm_E 62 11 ls st I r Q := me_zne mc_62 dX5_forgive_8 (by decide)
theorem e62_11 : mm_E 62 11 ls st I r Q ↔ mm_E 62 12 ls (.int (-1) :: st) I r Q := me_ic mc_62 dX5_forgive_11 (by decide)
theorem e62_12 : mm_E 62 12 ls [.int x] I r Q ↔ Q (some (.int x)) I r := me_ri mc_62 dX5_forgive_12 rfl
theorem e62_13 : mm_E 62 13 [some (.ref a), l1, l2] st I r Q ↔ mm_E 62 14 [some (.ref a), l1, l2] (.ref a :: st) I r Q := me_al mc_62 dX5_forgive_13 rfl
theorem e62_14 : mm_E 62 14 ls (.ref a :: st) I r Q ↔ mm_S r a = (1, 5) ∧ mm_E 62 17 ls (va_rf (mm_P r a 0) :: st) I r Q := me_gr mc_62 dX5_forgive_14 (by decide +kernel) rfl
theorem e62_17 : mm_E 62 17 ls (.ref a :: st) I r Q ↔ mm_S r a = (1, 0) ∧ mm_E 62 20 ls (va_rf (mm_P r a 8) :: st) I r Q := me_gr mc_62 dX5_forgive_17 (by decide +kernel) rfl
theorem e62_20 : mm_E 62 20 [l0, some (.int x), l2] st I r Q ↔ mm_E 62 21 [l0, some (.int x), l2] (.int x :: st) I r Q := me_il mc_62 dX5_forgive_20 rfl
theorem e62_21 : mm_E 62 21 ls (.int x :: .ref a :: st) I r Q ↔ mm_ix r a 2 x ∧ mm_E 62 22 ls (.int (mm_rd I a x.toNatClampNeg) :: st) I r Q := me_ia mc_62 dX5_forgive_21
theorem e62_22 : mm_E 62 22 [l0, l1, l2] (.int x :: st) I r Q ↔ mm_c1 l1 ∧ mm_E 62 23 [l0, l1, some (.int x)] st I r Q := me_st (k := 2) (v := .int x) mc_62 dX5_forgive_22 rfl rfl (Nat.le_of_ble_eq_true rfl) rfl ⟨Or.inr, fun h => h.resolve_left (by decide)⟩
theorem e62_23 : mm_E 62 23 [l0, l1, some (.int x)] st I r Q ↔ mm_E 62 24 [l0, l1, some (.int x)] (.int x :: st) I r Q := me_il mc_62 dX5_forgive_23 rfl
theorem e62_24 : mm_E 62 24 ls (.int x :: st) I r Q ↔ if ¬ x = 0 then mm_E 62 30 ls st I r Q else mm_E 62 27 ls st I r Q := me_zne mc_62 dX5_forgive_24 (by decide)
theorem e62_27 : mm_E 62 27 ls st I r Q ↔ mm_E 62 29 ls (.int (-2) :: st) I r Q := me_bi mc_62 dX5_forgive_27 (by decide)
theorem e62_29 : mm_E 62 29 ls [.int x] I r Q ↔ Q (some (.int x)) I r := me_ri mc_62 dX5_forgive_29 rfl
theorem e62_30 : mm_E 62 30 [some (.ref a), l1, l2] st I r Q ↔ mm_E 62 31 [some (.ref a), l1, l2] (.ref a :: st) I r Q := me_al mc_62 dX5_forgive_30 rfl
theorem e62_31 : mm_E 62 31 ls (.ref a :: st) I r Q ↔ mm_S r a = (1, 5) ∧ mm_E 62 34 ls (va_rf (mm_P r a 2) :: st) I r Q := me_gr mc_62 dX5_forgive_31 (by decide +kernel) rfl
theorem e62_34 : mm_E 62 34 [some (.ref a), l1, l2] st I r Q ↔ mm_E 62 35 [some (.ref a), l1, l2] (.ref a :: st) I r Q := me_al mc_62 dX5_forgive_34 rfl
theorem e62_35 : mm_E 62 35 ls (.ref a :: st) I r Q ↔ mm_S r a = (1, 5) ∧ mm_E 62 38 ls (va_rf (mm_P r a 0) :: st) I r Q := me_gr mc_62 dX5_forgive_35 (by decide +kernel) rfl
theorem e62_38 : ∀ (x0 : Nat), (mm_E 62 38 ls (.ref x0 :: .ref a :: st) I r Q ↔ (mm_w8 st = true ∧ mm_S r a = (1, 2)) ∧ mm_E 27 0 [some (.ref a), some (.ref x0)] [] I r (fun v I2 r2 => mm_E 62 41 ls (mm_pu v st) I2 r2 Q)) := fun x0 => me_vc (n := 1) (As := [.ref x0]) (xs := [.ref x0]) (a := a) mc_62 dX5_forgive_38 (by decide +kernel) (by decide +kernel) rfl rfl (Nat.le_of_ble_eq_true rfl) rfl
theorem e62_41 : mm_E 62 41 [some (.ref a), l1, l2] st I r Q ↔ mm_E 62 42 [some (.ref a), l1, l2] (.ref a :: st) I r Q := me_al mc_62 dX5_forgive_41 rfl
theorem e62_42 : mm_E 62 42 ls (.ref a :: st) I r Q ↔ mm_S r a = (1, 5) ∧ mm_E 62 45 ls (va_rf (mm_P r a 0) :: st) I r Q := me_gr mc_62 dX5_forgive_42 (by decide +kernel) rfl
theorem e62_45 : mm_E 62 45 ls (.ref a :: st) I r Q ↔ mm_S r a = (1, 0) ∧ mm_E 62 48 ls (va_rf (mm_P r a 8) :: st) I r Q := me_gr mc_62 dX5_forgive_45 (by decide +kernel) rfl
theorem e62_48 : mm_E 62 48 [l0, some (.int x), l2] st I r Q ↔ mm_E 62 49 [l0, some (.int x), l2] (.int x :: st) I r Q := me_il mc_62 dX5_forgive_48 rfl
theorem e62_49 : mm_E 62 49 ls st I r Q ↔ mm_E 62 50 ls (.int 0 :: st) I r Q := me_ic mc_62 dX5_forgive_49 (by decide)
theorem e62_50 : mm_E 62 50 ls (.int y :: .int x :: .ref a :: st) I r Q ↔ mm_ix r a 2 x ∧ mm_E 62 51 ls st (mm_uI I a x.toNatClampNeg y) r Q := me_is mc_62 dX5_forgive_50
theorem e62_51 : mm_E 62 51 [l0, l1, some (.int x)] st I r Q ↔ mm_E 62 52 [l0, l1, some (.int x)] (.int x :: st) I r Q := me_il mc_62 dX5_forgive_51 rfl
theorem e62_52 : mm_E 62 52 ls [.int x] I r Q ↔ Q (some (.int x)) I r := me_ri mc_62 dX5_forgive_52 rfl
end
