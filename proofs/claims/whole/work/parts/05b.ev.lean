section
variable (ls : mm_L) (st : List Value) (I : mm_I) (r : mm_R) (Q : Option Value → mm_I → mm_R → Prop) (l0 l1 l2 l3 l4 l5 l6 l7 l8 l9 l10 l11 l12 l13 l14 : Option Value) (x y : Int32) (z w : Int64) (a b : Nat) (v u : Value)
theorem mc_0 : mm_c 0 = cX0_init := rfl
theorem e0_0 : mm_E 0 0 [some (.ref a)] st I r Q ↔ mm_E 0 1 [some (.ref a)] (.ref a :: st) I r Q := me_al mc_0 dX0_init_0 rfl
theorem e0_1 : mm_E 0 1 ls (.ref a :: st) I r Q ↔ mm_w8 st = true ∧ mm_E 0 4 ls st I r Q := me_oi mc_0 dX0_init_1 (by decide +kernel)
theorem e0_4 : mm_E 0 4 [some (.ref a)] st I r Q ↔ mm_E 0 5 [some (.ref a)] (.ref a :: st) I r Q := me_al mc_0 dX0_init_4 rfl
theorem e0_5 : mm_E 0 5 ls st I r Q ↔ mm_E 0 7 ls (.int 6 :: st) I r Q := me_bi mc_0 dX0_init_5 (by decide)
theorem e0_7 : mm_E 0 7 ls (.int x :: st) I r Q ↔ (¬ x < 0 ∧ x.toNatClampNeg ≤ 1000) ∧ mm_E 0 9 ls (.ref (mm_t r) :: st) (mm_nI I r) (mm_nR r (2, x.toNatClampNeg) x.toNatClampNeg) Q := me_nai mc_0 dX0_init_7
theorem e0_9 : mm_E 0 9 ls (.ref b :: .ref a :: st) I r Q ↔ mm_S r a = (1, 0) ∧ mm_E 0 12 ls st I (mm_uP r a 6 (some b)) Q := me_pr mc_0 dX0_init_9 (by decide +kernel) (by decide +kernel)
theorem e0_12 : mm_E 0 12 [some (.ref a)] st I r Q ↔ mm_E 0 13 [some (.ref a)] (.ref a :: st) I r Q := me_al mc_0 dX0_init_12 rfl
theorem e0_13 : mm_E 0 13 ls st I r Q ↔ mm_E 0 15 ls (.int 6 :: st) I r Q := me_bi mc_0 dX0_init_13 (by decide)
theorem e0_15 : mm_E 0 15 ls (.int x :: st) I r Q ↔ (¬ x < 0 ∧ x.toNatClampNeg ≤ 1000) ∧ mm_E 0 17 ls (.ref (mm_t r) :: st) (mm_nI I r) (mm_nR r (2, x.toNatClampNeg) x.toNatClampNeg) Q := me_nai mc_0 dX0_init_15
theorem e0_17 : mm_E 0 17 ls (.ref b :: .ref a :: st) I r Q ↔ mm_S r a = (1, 0) ∧ mm_E 0 20 ls st I (mm_uP r a 7 (some b)) Q := me_pr mc_0 dX0_init_17 (by decide +kernel) (by decide +kernel)
theorem e0_20 : mm_E 0 20 [some (.ref a)] st I r Q ↔ mm_E 0 21 [some (.ref a)] (.ref a :: st) I r Q := me_al mc_0 dX0_init_20 rfl
theorem e0_21 : mm_E 0 21 ls st I r Q ↔ mm_E 0 23 ls (.int 6 :: st) I r Q := me_bi mc_0 dX0_init_21 (by decide)
theorem e0_23 : mm_E 0 23 ls (.int x :: st) I r Q ↔ (¬ x < 0 ∧ x.toNatClampNeg ≤ 1000) ∧ mm_E 0 25 ls (.ref (mm_t r) :: st) (mm_nI I r) (mm_nR r (2, x.toNatClampNeg) x.toNatClampNeg) Q := me_nai mc_0 dX0_init_23
theorem e0_25 : mm_E 0 25 ls (.ref b :: .ref a :: st) I r Q ↔ mm_S r a = (1, 0) ∧ mm_E 0 28 ls st I (mm_uP r a 8 (some b)) Q := me_pr mc_0 dX0_init_25 (by decide +kernel) (by decide +kernel)
theorem e0_28 : mm_E 0 28 [some (.ref a)] st I r Q ↔ mm_E 0 29 [some (.ref a)] (.ref a :: st) I r Q := me_al mc_0 dX0_init_28 rfl
theorem e0_29 : mm_E 0 29 ls st I r Q ↔ mm_E 0 30 ls (.int 5 :: st) I r Q := me_ic mc_0 dX0_init_29 (by decide)
theorem e0_30 : mm_E 0 30 ls (.int x :: st) I r Q ↔ (¬ x < 0 ∧ x.toNatClampNeg ≤ 1000) ∧ mm_E 0 32 ls (.ref (mm_t r) :: st) (mm_nI I r) (mm_nR r (2, x.toNatClampNeg) x.toNatClampNeg) Q := me_nai mc_0 dX0_init_30
theorem e0_32 : mm_E 0 32 ls (.ref b :: .ref a :: st) I r Q ↔ mm_S r a = (1, 0) ∧ mm_E 0 35 ls st I (mm_uP r a 9 (some b)) Q := me_pr mc_0 dX0_init_32 (by decide +kernel) (by decide +kernel)
theorem e0_35 : mm_E 0 35 [some (.ref a)] st I r Q ↔ mm_E 0 36 [some (.ref a)] (.ref a :: st) I r Q := me_al mc_0 dX0_init_35 rfl
theorem e0_36 : mm_E 0 36 ls st I r Q ↔ mm_E 0 37 ls (.int 5 :: st) I r Q := me_ic mc_0 dX0_init_36 (by decide)
theorem e0_37 : mm_E 0 37 ls (.int x :: st) I r Q ↔ (¬ x < 0 ∧ x.toNatClampNeg ≤ 1000) ∧ mm_E 0 39 ls (.ref (mm_t r) :: st) (mm_nI I r) (mm_nR r (2, x.toNatClampNeg) x.toNatClampNeg) Q := me_nai mc_0 dX0_init_37
theorem e0_39 : mm_E 0 39 ls (.ref b :: .ref a :: st) I r Q ↔ mm_S r a = (1, 0) ∧ mm_E 0 42 ls st I (mm_uP r a 10 (some b)) Q := me_pr mc_0 dX0_init_39 (by decide +kernel) (by decide +kernel)
theorem e0_42 : mm_E 0 42 [some (.ref a)] st I r Q ↔ mm_E 0 43 [some (.ref a)] (.ref a :: st) I r Q := me_al mc_0 dX0_init_42 rfl
theorem e0_43 : mm_E 0 43 ls st I r Q ↔ mm_E 0 44 ls (.int 5 :: st) I r Q := me_ic mc_0 dX0_init_43 (by decide)
theorem e0_44 : mm_E 0 44 ls (.int x :: st) I r Q ↔ (¬ x < 0 ∧ x.toNatClampNeg ≤ 1000) ∧ mm_E 0 46 ls (.ref (mm_t r) :: st) (mm_nI I r) (mm_nR r (2, x.toNatClampNeg) x.toNatClampNeg) Q := me_nai mc_0 dX0_init_44
theorem e0_46 : mm_E 0 46 ls (.ref b :: .ref a :: st) I r Q ↔ mm_S r a = (1, 0) ∧ mm_E 0 49 ls st I (mm_uP r a 11 (some b)) Q := me_pr mc_0 dX0_init_46 (by decide +kernel) (by decide +kernel)
theorem e0_49 : mm_E 0 49 [some (.ref a)] st I r Q ↔ mm_E 0 50 [some (.ref a)] (.ref a :: st) I r Q := me_al mc_0 dX0_init_49 rfl
theorem e0_50 : mm_E 0 50 ls st I r Q ↔ mm_E 0 52 ls (.int 6 :: st) I r Q := me_bi mc_0 dX0_init_50 (by decide)
theorem e0_52 : mm_E 0 52 ls (.int x :: st) I r Q ↔ (¬ x < 0 ∧ x.toNatClampNeg ≤ 1000) ∧ mm_E 0 54 ls (.ref (mm_t r) :: st) (mm_nI I r) (mm_nR r (2, x.toNatClampNeg) x.toNatClampNeg) Q := me_nai mc_0 dX0_init_52
theorem e0_54 : mm_E 0 54 ls (.ref b :: .ref a :: st) I r Q ↔ mm_S r a = (1, 0) ∧ mm_E 0 57 ls st I (mm_uP r a 12 (some b)) Q := me_pr mc_0 dX0_init_54 (by decide +kernel) (by decide +kernel)
theorem e0_57 : mm_E 0 57 [some (.ref a)] st I r Q ↔ mm_E 0 58 [some (.ref a)] (.ref a :: st) I r Q := me_al mc_0 dX0_init_57 rfl
theorem e0_58 : mm_E 0 58 ls st I r Q ↔ mm_E 0 60 ls (.int 6 :: st) I r Q := me_bi mc_0 dX0_init_58 (by decide)
theorem e0_60 : mm_E 0 60 ls (.int x :: st) I r Q ↔ (¬ x < 0 ∧ x.toNatClampNeg ≤ 1000) ∧ mm_E 0 62 ls (.ref (mm_t r) :: st) (mm_nI I r) (mm_nR r (2, x.toNatClampNeg) x.toNatClampNeg) Q := me_nai mc_0 dX0_init_60
theorem e0_62 : mm_E 0 62 ls (.ref b :: .ref a :: st) I r Q ↔ mm_S r a = (1, 0) ∧ mm_E 0 65 ls st I (mm_uP r a 13 (some b)) Q := me_pr mc_0 dX0_init_62 (by decide +kernel) (by decide +kernel)
theorem e0_65 : mm_E 0 65 [some (.ref a)] st I r Q ↔ mm_E 0 66 [some (.ref a)] (.ref a :: st) I r Q := me_al mc_0 dX0_init_65 rfl
theorem e0_66 : mm_E 0 66 ls st I r Q ↔ mm_E 0 67 ls (.int 5 :: st) I r Q := me_ic mc_0 dX0_init_66 (by decide)
theorem e0_67 : mm_E 0 67 ls (.int x :: .ref a :: st) I r Q ↔ mm_S r a = (1, 0) ∧ mm_E 0 70 ls st (mm_uI I a 2 x) r Q := me_pi mc_0 dX0_init_67 (by decide +kernel) (by decide +kernel)
theorem e0_70 : mm_E 0 70 [some (.ref a)] st I r Q ↔ mm_E 0 71 [some (.ref a)] (.ref a :: st) I r Q := me_al mc_0 dX0_init_70 rfl
theorem e0_71 : mm_E 0 71 ls st I r Q ↔ mm_E 0 72 ls (.int 1 :: st) I r Q := me_ic mc_0 dX0_init_71 (by decide)
theorem e0_72 : mm_E 0 72 ls (.int x :: .ref a :: st) I r Q ↔ mm_S r a = (1, 0) ∧ mm_E 0 75 ls st (mm_uI I a 5 x) r Q := me_pi mc_0 dX0_init_72 (by decide +kernel) (by decide +kernel)
theorem e0_75 : mm_E 0 75 ls [] I r Q ↔ Q none I r := me_rv mc_0 dX0_init_75 rfl
theorem mc_1 : mm_c 1 = cX0_takeFrom := rfl
theorem e1_0 : mm_E 1 0 [some (.ref a), l1, l2] st I r Q ↔ mm_E 1 1 [some (.ref a), l1, l2] (.ref a :: st) I r Q := me_al mc_1 dX0_takeFrom_0 rfl
theorem e1_1 : mm_E 1 1 [l0, some (.ref a), l2] st I r Q ↔ mm_E 1 2 [l0, some (.ref a), l2] (.ref a :: st) I r Q := me_al mc_1 dX0_takeFrom_1 rfl
theorem e1_2 : mm_E 1 2 ls (.ref a :: st) I r Q ↔ mm_S r a = (1, 0) ∧ mm_E 1 5 ls (.int (mm_rd I a 0) :: st) I r Q := me_gi mc_1 dX0_takeFrom_2 (by decide +kernel) rfl
theorem e1_5 : mm_E 1 5 ls (.int x :: .ref a :: st) I r Q ↔ mm_S r a = (1, 0) ∧ mm_E 1 8 ls st (mm_uI I a 0 x) r Q := me_pi mc_1 dX0_takeFrom_5 (by decide +kernel) (by decide +kernel)
theorem e1_8 : mm_E 1 8 [some (.ref a), l1, l2] st I r Q ↔ mm_E 1 9 [some (.ref a), l1, l2] (.ref a :: st) I r Q := me_al mc_1 dX0_takeFrom_8 rfl
theorem e1_9 : mm_E 1 9 [l0, some (.ref a), l2] st I r Q ↔ mm_E 1 10 [l0, some (.ref a), l2] (.ref a :: st) I r Q := me_al mc_1 dX0_takeFrom_9 rfl
theorem e1_10 : mm_E 1 10 ls (.ref a :: st) I r Q ↔ mm_S r a = (1, 0) ∧ mm_E 1 13 ls (.int (mm_rd I a 1) :: st) I r Q := me_gi mc_1 dX0_takeFrom_10 (by decide +kernel) rfl
theorem e1_13 : mm_E 1 13 ls (.int x :: .ref a :: st) I r Q ↔ mm_S r a = (1, 0) ∧ mm_E 1 16 ls st (mm_uI I a 1 x) r Q := me_pi mc_1 dX0_takeFrom_13 (by decide +kernel) (by decide +kernel)
theorem e1_16 : mm_E 1 16 [some (.ref a), l1, l2] st I r Q ↔ mm_E 1 17 [some (.ref a), l1, l2] (.ref a :: st) I r Q := me_al mc_1 dX0_takeFrom_16 rfl
theorem e1_17 : mm_E 1 17 [l0, some (.ref a), l2] st I r Q ↔ mm_E 1 18 [l0, some (.ref a), l2] (.ref a :: st) I r Q := me_al mc_1 dX0_takeFrom_17 rfl
theorem e1_18 : mm_E 1 18 ls (.ref a :: st) I r Q ↔ mm_S r a = (1, 0) ∧ mm_E 1 21 ls (.int (mm_rd I a 2) :: st) I r Q := me_gi mc_1 dX0_takeFrom_18 (by decide +kernel) rfl
theorem e1_21 : mm_E 1 21 ls (.int x :: .ref a :: st) I r Q ↔ mm_S r a = (1, 0) ∧ mm_E 1 24 ls st (mm_uI I a 2 x) r Q := me_pi mc_1 dX0_takeFrom_21 (by decide +kernel) (by decide +kernel)
theorem e1_24 : mm_E 1 24 [some (.ref a), l1, l2] st I r Q ↔ mm_E 1 25 [some (.ref a), l1, l2] (.ref a :: st) I r Q := me_al mc_1 dX0_takeFrom_24 rfl
theorem e1_25 : mm_E 1 25 [l0, some (.ref a), l2] st I r Q ↔ mm_E 1 26 [l0, some (.ref a), l2] (.ref a :: st) I r Q := me_al mc_1 dX0_takeFrom_25 rfl
theorem e1_26 : mm_E 1 26 ls (.ref a :: st) I r Q ↔ mm_S r a = (1, 0) ∧ mm_E 1 29 ls (.int (mm_rd I a 3) :: st) I r Q := me_gi mc_1 dX0_takeFrom_26 (by decide +kernel) rfl
theorem e1_29 : mm_E 1 29 ls (.int x :: .ref a :: st) I r Q ↔ mm_S r a = (1, 0) ∧ mm_E 1 32 ls st (mm_uI I a 3 x) r Q := me_pi mc_1 dX0_takeFrom_29 (by decide +kernel) (by decide +kernel)
theorem e1_32 : mm_E 1 32 [some (.ref a), l1, l2] st I r Q ↔ mm_E 1 33 [some (.ref a), l1, l2] (.ref a :: st) I r Q := me_al mc_1 dX0_takeFrom_32 rfl
theorem e1_33 : mm_E 1 33 [l0, some (.ref a), l2] st I r Q ↔ mm_E 1 34 [l0, some (.ref a), l2] (.ref a :: st) I r Q := me_al mc_1 dX0_takeFrom_33 rfl
theorem e1_34 : mm_E 1 34 ls (.ref a :: st) I r Q ↔ mm_S r a = (1, 0) ∧ mm_E 1 37 ls (.int (mm_rd I a 4) :: st) I r Q := me_gi mc_1 dX0_takeFrom_34 (by decide +kernel) rfl
theorem e1_37 : mm_E 1 37 ls (.int x :: .ref a :: st) I r Q ↔ mm_S r a = (1, 0) ∧ mm_E 1 40 ls st (mm_uI I a 4 x) r Q := me_pi mc_1 dX0_takeFrom_37 (by decide +kernel) (by decide +kernel)
theorem e1_40 : mm_E 1 40 [some (.ref a), l1, l2] st I r Q ↔ mm_E 1 41 [some (.ref a), l1, l2] (.ref a :: st) I r Q := me_al mc_1 dX0_takeFrom_40 rfl
theorem e1_41 : mm_E 1 41 [l0, some (.ref a), l2] st I r Q ↔ mm_E 1 42 [l0, some (.ref a), l2] (.ref a :: st) I r Q := me_al mc_1 dX0_takeFrom_41 rfl
theorem e1_42 : mm_E 1 42 ls (.ref a :: st) I r Q ↔ mm_S r a = (1, 0) ∧ mm_E 1 45 ls (.int (mm_rd I a 5) :: st) I r Q := me_gi mc_1 dX0_takeFrom_42 (by decide +kernel) rfl
theorem e1_45 : mm_E 1 45 ls (.int x :: .ref a :: st) I r Q ↔ mm_S r a = (1, 0) ∧ mm_E 1 48 ls st (mm_uI I a 5 x) r Q := me_pi mc_1 dX0_takeFrom_45 (by decide +kernel) (by decide +kernel)
theorem e1_48 : mm_E 1 48 ls st I r Q ↔ mm_E 1 49 ls (.int 0 :: st) I r Q := me_ic mc_1 dX0_takeFrom_48 (by decide)
theorem e1_49 : mm_E 1 49 [l0, l1, l2] (.int x :: st) I r Q ↔ mm_c1 l1 ∧ mm_E 1 50 [l0, l1, some (.int x)] st I r Q := me_st (k := 2) (v := .int x) mc_1 dX0_takeFrom_49 rfl rfl (Nat.le_of_ble_eq_true rfl) rfl ⟨Or.inr, fun h => h.resolve_left (by decide)⟩
theorem e1_50 : mm_E 1 50 [l0, l1, some (.int x)] st I r Q ↔ mm_E 1 51 [l0, l1, some (.int x)] (.int x :: st) I r Q := me_il mc_1 dX0_takeFrom_50 rfl
theorem e1_51 : mm_E 1 51 ls st I r Q ↔ mm_E 1 53 ls (.int 6 :: st) I r Q := me_bi mc_1 dX0_takeFrom_51 (by decide)
theorem e1_53 : mm_E 1 53 ls (.int y :: .int x :: st) I r Q ↔ if y ≤ x then mm_E 1 105 ls st I r Q else mm_E 1 56 ls st I r Q := me_cge mc_1 dX0_takeFrom_53 (by decide)
theorem e1_56 : mm_E 1 56 [some (.ref a), l1, l2] st I r Q ↔ mm_E 1 57 [some (.ref a), l1, l2] (.ref a :: st) I r Q := me_al mc_1 dX0_takeFrom_56 rfl
theorem e1_57 : mm_E 1 57 ls (.ref a :: st) I r Q ↔ mm_S r a = (1, 0) ∧ mm_E 1 60 ls (va_rf (mm_P r a 6) :: st) I r Q := me_gr mc_1 dX0_takeFrom_57 (by decide +kernel) rfl
theorem e1_60 : mm_E 1 60 [l0, l1, some (.int x)] st I r Q ↔ mm_E 1 61 [l0, l1, some (.int x)] (.int x :: st) I r Q := me_il mc_1 dX0_takeFrom_60 rfl
theorem e1_61 : mm_E 1 61 [l0, some (.ref a), l2] st I r Q ↔ mm_E 1 62 [l0, some (.ref a), l2] (.ref a :: st) I r Q := me_al mc_1 dX0_takeFrom_61 rfl
theorem e1_62 : mm_E 1 62 ls (.ref a :: st) I r Q ↔ mm_S r a = (1, 0) ∧ mm_E 1 65 ls (va_rf (mm_P r a 6) :: st) I r Q := me_gr mc_1 dX0_takeFrom_62 (by decide +kernel) rfl
theorem e1_65 : mm_E 1 65 [l0, l1, some (.int x)] st I r Q ↔ mm_E 1 66 [l0, l1, some (.int x)] (.int x :: st) I r Q := me_il mc_1 dX0_takeFrom_65 rfl
theorem e1_66 : mm_E 1 66 ls (.int x :: .ref a :: st) I r Q ↔ mm_ix r a 2 x ∧ mm_E 1 67 ls (.int (mm_rd I a x.toNatClampNeg) :: st) I r Q := me_ia mc_1 dX0_takeFrom_66
theorem e1_67 : mm_E 1 67 ls (.int y :: .int x :: .ref a :: st) I r Q ↔ mm_ix r a 2 x ∧ mm_E 1 68 ls st (mm_uI I a x.toNatClampNeg y) r Q := me_is mc_1 dX0_takeFrom_67
theorem e1_68 : mm_E 1 68 [some (.ref a), l1, l2] st I r Q ↔ mm_E 1 69 [some (.ref a), l1, l2] (.ref a :: st) I r Q := me_al mc_1 dX0_takeFrom_68 rfl
theorem e1_69 : mm_E 1 69 ls (.ref a :: st) I r Q ↔ mm_S r a = (1, 0) ∧ mm_E 1 72 ls (va_rf (mm_P r a 7) :: st) I r Q := me_gr mc_1 dX0_takeFrom_69 (by decide +kernel) rfl
theorem e1_72 : mm_E 1 72 [l0, l1, some (.int x)] st I r Q ↔ mm_E 1 73 [l0, l1, some (.int x)] (.int x :: st) I r Q := me_il mc_1 dX0_takeFrom_72 rfl
theorem e1_73 : mm_E 1 73 [l0, some (.ref a), l2] st I r Q ↔ mm_E 1 74 [l0, some (.ref a), l2] (.ref a :: st) I r Q := me_al mc_1 dX0_takeFrom_73 rfl
theorem e1_74 : mm_E 1 74 ls (.ref a :: st) I r Q ↔ mm_S r a = (1, 0) ∧ mm_E 1 77 ls (va_rf (mm_P r a 7) :: st) I r Q := me_gr mc_1 dX0_takeFrom_74 (by decide +kernel) rfl
theorem e1_77 : mm_E 1 77 [l0, l1, some (.int x)] st I r Q ↔ mm_E 1 78 [l0, l1, some (.int x)] (.int x :: st) I r Q := me_il mc_1 dX0_takeFrom_77 rfl
theorem e1_78 : mm_E 1 78 ls (.int x :: .ref a :: st) I r Q ↔ mm_ix r a 2 x ∧ mm_E 1 79 ls (.int (mm_rd I a x.toNatClampNeg) :: st) I r Q := me_ia mc_1 dX0_takeFrom_78
theorem e1_79 : mm_E 1 79 ls (.int y :: .int x :: .ref a :: st) I r Q ↔ mm_ix r a 2 x ∧ mm_E 1 80 ls st (mm_uI I a x.toNatClampNeg y) r Q := me_is mc_1 dX0_takeFrom_79
theorem e1_80 : mm_E 1 80 [some (.ref a), l1, l2] st I r Q ↔ mm_E 1 81 [some (.ref a), l1, l2] (.ref a :: st) I r Q := me_al mc_1 dX0_takeFrom_80 rfl
theorem e1_81 : mm_E 1 81 ls (.ref a :: st) I r Q ↔ mm_S r a = (1, 0) ∧ mm_E 1 84 ls (va_rf (mm_P r a 8) :: st) I r Q := me_gr mc_1 dX0_takeFrom_81 (by decide +kernel) rfl
theorem e1_84 : mm_E 1 84 [l0, l1, some (.int x)] st I r Q ↔ mm_E 1 85 [l0, l1, some (.int x)] (.int x :: st) I r Q := me_il mc_1 dX0_takeFrom_84 rfl
theorem e1_85 : mm_E 1 85 [l0, some (.ref a), l2] st I r Q ↔ mm_E 1 86 [l0, some (.ref a), l2] (.ref a :: st) I r Q := me_al mc_1 dX0_takeFrom_85 rfl
theorem e1_86 : mm_E 1 86 ls (.ref a :: st) I r Q ↔ mm_S r a = (1, 0) ∧ mm_E 1 89 ls (va_rf (mm_P r a 8) :: st) I r Q := me_gr mc_1 dX0_takeFrom_86 (by decide +kernel) rfl
theorem e1_89 : mm_E 1 89 [l0, l1, some (.int x)] st I r Q ↔ mm_E 1 90 [l0, l1, some (.int x)] (.int x :: st) I r Q := me_il mc_1 dX0_takeFrom_89 rfl
theorem e1_90 : mm_E 1 90 ls (.int x :: .ref a :: st) I r Q ↔ mm_ix r a 2 x ∧ mm_E 1 91 ls (.int (mm_rd I a x.toNatClampNeg) :: st) I r Q := me_ia mc_1 dX0_takeFrom_90
theorem e1_91 : mm_E 1 91 ls (.int y :: .int x :: .ref a :: st) I r Q ↔ mm_ix r a 2 x ∧ mm_E 1 92 ls st (mm_uI I a x.toNatClampNeg y) r Q := me_is mc_1 dX0_takeFrom_91
theorem e1_92 : mm_E 1 92 [some (.ref a), l1, l2] st I r Q ↔ mm_E 1 93 [some (.ref a), l1, l2] (.ref a :: st) I r Q := me_al mc_1 dX0_takeFrom_92 rfl
theorem e1_93 : mm_E 1 93 ls (.ref a :: st) I r Q ↔ mm_S r a = (1, 0) ∧ mm_E 1 96 ls (va_rf (mm_P r a 13) :: st) I r Q := me_gr mc_1 dX0_takeFrom_93 (by decide +kernel) rfl
theorem e1_96 : mm_E 1 96 [l0, l1, some (.int x)] st I r Q ↔ mm_E 1 97 [l0, l1, some (.int x)] (.int x :: st) I r Q := me_il mc_1 dX0_takeFrom_96 rfl
theorem e1_97 : mm_E 1 97 ls st I r Q ↔ mm_E 1 98 ls (.int 0 :: st) I r Q := me_ic mc_1 dX0_takeFrom_97 (by decide)
theorem e1_98 : mm_E 1 98 ls (.int y :: .int x :: .ref a :: st) I r Q ↔ mm_ix r a 2 x ∧ mm_E 1 99 ls st (mm_uI I a x.toNatClampNeg y) r Q := me_is mc_1 dX0_takeFrom_98
theorem e1_99 : mm_E 1 99 [l0, l1, some (.int x)] st I r Q ↔ mm_c1 l1 ∧ mm_E 1 102 [l0, l1, some (.int (x + 1))] st I r Q := me_st (k := 2) (v := .int (x + 1)) mc_1 dX0_takeFrom_99 rfl rfl (Nat.le_of_ble_eq_true rfl) rfl ⟨Or.inr, fun h => h.resolve_left (by decide)⟩
theorem e1_102 : mm_E 1 102 ls st I r Q ↔ mm_E 1 50 ls st I r Q := me_goto mc_1 dX0_takeFrom_102 (by decide)
theorem e1_105 : mm_E 1 105 ls st I r Q ↔ mm_E 1 106 ls (.int 0 :: st) I r Q := me_ic mc_1 dX0_takeFrom_105 (by decide)
theorem e1_106 : mm_E 1 106 [l0, l1, l2] (.int x :: st) I r Q ↔ mm_c1 l1 ∧ mm_E 1 107 [l0, l1, some (.int x)] st I r Q := me_st (k := 2) (v := .int x) mc_1 dX0_takeFrom_106 rfl rfl (Nat.le_of_ble_eq_true rfl) rfl ⟨Or.inr, fun h => h.resolve_left (by decide)⟩
theorem e1_107 : mm_E 1 107 [l0, l1, some (.int x)] st I r Q ↔ mm_E 1 108 [l0, l1, some (.int x)] (.int x :: st) I r Q := me_il mc_1 dX0_takeFrom_107 rfl
theorem e1_108 : mm_E 1 108 ls st I r Q ↔ mm_E 1 109 ls (.int 5 :: st) I r Q := me_ic mc_1 dX0_takeFrom_108 (by decide)
theorem e1_109 : mm_E 1 109 ls (.int y :: .int x :: st) I r Q ↔ if y ≤ x then mm_E 1 154 ls st I r Q else mm_E 1 112 ls st I r Q := me_cge mc_1 dX0_takeFrom_109 (by decide)
theorem e1_112 : mm_E 1 112 [some (.ref a), l1, l2] st I r Q ↔ mm_E 1 113 [some (.ref a), l1, l2] (.ref a :: st) I r Q := me_al mc_1 dX0_takeFrom_112 rfl
theorem e1_113 : mm_E 1 113 ls (.ref a :: st) I r Q ↔ mm_S r a = (1, 0) ∧ mm_E 1 116 ls (va_rf (mm_P r a 9) :: st) I r Q := me_gr mc_1 dX0_takeFrom_113 (by decide +kernel) rfl
theorem e1_116 : mm_E 1 116 [l0, l1, some (.int x)] st I r Q ↔ mm_E 1 117 [l0, l1, some (.int x)] (.int x :: st) I r Q := me_il mc_1 dX0_takeFrom_116 rfl
theorem e1_117 : mm_E 1 117 [l0, some (.ref a), l2] st I r Q ↔ mm_E 1 118 [l0, some (.ref a), l2] (.ref a :: st) I r Q := me_al mc_1 dX0_takeFrom_117 rfl
theorem e1_118 : mm_E 1 118 ls (.ref a :: st) I r Q ↔ mm_S r a = (1, 0) ∧ mm_E 1 121 ls (va_rf (mm_P r a 9) :: st) I r Q := me_gr mc_1 dX0_takeFrom_118 (by decide +kernel) rfl
theorem e1_121 : mm_E 1 121 [l0, l1, some (.int x)] st I r Q ↔ mm_E 1 122 [l0, l1, some (.int x)] (.int x :: st) I r Q := me_il mc_1 dX0_takeFrom_121 rfl
theorem e1_122 : mm_E 1 122 ls (.int x :: .ref a :: st) I r Q ↔ mm_ix r a 2 x ∧ mm_E 1 123 ls (.int (mm_rd I a x.toNatClampNeg) :: st) I r Q := me_ia mc_1 dX0_takeFrom_122
theorem e1_123 : mm_E 1 123 ls (.int y :: .int x :: .ref a :: st) I r Q ↔ mm_ix r a 2 x ∧ mm_E 1 124 ls st (mm_uI I a x.toNatClampNeg y) r Q := me_is mc_1 dX0_takeFrom_123
theorem e1_124 : mm_E 1 124 [some (.ref a), l1, l2] st I r Q ↔ mm_E 1 125 [some (.ref a), l1, l2] (.ref a :: st) I r Q := me_al mc_1 dX0_takeFrom_124 rfl
theorem e1_125 : mm_E 1 125 ls (.ref a :: st) I r Q ↔ mm_S r a = (1, 0) ∧ mm_E 1 128 ls (va_rf (mm_P r a 10) :: st) I r Q := me_gr mc_1 dX0_takeFrom_125 (by decide +kernel) rfl
theorem e1_128 : mm_E 1 128 [l0, l1, some (.int x)] st I r Q ↔ mm_E 1 129 [l0, l1, some (.int x)] (.int x :: st) I r Q := me_il mc_1 dX0_takeFrom_128 rfl
theorem e1_129 : mm_E 1 129 [l0, some (.ref a), l2] st I r Q ↔ mm_E 1 130 [l0, some (.ref a), l2] (.ref a :: st) I r Q := me_al mc_1 dX0_takeFrom_129 rfl
theorem e1_130 : mm_E 1 130 ls (.ref a :: st) I r Q ↔ mm_S r a = (1, 0) ∧ mm_E 1 133 ls (va_rf (mm_P r a 10) :: st) I r Q := me_gr mc_1 dX0_takeFrom_130 (by decide +kernel) rfl
theorem e1_133 : mm_E 1 133 [l0, l1, some (.int x)] st I r Q ↔ mm_E 1 134 [l0, l1, some (.int x)] (.int x :: st) I r Q := me_il mc_1 dX0_takeFrom_133 rfl
theorem e1_134 : mm_E 1 134 ls (.int x :: .ref a :: st) I r Q ↔ mm_ix r a 2 x ∧ mm_E 1 135 ls (.int (mm_rd I a x.toNatClampNeg) :: st) I r Q := me_ia mc_1 dX0_takeFrom_134
theorem e1_135 : mm_E 1 135 ls (.int y :: .int x :: .ref a :: st) I r Q ↔ mm_ix r a 2 x ∧ mm_E 1 136 ls st (mm_uI I a x.toNatClampNeg y) r Q := me_is mc_1 dX0_takeFrom_135
theorem e1_136 : mm_E 1 136 [some (.ref a), l1, l2] st I r Q ↔ mm_E 1 137 [some (.ref a), l1, l2] (.ref a :: st) I r Q := me_al mc_1 dX0_takeFrom_136 rfl
theorem e1_137 : mm_E 1 137 ls (.ref a :: st) I r Q ↔ mm_S r a = (1, 0) ∧ mm_E 1 140 ls (va_rf (mm_P r a 11) :: st) I r Q := me_gr mc_1 dX0_takeFrom_137 (by decide +kernel) rfl
theorem e1_140 : mm_E 1 140 [l0, l1, some (.int x)] st I r Q ↔ mm_E 1 141 [l0, l1, some (.int x)] (.int x :: st) I r Q := me_il mc_1 dX0_takeFrom_140 rfl
theorem e1_141 : mm_E 1 141 [l0, some (.ref a), l2] st I r Q ↔ mm_E 1 142 [l0, some (.ref a), l2] (.ref a :: st) I r Q := me_al mc_1 dX0_takeFrom_141 rfl
theorem e1_142 : mm_E 1 142 ls (.ref a :: st) I r Q ↔ mm_S r a = (1, 0) ∧ mm_E 1 145 ls (va_rf (mm_P r a 11) :: st) I r Q := me_gr mc_1 dX0_takeFrom_142 (by decide +kernel) rfl
theorem e1_145 : mm_E 1 145 [l0, l1, some (.int x)] st I r Q ↔ mm_E 1 146 [l0, l1, some (.int x)] (.int x :: st) I r Q := me_il mc_1 dX0_takeFrom_145 rfl
theorem e1_146 : mm_E 1 146 ls (.int x :: .ref a :: st) I r Q ↔ mm_ix r a 2 x ∧ mm_E 1 147 ls (.int (mm_rd I a x.toNatClampNeg) :: st) I r Q := me_ia mc_1 dX0_takeFrom_146
theorem e1_147 : mm_E 1 147 ls (.int y :: .int x :: .ref a :: st) I r Q ↔ mm_ix r a 2 x ∧ mm_E 1 148 ls st (mm_uI I a x.toNatClampNeg y) r Q := me_is mc_1 dX0_takeFrom_147
theorem e1_148 : mm_E 1 148 [l0, l1, some (.int x)] st I r Q ↔ mm_c1 l1 ∧ mm_E 1 151 [l0, l1, some (.int (x + 1))] st I r Q := me_st (k := 2) (v := .int (x + 1)) mc_1 dX0_takeFrom_148 rfl rfl (Nat.le_of_ble_eq_true rfl) rfl ⟨Or.inr, fun h => h.resolve_left (by decide)⟩
theorem e1_151 : mm_E 1 151 ls st I r Q ↔ mm_E 1 107 ls st I r Q := me_goto mc_1 dX0_takeFrom_151 (by decide)
theorem e1_154 : mm_E 1 154 ls [] I r Q ↔ Q none I r := me_rv mc_1 dX0_takeFrom_154 rfl
theorem mc_2 : mm_c 2 = cX0_beginAnew := rfl
theorem e2_0 : mm_E 2 0 [some (.ref a)] st I r Q ↔ mm_E 2 1 [some (.ref a)] (.ref a :: st) I r Q := me_al mc_2 dX0_beginAnew_0 rfl
theorem e2_1 : mm_E 2 1 ls st I r Q ↔ mm_E 2 2 ls (.int 0 :: st) I r Q := me_ic mc_2 dX0_beginAnew_1 (by decide)
theorem e2_2 : mm_E 2 2 ls (.int x :: .ref a :: st) I r Q ↔ mm_S r a = (1, 0) ∧ mm_E 2 5 ls st (mm_uI I a 0 x) r Q := me_pi mc_2 dX0_beginAnew_2 (by decide +kernel) (by decide +kernel)
theorem e2_5 : mm_E 2 5 [some (.ref a)] st I r Q ↔ mm_E 2 6 [some (.ref a)] (.ref a :: st) I r Q := me_al mc_2 dX0_beginAnew_5 rfl
theorem e2_6 : mm_E 2 6 ls st I r Q ↔ mm_E 2 7 ls (.int 0 :: st) I r Q := me_ic mc_2 dX0_beginAnew_6 (by decide)
theorem e2_7 : mm_E 2 7 ls (.int x :: .ref a :: st) I r Q ↔ mm_S r a = (1, 0) ∧ mm_E 2 10 ls st (mm_uI I a 1 x) r Q := me_pi mc_2 dX0_beginAnew_7 (by decide +kernel) (by decide +kernel)
theorem e2_10 : mm_E 2 10 [some (.ref a)] st I r Q ↔ mm_E 2 11 [some (.ref a)] (.ref a :: st) I r Q := me_al mc_2 dX0_beginAnew_10 rfl
theorem e2_11 : mm_E 2 11 ls st I r Q ↔ mm_E 2 12 ls (.int 0 :: st) I r Q := me_ic mc_2 dX0_beginAnew_11 (by decide)
theorem e2_12 : mm_E 2 12 ls (.int x :: .ref a :: st) I r Q ↔ mm_S r a = (1, 0) ∧ mm_E 2 15 ls st (mm_uI I a 3 x) r Q := me_pi mc_2 dX0_beginAnew_12 (by decide +kernel) (by decide +kernel)
theorem e2_15 : mm_E 2 15 [some (.ref a)] st I r Q ↔ mm_E 2 16 [some (.ref a)] (.ref a :: st) I r Q := me_al mc_2 dX0_beginAnew_15 rfl
theorem e2_16 : mm_E 2 16 ls st I r Q ↔ mm_E 2 17 ls (.int 0 :: st) I r Q := me_ic mc_2 dX0_beginAnew_16 (by decide)
theorem e2_17 : mm_E 2 17 ls (.int x :: .ref a :: st) I r Q ↔ mm_S r a = (1, 0) ∧ mm_E 2 20 ls st (mm_uI I a 4 x) r Q := me_pi mc_2 dX0_beginAnew_17 (by decide +kernel) (by decide +kernel)
theorem e2_20 : mm_E 2 20 ls [] I r Q ↔ Q none I r := me_rv mc_2 dX0_beginAnew_20 rfl
theorem mc_3 : mm_c 3 = cX0_hasHouse := rfl
theorem e3_0 : mm_E 3 0 [l0, some (.int x)] st I r Q ↔ mm_E 3 1 [l0, some (.int x)] (.int x :: st) I r Q := me_il mc_3 dX0_hasHouse_0 rfl
theorem e3_1 : mm_E 3 1 ls (.int x :: st) I r Q ↔ if x < 0 then mm_E 3 16 ls st I r Q else mm_E 3 4 ls st I r Q := me_zlt mc_3 dX0_hasHouse_1 (by decide)
theorem e3_4 : mm_E 3 4 [l0, some (.int x)] st I r Q ↔ mm_E 3 5 [l0, some (.int x)] (.int x :: st) I r Q := me_il mc_3 dX0_hasHouse_4 rfl
theorem e3_5 : mm_E 3 5 [some (.ref a), l1] st I r Q ↔ mm_E 3 6 [some (.ref a), l1] (.ref a :: st) I r Q := me_al mc_3 dX0_hasHouse_5 rfl
theorem e3_6 : mm_E 3 6 ls (.ref a :: st) I r Q ↔ mm_S r a = (1, 0) ∧ mm_E 3 9 ls (.int (mm_rd I a 0) :: st) I r Q := me_gi mc_3 dX0_hasHouse_6 (by decide +kernel) rfl
theorem e3_9 : mm_E 3 9 ls (.int y :: .int x :: st) I r Q ↔ if y ≤ x then mm_E 3 16 ls st I r Q else mm_E 3 12 ls st I r Q := me_cge mc_3 dX0_hasHouse_9 (by decide)
theorem e3_12 : mm_E 3 12 ls st I r Q ↔ mm_E 3 13 ls (.int 1 :: st) I r Q := me_ic mc_3 dX0_hasHouse_12 (by decide)
theorem e3_13 : mm_E 3 13 ls st I r Q ↔ mm_E 3 17 ls st I r Q := me_goto mc_3 dX0_hasHouse_13 (by decide)
theorem e3_16 : mm_E 3 16 ls st I r Q ↔ mm_E 3 17 ls (.int 0 :: st) I r Q := me_ic mc_3 dX0_hasHouse_16 (by decide)
theorem e3_17 : mm_E 3 17 ls [.int x] I r Q ↔ (x = 0 ∨ x = 1) ∧ Q (some (.int x)) I r := me_rz mc_3 dX0_hasHouse_17 rfl
theorem mc_4 : mm_c 4 = cX0_hasHog := rfl
theorem e4_0 : mm_E 4 0 [l0, some (.int x)] st I r Q ↔ mm_E 4 1 [l0, some (.int x)] (.int x :: st) I r Q := me_il mc_4 dX0_hasHog_0 rfl
theorem e4_1 : mm_E 4 1 ls (.int x :: st) I r Q ↔ if x < 0 then mm_E 4 16 ls st I r Q else mm_E 4 4 ls st I r Q := me_zlt mc_4 dX0_hasHog_1 (by decide)
theorem e4_4 : mm_E 4 4 [l0, some (.int x)] st I r Q ↔ mm_E 4 5 [l0, some (.int x)] (.int x :: st) I r Q := me_il mc_4 dX0_hasHog_4 rfl
theorem e4_5 : mm_E 4 5 [some (.ref a), l1] st I r Q ↔ mm_E 4 6 [some (.ref a), l1] (.ref a :: st) I r Q := me_al mc_4 dX0_hasHog_5 rfl
theorem e4_6 : mm_E 4 6 ls (.ref a :: st) I r Q ↔ mm_S r a = (1, 0) ∧ mm_E 4 9 ls (.int (mm_rd I a 1) :: st) I r Q := me_gi mc_4 dX0_hasHog_6 (by decide +kernel) rfl
theorem e4_9 : mm_E 4 9 ls (.int y :: .int x :: st) I r Q ↔ if y ≤ x then mm_E 4 16 ls st I r Q else mm_E 4 12 ls st I r Q := me_cge mc_4 dX0_hasHog_9 (by decide)
theorem e4_12 : mm_E 4 12 ls st I r Q ↔ mm_E 4 13 ls (.int 1 :: st) I r Q := me_ic mc_4 dX0_hasHog_12 (by decide)
theorem e4_13 : mm_E 4 13 ls st I r Q ↔ mm_E 4 17 ls st I r Q := me_goto mc_4 dX0_hasHog_13 (by decide)
theorem e4_16 : mm_E 4 16 ls st I r Q ↔ mm_E 4 17 ls (.int 0 :: st) I r Q := me_ic mc_4 dX0_hasHog_16 (by decide)
theorem e4_17 : mm_E 4 17 ls [.int x] I r Q ↔ (x = 0 ∨ x = 1) ∧ Q (some (.int x)) I r := me_rz mc_4 dX0_hasHog_17 rfl
theorem mc_5 : mm_c 5 = cX0_addHouse := rfl
theorem e5_0 : mm_E 5 0 [some (.ref a), l1, l2, l3, l4] st I r Q ↔ mm_E 5 1 [some (.ref a), l1, l2, l3, l4] (.ref a :: st) I r Q := me_al mc_5 dX0_addHouse_0 rfl
theorem e5_1 : mm_E 5 1 ls (.ref a :: st) I r Q ↔ mm_S r a = (1, 0) ∧ mm_E 5 4 ls (.int (mm_rd I a 0) :: st) I r Q := me_gi mc_5 dX0_addHouse_1 (by decide +kernel) rfl
theorem e5_4 : mm_E 5 4 [l0, l1, l2, l3, l4] (.int x :: st) I r Q ↔ mm_c1 l3 ∧ mm_E 5 6 [l0, l1, l2, l3, some (.int x)] st I r Q := me_st (k := 4) (v := .int x) mc_5 dX0_addHouse_4 rfl rfl (Nat.le_of_ble_eq_true rfl) rfl ⟨Or.inr, fun h => h.resolve_left (by decide)⟩
theorem e5_6 : mm_E 5 6 [l0, l1, l2, l3, some (.int x)] st I r Q ↔ mm_E 5 8 [l0, l1, l2, l3, some (.int x)] (.int x :: st) I r Q := me_il2 mc_5 dX0_addHouse_6 rfl
theorem e5_8 : mm_E 5 8 ls st I r Q ↔ mm_E 5 10 ls (.int 6 :: st) I r Q := me_bi mc_5 dX0_addHouse_8 (by decide)
theorem e5_10 : mm_E 5 10 ls (.int y :: .int x :: st) I r Q ↔ if x < y then mm_E 5 16 ls st I r Q else mm_E 5 13 ls st I r Q := me_clt mc_5 dX0_addHouse_10 (by decide)
theorem e5_13 : mm_E 5 13 ls st I r Q ↔ mm_E 5 15 ls (.int (-3) :: st) I r Q := me_bi mc_5 dX0_addHouse_13 (by decide)
theorem e5_15 : mm_E 5 15 ls [.int x] I r Q ↔ Q (some (.int x)) I r := me_ri mc_5 dX0_addHouse_15 rfl
theorem e5_16 : mm_E 5 16 [some (.ref a), l1, l2, l3, l4] st I r Q ↔ mm_E 5 17 [some (.ref a), l1, l2, l3, l4] (.ref a :: st) I r Q := me_al mc_5 dX0_addHouse_16 rfl
theorem e5_17 : mm_E 5 17 ls (.ref a :: st) I r Q ↔ mm_S r a = (1, 0) ∧ mm_E 5 20 ls (va_rf (mm_P r a 6) :: st) I r Q := me_gr mc_5 dX0_addHouse_17 (by decide +kernel) rfl
theorem e5_20 : mm_E 5 20 [l0, l1, l2, l3, some (.int x)] st I r Q ↔ mm_E 5 22 [l0, l1, l2, l3, some (.int x)] (.int x :: st) I r Q := me_il2 mc_5 dX0_addHouse_20 rfl
theorem e5_22 : mm_E 5 22 [l0, some (.int x), l2, l3, l4] st I r Q ↔ mm_E 5 23 [l0, some (.int x), l2, l3, l4] (.int x :: st) I r Q := me_il mc_5 dX0_addHouse_22 rfl
theorem e5_23 : mm_E 5 23 ls (.int y :: .int x :: .ref a :: st) I r Q ↔ mm_ix r a 2 x ∧ mm_E 5 24 ls st (mm_uI I a x.toNatClampNeg y) r Q := me_is mc_5 dX0_addHouse_23
theorem e5_24 : mm_E 5 24 [some (.ref a), l1, l2, l3, l4] st I r Q ↔ mm_E 5 25 [some (.ref a), l1, l2, l3, l4] (.ref a :: st) I r Q := me_al mc_5 dX0_addHouse_24 rfl
theorem e5_25 : mm_E 5 25 ls (.ref a :: st) I r Q ↔ mm_S r a = (1, 0) ∧ mm_E 5 28 ls (va_rf (mm_P r a 7) :: st) I r Q := me_gr mc_5 dX0_addHouse_25 (by decide +kernel) rfl
theorem e5_28 : mm_E 5 28 [l0, l1, l2, l3, some (.int x)] st I r Q ↔ mm_E 5 30 [l0, l1, l2, l3, some (.int x)] (.int x :: st) I r Q := me_il2 mc_5 dX0_addHouse_28 rfl
theorem e5_30 : mm_E 5 30 [l0, l1, some (.int x), l3, l4] st I r Q ↔ mm_E 5 31 [l0, l1, some (.int x), l3, l4] (.int x :: st) I r Q := me_il mc_5 dX0_addHouse_30 rfl
theorem e5_31 : mm_E 5 31 ls (.int y :: .int x :: .ref a :: st) I r Q ↔ mm_ix r a 2 x ∧ mm_E 5 32 ls st (mm_uI I a x.toNatClampNeg y) r Q := me_is mc_5 dX0_addHouse_31
theorem e5_32 : mm_E 5 32 [some (.ref a), l1, l2, l3, l4] st I r Q ↔ mm_E 5 33 [some (.ref a), l1, l2, l3, l4] (.ref a :: st) I r Q := me_al mc_5 dX0_addHouse_32 rfl
theorem e5_33 : mm_E 5 33 ls (.ref a :: st) I r Q ↔ mm_S r a = (1, 0) ∧ mm_E 5 36 ls (va_rf (mm_P r a 8) :: st) I r Q := me_gr mc_5 dX0_addHouse_33 (by decide +kernel) rfl
theorem e5_36 : mm_E 5 36 [l0, l1, l2, l3, some (.int x)] st I r Q ↔ mm_E 5 38 [l0, l1, l2, l3, some (.int x)] (.int x :: st) I r Q := me_il2 mc_5 dX0_addHouse_36 rfl
theorem e5_38 : mm_E 5 38 [l0, l1, l2, some (.int x), l4] st I r Q ↔ mm_E 5 39 [l0, l1, l2, some (.int x), l4] (.int x :: st) I r Q := me_il mc_5 dX0_addHouse_38 rfl
theorem e5_39 : mm_E 5 39 ls (.int y :: .int x :: .ref a :: st) I r Q ↔ mm_ix r a 2 x ∧ mm_E 5 40 ls st (mm_uI I a x.toNatClampNeg y) r Q := me_is mc_5 dX0_addHouse_39
theorem e5_40 : mm_E 5 40 [some (.ref a), l1, l2, l3, l4] st I r Q ↔ mm_E 5 41 [some (.ref a), l1, l2, l3, l4] (.ref a :: st) I r Q := me_al mc_5 dX0_addHouse_40 rfl
theorem e5_41 : mm_E 5 41 [l0, l1, l2, l3, some (.int x)] st I r Q ↔ mm_E 5 43 [l0, l1, l2, l3, some (.int x)] (.int x :: st) I r Q := me_il2 mc_5 dX0_addHouse_41 rfl
theorem e5_43 : mm_E 5 43 ls st I r Q ↔ mm_E 5 44 ls (.int 1 :: st) I r Q := me_ic mc_5 dX0_addHouse_43 (by decide)
theorem e5_44 : mm_E 5 44 ls (.int y :: .int x :: st) I r Q ↔ mm_E 5 45 ls (.int (x + y) :: st) I r Q := me_iadd mc_5 dX0_addHouse_44
theorem e5_45 : mm_E 5 45 ls (.int x :: .ref a :: st) I r Q ↔ mm_S r a = (1, 0) ∧ mm_E 5 48 ls st (mm_uI I a 0 x) r Q := me_pi mc_5 dX0_addHouse_45 (by decide +kernel) (by decide +kernel)
theorem e5_48 : mm_E 5 48 [l0, l1, l2, l3, some (.int x)] st I r Q ↔ mm_E 5 50 [l0, l1, l2, l3, some (.int x)] (.int x :: st) I r Q := me_il2 mc_5 dX0_addHouse_48 rfl
theorem e5_50 : mm_E 5 50 ls [.int x] I r Q ↔ Q (some (.int x)) I r := me_ri mc_5 dX0_addHouse_50 rfl
theorem mc_6 : mm_c 6 = cX0_addHog := rfl
theorem e6_0 : mm_E 6 0 [some (.ref a), l1, l2, l3, l4] st I r Q ↔ mm_E 6 1 [some (.ref a), l1, l2, l3, l4] (.ref a :: st) I r Q := me_al mc_6 dX0_addHog_0 rfl
theorem e6_1 : mm_E 6 1 ls (.ref a :: st) I r Q ↔ mm_S r a = (1, 0) ∧ mm_E 6 4 ls (.int (mm_rd I a 1) :: st) I r Q := me_gi mc_6 dX0_addHog_1 (by decide +kernel) rfl
theorem e6_4 : mm_E 6 4 [l0, l1, l2, l3, l4] (.int x :: st) I r Q ↔ mm_c1 l3 ∧ mm_E 6 6 [l0, l1, l2, l3, some (.int x)] st I r Q := me_st (k := 4) (v := .int x) mc_6 dX0_addHog_4 rfl rfl (Nat.le_of_ble_eq_true rfl) rfl ⟨Or.inr, fun h => h.resolve_left (by decide)⟩
theorem e6_6 : mm_E 6 6 [l0, l1, l2, l3, some (.int x)] st I r Q ↔ mm_E 6 8 [l0, l1, l2, l3, some (.int x)] (.int x :: st) I r Q := me_il2 mc_6 dX0_addHog_6 rfl
theorem e6_8 : mm_E 6 8 ls st I r Q ↔ mm_E 6 9 ls (.int 5 :: st) I r Q := me_ic mc_6 dX0_addHog_8 (by decide)
theorem e6_9 : mm_E 6 9 ls (.int y :: .int x :: st) I r Q ↔ if x < y then mm_E 6 15 ls st I r Q else mm_E 6 12 ls st I r Q := me_clt mc_6 dX0_addHog_9 (by decide)
theorem e6_12 : mm_E 6 12 ls st I r Q ↔ mm_E 6 14 ls (.int (-3) :: st) I r Q := me_bi mc_6 dX0_addHog_12 (by decide)
theorem e6_14 : mm_E 6 14 ls [.int x] I r Q ↔ Q (some (.int x)) I r := me_ri mc_6 dX0_addHog_14 rfl
theorem e6_15 : mm_E 6 15 [some (.ref a), l1, l2, l3, l4] st I r Q ↔ mm_E 6 16 [some (.ref a), l1, l2, l3, l4] (.ref a :: st) I r Q := me_al mc_6 dX0_addHog_15 rfl
theorem e6_16 : mm_E 6 16 ls (.ref a :: st) I r Q ↔ mm_S r a = (1, 0) ∧ mm_E 6 19 ls (va_rf (mm_P r a 9) :: st) I r Q := me_gr mc_6 dX0_addHog_16 (by decide +kernel) rfl
theorem e6_19 : mm_E 6 19 [l0, l1, l2, l3, some (.int x)] st I r Q ↔ mm_E 6 21 [l0, l1, l2, l3, some (.int x)] (.int x :: st) I r Q := me_il2 mc_6 dX0_addHog_19 rfl
theorem e6_21 : mm_E 6 21 [l0, some (.int x), l2, l3, l4] st I r Q ↔ mm_E 6 22 [l0, some (.int x), l2, l3, l4] (.int x :: st) I r Q := me_il mc_6 dX0_addHog_21 rfl
theorem e6_22 : mm_E 6 22 ls (.int y :: .int x :: .ref a :: st) I r Q ↔ mm_ix r a 2 x ∧ mm_E 6 23 ls st (mm_uI I a x.toNatClampNeg y) r Q := me_is mc_6 dX0_addHog_22
theorem e6_23 : mm_E 6 23 [some (.ref a), l1, l2, l3, l4] st I r Q ↔ mm_E 6 24 [some (.ref a), l1, l2, l3, l4] (.ref a :: st) I r Q := me_al mc_6 dX0_addHog_23 rfl
theorem e6_24 : mm_E 6 24 ls (.ref a :: st) I r Q ↔ mm_S r a = (1, 0) ∧ mm_E 6 27 ls (va_rf (mm_P r a 10) :: st) I r Q := me_gr mc_6 dX0_addHog_24 (by decide +kernel) rfl
theorem e6_27 : mm_E 6 27 [l0, l1, l2, l3, some (.int x)] st I r Q ↔ mm_E 6 29 [l0, l1, l2, l3, some (.int x)] (.int x :: st) I r Q := me_il2 mc_6 dX0_addHog_27 rfl
theorem e6_29 : mm_E 6 29 [l0, l1, some (.int x), l3, l4] st I r Q ↔ mm_E 6 30 [l0, l1, some (.int x), l3, l4] (.int x :: st) I r Q := me_il mc_6 dX0_addHog_29 rfl
theorem e6_30 : mm_E 6 30 ls (.int y :: .int x :: .ref a :: st) I r Q ↔ mm_ix r a 2 x ∧ mm_E 6 31 ls st (mm_uI I a x.toNatClampNeg y) r Q := me_is mc_6 dX0_addHog_30
theorem e6_31 : mm_E 6 31 [some (.ref a), l1, l2, l3, l4] st I r Q ↔ mm_E 6 32 [some (.ref a), l1, l2, l3, l4] (.ref a :: st) I r Q := me_al mc_6 dX0_addHog_31 rfl
theorem e6_32 : mm_E 6 32 ls (.ref a :: st) I r Q ↔ mm_S r a = (1, 0) ∧ mm_E 6 35 ls (va_rf (mm_P r a 11) :: st) I r Q := me_gr mc_6 dX0_addHog_32 (by decide +kernel) rfl
theorem e6_35 : mm_E 6 35 [l0, l1, l2, l3, some (.int x)] st I r Q ↔ mm_E 6 37 [l0, l1, l2, l3, some (.int x)] (.int x :: st) I r Q := me_il2 mc_6 dX0_addHog_35 rfl
theorem e6_37 : mm_E 6 37 [l0, l1, l2, some (.int x), l4] st I r Q ↔ mm_E 6 38 [l0, l1, l2, some (.int x), l4] (.int x :: st) I r Q := me_il mc_6 dX0_addHog_37 rfl
theorem e6_38 : mm_E 6 38 ls (.int y :: .int x :: .ref a :: st) I r Q ↔ mm_ix r a 2 x ∧ mm_E 6 39 ls st (mm_uI I a x.toNatClampNeg y) r Q := me_is mc_6 dX0_addHog_38
theorem e6_39 : mm_E 6 39 [some (.ref a), l1, l2, l3, l4] st I r Q ↔ mm_E 6 40 [some (.ref a), l1, l2, l3, l4] (.ref a :: st) I r Q := me_al mc_6 dX0_addHog_39 rfl
theorem e6_40 : mm_E 6 40 [l0, l1, l2, l3, some (.int x)] st I r Q ↔ mm_E 6 42 [l0, l1, l2, l3, some (.int x)] (.int x :: st) I r Q := me_il2 mc_6 dX0_addHog_40 rfl
theorem e6_42 : mm_E 6 42 ls st I r Q ↔ mm_E 6 43 ls (.int 1 :: st) I r Q := me_ic mc_6 dX0_addHog_42 (by decide)
theorem e6_43 : mm_E 6 43 ls (.int y :: .int x :: st) I r Q ↔ mm_E 6 44 ls (.int (x + y) :: st) I r Q := me_iadd mc_6 dX0_addHog_43
theorem e6_44 : mm_E 6 44 ls (.int x :: .ref a :: st) I r Q ↔ mm_S r a = (1, 0) ∧ mm_E 6 47 ls st (mm_uI I a 1 x) r Q := me_pi mc_6 dX0_addHog_44 (by decide +kernel) (by decide +kernel)
theorem e6_47 : mm_E 6 47 [l0, l1, l2, l3, some (.int x)] st I r Q ↔ mm_E 6 49 [l0, l1, l2, l3, some (.int x)] (.int x :: st) I r Q := me_il2 mc_6 dX0_addHog_47 rfl
theorem e6_49 : mm_E 6 49 ls [.int x] I r Q ↔ Q (some (.int x)) I r := me_ri mc_6 dX0_addHog_49 rfl
theorem mc_7 : mm_c 7 = cX0_isLost := rfl
theorem e7_0 : mm_E 7 0 [some (.ref a), l1] st I r Q ↔ mm_E 7 1 [some (.ref a), l1] (.ref a :: st) I r Q := me_al mc_7 dX0_isLost_0 rfl
theorem e7_1 : mm_E 7 1 ls (.ref a :: st) I r Q ↔ mm_S r a = (1, 0) ∧ mm_E 7 4 ls (va_rf (mm_P r a 8) :: st) I r Q := me_gr mc_7 dX0_isLost_1 (by decide +kernel) rfl
theorem e7_4 : mm_E 7 4 [l0, some (.int x)] st I r Q ↔ mm_E 7 5 [l0, some (.int x)] (.int x :: st) I r Q := me_il mc_7 dX0_isLost_4 rfl
theorem e7_5 : mm_E 7 5 ls (.int x :: .ref a :: st) I r Q ↔ mm_ix r a 2 x ∧ mm_E 7 6 ls (.int (mm_rd I a x.toNatClampNeg) :: st) I r Q := me_ia mc_7 dX0_isLost_5
theorem e7_6 : mm_E 7 6 ls st I r Q ↔ mm_E 7 7 ls (.int 3 :: st) I r Q := me_ic mc_7 dX0_isLost_6 (by decide)
theorem e7_7 : mm_E 7 7 ls (.int y :: .int x :: st) I r Q ↔ if x < y then mm_E 7 14 ls st I r Q else mm_E 7 10 ls st I r Q := me_clt mc_7 dX0_isLost_7 (by decide)
theorem e7_10 : mm_E 7 10 ls st I r Q ↔ mm_E 7 11 ls (.int 1 :: st) I r Q := me_ic mc_7 dX0_isLost_10 (by decide)
theorem e7_11 : mm_E 7 11 ls st I r Q ↔ mm_E 7 15 ls st I r Q := me_goto mc_7 dX0_isLost_11 (by decide)
theorem e7_14 : mm_E 7 14 ls st I r Q ↔ mm_E 7 15 ls (.int 0 :: st) I r Q := me_ic mc_7 dX0_isLost_14 (by decide)
theorem e7_15 : mm_E 7 15 ls [.int x] I r Q ↔ (x = 0 ∨ x = 1) ∧ Q (some (.int x)) I r := me_rz mc_7 dX0_isLost_15 rfl
theorem mc_8 : mm_c 8 = cX0_isWinter := rfl
theorem e8_0 : mm_E 8 0 [some (.ref a)] st I r Q ↔ mm_E 8 1 [some (.ref a)] (.ref a :: st) I r Q := me_al mc_8 dX0_isWinter_0 rfl
theorem e8_1 : mm_E 8 1 ls (.ref a :: st) I r Q ↔ mm_S r a = (1, 0) ∧ mm_E 8 4 ls (.int (mm_rd I a 3) :: st) I r Q := me_gi mc_8 dX0_isWinter_1 (by decide +kernel) rfl
theorem e8_4 : mm_E 8 4 ls st I r Q ↔ mm_E 8 6 ls (.int 20 :: st) I r Q := me_bi mc_8 dX0_isWinter_4 (by decide)
theorem e8_6 : mm_E 8 6 ls (.int y :: .int x :: st) I r Q ↔ ¬ y = 0 ∧ mm_E 8 7 ls (.int (x - x / y * y) :: st) I r Q := me_irem mc_8 dX0_isWinter_6
theorem e8_7 : mm_E 8 7 ls st I r Q ↔ mm_E 8 9 ls (.int 15 :: st) I r Q := me_bi mc_8 dX0_isWinter_7 (by decide)
theorem e8_9 : mm_E 8 9 ls (.int y :: .int x :: st) I r Q ↔ if x < y then mm_E 8 16 ls st I r Q else mm_E 8 12 ls st I r Q := me_clt mc_8 dX0_isWinter_9 (by decide)
theorem e8_12 : mm_E 8 12 ls st I r Q ↔ mm_E 8 13 ls (.int 1 :: st) I r Q := me_ic mc_8 dX0_isWinter_12 (by decide)
theorem e8_13 : mm_E 8 13 ls st I r Q ↔ mm_E 8 17 ls st I r Q := me_goto mc_8 dX0_isWinter_13 (by decide)
theorem e8_16 : mm_E 8 16 ls st I r Q ↔ mm_E 8 17 ls (.int 0 :: st) I r Q := me_ic mc_8 dX0_isWinter_16 (by decide)
theorem e8_17 : mm_E 8 17 ls [.int x] I r Q ↔ (x = 0 ∨ x = 1) ∧ Q (some (.int x)) I r := me_rz mc_8 dX0_isWinter_17 rfl
theorem mc_9 : mm_c 9 = cX0_lostSet := rfl
theorem e9_0 : mm_E 9 0 ls st I r Q ↔ mm_E 9 1 ls (.int 0 :: st) I r Q := me_ic mc_9 dX0_lostSet_0 (by decide)
theorem e9_1 : mm_E 9 1 [l0, l1, l2] (.int x :: st) I r Q ↔ mm_c1 l0 ∧ mm_E 9 2 [l0, some (.int x), l2] st I r Q := me_st (k := 1) (v := .int x) mc_9 dX0_lostSet_1 rfl rfl (Nat.le_of_ble_eq_true rfl) rfl ⟨Or.inr, fun h => h.resolve_left (by decide)⟩
theorem e9_2 : mm_E 9 2 ls st I r Q ↔ mm_E 9 3 ls (.int 0 :: st) I r Q := me_ic mc_9 dX0_lostSet_2 (by decide)
theorem e9_3 : mm_E 9 3 [l0, l1, l2] (.int x :: st) I r Q ↔ mm_c1 l1 ∧ mm_E 9 4 [l0, l1, some (.int x)] st I r Q := me_st (k := 2) (v := .int x) mc_9 dX0_lostSet_3 rfl rfl (Nat.le_of_ble_eq_true rfl) rfl ⟨Or.inr, fun h => h.resolve_left (by decide)⟩
theorem e9_4 : mm_E 9 4 [l0, l1, some (.int x)] st I r Q ↔ mm_E 9 5 [l0, l1, some (.int x)] (.int x :: st) I r Q := me_il mc_9 dX0_lostSet_4 rfl
theorem e9_5 : mm_E 9 5 [some (.ref a), l1, l2] st I r Q ↔ mm_E 9 6 [some (.ref a), l1, l2] (.ref a :: st) I r Q := me_al mc_9 dX0_lostSet_5 rfl
theorem e9_6 : mm_E 9 6 ls (.ref a :: st) I r Q ↔ mm_S r a = (1, 0) ∧ mm_E 9 9 ls (.int (mm_rd I a 0) :: st) I r Q := me_gi mc_9 dX0_lostSet_6 (by decide +kernel) rfl
theorem e9_9 : mm_E 9 9 ls (.int y :: .int x :: st) I r Q ↔ if y ≤ x then mm_E 9 32 ls st I r Q else mm_E 9 12 ls st I r Q := me_cge mc_9 dX0_lostSet_9 (by decide)
theorem e9_12 : mm_E 9 12 [some (.ref a), l1, l2] st I r Q ↔ mm_E 9 13 [some (.ref a), l1, l2] (.ref a :: st) I r Q := me_al mc_9 dX0_lostSet_12 rfl
theorem e9_13 : mm_E 9 13 [l0, l1, some (.int x)] st I r Q ↔ mm_E 9 14 [l0, l1, some (.int x)] (.int x :: st) I r Q := me_il mc_9 dX0_lostSet_13 rfl
theorem e9_14 : ∀ (x0 : Int32), (mm_E 9 14 ls (.int x0 :: .ref a :: st) I r Q ↔ (mm_w8 st = true ∧ mm_S r a = (1, 0)) ∧ mm_E 7 0 [some (.ref a), some (.int x0)] [] I r (fun v I2 r2 => mm_E 9 17 ls (mm_pu v st) I2 r2 Q)) := fun x0 => me_vc (n := 1) (As := [.int x0]) (xs := [.int x0]) (a := a) mc_9 dX0_lostSet_14 (by decide +kernel) (by decide +kernel) rfl rfl (Nat.le_of_ble_eq_true rfl) rfl
theorem e9_17 : mm_E 9 17 ls (.int x :: st) I r Q ↔ if x = 0 then mm_E 9 26 ls st I r Q else mm_E 9 20 ls st I r Q := me_zeq mc_9 dX0_lostSet_17 (by decide)
theorem e9_20 : mm_E 9 20 [l0, some (.int x), l2] st I r Q ↔ mm_E 9 21 [l0, some (.int x), l2] (.int x :: st) I r Q := me_il mc_9 dX0_lostSet_20 rfl
theorem e9_21 : mm_E 9 21 ls st I r Q ↔ mm_E 9 22 ls (.int 1 :: st) I r Q := me_ic mc_9 dX0_lostSet_21 (by decide)
theorem e9_22 : mm_E 9 22 [l0, l1, some (.int x)] st I r Q ↔ mm_E 9 23 [l0, l1, some (.int x)] (.int x :: st) I r Q := me_il mc_9 dX0_lostSet_22 rfl
theorem e9_23 : mm_E 9 23 ls (.int y :: .int x :: st) I r Q ↔ mm_E 9 24 ls (.int (x <<< (y &&& 31)) :: st) I r Q := me_ishl mc_9 dX0_lostSet_23
theorem e9_24 : mm_E 9 24 ls (.int y :: .int x :: st) I r Q ↔ mm_E 9 25 ls (.int (x ||| y) :: st) I r Q := me_ior mc_9 dX0_lostSet_24
theorem e9_25 : mm_E 9 25 [l0, l1, l2] (.int x :: st) I r Q ↔ mm_c1 l0 ∧ mm_E 9 26 [l0, some (.int x), l2] st I r Q := me_st (k := 1) (v := .int x) mc_9 dX0_lostSet_25 rfl rfl (Nat.le_of_ble_eq_true rfl) rfl ⟨Or.inr, fun h => h.resolve_left (by decide)⟩
theorem e9_26 : mm_E 9 26 [l0, l1, some (.int x)] st I r Q ↔ mm_c1 l1 ∧ mm_E 9 29 [l0, l1, some (.int (x + 1))] st I r Q := me_st (k := 2) (v := .int (x + 1)) mc_9 dX0_lostSet_26 rfl rfl (Nat.le_of_ble_eq_true rfl) rfl ⟨Or.inr, fun h => h.resolve_left (by decide)⟩
theorem e9_29 : mm_E 9 29 ls st I r Q ↔ mm_E 9 4 ls st I r Q := me_goto mc_9 dX0_lostSet_29 (by decide)
theorem e9_32 : mm_E 9 32 [l0, some (.int x), l2] st I r Q ↔ mm_E 9 33 [l0, some (.int x), l2] (.int x :: st) I r Q := me_il mc_9 dX0_lostSet_32 rfl
theorem e9_33 : mm_E 9 33 ls [.int x] I r Q ↔ Q (some (.int x)) I r := me_ri mc_9 dX0_lostSet_33 rfl
theorem mc_10 : mm_c 10 = cX0_owedByAll := rfl
theorem e10_0 : mm_E 10 0 ls st I r Q ↔ mm_E 10 1 ls (.int 0 :: st) I r Q := me_ic mc_10 dX0_owedByAll_0 (by decide)
theorem e10_1 : mm_E 10 1 [l0, l1, l2] (.int x :: st) I r Q ↔ mm_c1 l0 ∧ mm_E 10 2 [l0, some (.int x), l2] st I r Q := me_st (k := 1) (v := .int x) mc_10 dX0_owedByAll_1 rfl rfl (Nat.le_of_ble_eq_true rfl) rfl ⟨Or.inr, fun h => h.resolve_left (by decide)⟩
theorem e10_2 : mm_E 10 2 ls st I r Q ↔ mm_E 10 3 ls (.int 0 :: st) I r Q := me_ic mc_10 dX0_owedByAll_2 (by decide)
theorem e10_3 : mm_E 10 3 [l0, l1, l2] (.int x :: st) I r Q ↔ mm_c1 l1 ∧ mm_E 10 4 [l0, l1, some (.int x)] st I r Q := me_st (k := 2) (v := .int x) mc_10 dX0_owedByAll_3 rfl rfl (Nat.le_of_ble_eq_true rfl) rfl ⟨Or.inr, fun h => h.resolve_left (by decide)⟩
theorem e10_4 : mm_E 10 4 [l0, l1, some (.int x)] st I r Q ↔ mm_E 10 5 [l0, l1, some (.int x)] (.int x :: st) I r Q := me_il mc_10 dX0_owedByAll_4 rfl
theorem e10_5 : mm_E 10 5 [some (.ref a), l1, l2] st I r Q ↔ mm_E 10 6 [some (.ref a), l1, l2] (.ref a :: st) I r Q := me_al mc_10 dX0_owedByAll_5 rfl
theorem e10_6 : mm_E 10 6 ls (.ref a :: st) I r Q ↔ mm_S r a = (1, 0) ∧ mm_E 10 9 ls (.int (mm_rd I a 0) :: st) I r Q := me_gi mc_10 dX0_owedByAll_6 (by decide +kernel) rfl
theorem e10_9 : mm_E 10 9 ls (.int y :: .int x :: st) I r Q ↔ if y ≤ x then mm_E 10 27 ls st I r Q else mm_E 10 12 ls st I r Q := me_cge mc_10 dX0_owedByAll_9 (by decide)
theorem e10_12 : mm_E 10 12 [l0, some (.int x), l2] st I r Q ↔ mm_E 10 13 [l0, some (.int x), l2] (.int x :: st) I r Q := me_il mc_10 dX0_owedByAll_12 rfl
theorem e10_13 : mm_E 10 13 [some (.ref a), l1, l2] st I r Q ↔ mm_E 10 14 [some (.ref a), l1, l2] (.ref a :: st) I r Q := me_al mc_10 dX0_owedByAll_13 rfl
theorem e10_14 : mm_E 10 14 ls (.ref a :: st) I r Q ↔ mm_S r a = (1, 0) ∧ mm_E 10 17 ls (va_rf (mm_P r a 6) :: st) I r Q := me_gr mc_10 dX0_owedByAll_14 (by decide +kernel) rfl
theorem e10_17 : mm_E 10 17 [l0, l1, some (.int x)] st I r Q ↔ mm_E 10 18 [l0, l1, some (.int x)] (.int x :: st) I r Q := me_il mc_10 dX0_owedByAll_17 rfl
theorem e10_18 : mm_E 10 18 ls (.int x :: .ref a :: st) I r Q ↔ mm_ix r a 2 x ∧ mm_E 10 19 ls (.int (mm_rd I a x.toNatClampNeg) :: st) I r Q := me_ia mc_10 dX0_owedByAll_18
theorem e10_19 : mm_E 10 19 ls (.int y :: .int x :: st) I r Q ↔ mm_E 10 20 ls (.int (x + y) :: st) I r Q := me_iadd mc_10 dX0_owedByAll_19
theorem e10_20 : mm_E 10 20 [l0, l1, l2] (.int x :: st) I r Q ↔ mm_c1 l0 ∧ mm_E 10 21 [l0, some (.int x), l2] st I r Q := me_st (k := 1) (v := .int x) mc_10 dX0_owedByAll_20 rfl rfl (Nat.le_of_ble_eq_true rfl) rfl ⟨Or.inr, fun h => h.resolve_left (by decide)⟩
theorem e10_21 : mm_E 10 21 [l0, l1, some (.int x)] st I r Q ↔ mm_c1 l1 ∧ mm_E 10 24 [l0, l1, some (.int (x + 1))] st I r Q := me_st (k := 2) (v := .int (x + 1)) mc_10 dX0_owedByAll_21 rfl rfl (Nat.le_of_ble_eq_true rfl) rfl ⟨Or.inr, fun h => h.resolve_left (by decide)⟩
theorem e10_24 : mm_E 10 24 ls st I r Q ↔ mm_E 10 4 ls st I r Q := me_goto mc_10 dX0_owedByAll_24 (by decide)
theorem e10_27 : mm_E 10 27 [l0, some (.int x), l2] st I r Q ↔ mm_E 10 28 [l0, some (.int x), l2] (.int x :: st) I r Q := me_il mc_10 dX0_owedByAll_27 rfl
theorem e10_28 : mm_E 10 28 ls [.int x] I r Q ↔ Q (some (.int x)) I r := me_ri mc_10 dX0_owedByAll_28 rfl
theorem mc_11 : mm_c 11 = cX0_guests := rfl
theorem e11_0 : mm_E 11 0 ls st I r Q ↔ mm_E 11 1 ls (.int 0 :: st) I r Q := me_ic mc_11 dX0_guests_0 (by decide)
theorem e11_1 : mm_E 11 1 [l0, l1, l2, l3] (.int x :: st) I r Q ↔ mm_c1 l1 ∧ mm_E 11 2 [l0, l1, some (.int x), l3] st I r Q := me_st (k := 2) (v := .int x) mc_11 dX0_guests_1 rfl rfl (Nat.le_of_ble_eq_true rfl) rfl ⟨Or.inr, fun h => h.resolve_left (by decide)⟩
theorem e11_2 : mm_E 11 2 ls st I r Q ↔ mm_E 11 3 ls (.int 0 :: st) I r Q := me_ic mc_11 dX0_guests_2 (by decide)
theorem e11_3 : mm_E 11 3 [l0, l1, l2, l3] (.int x :: st) I r Q ↔ mm_c1 l2 ∧ mm_E 11 4 [l0, l1, l2, some (.int x)] st I r Q := me_st (k := 3) (v := .int x) mc_11 dX0_guests_3 rfl rfl (Nat.le_of_ble_eq_true rfl) rfl ⟨Or.inr, fun h => h.resolve_left (by decide)⟩
theorem e11_4 : mm_E 11 4 [l0, l1, l2, some (.int x)] st I r Q ↔ mm_E 11 5 [l0, l1, l2, some (.int x)] (.int x :: st) I r Q := me_il mc_11 dX0_guests_4 rfl
theorem e11_5 : mm_E 11 5 [some (.ref a), l1, l2, l3] st I r Q ↔ mm_E 11 6 [some (.ref a), l1, l2, l3] (.ref a :: st) I r Q := me_al mc_11 dX0_guests_5 rfl
theorem e11_6 : mm_E 11 6 ls (.ref a :: st) I r Q ↔ mm_S r a = (1, 0) ∧ mm_E 11 9 ls (.int (mm_rd I a 1) :: st) I r Q := me_gi mc_11 dX0_guests_6 (by decide +kernel) rfl
theorem e11_9 : mm_E 11 9 ls (.int y :: .int x :: st) I r Q ↔ if y ≤ x then mm_E 11 34 ls st I r Q else mm_E 11 12 ls st I r Q := me_cge mc_11 dX0_guests_9 (by decide)
theorem e11_12 : mm_E 11 12 [some (.ref a), l1, l2, l3] st I r Q ↔ mm_E 11 13 [some (.ref a), l1, l2, l3] (.ref a :: st) I r Q := me_al mc_11 dX0_guests_12 rfl
theorem e11_13 : mm_E 11 13 ls (.ref a :: st) I r Q ↔ mm_S r a = (1, 0) ∧ mm_E 11 16 ls (va_rf (mm_P r a 11) :: st) I r Q := me_gr mc_11 dX0_guests_13 (by decide +kernel) rfl
theorem e11_16 : mm_E 11 16 [l0, l1, l2, some (.int x)] st I r Q ↔ mm_E 11 17 [l0, l1, l2, some (.int x)] (.int x :: st) I r Q := me_il mc_11 dX0_guests_16 rfl
theorem e11_17 : mm_E 11 17 ls (.int x :: .ref a :: st) I r Q ↔ mm_ix r a 2 x ∧ mm_E 11 18 ls (.int (mm_rd I a x.toNatClampNeg) :: st) I r Q := me_ia mc_11 dX0_guests_17
theorem e11_18 : mm_E 11 18 [l0, some (.int x), l2, l3] st I r Q ↔ mm_E 11 19 [l0, some (.int x), l2, l3] (.int x :: st) I r Q := me_il mc_11 dX0_guests_18 rfl
theorem e11_19 : mm_E 11 19 ls (.int y :: .int x :: st) I r Q ↔ if ¬ x = y then mm_E 11 28 ls st I r Q else mm_E 11 22 ls st I r Q := me_cne mc_11 dX0_guests_19 (by decide)
theorem e11_22 : mm_E 11 22 [l0, l1, some (.int x), l3] st I r Q ↔ mm_E 11 23 [l0, l1, some (.int x), l3] (.int x :: st) I r Q := me_il mc_11 dX0_guests_22 rfl
theorem e11_23 : mm_E 11 23 ls st I r Q ↔ mm_E 11 24 ls (.int 1 :: st) I r Q := me_ic mc_11 dX0_guests_23 (by decide)
theorem e11_24 : mm_E 11 24 [l0, l1, l2, some (.int x)] st I r Q ↔ mm_E 11 25 [l0, l1, l2, some (.int x)] (.int x :: st) I r Q := me_il mc_11 dX0_guests_24 rfl
theorem e11_25 : mm_E 11 25 ls (.int y :: .int x :: st) I r Q ↔ mm_E 11 26 ls (.int (x <<< (y &&& 31)) :: st) I r Q := me_ishl mc_11 dX0_guests_25
theorem e11_26 : mm_E 11 26 ls (.int y :: .int x :: st) I r Q ↔ mm_E 11 27 ls (.int (x ||| y) :: st) I r Q := me_ior mc_11 dX0_guests_26
theorem e11_27 : mm_E 11 27 [l0, l1, l2, l3] (.int x :: st) I r Q ↔ mm_c1 l1 ∧ mm_E 11 28 [l0, l1, some (.int x), l3] st I r Q := me_st (k := 2) (v := .int x) mc_11 dX0_guests_27 rfl rfl (Nat.le_of_ble_eq_true rfl) rfl ⟨Or.inr, fun h => h.resolve_left (by decide)⟩
theorem e11_28 : mm_E 11 28 [l0, l1, l2, some (.int x)] st I r Q ↔ mm_c1 l2 ∧ mm_E 11 31 [l0, l1, l2, some (.int (x + 1))] st I r Q := me_st (k := 3) (v := .int (x + 1)) mc_11 dX0_guests_28 rfl rfl (Nat.le_of_ble_eq_true rfl) rfl ⟨Or.inr, fun h => h.resolve_left (by decide)⟩
theorem e11_31 : mm_E 11 31 ls st I r Q ↔ mm_E 11 4 ls st I r Q := me_goto mc_11 dX0_guests_31 (by decide)
theorem e11_34 : mm_E 11 34 [l0, l1, some (.int x), l3] st I r Q ↔ mm_E 11 35 [l0, l1, some (.int x), l3] (.int x :: st) I r Q := me_il mc_11 dX0_guests_34 rfl
theorem e11_35 : mm_E 11 35 ls [.int x] I r Q ↔ Q (some (.int x)) I r := me_ri mc_11 dX0_guests_35 rfl
theorem mc_12 : mm_c 12 = cX0_appetite := rfl
theorem e12_0 : mm_E 12 0 [some (.ref a), l1] st I r Q ↔ mm_E 12 1 [some (.ref a), l1] (.ref a :: st) I r Q := me_al mc_12 dX0_appetite_0 rfl
theorem e12_1 : mm_E 12 1 ls (.ref a :: st) I r Q ↔ mm_S r a = (1, 0) ∧ mm_E 12 4 ls (va_rf (mm_P r a 9) :: st) I r Q := me_gr mc_12 dX0_appetite_1 (by decide +kernel) rfl
theorem e12_4 : mm_E 12 4 [l0, some (.int x)] st I r Q ↔ mm_E 12 5 [l0, some (.int x)] (.int x :: st) I r Q := me_il mc_12 dX0_appetite_4 rfl
theorem e12_5 : mm_E 12 5 ls (.int x :: .ref a :: st) I r Q ↔ mm_ix r a 2 x ∧ mm_E 12 6 ls (.int (mm_rd I a x.toNatClampNeg) :: st) I r Q := me_ia mc_12 dX0_appetite_5
theorem e12_6 : mm_E 12 6 ls (.int x :: st) I r Q ↔ if x = 3 then mm_E 12 32 ls st I r Q else if x = 4 then mm_E 12 41 ls st I r Q else mm_E 12 50 ls st I r Q := by
  by_cases h0 : x = 3
  · subst h0
    simp only [if_true, if_pos]
    exact me_sw (off := 26) mc_12 dX0_appetite_6 rfl rfl (by decide)
  by_cases h1 : x = 4
  · subst h1
    simp only [if_true, if_pos]
    exact me_sw (off := 35) mc_12 dX0_appetite_6 rfl rfl (by decide)
  simp only [if_neg h0, if_neg h1]
  have g0 : x.toInt ≠ 3 := fun q => h0 (Int32.toInt_inj.mp q)
  have g1 : x.toInt ≠ 4 := fun q => h1 (Int32.toInt_inj.mp q)
  exact me_sw (off := 44) mc_12 dX0_appetite_6 rfl (by simp only [mm_act, mm_i1]; rw [if_pos (by decide)]; congr 1; simp [Op.lookupswitch.offset, g0, Ne.symm g0, g1, Ne.symm g1]) (by decide)
theorem e12_32 : mm_E 12 32 ls st I r Q ↔ mm_E 12 33 ls (.int 2 :: st) I r Q := me_ic mc_12 dX0_appetite_32 (by decide)
theorem e12_33 : mm_E 12 33 [some (.ref a), l1] st I r Q ↔ mm_E 12 34 [some (.ref a), l1] (.ref a :: st) I r Q := me_al mc_12 dX0_appetite_33 rfl
theorem e12_34 : mm_E 12 34 ls (.ref a :: st) I r Q ↔ mm_S r a = (1, 0) ∧ mm_E 12 37 ls (va_rf (mm_P r a 10) :: st) I r Q := me_gr mc_12 dX0_appetite_34 (by decide +kernel) rfl
theorem e12_37 : mm_E 12 37 [l0, some (.int x)] st I r Q ↔ mm_E 12 38 [l0, some (.int x)] (.int x :: st) I r Q := me_il mc_12 dX0_appetite_37 rfl
theorem e12_38 : mm_E 12 38 ls (.int x :: .ref a :: st) I r Q ↔ mm_ix r a 2 x ∧ mm_E 12 39 ls (.int (mm_rd I a x.toNatClampNeg) :: st) I r Q := me_ia mc_12 dX0_appetite_38
theorem e12_39 : mm_E 12 39 ls (.int y :: .int x :: st) I r Q ↔ mm_E 12 40 ls (.int (x * y) :: st) I r Q := me_imul mc_12 dX0_appetite_39
theorem e12_40 : mm_E 12 40 ls [.int x] I r Q ↔ Q (some (.int x)) I r := me_ri mc_12 dX0_appetite_40 rfl
theorem e12_41 : mm_E 12 41 [some (.ref a), l1] st I r Q ↔ mm_E 12 42 [some (.ref a), l1] (.ref a :: st) I r Q := me_al mc_12 dX0_appetite_41 rfl
theorem e12_42 : mm_E 12 42 ls (.ref a :: st) I r Q ↔ mm_S r a = (1, 0) ∧ mm_E 12 45 ls (va_rf (mm_P r a 10) :: st) I r Q := me_gr mc_12 dX0_appetite_42 (by decide +kernel) rfl
theorem e12_45 : mm_E 12 45 [l0, some (.int x)] st I r Q ↔ mm_E 12 46 [l0, some (.int x)] (.int x :: st) I r Q := me_il mc_12 dX0_appetite_45 rfl
theorem e12_46 : mm_E 12 46 ls (.int x :: .ref a :: st) I r Q ↔ mm_ix r a 2 x ∧ mm_E 12 47 ls (.int (mm_rd I a x.toNatClampNeg) :: st) I r Q := me_ia mc_12 dX0_appetite_46
theorem e12_47 : mm_E 12 47 ls st I r Q ↔ mm_E 12 48 ls (.int 2 :: st) I r Q := me_ic mc_12 dX0_appetite_47 (by decide)
theorem e12_48 : mm_E 12 48 ls (.int y :: .int x :: st) I r Q ↔ ¬ y = 0 ∧ mm_E 12 49 ls (.int (x / y) :: st) I r Q := me_idiv mc_12 dX0_appetite_48
theorem e12_49 : mm_E 12 49 ls [.int x] I r Q ↔ Q (some (.int x)) I r := me_ri mc_12 dX0_appetite_49 rfl
theorem e12_50 : mm_E 12 50 [some (.ref a), l1] st I r Q ↔ mm_E 12 51 [some (.ref a), l1] (.ref a :: st) I r Q := me_al mc_12 dX0_appetite_50 rfl
theorem e12_51 : mm_E 12 51 ls (.ref a :: st) I r Q ↔ mm_S r a = (1, 0) ∧ mm_E 12 54 ls (va_rf (mm_P r a 10) :: st) I r Q := me_gr mc_12 dX0_appetite_51 (by decide +kernel) rfl
theorem e12_54 : mm_E 12 54 [l0, some (.int x)] st I r Q ↔ mm_E 12 55 [l0, some (.int x)] (.int x :: st) I r Q := me_il mc_12 dX0_appetite_54 rfl
theorem e12_55 : mm_E 12 55 ls (.int x :: .ref a :: st) I r Q ↔ mm_ix r a 2 x ∧ mm_E 12 56 ls (.int (mm_rd I a x.toNatClampNeg) :: st) I r Q := me_ia mc_12 dX0_appetite_55
theorem e12_56 : mm_E 12 56 ls [.int x] I r Q ↔ Q (some (.int x)) I r := me_ri mc_12 dX0_appetite_56 rfl
theorem mc_13 : mm_c 13 = cX0_takeOff := rfl
theorem e13_0 : mm_E 13 0 [some (.ref a), l1, l2] st I r Q ↔ mm_E 13 1 [some (.ref a), l1, l2] (.ref a :: st) I r Q := me_al mc_13 dX0_takeOff_0 rfl
theorem e13_1 : mm_E 13 1 ls (.ref a :: st) I r Q ↔ mm_S r a = (1, 0) ∧ mm_E 13 4 ls (va_rf (mm_P r a 6) :: st) I r Q := me_gr mc_13 dX0_takeOff_1 (by decide +kernel) rfl
theorem e13_4 : mm_E 13 4 [l0, some (.int x), l2] st I r Q ↔ mm_E 13 5 [l0, some (.int x), l2] (.int x :: st) I r Q := me_il mc_13 dX0_takeOff_4 rfl
theorem e13_5 : mm_E 13 5 [some (.ref a), l1, l2] st I r Q ↔ mm_E 13 6 [some (.ref a), l1, l2] (.ref a :: st) I r Q := me_al mc_13 dX0_takeOff_5 rfl
theorem e13_6 : mm_E 13 6 ls (.ref a :: st) I r Q ↔ mm_S r a = (1, 0) ∧ mm_E 13 9 ls (va_rf (mm_P r a 6) :: st) I r Q := me_gr mc_13 dX0_takeOff_6 (by decide +kernel) rfl
theorem e13_9 : mm_E 13 9 [l0, some (.int x), l2] st I r Q ↔ mm_E 13 10 [l0, some (.int x), l2] (.int x :: st) I r Q := me_il mc_13 dX0_takeOff_9 rfl
theorem e13_10 : mm_E 13 10 ls (.int x :: .ref a :: st) I r Q ↔ mm_ix r a 2 x ∧ mm_E 13 11 ls (.int (mm_rd I a x.toNatClampNeg) :: st) I r Q := me_ia mc_13 dX0_takeOff_10
theorem e13_11 : mm_E 13 11 [l0, l1, some (.int x)] st I r Q ↔ mm_E 13 12 [l0, l1, some (.int x)] (.int x :: st) I r Q := me_il mc_13 dX0_takeOff_11 rfl
theorem e13_12 : mm_E 13 12 ls (.int y :: .int x :: st) I r Q ↔ if x ≤ y then mm_E 13 26 ls st I r Q else mm_E 13 15 ls st I r Q := me_cle mc_13 dX0_takeOff_12 (by decide)
theorem e13_15 : mm_E 13 15 [some (.ref a), l1, l2] st I r Q ↔ mm_E 13 16 [some (.ref a), l1, l2] (.ref a :: st) I r Q := me_al mc_13 dX0_takeOff_15 rfl
theorem e13_16 : mm_E 13 16 ls (.ref a :: st) I r Q ↔ mm_S r a = (1, 0) ∧ mm_E 13 19 ls (va_rf (mm_P r a 6) :: st) I r Q := me_gr mc_13 dX0_takeOff_16 (by decide +kernel) rfl
theorem e13_19 : mm_E 13 19 [l0, some (.int x), l2] st I r Q ↔ mm_E 13 20 [l0, some (.int x), l2] (.int x :: st) I r Q := me_il mc_13 dX0_takeOff_19 rfl
theorem e13_20 : mm_E 13 20 ls (.int x :: .ref a :: st) I r Q ↔ mm_ix r a 2 x ∧ mm_E 13 21 ls (.int (mm_rd I a x.toNatClampNeg) :: st) I r Q := me_ia mc_13 dX0_takeOff_20
theorem e13_21 : mm_E 13 21 [l0, l1, some (.int x)] st I r Q ↔ mm_E 13 22 [l0, l1, some (.int x)] (.int x :: st) I r Q := me_il mc_13 dX0_takeOff_21 rfl
theorem e13_22 : mm_E 13 22 ls (.int y :: .int x :: st) I r Q ↔ mm_E 13 23 ls (.int (x - y) :: st) I r Q := me_isub mc_13 dX0_takeOff_22
theorem e13_23 : mm_E 13 23 ls st I r Q ↔ mm_E 13 27 ls st I r Q := me_goto mc_13 dX0_takeOff_23 (by decide)
theorem e13_26 : mm_E 13 26 ls st I r Q ↔ mm_E 13 27 ls (.int 0 :: st) I r Q := me_ic mc_13 dX0_takeOff_26 (by decide)
theorem e13_27 : mm_E 13 27 ls (.int y :: .int x :: .ref a :: st) I r Q ↔ mm_ix r a 2 x ∧ mm_E 13 28 ls st (mm_uI I a x.toNatClampNeg y) r Q := me_is mc_13 dX0_takeOff_27
theorem e13_28 : mm_E 13 28 ls [] I r Q ↔ Q none I r := me_rv mc_13 dX0_takeOff_28 rfl
theorem mc_14 : mm_c 14 = cX0_drawSaucer := rfl
theorem e14_0 : mm_E 14 0 [some (.ref a)] st I r Q ↔ mm_E 14 1 [some (.ref a)] (.ref a :: st) I r Q := me_al mc_14 dX0_drawSaucer_0 rfl
theorem e14_1 : mm_E 14 1 [some (.ref a)] st I r Q ↔ mm_E 14 2 [some (.ref a)] (.ref a :: st) I r Q := me_al mc_14 dX0_drawSaucer_1 rfl
theorem e14_2 : mm_E 14 2 ls (.ref a :: st) I r Q ↔ mm_S r a = (1, 0) ∧ mm_E 14 5 ls (.int (mm_rd I a 5) :: st) I r Q := me_gi mc_14 dX0_drawSaucer_2 (by decide +kernel) rfl
theorem e14_5 : mm_E 14 5 ls (.int x :: st) I r Q ↔ mm_E 14 6 ls (.long x.toInt64 :: st) I r Q := me_i2l mc_14 dX0_drawSaucer_5
theorem e14_6 : mm_E 14 6 ls st I r Q ↔ mm_E 14 9 ls (.long 1103515245 :: st) I r Q := me_ldc2 mc_14 dX0_drawSaucer_6 (by decide +kernel)
theorem e14_9 : mm_E 14 9 ls (.long w :: .long z :: st) I r Q ↔ mm_E 14 10 ls (.long (z * w) :: st) I r Q := me_lmul mc_14 dX0_drawSaucer_9
theorem e14_10 : mm_E 14 10 ls st I r Q ↔ mm_E 14 13 ls (.long 12345 :: st) I r Q := me_ldc2 mc_14 dX0_drawSaucer_10 (by decide +kernel)
theorem e14_13 : mm_E 14 13 ls (.long w :: .long z :: st) I r Q ↔ mm_E 14 14 ls (.long (z + w) :: st) I r Q := me_ladd mc_14 dX0_drawSaucer_13
theorem e14_14 : mm_E 14 14 ls st I r Q ↔ mm_E 14 17 ls (.long 2147483647 :: st) I r Q := me_ldc2 mc_14 dX0_drawSaucer_14 (by decide +kernel)
theorem e14_17 : mm_E 14 17 ls (.long w :: .long z :: st) I r Q ↔ mm_E 14 18 ls (.long (z &&& w) :: st) I r Q := me_land mc_14 dX0_drawSaucer_17
theorem e14_18 : mm_E 14 18 ls (.long z :: st) I r Q ↔ mm_E 14 19 ls (.int z.toInt32 :: st) I r Q := me_l2i mc_14 dX0_drawSaucer_18
theorem e14_19 : mm_E 14 19 ls (.int x :: .ref a :: st) I r Q ↔ mm_S r a = (1, 0) ∧ mm_E 14 22 ls st (mm_uI I a 5 x) r Q := me_pi mc_14 dX0_drawSaucer_19 (by decide +kernel) (by decide +kernel)
theorem e14_22 : mm_E 14 22 [some (.ref a)] st I r Q ↔ mm_E 14 23 [some (.ref a)] (.ref a :: st) I r Q := me_al mc_14 dX0_drawSaucer_22 rfl
theorem e14_23 : mm_E 14 23 ls (.ref a :: st) I r Q ↔ mm_S r a = (1, 0) ∧ mm_E 14 26 ls (.int (mm_rd I a 0) :: st) I r Q := me_gi mc_14 dX0_drawSaucer_23 (by decide +kernel) rfl
theorem e14_26 : mm_E 14 26 ls (.int x :: st) I r Q ↔ if x ≤ 0 then mm_E 14 57 ls st I r Q else mm_E 14 29 ls st I r Q := me_zle mc_14 dX0_drawSaucer_26 (by decide)
theorem e14_29 : mm_E 14 29 [some (.ref a)] st I r Q ↔ mm_E 14 30 [some (.ref a)] (.ref a :: st) I r Q := me_al mc_14 dX0_drawSaucer_29 rfl
theorem e14_30 : mm_E 14 30 ls (.ref a :: st) I r Q ↔ mm_S r a = (1, 0) ∧ mm_E 14 33 ls (va_rf (mm_P r a 7) :: st) I r Q := me_gr mc_14 dX0_drawSaucer_30 (by decide +kernel) rfl
theorem e14_33 : mm_E 14 33 [some (.ref a)] st I r Q ↔ mm_E 14 34 [some (.ref a)] (.ref a :: st) I r Q := me_al mc_14 dX0_drawSaucer_33 rfl
theorem e14_34 : mm_E 14 34 ls (.ref a :: st) I r Q ↔ mm_S r a = (1, 0) ∧ mm_E 14 37 ls (.int (mm_rd I a 5) :: st) I r Q := me_gi mc_14 dX0_drawSaucer_34 (by decide +kernel) rfl
theorem e14_37 : mm_E 14 37 ls st I r Q ↔ mm_E 14 39 ls (.int 65536 :: st) I r Q := me_ldc mc_14 dX0_drawSaucer_37 (by decide +kernel)
theorem e14_39 : mm_E 14 39 ls (.int y :: .int x :: st) I r Q ↔ ¬ y = 0 ∧ mm_E 14 40 ls (.int (x / y) :: st) I r Q := me_idiv mc_14 dX0_drawSaucer_39
theorem e14_40 : mm_E 14 40 [some (.ref a)] st I r Q ↔ mm_E 14 41 [some (.ref a)] (.ref a :: st) I r Q := me_al mc_14 dX0_drawSaucer_40 rfl
theorem e14_41 : mm_E 14 41 ls (.ref a :: st) I r Q ↔ mm_S r a = (1, 0) ∧ mm_E 14 44 ls (.int (mm_rd I a 0) :: st) I r Q := me_gi mc_14 dX0_drawSaucer_41 (by decide +kernel) rfl
theorem e14_44 : mm_E 14 44 ls (.int y :: .int x :: st) I r Q ↔ ¬ y = 0 ∧ mm_E 14 45 ls (.int (x - x / y * y) :: st) I r Q := me_irem mc_14 dX0_drawSaucer_44
theorem e14_45 : mm_E 14 45 [some (.ref a)] st I r Q ↔ mm_E 14 46 [some (.ref a)] (.ref a :: st) I r Q := me_al mc_14 dX0_drawSaucer_45 rfl
theorem e14_46 : mm_E 14 46 ls (.ref a :: st) I r Q ↔ mm_S r a = (1, 0) ∧ mm_E 14 49 ls (.int (mm_rd I a 5) :: st) I r Q := me_gi mc_14 dX0_drawSaucer_46 (by decide +kernel) rfl
theorem e14_49 : mm_E 14 49 ls st I r Q ↔ mm_E 14 52 ls (.int 128 :: st) I r Q := me_si mc_14 dX0_drawSaucer_49 (by decide)
theorem e14_52 : mm_E 14 52 ls (.int y :: .int x :: st) I r Q ↔ ¬ y = 0 ∧ mm_E 14 53 ls (.int (x / y) :: st) I r Q := me_idiv mc_14 dX0_drawSaucer_52
theorem e14_53 : mm_E 14 53 ls st I r Q ↔ mm_E 14 55 ls (.int 21 :: st) I r Q := me_bi mc_14 dX0_drawSaucer_53 (by decide)
theorem e14_55 : mm_E 14 55 ls (.int y :: .int x :: st) I r Q ↔ ¬ y = 0 ∧ mm_E 14 56 ls (.int (x - x / y * y) :: st) I r Q := me_irem mc_14 dX0_drawSaucer_55
theorem e14_56 : mm_E 14 56 ls (.int y :: .int x :: .ref a :: st) I r Q ↔ mm_ix r a 2 x ∧ mm_E 14 57 ls st (mm_uI I a x.toNatClampNeg y) r Q := me_is mc_14 dX0_drawSaucer_56
theorem e14_57 : mm_E 14 57 ls [] I r Q ↔ Q none I r := me_rv mc_14 dX0_drawSaucer_57 rfl
theorem mc_15 : mm_c 15 = cX0_passNights := rfl
theorem e15_0 : mm_E 15 0 ls st I r Q ↔ mm_E 15 1 ls (.int 0 :: st) I r Q := me_ic mc_15 dX0_passNights_0 (by decide)
theorem e15_1 : mm_E 15 1 [l0, l1, l2] (.int x :: st) I r Q ↔ mm_c1 l1 ∧ mm_E 15 2 [l0, l1, some (.int x)] st I r Q := me_st (k := 2) (v := .int x) mc_15 dX0_passNights_1 rfl rfl (Nat.le_of_ble_eq_true rfl) rfl ⟨Or.inr, fun h => h.resolve_left (by decide)⟩
theorem e15_2 : mm_E 15 2 [l0, l1, some (.int x)] st I r Q ↔ mm_E 15 3 [l0, l1, some (.int x)] (.int x :: st) I r Q := me_il mc_15 dX0_passNights_2 rfl
theorem e15_3 : mm_E 15 3 [l0, some (.int x), l2] st I r Q ↔ mm_E 15 4 [l0, some (.int x), l2] (.int x :: st) I r Q := me_il mc_15 dX0_passNights_3 rfl
theorem e15_4 : mm_E 15 4 ls (.int y :: .int x :: st) I r Q ↔ if y ≤ x then mm_E 15 18 ls st I r Q else mm_E 15 7 ls st I r Q := me_cge mc_15 dX0_passNights_4 (by decide)
theorem e15_7 : mm_E 15 7 [some (.ref a), l1, l2] st I r Q ↔ mm_E 15 8 [some (.ref a), l1, l2] (.ref a :: st) I r Q := me_al mc_15 dX0_passNights_7 rfl
theorem e15_8 : mm_E 15 8 ls st I r Q ↔ mm_E 15 9 ls (.int 0 :: st) I r Q := me_ic mc_15 dX0_passNights_8 (by decide)
theorem e15_9 : ∀ (x0 : Int32), (mm_E 15 9 ls (.int x0 :: .ref a :: st) I r Q ↔ (mm_w8 st = true ∧ mm_S r a = (1, 0)) ∧ mm_E 16 0 [some (.ref a), some (.int x0), none, none] [] I r (fun v I2 r2 => mm_E 15 12 ls (mm_pu v st) I2 r2 Q)) := fun x0 => me_vc (n := 1) (As := [.int x0]) (xs := [.int x0]) (a := a) mc_15 dX0_passNights_9 (by decide +kernel) (by decide +kernel) rfl rfl (Nat.le_of_ble_eq_true rfl) rfl
theorem e15_12 : mm_E 15 12 [l0, l1, some (.int x)] st I r Q ↔ mm_c1 l1 ∧ mm_E 15 15 [l0, l1, some (.int (x + 1))] st I r Q := me_st (k := 2) (v := .int (x + 1)) mc_15 dX0_passNights_12 rfl rfl (Nat.le_of_ble_eq_true rfl) rfl ⟨Or.inr, fun h => h.resolve_left (by decide)⟩
theorem e15_15 : mm_E 15 15 ls st I r Q ↔ mm_E 15 2 ls st I r Q := me_goto mc_15 dX0_passNights_15 (by decide)
theorem e15_18 : mm_E 15 18 ls [] I r Q ↔ Q none I r := me_rv mc_15 dX0_passNights_18 rfl
theorem mc_16 : mm_c 16 = cX0_passNight := rfl
theorem e16_0 : mm_E 16 0 [some (.ref a), l1, l2, l3] st I r Q ↔ mm_E 16 1 [some (.ref a), l1, l2, l3] (.ref a :: st) I r Q := me_al mc_16 dX0_passNight_0 rfl
theorem e16_1 : (mm_E 16 1 ls (.ref a :: st) I r Q ↔ (mm_w8 st = true ∧ mm_S r a = (1, 0)) ∧ mm_E 8 0 [some (.ref a)] [] I r (fun v I2 r2 => mm_E 16 4 ls (mm_pu v st) I2 r2 Q)) := me_vc (n := 0) (As := []) (xs := []) (a := a) mc_16 dX0_passNight_1 (by decide +kernel) (by decide +kernel) rfl rfl (Nat.le_of_ble_eq_true rfl) rfl
theorem e16_4 : mm_E 16 4 [l0, l1, l2, l3] (.int x :: st) I r Q ↔ mm_c1 l1 ∧ mm_E 16 5 [l0, l1, some (.int x), l3] st I r Q := me_st (k := 2) (v := .int x) mc_16 dX0_passNight_4 rfl rfl (Nat.le_of_ble_eq_true rfl) rfl ⟨Or.inr, fun h => h.resolve_left (by decide)⟩
theorem e16_5 : mm_E 16 5 ls st I r Q ↔ mm_E 16 6 ls (.int 0 :: st) I r Q := me_ic mc_16 dX0_passNight_5 (by decide)
theorem e16_6 : mm_E 16 6 [l0, l1, l2, l3] (.int x :: st) I r Q ↔ mm_c1 l2 ∧ mm_E 16 7 [l0, l1, l2, some (.int x)] st I r Q := me_st (k := 3) (v := .int x) mc_16 dX0_passNight_6 rfl rfl (Nat.le_of_ble_eq_true rfl) rfl ⟨Or.inr, fun h => h.resolve_left (by decide)⟩
theorem e16_7 : mm_E 16 7 [l0, l1, l2, some (.int x)] st I r Q ↔ mm_E 16 8 [l0, l1, l2, some (.int x)] (.int x :: st) I r Q := me_il mc_16 dX0_passNight_7 rfl
theorem e16_8 : mm_E 16 8 [some (.ref a), l1, l2, l3] st I r Q ↔ mm_E 16 9 [some (.ref a), l1, l2, l3] (.ref a :: st) I r Q := me_al mc_16 dX0_passNight_8 rfl
theorem e16_9 : mm_E 16 9 ls (.ref a :: st) I r Q ↔ mm_S r a = (1, 0) ∧ mm_E 16 12 ls (.int (mm_rd I a 0) :: st) I r Q := me_gi mc_16 dX0_passNight_9 (by decide +kernel) rfl
theorem e16_12 : mm_E 16 12 ls (.int y :: .int x :: st) I r Q ↔ if y ≤ x then mm_E 16 49 ls st I r Q else mm_E 16 15 ls st I r Q := me_cge mc_16 dX0_passNight_12 (by decide)
theorem e16_15 : mm_E 16 15 [some (.ref a), l1, l2, l3] st I r Q ↔ mm_E 16 16 [some (.ref a), l1, l2, l3] (.ref a :: st) I r Q := me_al mc_16 dX0_passNight_15 rfl
theorem e16_16 : mm_E 16 16 ls (.ref a :: st) I r Q ↔ mm_S r a = (1, 0) ∧ mm_E 16 19 ls (va_rf (mm_P r a 12) :: st) I r Q := me_gr mc_16 dX0_passNight_16 (by decide +kernel) rfl
theorem e16_19 : mm_E 16 19 [l0, l1, l2, some (.int x)] st I r Q ↔ mm_E 16 20 [l0, l1, l2, some (.int x)] (.int x :: st) I r Q := me_il mc_16 dX0_passNight_19 rfl
theorem e16_20 : mm_E 16 20 [l0, l1, some (.int x), l3] st I r Q ↔ mm_E 16 21 [l0, l1, some (.int x), l3] (.int x :: st) I r Q := me_il mc_16 dX0_passNight_20 rfl
theorem e16_21 : mm_E 16 21 ls (.int x :: st) I r Q ↔ if ¬ x = 0 then mm_E 16 32 ls st I r Q else mm_E 16 24 ls st I r Q := me_zne mc_16 dX0_passNight_21 (by decide)
theorem e16_24 : mm_E 16 24 [some (.ref a), l1, l2, l3] st I r Q ↔ mm_E 16 25 [some (.ref a), l1, l2, l3] (.ref a :: st) I r Q := me_al mc_16 dX0_passNight_24 rfl
theorem e16_25 : mm_E 16 25 [l0, l1, l2, some (.int x)] st I r Q ↔ mm_E 16 26 [l0, l1, l2, some (.int x)] (.int x :: st) I r Q := me_il mc_16 dX0_passNight_25 rfl
theorem e16_26 : ∀ (x0 : Int32), (mm_E 16 26 ls (.int x0 :: .ref a :: st) I r Q ↔ (mm_w8 st = true ∧ mm_S r a = (1, 0)) ∧ mm_E 7 0 [some (.ref a), some (.int x0)] [] I r (fun v I2 r2 => mm_E 16 29 ls (mm_pu v st) I2 r2 Q)) := fun x0 => me_vc (n := 1) (As := [.int x0]) (xs := [.int x0]) (a := a) mc_16 dX0_passNight_26 (by decide +kernel) (by decide +kernel) rfl rfl (Nat.le_of_ble_eq_true rfl) rfl
theorem e16_29 : mm_E 16 29 ls (.int x :: st) I r Q ↔ if x = 0 then mm_E 16 36 ls st I r Q else mm_E 16 32 ls st I r Q := me_zeq mc_16 dX0_passNight_29 (by decide)
theorem e16_32 : mm_E 16 32 ls st I r Q ↔ mm_E 16 33 ls (.int 0 :: st) I r Q := me_ic mc_16 dX0_passNight_32 (by decide)
theorem e16_33 : mm_E 16 33 ls st I r Q ↔ mm_E 16 42 ls st I r Q := me_goto mc_16 dX0_passNight_33 (by decide)
theorem e16_36 : mm_E 16 36 [some (.ref a), l1, l2, l3] st I r Q ↔ mm_E 16 37 [some (.ref a), l1, l2, l3] (.ref a :: st) I r Q := me_al mc_16 dX0_passNight_36 rfl
theorem e16_37 : mm_E 16 37 ls (.ref a :: st) I r Q ↔ mm_S r a = (1, 0) ∧ mm_E 16 40 ls (va_rf (mm_P r a 7) :: st) I r Q := me_gr mc_16 dX0_passNight_37 (by decide +kernel) rfl
theorem e16_40 : mm_E 16 40 [l0, l1, l2, some (.int x)] st I r Q ↔ mm_E 16 41 [l0, l1, l2, some (.int x)] (.int x :: st) I r Q := me_il mc_16 dX0_passNight_40 rfl
theorem e16_41 : mm_E 16 41 ls (.int x :: .ref a :: st) I r Q ↔ mm_ix r a 2 x ∧ mm_E 16 42 ls (.int (mm_rd I a x.toNatClampNeg) :: st) I r Q := me_ia mc_16 dX0_passNight_41
theorem e16_42 : mm_E 16 42 ls (.int y :: .int x :: .ref a :: st) I r Q ↔ mm_ix r a 2 x ∧ mm_E 16 43 ls st (mm_uI I a x.toNatClampNeg y) r Q := me_is mc_16 dX0_passNight_42
theorem e16_43 : mm_E 16 43 [l0, l1, l2, some (.int x)] st I r Q ↔ mm_c1 l2 ∧ mm_E 16 46 [l0, l1, l2, some (.int (x + 1))] st I r Q := me_st (k := 3) (v := .int (x + 1)) mc_16 dX0_passNight_43 rfl rfl (Nat.le_of_ble_eq_true rfl) rfl ⟨Or.inr, fun h => h.resolve_left (by decide)⟩
theorem e16_46 : mm_E 16 46 ls st I r Q ↔ mm_E 16 7 ls st I r Q := me_goto mc_16 dX0_passNight_46 (by decide)
theorem e16_49 : mm_E 16 49 [l0, l1, some (.int x), l3] st I r Q ↔ mm_E 16 50 [l0, l1, some (.int x), l3] (.int x :: st) I r Q := me_il mc_16 dX0_passNight_49 rfl
theorem e16_50 : mm_E 16 50 ls (.int x :: st) I r Q ↔ if ¬ x = 0 then mm_E 16 86 ls st I r Q else mm_E 16 53 ls st I r Q := me_zne mc_16 dX0_passNight_50 (by decide)
theorem e16_53 : mm_E 16 53 ls st I r Q ↔ mm_E 16 54 ls (.int 0 :: st) I r Q := me_ic mc_16 dX0_passNight_53 (by decide)
theorem e16_54 : mm_E 16 54 [l0, l1, l2, l3] (.int x :: st) I r Q ↔ mm_c1 l2 ∧ mm_E 16 55 [l0, l1, l2, some (.int x)] st I r Q := me_st (k := 3) (v := .int x) mc_16 dX0_passNight_54 rfl rfl (Nat.le_of_ble_eq_true rfl) rfl ⟨Or.inr, fun h => h.resolve_left (by decide)⟩
theorem e16_55 : mm_E 16 55 [l0, l1, l2, some (.int x)] st I r Q ↔ mm_E 16 56 [l0, l1, l2, some (.int x)] (.int x :: st) I r Q := me_il mc_16 dX0_passNight_55 rfl
theorem e16_56 : mm_E 16 56 [some (.ref a), l1, l2, l3] st I r Q ↔ mm_E 16 57 [some (.ref a), l1, l2, l3] (.ref a :: st) I r Q := me_al mc_16 dX0_passNight_56 rfl
theorem e16_57 : mm_E 16 57 ls (.ref a :: st) I r Q ↔ mm_S r a = (1, 0) ∧ mm_E 16 60 ls (.int (mm_rd I a 1) :: st) I r Q := me_gi mc_16 dX0_passNight_57 (by decide +kernel) rfl
theorem e16_60 : mm_E 16 60 ls (.int y :: .int x :: st) I r Q ↔ if y ≤ x then mm_E 16 82 ls st I r Q else mm_E 16 63 ls st I r Q := me_cge mc_16 dX0_passNight_60 (by decide)
theorem e16_63 : mm_E 16 63 [l0, some (.int x), l2, l3] st I r Q ↔ mm_E 16 64 [l0, some (.int x), l2, l3] (.int x :: st) I r Q := me_il mc_16 dX0_passNight_63 rfl
theorem e16_64 : mm_E 16 64 [l0, l1, l2, some (.int x)] st I r Q ↔ mm_E 16 65 [l0, l1, l2, some (.int x)] (.int x :: st) I r Q := me_il mc_16 dX0_passNight_64 rfl
theorem e16_65 : mm_E 16 65 ls (.int y :: .int x :: st) I r Q ↔ mm_E 16 66 ls (.int (x >>> (y &&& 31)) :: st) I r Q := me_ishr mc_16 dX0_passNight_65
theorem e16_66 : mm_E 16 66 ls st I r Q ↔ mm_E 16 67 ls (.int 1 :: st) I r Q := me_ic mc_16 dX0_passNight_66 (by decide)
theorem e16_67 : mm_E 16 67 ls (.int y :: .int x :: st) I r Q ↔ mm_E 16 68 ls (.int (x &&& y) :: st) I r Q := me_iand mc_16 dX0_passNight_67
theorem e16_68 : mm_E 16 68 ls (.int x :: st) I r Q ↔ if ¬ x = 0 then mm_E 16 76 ls st I r Q else mm_E 16 71 ls st I r Q := me_zne mc_16 dX0_passNight_68 (by decide)
theorem e16_71 : mm_E 16 71 [some (.ref a), l1, l2, l3] st I r Q ↔ mm_E 16 72 [some (.ref a), l1, l2, l3] (.ref a :: st) I r Q := me_al mc_16 dX0_passNight_71 rfl
theorem e16_72 : mm_E 16 72 [l0, l1, l2, some (.int x)] st I r Q ↔ mm_E 16 73 [l0, l1, l2, some (.int x)] (.int x :: st) I r Q := me_il mc_16 dX0_passNight_72 rfl
theorem e16_73 : ∀ (x0 : Int32), (mm_E 16 73 ls (.int x0 :: .ref a :: st) I r Q ↔ (mm_w8 st = true ∧ mm_S r a = (1, 0)) ∧ mm_E 17 0 [some (.ref a), some (.int x0), none, none, none] [] I r (fun v I2 r2 => mm_E 16 76 ls (mm_pu v st) I2 r2 Q)) := fun x0 => me_vc (n := 1) (As := [.int x0]) (xs := [.int x0]) (a := a) mc_16 dX0_passNight_73 (by decide +kernel) (by decide +kernel) rfl rfl (Nat.le_of_ble_eq_true rfl) rfl
theorem e16_76 : mm_E 16 76 [l0, l1, l2, some (.int x)] st I r Q ↔ mm_c1 l2 ∧ mm_E 16 79 [l0, l1, l2, some (.int (x + 1))] st I r Q := me_st (k := 3) (v := .int (x + 1)) mc_16 dX0_passNight_76 rfl rfl (Nat.le_of_ble_eq_true rfl) rfl ⟨Or.inr, fun h => h.resolve_left (by decide)⟩
theorem e16_79 : mm_E 16 79 ls st I r Q ↔ mm_E 16 55 ls st I r Q := me_goto mc_16 dX0_passNight_79 (by decide)
theorem e16_82 : mm_E 16 82 [some (.ref a), l1, l2, l3] st I r Q ↔ mm_E 16 83 [some (.ref a), l1, l2, l3] (.ref a :: st) I r Q := me_al mc_16 dX0_passNight_82 rfl
theorem e16_83 : (mm_E 16 83 ls (.ref a :: st) I r Q ↔ (mm_w8 st = true ∧ mm_S r a = (1, 0)) ∧ mm_E 20 0 [some (.ref a), none, none] [] I r (fun v I2 r2 => mm_E 16 86 ls (mm_pu v st) I2 r2 Q)) := me_vc (n := 0) (As := []) (xs := []) (a := a) mc_16 dX0_passNight_83 (by decide +kernel) (by decide +kernel) rfl rfl (Nat.le_of_ble_eq_true rfl) rfl
theorem e16_86 : mm_E 16 86 [some (.ref a), l1, l2, l3] st I r Q ↔ mm_E 16 87 [some (.ref a), l1, l2, l3] (.ref a :: st) I r Q := me_al mc_16 dX0_passNight_86 rfl
theorem e16_87 : mm_E 16 87 ls (v :: st) I r Q ↔ v.category = 1 ∧ mm_E 16 88 ls (v :: v :: st) I r Q := me_dup mc_16 dX0_passNight_87
theorem e16_88 : mm_E 16 88 ls (.ref a :: st) I r Q ↔ mm_S r a = (1, 0) ∧ mm_E 16 91 ls (.int (mm_rd I a 3) :: st) I r Q := me_gi mc_16 dX0_passNight_88 (by decide +kernel) rfl
theorem e16_91 : mm_E 16 91 ls st I r Q ↔ mm_E 16 92 ls (.int 1 :: st) I r Q := me_ic mc_16 dX0_passNight_91 (by decide)
theorem e16_92 : mm_E 16 92 ls (.int y :: .int x :: st) I r Q ↔ mm_E 16 93 ls (.int (x + y) :: st) I r Q := me_iadd mc_16 dX0_passNight_92
theorem e16_93 : mm_E 16 93 ls (.int x :: .ref a :: st) I r Q ↔ mm_S r a = (1, 0) ∧ mm_E 16 96 ls st (mm_uI I a 3 x) r Q := me_pi mc_16 dX0_passNight_93 (by decide +kernel) (by decide +kernel)
theorem e16_96 : mm_E 16 96 ls [] I r Q ↔ Q none I r := me_rv mc_16 dX0_passNight_96 rfl
theorem mc_17 : mm_c 17 = cX0_visit := rfl
theorem e17_0 : mm_E 17 0 [some (.ref a), l1, l2, l3, l4] st I r Q ↔ mm_E 17 1 [some (.ref a), l1, l2, l3, l4] (.ref a :: st) I r Q := me_al mc_17 dX0_visit_0 rfl
theorem e17_1 : mm_E 17 1 ls (.ref a :: st) I r Q ↔ mm_S r a = (1, 0) ∧ mm_E 17 4 ls (va_rf (mm_P r a 11) :: st) I r Q := me_gr mc_17 dX0_visit_1 (by decide +kernel) rfl
theorem e17_4 : mm_E 17 4 [l0, some (.int x), l2, l3, l4] st I r Q ↔ mm_E 17 5 [l0, some (.int x), l2, l3, l4] (.int x :: st) I r Q := me_il mc_17 dX0_visit_4 rfl
theorem e17_5 : mm_E 17 5 ls (.int x :: .ref a :: st) I r Q ↔ mm_ix r a 2 x ∧ mm_E 17 6 ls (.int (mm_rd I a x.toNatClampNeg) :: st) I r Q := me_ia mc_17 dX0_visit_5
theorem e17_6 : mm_E 17 6 [l0, l1, l2, l3, l4] (.int x :: st) I r Q ↔ mm_c1 l1 ∧ mm_E 17 7 [l0, l1, some (.int x), l3, l4] st I r Q := me_st (k := 2) (v := .int x) mc_17 dX0_visit_6 rfl rfl (Nat.le_of_ble_eq_true rfl) rfl ⟨Or.inr, fun h => h.resolve_left (by decide)⟩
theorem e17_7 : mm_E 17 7 [some (.ref a), l1, l2, l3, l4] st I r Q ↔ mm_E 17 8 [some (.ref a), l1, l2, l3, l4] (.ref a :: st) I r Q := me_al mc_17 dX0_visit_7 rfl
theorem e17_8 : mm_E 17 8 [l0, l1, some (.int x), l3, l4] st I r Q ↔ mm_E 17 9 [l0, l1, some (.int x), l3, l4] (.int x :: st) I r Q := me_il mc_17 dX0_visit_8 rfl
theorem e17_9 : ∀ (x0 : Int32), (mm_E 17 9 ls (.int x0 :: .ref a :: st) I r Q ↔ (mm_w8 st = true ∧ mm_S r a = (1, 0)) ∧ mm_E 3 0 [some (.ref a), some (.int x0)] [] I r (fun v I2 r2 => mm_E 17 12 ls (mm_pu v st) I2 r2 Q)) := fun x0 => me_vc (n := 1) (As := [.int x0]) (xs := [.int x0]) (a := a) mc_17 dX0_visit_9 (by decide +kernel) (by decide +kernel) rfl rfl (Nat.le_of_ble_eq_true rfl) rfl
theorem e17_12 : mm_E 17 12 ls (.int x :: st) I r Q ↔ if ¬ x = 0 then mm_E 17 16 ls st I r Q else mm_E 17 15 ls st I r Q := me_zne mc_17 dX0_visit_12 (by decide)
theorem e17_15 : mm_E 17 15 ls [] I r Q ↔ Q none I r := me_rv mc_17 dX0_visit_15 rfl
theorem e17_16 : mm_E 17 16 [some (.ref a), l1, l2, l3, l4] st I r Q ↔ mm_E 17 17 [some (.ref a), l1, l2, l3, l4] (.ref a :: st) I r Q := me_al mc_17 dX0_visit_16 rfl
theorem e17_17 : mm_E 17 17 [l0, l1, some (.int x), l3, l4] st I r Q ↔ mm_E 17 18 [l0, l1, some (.int x), l3, l4] (.int x :: st) I r Q := me_il mc_17 dX0_visit_17 rfl
theorem e17_18 : ∀ (x0 : Int32), (mm_E 17 18 ls (.int x0 :: .ref a :: st) I r Q ↔ (mm_w8 st = true ∧ mm_S r a = (1, 0)) ∧ mm_E 7 0 [some (.ref a), some (.int x0)] [] I r (fun v I2 r2 => mm_E 17 21 ls (mm_pu v st) I2 r2 Q)) := fun x0 => me_vc (n := 1) (As := [.int x0]) (xs := [.int x0]) (a := a) mc_17 dX0_visit_18 (by decide +kernel) (by decide +kernel) rfl rfl (Nat.le_of_ble_eq_true rfl) rfl
theorem e17_21 : mm_E 17 21 ls (.int x :: st) I r Q ↔ if ¬ x = 0 then mm_E 17 37 ls st I r Q else mm_E 17 24 ls st I r Q := me_zne mc_17 dX0_visit_21 (by decide)
theorem e17_24 : mm_E 17 24 [some (.ref a), l1, l2, l3, l4] st I r Q ↔ mm_E 17 25 [some (.ref a), l1, l2, l3, l4] (.ref a :: st) I r Q := me_al mc_17 dX0_visit_24 rfl
theorem e17_25 : mm_E 17 25 [l0, some (.int x), l2, l3, l4] st I r Q ↔ mm_E 17 26 [l0, some (.int x), l2, l3, l4] (.int x :: st) I r Q := me_il mc_17 dX0_visit_25 rfl
theorem e17_26 : mm_E 17 26 [l0, l1, some (.int x), l3, l4] st I r Q ↔ mm_E 17 27 [l0, l1, some (.int x), l3, l4] (.int x :: st) I r Q := me_il mc_17 dX0_visit_26 rfl
theorem e17_27 : ∀ (x0 : Int32) (x1 : Int32), (mm_E 17 27 ls (.int x1 :: .int x0 :: .ref a :: st) I r Q ↔ (mm_w8 st = true ∧ mm_S r a = (1, 0)) ∧ mm_E 18 0 [some (.ref a), some (.int x0), some (.int x1), none, none] [] I r (fun v I2 r2 => mm_E 17 30 ls (mm_pu v st) I2 r2 Q)) := fun x0 x1 => me_vc (n := 2) (As := [.int x0, .int x1]) (xs := [.int x1, .int x0]) (a := a) mc_17 dX0_visit_27 (by decide +kernel) (by decide +kernel) rfl rfl (Nat.le_of_ble_eq_true rfl) rfl
theorem e17_30 : mm_E 17 30 ls (.int x :: st) I r Q ↔ if x = 0 then mm_E 17 37 ls st I r Q else mm_E 17 33 ls st I r Q := me_zeq mc_17 dX0_visit_30 (by decide)
theorem e17_33 : mm_E 17 33 ls st I r Q ↔ mm_E 17 34 ls (.int 1 :: st) I r Q := me_ic mc_17 dX0_visit_33 (by decide)
theorem e17_34 : mm_E 17 34 ls st I r Q ↔ mm_E 17 38 ls st I r Q := me_goto mc_17 dX0_visit_34 (by decide)
theorem e17_37 : mm_E 17 37 ls st I r Q ↔ mm_E 17 38 ls (.int 0 :: st) I r Q := me_ic mc_17 dX0_visit_37 (by decide)
theorem e17_38 : mm_E 17 38 [l0, l1, l2, l3, l4] (.int x :: st) I r Q ↔ mm_c1 l2 ∧ mm_E 17 39 [l0, l1, l2, some (.int x), l4] st I r Q := me_st (k := 3) (v := .int x) mc_17 dX0_visit_38 rfl rfl (Nat.le_of_ble_eq_true rfl) rfl ⟨Or.inr, fun h => h.resolve_left (by decide)⟩
theorem e17_39 : mm_E 17 39 [l0, l1, l2, some (.int x), l4] st I r Q ↔ mm_E 17 40 [l0, l1, l2, some (.int x), l4] (.int x :: st) I r Q := me_il mc_17 dX0_visit_39 rfl
theorem e17_40 : mm_E 17 40 ls (.int x :: st) I r Q ↔ if x = 0 then mm_E 17 67 ls st I r Q else mm_E 17 43 ls st I r Q := me_zeq mc_17 dX0_visit_40 (by decide)
theorem e17_43 : mm_E 17 43 [some (.ref a), l1, l2, l3, l4] st I r Q ↔ mm_E 17 44 [some (.ref a), l1, l2, l3, l4] (.ref a :: st) I r Q := me_al mc_17 dX0_visit_43 rfl
theorem e17_44 : mm_E 17 44 ls (.ref a :: st) I r Q ↔ mm_S r a = (1, 0) ∧ mm_E 17 47 ls (va_rf (mm_P r a 9) :: st) I r Q := me_gr mc_17 dX0_visit_44 (by decide +kernel) rfl
theorem e17_47 : mm_E 17 47 [l0, some (.int x), l2, l3, l4] st I r Q ↔ mm_E 17 48 [l0, some (.int x), l2, l3, l4] (.int x :: st) I r Q := me_il mc_17 dX0_visit_47 rfl
theorem e17_48 : mm_E 17 48 ls (.int x :: .ref a :: st) I r Q ↔ mm_ix r a 2 x ∧ mm_E 17 49 ls (.int (mm_rd I a x.toNatClampNeg) :: st) I r Q := me_ia mc_17 dX0_visit_48
theorem e17_49 : mm_E 17 49 ls st I r Q ↔ mm_E 17 50 ls (.int 1 :: st) I r Q := me_ic mc_17 dX0_visit_49 (by decide)
theorem e17_50 : mm_E 17 50 ls (.int y :: .int x :: st) I r Q ↔ if x = y then mm_E 17 63 ls st I r Q else mm_E 17 53 ls st I r Q := me_ceq mc_17 dX0_visit_50 (by decide)
theorem e17_53 : mm_E 17 53 [some (.ref a), l1, l2, l3, l4] st I r Q ↔ mm_E 17 54 [some (.ref a), l1, l2, l3, l4] (.ref a :: st) I r Q := me_al mc_17 dX0_visit_53 rfl
theorem e17_54 : mm_E 17 54 ls (.ref a :: st) I r Q ↔ mm_S r a = (1, 0) ∧ mm_E 17 57 ls (va_rf (mm_P r a 9) :: st) I r Q := me_gr mc_17 dX0_visit_54 (by decide +kernel) rfl
theorem e17_57 : mm_E 17 57 [l0, some (.int x), l2, l3, l4] st I r Q ↔ mm_E 17 58 [l0, some (.int x), l2, l3, l4] (.int x :: st) I r Q := me_il mc_17 dX0_visit_57 rfl
theorem e17_58 : mm_E 17 58 ls (.int x :: .ref a :: st) I r Q ↔ mm_ix r a 2 x ∧ mm_E 17 59 ls (.int (mm_rd I a x.toNatClampNeg) :: st) I r Q := me_ia mc_17 dX0_visit_58
theorem e17_59 : mm_E 17 59 ls st I r Q ↔ mm_E 17 60 ls (.int 3 :: st) I r Q := me_ic mc_17 dX0_visit_59 (by decide)
theorem e17_60 : mm_E 17 60 ls (.int y :: .int x :: st) I r Q ↔ if ¬ x = y then mm_E 17 67 ls st I r Q else mm_E 17 63 ls st I r Q := me_cne mc_17 dX0_visit_60 (by decide)
theorem e17_63 : mm_E 17 63 ls st I r Q ↔ mm_E 17 64 ls (.int 1 :: st) I r Q := me_ic mc_17 dX0_visit_63 (by decide)
theorem e17_64 : mm_E 17 64 ls st I r Q ↔ mm_E 17 68 ls st I r Q := me_goto mc_17 dX0_visit_64 (by decide)
theorem e17_67 : mm_E 17 67 ls st I r Q ↔ mm_E 17 68 ls (.int 0 :: st) I r Q := me_ic mc_17 dX0_visit_67 (by decide)
theorem e17_68 : mm_E 17 68 [l0, l1, l2, l3, l4] (.int x :: st) I r Q ↔ mm_c1 l3 ∧ mm_E 17 70 [l0, l1, l2, l3, some (.int x)] st I r Q := me_st (k := 4) (v := .int x) mc_17 dX0_visit_68 rfl rfl (Nat.le_of_ble_eq_true rfl) rfl ⟨Or.inr, fun h => h.resolve_left (by decide)⟩
theorem e17_70 : mm_E 17 70 [l0, l1, l2, l3, some (.int x)] st I r Q ↔ mm_E 17 72 [l0, l1, l2, l3, some (.int x)] (.int x :: st) I r Q := me_il2 mc_17 dX0_visit_70 rfl
theorem e17_72 : mm_E 17 72 ls (.int x :: st) I r Q ↔ if ¬ x = 0 then mm_E 17 87 ls st I r Q else mm_E 17 75 ls st I r Q := me_zne mc_17 dX0_visit_72 (by decide)
theorem e17_75 : mm_E 17 75 [some (.ref a), l1, l2, l3, l4] st I r Q ↔ mm_E 17 76 [some (.ref a), l1, l2, l3, l4] (.ref a :: st) I r Q := me_al mc_17 dX0_visit_75 rfl
theorem e17_76 : mm_E 17 76 ls (.ref a :: st) I r Q ↔ mm_S r a = (1, 0) ∧ mm_E 17 79 ls (va_rf (mm_P r a 11) :: st) I r Q := me_gr mc_17 dX0_visit_76 (by decide +kernel) rfl
theorem e17_79 : mm_E 17 79 [l0, some (.int x), l2, l3, l4] st I r Q ↔ mm_E 17 80 [l0, some (.int x), l2, l3, l4] (.int x :: st) I r Q := me_il mc_17 dX0_visit_79 rfl
theorem e17_80 : mm_E 17 80 [some (.ref a), l1, l2, l3, l4] st I r Q ↔ mm_E 17 81 [some (.ref a), l1, l2, l3, l4] (.ref a :: st) I r Q := me_al mc_17 dX0_visit_80 rfl
theorem e17_81 : mm_E 17 81 [l0, some (.int x), l2, l3, l4] st I r Q ↔ mm_E 17 82 [l0, some (.int x), l2, l3, l4] (.int x :: st) I r Q := me_il mc_17 dX0_visit_81 rfl
theorem e17_82 : mm_E 17 82 [l0, l1, some (.int x), l3, l4] st I r Q ↔ mm_E 17 83 [l0, l1, some (.int x), l3, l4] (.int x :: st) I r Q := me_il mc_17 dX0_visit_82 rfl
theorem e17_83 : ∀ (x0 : Int32) (x1 : Int32), (mm_E 17 83 ls (.int x1 :: .int x0 :: .ref a :: st) I r Q ↔ (mm_w8 st = true ∧ mm_S r a = (1, 0)) ∧ mm_E 19 0 [some (.ref a), some (.int x0), some (.int x1), none, none, none, none] [] I r (fun v I2 r2 => mm_E 17 86 ls (mm_pu v st) I2 r2 Q)) := fun x0 x1 => me_vc (n := 2) (As := [.int x0, .int x1]) (xs := [.int x1, .int x0]) (a := a) mc_17 dX0_visit_83 (by decide +kernel) (by decide +kernel) rfl rfl (Nat.le_of_ble_eq_true rfl) rfl
theorem e17_86 : mm_E 17 86 ls (.int y :: .int x :: .ref a :: st) I r Q ↔ mm_ix r a 2 x ∧ mm_E 17 87 ls st (mm_uI I a x.toNatClampNeg y) r Q := me_is mc_17 dX0_visit_86
theorem e17_87 : mm_E 17 87 ls [] I r Q ↔ Q none I r := me_rv mc_17 dX0_visit_87 rfl
theorem mc_18 : mm_c 18 = cX0_eat := rfl
theorem e18_0 : mm_E 18 0 [some (.ref a), l1, l2, l3, l4] st I r Q ↔ mm_E 18 1 [some (.ref a), l1, l2, l3, l4] (.ref a :: st) I r Q := me_al mc_18 dX0_eat_0 rfl
theorem e18_1 : mm_E 18 1 [l0, some (.int x), l2, l3, l4] st I r Q ↔ mm_E 18 2 [l0, some (.int x), l2, l3, l4] (.int x :: st) I r Q := me_il mc_18 dX0_eat_1 rfl
theorem e18_2 : ∀ (x0 : Int32), (mm_E 18 2 ls (.int x0 :: .ref a :: st) I r Q ↔ (mm_w8 st = true ∧ mm_S r a = (1, 0)) ∧ mm_E 12 0 [some (.ref a), some (.int x0)] [] I r (fun v I2 r2 => mm_E 18 5 ls (mm_pu v st) I2 r2 Q)) := fun x0 => me_vc (n := 1) (As := [.int x0]) (xs := [.int x0]) (a := a) mc_18 dX0_eat_2 (by decide +kernel) (by decide +kernel) rfl rfl (Nat.le_of_ble_eq_true rfl) rfl
theorem e18_5 : mm_E 18 5 [l0, l1, l2, l3, l4] (.int x :: st) I r Q ↔ mm_c1 l2 ∧ mm_E 18 6 [l0, l1, l2, some (.int x), l4] st I r Q := me_st (k := 3) (v := .int x) mc_18 dX0_eat_5 rfl rfl (Nat.le_of_ble_eq_true rfl) rfl ⟨Or.inr, fun h => h.resolve_left (by decide)⟩
theorem e18_6 : mm_E 18 6 [l0, l1, l2, some (.int x), l4] st I r Q ↔ mm_E 18 7 [l0, l1, l2, some (.int x), l4] (.int x :: st) I r Q := me_il mc_18 dX0_eat_6 rfl
theorem e18_7 : mm_E 18 7 [some (.ref a), l1, l2, l3, l4] st I r Q ↔ mm_E 18 8 [some (.ref a), l1, l2, l3, l4] (.ref a :: st) I r Q := me_al mc_18 dX0_eat_7 rfl
theorem e18_8 : mm_E 18 8 ls (.ref a :: st) I r Q ↔ mm_S r a = (1, 0) ∧ mm_E 18 11 ls (va_rf (mm_P r a 12) :: st) I r Q := me_gr mc_18 dX0_eat_8 (by decide +kernel) rfl
theorem e18_11 : mm_E 18 11 [l0, l1, some (.int x), l3, l4] st I r Q ↔ mm_E 18 12 [l0, l1, some (.int x), l3, l4] (.int x :: st) I r Q := me_il mc_18 dX0_eat_11 rfl
theorem e18_12 : mm_E 18 12 ls (.int x :: .ref a :: st) I r Q ↔ mm_ix r a 2 x ∧ mm_E 18 13 ls (.int (mm_rd I a x.toNatClampNeg) :: st) I r Q := me_ia mc_18 dX0_eat_12
theorem e18_13 : mm_E 18 13 ls (.int y :: .int x :: st) I r Q ↔ if y ≤ x then mm_E 18 20 ls st I r Q else mm_E 18 16 ls st I r Q := me_cge mc_18 dX0_eat_13 (by decide)
theorem e18_16 : mm_E 18 16 [l0, l1, l2, some (.int x), l4] st I r Q ↔ mm_E 18 17 [l0, l1, l2, some (.int x), l4] (.int x :: st) I r Q := me_il mc_18 dX0_eat_16 rfl
theorem e18_17 : mm_E 18 17 ls st I r Q ↔ mm_E 18 26 ls st I r Q := me_goto mc_18 dX0_eat_17 (by decide)
theorem e18_20 : mm_E 18 20 [some (.ref a), l1, l2, l3, l4] st I r Q ↔ mm_E 18 21 [some (.ref a), l1, l2, l3, l4] (.ref a :: st) I r Q := me_al mc_18 dX0_eat_20 rfl
theorem e18_21 : mm_E 18 21 ls (.ref a :: st) I r Q ↔ mm_S r a = (1, 0) ∧ mm_E 18 24 ls (va_rf (mm_P r a 12) :: st) I r Q := me_gr mc_18 dX0_eat_21 (by decide +kernel) rfl
theorem e18_24 : mm_E 18 24 [l0, l1, some (.int x), l3, l4] st I r Q ↔ mm_E 18 25 [l0, l1, some (.int x), l3, l4] (.int x :: st) I r Q := me_il mc_18 dX0_eat_24 rfl
theorem e18_25 : mm_E 18 25 ls (.int x :: .ref a :: st) I r Q ↔ mm_ix r a 2 x ∧ mm_E 18 26 ls (.int (mm_rd I a x.toNatClampNeg) :: st) I r Q := me_ia mc_18 dX0_eat_25
theorem e18_26 : mm_E 18 26 [l0, l1, l2, l3, l4] (.int x :: st) I r Q ↔ mm_c1 l3 ∧ mm_E 18 28 [l0, l1, l2, l3, some (.int x)] st I r Q := me_st (k := 4) (v := .int x) mc_18 dX0_eat_26 rfl rfl (Nat.le_of_ble_eq_true rfl) rfl ⟨Or.inr, fun h => h.resolve_left (by decide)⟩
theorem e18_28 : mm_E 18 28 [some (.ref a), l1, l2, l3, l4] st I r Q ↔ mm_E 18 29 [some (.ref a), l1, l2, l3, l4] (.ref a :: st) I r Q := me_al mc_18 dX0_eat_28 rfl
theorem e18_29 : mm_E 18 29 ls (.ref a :: st) I r Q ↔ mm_S r a = (1, 0) ∧ mm_E 18 32 ls (va_rf (mm_P r a 12) :: st) I r Q := me_gr mc_18 dX0_eat_29 (by decide +kernel) rfl
theorem e18_32 : mm_E 18 32 [l0, l1, some (.int x), l3, l4] st I r Q ↔ mm_E 18 33 [l0, l1, some (.int x), l3, l4] (.int x :: st) I r Q := me_il mc_18 dX0_eat_32 rfl
theorem e18_33 : mm_E 18 33 ls (u :: v :: st) I r Q ↔ (v.category = 1 ∧ u.category = 1) ∧ mm_E 18 34 ls (u :: v :: u :: v :: st) I r Q := me_dup2 mc_18 dX0_eat_33
theorem e18_34 : mm_E 18 34 ls (.int x :: .ref a :: st) I r Q ↔ mm_ix r a 2 x ∧ mm_E 18 35 ls (.int (mm_rd I a x.toNatClampNeg) :: st) I r Q := me_ia mc_18 dX0_eat_34
theorem e18_35 : mm_E 18 35 [l0, l1, l2, l3, some (.int x)] st I r Q ↔ mm_E 18 37 [l0, l1, l2, l3, some (.int x)] (.int x :: st) I r Q := me_il2 mc_18 dX0_eat_35 rfl
theorem e18_37 : mm_E 18 37 ls (.int y :: .int x :: st) I r Q ↔ mm_E 18 38 ls (.int (x - y) :: st) I r Q := me_isub mc_18 dX0_eat_37
theorem e18_38 : mm_E 18 38 ls (.int y :: .int x :: .ref a :: st) I r Q ↔ mm_ix r a 2 x ∧ mm_E 18 39 ls st (mm_uI I a x.toNatClampNeg y) r Q := me_is mc_18 dX0_eat_38
theorem e18_39 : mm_E 18 39 [some (.ref a), l1, l2, l3, l4] st I r Q ↔ mm_E 18 40 [some (.ref a), l1, l2, l3, l4] (.ref a :: st) I r Q := me_al mc_18 dX0_eat_39 rfl
theorem e18_40 : mm_E 18 40 ls (v :: st) I r Q ↔ v.category = 1 ∧ mm_E 18 41 ls (v :: v :: st) I r Q := me_dup mc_18 dX0_eat_40
theorem e18_41 : mm_E 18 41 ls (.ref a :: st) I r Q ↔ mm_S r a = (1, 0) ∧ mm_E 18 44 ls (.int (mm_rd I a 4) :: st) I r Q := me_gi mc_18 dX0_eat_41 (by decide +kernel) rfl
theorem e18_44 : mm_E 18 44 [l0, l1, l2, l3, some (.int x)] st I r Q ↔ mm_E 18 46 [l0, l1, l2, l3, some (.int x)] (.int x :: st) I r Q := me_il2 mc_18 dX0_eat_44 rfl
theorem e18_46 : mm_E 18 46 ls (.int y :: .int x :: st) I r Q ↔ mm_E 18 47 ls (.int (x + y) :: st) I r Q := me_iadd mc_18 dX0_eat_46
theorem e18_47 : mm_E 18 47 ls (.int x :: .ref a :: st) I r Q ↔ mm_S r a = (1, 0) ∧ mm_E 18 50 ls st (mm_uI I a 4 x) r Q := me_pi mc_18 dX0_eat_47 (by decide +kernel) (by decide +kernel)
theorem e18_50 : mm_E 18 50 [some (.ref a), l1, l2, l3, l4] st I r Q ↔ mm_E 18 51 [some (.ref a), l1, l2, l3, l4] (.ref a :: st) I r Q := me_al mc_18 dX0_eat_50 rfl
theorem e18_51 : mm_E 18 51 [l0, l1, some (.int x), l3, l4] st I r Q ↔ mm_E 18 52 [l0, l1, some (.int x), l3, l4] (.int x :: st) I r Q := me_il mc_18 dX0_eat_51 rfl
theorem e18_52 : mm_E 18 52 [l0, l1, l2, l3, some (.int x)] st I r Q ↔ mm_E 18 54 [l0, l1, l2, l3, some (.int x)] (.int x :: st) I r Q := me_il2 mc_18 dX0_eat_52 rfl
theorem e18_54 : ∀ (x0 : Int32) (x1 : Int32), (mm_E 18 54 ls (.int x1 :: .int x0 :: .ref a :: st) I r Q ↔ (mm_w8 st = true ∧ mm_S r a = (1, 0)) ∧ mm_E 13 0 [some (.ref a), some (.int x0), some (.int x1)] [] I r (fun v I2 r2 => mm_E 18 57 ls (mm_pu v st) I2 r2 Q)) := fun x0 x1 => me_vc (n := 2) (As := [.int x0, .int x1]) (xs := [.int x1, .int x0]) (a := a) mc_18 dX0_eat_54 (by decide +kernel) (by decide +kernel) rfl rfl (Nat.le_of_ble_eq_true rfl) rfl
theorem e18_57 : mm_E 18 57 [l0, l1, l2, l3, some (.int x)] st I r Q ↔ mm_E 18 59 [l0, l1, l2, l3, some (.int x)] (.int x :: st) I r Q := me_il2 mc_18 dX0_eat_57 rfl
theorem e18_59 : mm_E 18 59 ls (.int x :: st) I r Q ↔ if x ≤ 0 then mm_E 18 72 ls st I r Q else mm_E 18 62 ls st I r Q := me_zle mc_18 dX0_eat_59 (by decide)
theorem e18_62 : mm_E 18 62 [some (.ref a), l1, l2, l3, l4] st I r Q ↔ mm_E 18 63 [some (.ref a), l1, l2, l3, l4] (.ref a :: st) I r Q := me_al mc_18 dX0_eat_62 rfl
theorem e18_63 : mm_E 18 63 ls (.ref a :: st) I r Q ↔ mm_S r a = (1, 0) ∧ mm_E 18 66 ls (va_rf (mm_P r a 13) :: st) I r Q := me_gr mc_18 dX0_eat_63 (by decide +kernel) rfl
theorem e18_66 : mm_E 18 66 [l0, l1, some (.int x), l3, l4] st I r Q ↔ mm_E 18 67 [l0, l1, some (.int x), l3, l4] (.int x :: st) I r Q := me_il mc_18 dX0_eat_66 rfl
theorem e18_67 : mm_E 18 67 ls (u :: v :: st) I r Q ↔ (v.category = 1 ∧ u.category = 1) ∧ mm_E 18 68 ls (u :: v :: u :: v :: st) I r Q := me_dup2 mc_18 dX0_eat_67
theorem e18_68 : mm_E 18 68 ls (.int x :: .ref a :: st) I r Q ↔ mm_ix r a 2 x ∧ mm_E 18 69 ls (.int (mm_rd I a x.toNatClampNeg) :: st) I r Q := me_ia mc_18 dX0_eat_68
theorem e18_69 : mm_E 18 69 ls st I r Q ↔ mm_E 18 70 ls (.int 1 :: st) I r Q := me_ic mc_18 dX0_eat_69 (by decide)
theorem e18_70 : mm_E 18 70 ls (.int y :: .int x :: st) I r Q ↔ mm_E 18 71 ls (.int (x + y) :: st) I r Q := me_iadd mc_18 dX0_eat_70
theorem e18_71 : mm_E 18 71 ls (.int y :: .int x :: .ref a :: st) I r Q ↔ mm_ix r a 2 x ∧ mm_E 18 72 ls st (mm_uI I a x.toNatClampNeg y) r Q := me_is mc_18 dX0_eat_71
theorem e18_72 : mm_E 18 72 [l0, l1, l2, l3, some (.int x)] st I r Q ↔ mm_E 18 74 [l0, l1, l2, l3, some (.int x)] (.int x :: st) I r Q := me_il2 mc_18 dX0_eat_72 rfl
theorem e18_74 : mm_E 18 74 [l0, l1, l2, some (.int x), l4] st I r Q ↔ mm_E 18 75 [l0, l1, l2, some (.int x), l4] (.int x :: st) I r Q := me_il mc_18 dX0_eat_74 rfl
theorem e18_75 : mm_E 18 75 ls (.int y :: .int x :: st) I r Q ↔ if y ≤ x then mm_E 18 97 ls st I r Q else mm_E 18 78 ls st I r Q := me_cge mc_18 dX0_eat_75 (by decide)
theorem e18_78 : mm_E 18 78 [some (.ref a), l1, l2, l3, l4] st I r Q ↔ mm_E 18 79 [some (.ref a), l1, l2, l3, l4] (.ref a :: st) I r Q := me_al mc_18 dX0_eat_78 rfl
theorem e18_79 : mm_E 18 79 ls (.ref a :: st) I r Q ↔ mm_S r a = (1, 0) ∧ mm_E 18 82 ls (va_rf (mm_P r a 6) :: st) I r Q := me_gr mc_18 dX0_eat_79 (by decide +kernel) rfl
theorem e18_82 : mm_E 18 82 [l0, l1, some (.int x), l3, l4] st I r Q ↔ mm_E 18 83 [l0, l1, some (.int x), l3, l4] (.int x :: st) I r Q := me_il mc_18 dX0_eat_82 rfl
theorem e18_83 : mm_E 18 83 ls (.int x :: .ref a :: st) I r Q ↔ mm_ix r a 2 x ∧ mm_E 18 84 ls (.int (mm_rd I a x.toNatClampNeg) :: st) I r Q := me_ia mc_18 dX0_eat_83
theorem e18_84 : mm_E 18 84 ls (.int x :: st) I r Q ↔ if x ≤ 0 then mm_E 18 97 ls st I r Q else mm_E 18 87 ls st I r Q := me_zle mc_18 dX0_eat_84 (by decide)
theorem e18_87 : mm_E 18 87 [some (.ref a), l1, l2, l3, l4] st I r Q ↔ mm_E 18 88 [some (.ref a), l1, l2, l3, l4] (.ref a :: st) I r Q := me_al mc_18 dX0_eat_87 rfl
theorem e18_88 : mm_E 18 88 ls (.ref a :: st) I r Q ↔ mm_S r a = (1, 0) ∧ mm_E 18 91 ls (va_rf (mm_P r a 8) :: st) I r Q := me_gr mc_18 dX0_eat_88 (by decide +kernel) rfl
theorem e18_91 : mm_E 18 91 [l0, l1, some (.int x), l3, l4] st I r Q ↔ mm_E 18 92 [l0, l1, some (.int x), l3, l4] (.int x :: st) I r Q := me_il mc_18 dX0_eat_91 rfl
theorem e18_92 : mm_E 18 92 ls (u :: v :: st) I r Q ↔ (v.category = 1 ∧ u.category = 1) ∧ mm_E 18 93 ls (u :: v :: u :: v :: st) I r Q := me_dup2 mc_18 dX0_eat_92
theorem e18_93 : mm_E 18 93 ls (.int x :: .ref a :: st) I r Q ↔ mm_ix r a 2 x ∧ mm_E 18 94 ls (.int (mm_rd I a x.toNatClampNeg) :: st) I r Q := me_ia mc_18 dX0_eat_93
theorem e18_94 : mm_E 18 94 ls st I r Q ↔ mm_E 18 95 ls (.int 1 :: st) I r Q := me_ic mc_18 dX0_eat_94 (by decide)
theorem e18_95 : mm_E 18 95 ls (.int y :: .int x :: st) I r Q ↔ mm_E 18 96 ls (.int (x + y) :: st) I r Q := me_iadd mc_18 dX0_eat_95
theorem e18_96 : mm_E 18 96 ls (.int y :: .int x :: .ref a :: st) I r Q ↔ mm_ix r a 2 x ∧ mm_E 18 97 ls st (mm_uI I a x.toNatClampNeg y) r Q := me_is mc_18 dX0_eat_96
theorem e18_97 : mm_E 18 97 [l0, l1, l2, l3, some (.int x)] st I r Q ↔ mm_E 18 99 [l0, l1, l2, l3, some (.int x)] (.int x :: st) I r Q := me_il2 mc_18 dX0_eat_97 rfl
theorem e18_99 : mm_E 18 99 [l0, l1, l2, some (.int x), l4] st I r Q ↔ mm_E 18 100 [l0, l1, l2, some (.int x), l4] (.int x :: st) I r Q := me_il mc_18 dX0_eat_99 rfl
theorem e18_100 : mm_E 18 100 ls (.int y :: .int x :: st) I r Q ↔ if ¬ x = y then mm_E 18 107 ls st I r Q else mm_E 18 103 ls st I r Q := me_cne mc_18 dX0_eat_100 (by decide)
theorem e18_103 : mm_E 18 103 ls st I r Q ↔ mm_E 18 104 ls (.int 1 :: st) I r Q := me_ic mc_18 dX0_eat_103 (by decide)
theorem e18_104 : mm_E 18 104 ls st I r Q ↔ mm_E 18 108 ls st I r Q := me_goto mc_18 dX0_eat_104 (by decide)
theorem e18_107 : mm_E 18 107 ls st I r Q ↔ mm_E 18 108 ls (.int 0 :: st) I r Q := me_ic mc_18 dX0_eat_107 (by decide)
theorem e18_108 : mm_E 18 108 ls [.int x] I r Q ↔ (x = 0 ∨ x = 1) ∧ Q (some (.int x)) I r := me_rz mc_18 dX0_eat_108 rfl
theorem mc_19 : mm_c 19 = cX0_nextHouse := rfl
theorem e19_0 : mm_E 19 0 [some (.ref a), l1, l2, l3, l4, l5, l6] st I r Q ↔ mm_E 19 1 [some (.ref a), l1, l2, l3, l4, l5, l6] (.ref a :: st) I r Q := me_al mc_19 dX0_nextHouse_0 rfl
theorem e19_1 : mm_E 19 1 ls (.ref a :: st) I r Q ↔ mm_S r a = (1, 0) ∧ mm_E 19 4 ls (va_rf (mm_P r a 9) :: st) I r Q := me_gr mc_19 dX0_nextHouse_1 (by decide +kernel) rfl
theorem e19_4 : mm_E 19 4 [l0, some (.int x), l2, l3, l4, l5, l6] st I r Q ↔ mm_E 19 5 [l0, some (.int x), l2, l3, l4, l5, l6] (.int x :: st) I r Q := me_il mc_19 dX0_nextHouse_4 rfl
theorem e19_5 : mm_E 19 5 ls (.int x :: .ref a :: st) I r Q ↔ mm_ix r a 2 x ∧ mm_E 19 6 ls (.int (mm_rd I a x.toNatClampNeg) :: st) I r Q := me_ia mc_19 dX0_nextHouse_5
theorem e19_6 : mm_E 19 6 ls st I r Q ↔ mm_E 19 7 ls (.int 2 :: st) I r Q := me_ic mc_19 dX0_nextHouse_6 (by decide)
theorem e19_7 : mm_E 19 7 ls (.int y :: .int x :: st) I r Q ↔ if x = y then mm_E 19 20 ls st I r Q else mm_E 19 10 ls st I r Q := me_ceq mc_19 dX0_nextHouse_7 (by decide)
theorem e19_10 : mm_E 19 10 [some (.ref a), l1, l2, l3, l4, l5, l6] st I r Q ↔ mm_E 19 11 [some (.ref a), l1, l2, l3, l4, l5, l6] (.ref a :: st) I r Q := me_al mc_19 dX0_nextHouse_10 rfl
theorem e19_11 : mm_E 19 11 ls (.ref a :: st) I r Q ↔ mm_S r a = (1, 0) ∧ mm_E 19 14 ls (va_rf (mm_P r a 9) :: st) I r Q := me_gr mc_19 dX0_nextHouse_11 (by decide +kernel) rfl
theorem e19_14 : mm_E 19 14 [l0, some (.int x), l2, l3, l4, l5, l6] st I r Q ↔ mm_E 19 15 [l0, some (.int x), l2, l3, l4, l5, l6] (.int x :: st) I r Q := me_il mc_19 dX0_nextHouse_14 rfl
theorem e19_15 : mm_E 19 15 ls (.int x :: .ref a :: st) I r Q ↔ mm_ix r a 2 x ∧ mm_E 19 16 ls (.int (mm_rd I a x.toNatClampNeg) :: st) I r Q := me_ia mc_19 dX0_nextHouse_15
theorem e19_16 : mm_E 19 16 ls st I r Q ↔ mm_E 19 17 ls (.int 4 :: st) I r Q := me_ic mc_19 dX0_nextHouse_16 (by decide)
theorem e19_17 : mm_E 19 17 ls (.int y :: .int x :: st) I r Q ↔ if ¬ x = y then mm_E 19 24 ls st I r Q else mm_E 19 20 ls st I r Q := me_cne mc_19 dX0_nextHouse_17 (by decide)
theorem e19_20 : mm_E 19 20 ls st I r Q ↔ mm_E 19 21 ls (.int 1 :: st) I r Q := me_ic mc_19 dX0_nextHouse_20 (by decide)
theorem e19_21 : mm_E 19 21 ls st I r Q ↔ mm_E 19 25 ls st I r Q := me_goto mc_19 dX0_nextHouse_21 (by decide)
theorem e19_24 : mm_E 19 24 ls st I r Q ↔ mm_E 19 25 ls (.int 0 :: st) I r Q := me_ic mc_19 dX0_nextHouse_24 (by decide)
theorem e19_25 : mm_E 19 25 [l0, l1, l2, l3, l4, l5, l6] (.int x :: st) I r Q ↔ mm_c1 l2 ∧ mm_E 19 26 [l0, l1, l2, some (.int x), l4, l5, l6] st I r Q := me_st (k := 3) (v := .int x) mc_19 dX0_nextHouse_25 rfl rfl (Nat.le_of_ble_eq_true rfl) rfl ⟨Or.inr, fun h => h.resolve_left (by decide)⟩
theorem e19_26 : mm_E 19 26 [l0, l1, some (.int x), l3, l4, l5, l6] st I r Q ↔ mm_E 19 27 [l0, l1, some (.int x), l3, l4, l5, l6] (.int x :: st) I r Q := me_il mc_19 dX0_nextHouse_26 rfl
theorem e19_27 : mm_E 19 27 [l0, l1, l2, l3, l4, l5, l6] (.int x :: st) I r Q ↔ mm_c1 l3 ∧ mm_E 19 29 [l0, l1, l2, l3, some (.int x), l5, l6] st I r Q := me_st (k := 4) (v := .int x) mc_19 dX0_nextHouse_27 rfl rfl (Nat.le_of_ble_eq_true rfl) rfl ⟨Or.inr, fun h => h.resolve_left (by decide)⟩
theorem e19_29 : mm_E 19 29 ls st I r Q ↔ mm_E 19 30 ls (.int 1 :: st) I r Q := me_ic mc_19 dX0_nextHouse_29 (by decide)
theorem e19_30 : mm_E 19 30 [l0, l1, l2, l3, l4, l5, l6] (.int x :: st) I r Q ↔ mm_c1 l4 ∧ mm_E 19 32 [l0, l1, l2, l3, l4, some (.int x), l6] st I r Q := me_st (k := 5) (v := .int x) mc_19 dX0_nextHouse_30 rfl rfl (Nat.le_of_ble_eq_true rfl) rfl ⟨Or.inr, fun h => h.resolve_left (by decide)⟩
theorem e19_32 : mm_E 19 32 [l0, l1, some (.int x), l3, l4, l5, l6] st I r Q ↔ mm_E 19 33 [l0, l1, some (.int x), l3, l4, l5, l6] (.int x :: st) I r Q := me_il mc_19 dX0_nextHouse_32 rfl
theorem e19_33 : mm_E 19 33 ls st I r Q ↔ mm_E 19 34 ls (.int 1 :: st) I r Q := me_ic mc_19 dX0_nextHouse_33 (by decide)
theorem e19_34 : mm_E 19 34 ls (.int y :: .int x :: st) I r Q ↔ mm_E 19 35 ls (.int (x + y) :: st) I r Q := me_iadd mc_19 dX0_nextHouse_34
theorem e19_35 : mm_E 19 35 [l0, l1, l2, l3, l4, l5, l6] (.int x :: st) I r Q ↔ mm_c1 l5 ∧ mm_E 19 37 [l0, l1, l2, l3, l4, l5, some (.int x)] st I r Q := me_st (k := 6) (v := .int x) mc_19 dX0_nextHouse_35 rfl rfl (Nat.le_of_ble_eq_true rfl) rfl ⟨Or.inr, fun h => h.resolve_left (by decide)⟩
theorem e19_37 : mm_E 19 37 [l0, l1, l2, l3, l4, some (.int x), l6] st I r Q ↔ mm_E 19 39 [l0, l1, l2, l3, l4, some (.int x), l6] (.int x :: st) I r Q := me_il2 mc_19 dX0_nextHouse_37 rfl
theorem e19_39 : mm_E 19 39 [some (.ref a), l1, l2, l3, l4, l5, l6] st I r Q ↔ mm_E 19 40 [some (.ref a), l1, l2, l3, l4, l5, l6] (.ref a :: st) I r Q := me_al mc_19 dX0_nextHouse_39 rfl
theorem e19_40 : mm_E 19 40 ls (.ref a :: st) I r Q ↔ mm_S r a = (1, 0) ∧ mm_E 19 43 ls (.int (mm_rd I a 0) :: st) I r Q := me_gi mc_19 dX0_nextHouse_40 (by decide +kernel) rfl
theorem e19_43 : mm_E 19 43 ls (.int y :: .int x :: st) I r Q ↔ if y ≤ x then mm_E 19 105 ls st I r Q else mm_E 19 46 ls st I r Q := me_cge mc_19 dX0_nextHouse_43 (by decide)
theorem e19_46 : mm_E 19 46 [l0, l1, l2, l3, l4, l5, some (.int x)] st I r Q ↔ mm_E 19 48 [l0, l1, l2, l3, l4, l5, some (.int x)] (.int x :: st) I r Q := me_il2 mc_19 dX0_nextHouse_46 rfl
theorem e19_48 : mm_E 19 48 [some (.ref a), l1, l2, l3, l4, l5, l6] st I r Q ↔ mm_E 19 49 [some (.ref a), l1, l2, l3, l4, l5, l6] (.ref a :: st) I r Q := me_al mc_19 dX0_nextHouse_48 rfl
theorem e19_49 : mm_E 19 49 ls (.ref a :: st) I r Q ↔ mm_S r a = (1, 0) ∧ mm_E 19 52 ls (.int (mm_rd I a 0) :: st) I r Q := me_gi mc_19 dX0_nextHouse_49 (by decide +kernel) rfl
theorem e19_52 : mm_E 19 52 ls (.int y :: .int x :: st) I r Q ↔ if x < y then mm_E 19 58 ls st I r Q else mm_E 19 55 ls st I r Q := me_clt mc_19 dX0_nextHouse_52 (by decide)
theorem e19_55 : mm_E 19 55 ls st I r Q ↔ mm_E 19 56 ls (.int 0 :: st) I r Q := me_ic mc_19 dX0_nextHouse_55 (by decide)
theorem e19_56 : mm_E 19 56 [l0, l1, l2, l3, l4, l5, l6] (.int x :: st) I r Q ↔ mm_c1 l5 ∧ mm_E 19 58 [l0, l1, l2, l3, l4, l5, some (.int x)] st I r Q := me_st (k := 6) (v := .int x) mc_19 dX0_nextHouse_56 rfl rfl (Nat.le_of_ble_eq_true rfl) rfl ⟨Or.inr, fun h => h.resolve_left (by decide)⟩
theorem e19_58 : mm_E 19 58 [some (.ref a), l1, l2, l3, l4, l5, l6] st I r Q ↔ mm_E 19 59 [some (.ref a), l1, l2, l3, l4, l5, l6] (.ref a :: st) I r Q := me_al mc_19 dX0_nextHouse_58 rfl
theorem e19_59 : mm_E 19 59 [l0, l1, l2, l3, l4, l5, some (.int x)] st I r Q ↔ mm_E 19 61 [l0, l1, l2, l3, l4, l5, some (.int x)] (.int x :: st) I r Q := me_il2 mc_19 dX0_nextHouse_59 rfl
theorem e19_61 : ∀ (x0 : Int32), (mm_E 19 61 ls (.int x0 :: .ref a :: st) I r Q ↔ (mm_w8 st = true ∧ mm_S r a = (1, 0)) ∧ mm_E 7 0 [some (.ref a), some (.int x0)] [] I r (fun v I2 r2 => mm_E 19 64 ls (mm_pu v st) I2 r2 Q)) := fun x0 => me_vc (n := 1) (As := [.int x0]) (xs := [.int x0]) (a := a) mc_19 dX0_nextHouse_61 (by decide +kernel) (by decide +kernel) rfl rfl (Nat.le_of_ble_eq_true rfl) rfl
theorem e19_64 : mm_E 19 64 ls (.int x :: st) I r Q ↔ if x = 0 then mm_E 19 70 ls st I r Q else mm_E 19 67 ls st I r Q := me_zeq mc_19 dX0_nextHouse_64 (by decide)
theorem e19_67 : mm_E 19 67 ls st I r Q ↔ mm_E 19 96 ls st I r Q := me_goto mc_19 dX0_nextHouse_67 (by decide)
theorem e19_70 : mm_E 19 70 [l0, l1, l2, some (.int x), l4, l5, l6] st I r Q ↔ mm_E 19 71 [l0, l1, l2, some (.int x), l4, l5, l6] (.int x :: st) I r Q := me_il mc_19 dX0_nextHouse_70 rfl
theorem e19_71 : mm_E 19 71 ls (.int x :: st) I r Q ↔ if x = 0 then mm_E 19 83 ls st I r Q else mm_E 19 74 ls st I r Q := me_zeq mc_19 dX0_nextHouse_71 (by decide)
theorem e19_74 : mm_E 19 74 [some (.ref a), l1, l2, l3, l4, l5, l6] st I r Q ↔ mm_E 19 75 [some (.ref a), l1, l2, l3, l4, l5, l6] (.ref a :: st) I r Q := me_al mc_19 dX0_nextHouse_74 rfl
theorem e19_75 : mm_E 19 75 [l0, l1, l2, l3, l4, l5, some (.int x)] st I r Q ↔ mm_E 19 77 [l0, l1, l2, l3, l4, l5, some (.int x)] (.int x :: st) I r Q := me_il2 mc_19 dX0_nextHouse_75 rfl
theorem e19_77 : ∀ (x0 : Int32), (mm_E 19 77 ls (.int x0 :: .ref a :: st) I r Q ↔ (mm_w8 st = true ∧ mm_S r a = (1, 0)) ∧ mm_E 11 0 [some (.ref a), some (.int x0), none, none] [] I r (fun v I2 r2 => mm_E 19 80 ls (mm_pu v st) I2 r2 Q)) := fun x0 => me_vc (n := 1) (As := [.int x0]) (xs := [.int x0]) (a := a) mc_19 dX0_nextHouse_77 (by decide +kernel) (by decide +kernel) rfl rfl (Nat.le_of_ble_eq_true rfl) rfl
theorem e19_80 : mm_E 19 80 ls (.int x :: st) I r Q ↔ if ¬ x = 0 then mm_E 19 86 ls st I r Q else mm_E 19 83 ls st I r Q := me_zne mc_19 dX0_nextHouse_80 (by decide)
theorem e19_83 : mm_E 19 83 [l0, l1, l2, l3, l4, l5, some (.int x)] st I r Q ↔ mm_E 19 85 [l0, l1, l2, l3, l4, l5, some (.int x)] (.int x :: st) I r Q := me_il2 mc_19 dX0_nextHouse_83 rfl
theorem e19_85 : mm_E 19 85 ls [.int x] I r Q ↔ Q (some (.int x)) I r := me_ri mc_19 dX0_nextHouse_85 rfl
theorem e19_86 : mm_E 19 86 [l0, l1, l2, l3, some (.int x), l5, l6] st I r Q ↔ mm_E 19 88 [l0, l1, l2, l3, some (.int x), l5, l6] (.int x :: st) I r Q := me_il2 mc_19 dX0_nextHouse_86 rfl
theorem e19_88 : mm_E 19 88 [l0, l1, some (.int x), l3, l4, l5, l6] st I r Q ↔ mm_E 19 89 [l0, l1, some (.int x), l3, l4, l5, l6] (.int x :: st) I r Q := me_il mc_19 dX0_nextHouse_88 rfl
theorem e19_89 : mm_E 19 89 ls (.int y :: .int x :: st) I r Q ↔ if ¬ x = y then mm_E 19 96 ls st I r Q else mm_E 19 92 ls st I r Q := me_cne mc_19 dX0_nextHouse_89 (by decide)
theorem e19_92 : mm_E 19 92 [l0, l1, l2, l3, l4, l5, some (.int x)] st I r Q ↔ mm_E 19 94 [l0, l1, l2, l3, l4, l5, some (.int x)] (.int x :: st) I r Q := me_il2 mc_19 dX0_nextHouse_92 rfl
theorem e19_94 : mm_E 19 94 [l0, l1, l2, l3, l4, l5, l6] (.int x :: st) I r Q ↔ mm_c1 l3 ∧ mm_E 19 96 [l0, l1, l2, l3, some (.int x), l5, l6] st I r Q := me_st (k := 4) (v := .int x) mc_19 dX0_nextHouse_94 rfl rfl (Nat.le_of_ble_eq_true rfl) rfl ⟨Or.inr, fun h => h.resolve_left (by decide)⟩
theorem e19_96 : mm_E 19 96 [l0, l1, l2, l3, l4, some (.int x), l6] st I r Q ↔ mm_c1 l4 ∧ mm_E 19 99 [l0, l1, l2, l3, l4, some (.int (x + 1)), l6] st I r Q := me_st (k := 5) (v := .int (x + 1)) mc_19 dX0_nextHouse_96 rfl rfl (Nat.le_of_ble_eq_true rfl) rfl ⟨Or.inr, fun h => h.resolve_left (by decide)⟩
theorem e19_99 : mm_E 19 99 [l0, l1, l2, l3, l4, l5, some (.int x)] st I r Q ↔ mm_c1 l5 ∧ mm_E 19 102 [l0, l1, l2, l3, l4, l5, some (.int (x + 1))] st I r Q := me_st (k := 6) (v := .int (x + 1)) mc_19 dX0_nextHouse_99 rfl rfl (Nat.le_of_ble_eq_true rfl) rfl ⟨Or.inr, fun h => h.resolve_left (by decide)⟩
theorem e19_102 : mm_E 19 102 ls st I r Q ↔ mm_E 19 37 ls st I r Q := me_goto mc_19 dX0_nextHouse_102 (by decide)
theorem e19_105 : mm_E 19 105 [l0, l1, l2, l3, some (.int x), l5, l6] st I r Q ↔ mm_E 19 107 [l0, l1, l2, l3, some (.int x), l5, l6] (.int x :: st) I r Q := me_il2 mc_19 dX0_nextHouse_105 rfl
theorem e19_107 : mm_E 19 107 ls [.int x] I r Q ↔ Q (some (.int x)) I r := me_ri mc_19 dX0_nextHouse_107 rfl
theorem mc_20 : mm_c 20 = cX0_addInterest := rfl
theorem e20_0 : mm_E 20 0 ls st I r Q ↔ mm_E 20 1 ls (.int 0 :: st) I r Q := me_ic mc_20 dX0_addInterest_0 (by decide)
theorem e20_1 : mm_E 20 1 [l0, l1, l2] (.int x :: st) I r Q ↔ mm_c1 l0 ∧ mm_E 20 2 [l0, some (.int x), l2] st I r Q := me_st (k := 1) (v := .int x) mc_20 dX0_addInterest_1 rfl rfl (Nat.le_of_ble_eq_true rfl) rfl ⟨Or.inr, fun h => h.resolve_left (by decide)⟩
theorem e20_2 : mm_E 20 2 [l0, some (.int x), l2] st I r Q ↔ mm_E 20 3 [l0, some (.int x), l2] (.int x :: st) I r Q := me_il mc_20 dX0_addInterest_2 rfl
theorem e20_3 : mm_E 20 3 [some (.ref a), l1, l2] st I r Q ↔ mm_E 20 4 [some (.ref a), l1, l2] (.ref a :: st) I r Q := me_al mc_20 dX0_addInterest_3 rfl
theorem e20_4 : mm_E 20 4 ls (.ref a :: st) I r Q ↔ mm_S r a = (1, 0) ∧ mm_E 20 7 ls (.int (mm_rd I a 0) :: st) I r Q := me_gi mc_20 dX0_addInterest_4 (by decide +kernel) rfl
theorem e20_7 : mm_E 20 7 ls (.int y :: .int x :: st) I r Q ↔ if y ≤ x then mm_E 20 66 ls st I r Q else mm_E 20 10 ls st I r Q := me_cge mc_20 dX0_addInterest_7 (by decide)
theorem e20_10 : mm_E 20 10 [some (.ref a), l1, l2] st I r Q ↔ mm_E 20 11 [some (.ref a), l1, l2] (.ref a :: st) I r Q := me_al mc_20 dX0_addInterest_10 rfl
theorem e20_11 : mm_E 20 11 [l0, some (.int x), l2] st I r Q ↔ mm_E 20 12 [l0, some (.int x), l2] (.int x :: st) I r Q := me_il mc_20 dX0_addInterest_11 rfl
theorem e20_12 : ∀ (x0 : Int32), (mm_E 20 12 ls (.int x0 :: .ref a :: st) I r Q ↔ (mm_w8 st = true ∧ mm_S r a = (1, 0)) ∧ mm_E 7 0 [some (.ref a), some (.int x0)] [] I r (fun v I2 r2 => mm_E 20 15 ls (mm_pu v st) I2 r2 Q)) := fun x0 => me_vc (n := 1) (As := [.int x0]) (xs := [.int x0]) (a := a) mc_20 dX0_addInterest_12 (by decide +kernel) (by decide +kernel) rfl rfl (Nat.le_of_ble_eq_true rfl) rfl
theorem e20_15 : mm_E 20 15 ls (.int x :: st) I r Q ↔ if ¬ x = 0 then mm_E 20 60 ls st I r Q else mm_E 20 18 ls st I r Q := me_zne mc_20 dX0_addInterest_15 (by decide)
theorem e20_18 : mm_E 20 18 [some (.ref a), l1, l2] st I r Q ↔ mm_E 20 19 [some (.ref a), l1, l2] (.ref a :: st) I r Q := me_al mc_20 dX0_addInterest_18 rfl
theorem e20_19 : mm_E 20 19 ls (.ref a :: st) I r Q ↔ mm_S r a = (1, 0) ∧ mm_E 20 22 ls (va_rf (mm_P r a 6) :: st) I r Q := me_gr mc_20 dX0_addInterest_19 (by decide +kernel) rfl
theorem e20_22 : mm_E 20 22 [l0, some (.int x), l2] st I r Q ↔ mm_E 20 23 [l0, some (.int x), l2] (.int x :: st) I r Q := me_il mc_20 dX0_addInterest_22 rfl
theorem e20_23 : mm_E 20 23 ls (.int x :: .ref a :: st) I r Q ↔ mm_ix r a 2 x ∧ mm_E 20 24 ls (.int (mm_rd I a x.toNatClampNeg) :: st) I r Q := me_ia mc_20 dX0_addInterest_23
theorem e20_24 : mm_E 20 24 [some (.ref a), l1, l2] st I r Q ↔ mm_E 20 25 [some (.ref a), l1, l2] (.ref a :: st) I r Q := me_al mc_20 dX0_addInterest_24 rfl
theorem e20_25 : mm_E 20 25 ls (.ref a :: st) I r Q ↔ mm_S r a = (1, 0) ∧ mm_E 20 28 ls (va_rf (mm_P r a 6) :: st) I r Q := me_gr mc_20 dX0_addInterest_25 (by decide +kernel) rfl
theorem e20_28 : mm_E 20 28 [l0, some (.int x), l2] st I r Q ↔ mm_E 20 29 [l0, some (.int x), l2] (.int x :: st) I r Q := me_il mc_20 dX0_addInterest_28 rfl
theorem e20_29 : mm_E 20 29 ls (.int x :: .ref a :: st) I r Q ↔ mm_ix r a 2 x ∧ mm_E 20 30 ls (.int (mm_rd I a x.toNatClampNeg) :: st) I r Q := me_ia mc_20 dX0_addInterest_29
theorem e20_30 : mm_E 20 30 [some (.ref a), l1, l2] st I r Q ↔ mm_E 20 31 [some (.ref a), l1, l2] (.ref a :: st) I r Q := me_al mc_20 dX0_addInterest_30 rfl
theorem e20_31 : mm_E 20 31 ls (.ref a :: st) I r Q ↔ mm_S r a = (1, 0) ∧ mm_E 20 34 ls (.int (mm_rd I a 2) :: st) I r Q := me_gi mc_20 dX0_addInterest_31 (by decide +kernel) rfl
theorem e20_34 : mm_E 20 34 ls (.int y :: .int x :: st) I r Q ↔ mm_E 20 35 ls (.int (x * y) :: st) I r Q := me_imul mc_20 dX0_addInterest_34
theorem e20_35 : mm_E 20 35 ls st I r Q ↔ mm_E 20 37 ls (.int 100 :: st) I r Q := me_bi mc_20 dX0_addInterest_35 (by decide)
theorem e20_37 : mm_E 20 37 ls (.int y :: .int x :: st) I r Q ↔ ¬ y = 0 ∧ mm_E 20 38 ls (.int (x / y) :: st) I r Q := me_idiv mc_20 dX0_addInterest_37
theorem e20_38 : mm_E 20 38 ls (.int y :: .int x :: st) I r Q ↔ mm_E 20 39 ls (.int (x + y) :: st) I r Q := me_iadd mc_20 dX0_addInterest_38
theorem e20_39 : mm_E 20 39 [l0, l1, l2] (.int x :: st) I r Q ↔ mm_c1 l1 ∧ mm_E 20 40 [l0, l1, some (.int x)] st I r Q := me_st (k := 2) (v := .int x) mc_20 dX0_addInterest_39 rfl rfl (Nat.le_of_ble_eq_true rfl) rfl ⟨Or.inr, fun h => h.resolve_left (by decide)⟩
theorem e20_40 : mm_E 20 40 [some (.ref a), l1, l2] st I r Q ↔ mm_E 20 41 [some (.ref a), l1, l2] (.ref a :: st) I r Q := me_al mc_20 dX0_addInterest_40 rfl
theorem e20_41 : mm_E 20 41 ls (.ref a :: st) I r Q ↔ mm_S r a = (1, 0) ∧ mm_E 20 44 ls (va_rf (mm_P r a 6) :: st) I r Q := me_gr mc_20 dX0_addInterest_41 (by decide +kernel) rfl
theorem e20_44 : mm_E 20 44 [l0, some (.int x), l2] st I r Q ↔ mm_E 20 45 [l0, some (.int x), l2] (.int x :: st) I r Q := me_il mc_20 dX0_addInterest_44 rfl
theorem e20_45 : mm_E 20 45 [l0, l1, some (.int x)] st I r Q ↔ mm_E 20 46 [l0, l1, some (.int x)] (.int x :: st) I r Q := me_il mc_20 dX0_addInterest_45 rfl
theorem e20_46 : mm_E 20 46 ls st I r Q ↔ mm_E 20 49 ls (.int 9999 :: st) I r Q := me_si mc_20 dX0_addInterest_46 (by decide)
theorem e20_49 : mm_E 20 49 ls (.int y :: .int x :: st) I r Q ↔ if y ≤ x then mm_E 20 56 ls st I r Q else mm_E 20 52 ls st I r Q := me_cge mc_20 dX0_addInterest_49 (by decide)
theorem e20_52 : mm_E 20 52 [l0, l1, some (.int x)] st I r Q ↔ mm_E 20 53 [l0, l1, some (.int x)] (.int x :: st) I r Q := me_il mc_20 dX0_addInterest_52 rfl
theorem e20_53 : mm_E 20 53 ls st I r Q ↔ mm_E 20 59 ls st I r Q := me_goto mc_20 dX0_addInterest_53 (by decide)
theorem e20_56 : mm_E 20 56 ls st I r Q ↔ mm_E 20 59 ls (.int 9999 :: st) I r Q := me_si mc_20 dX0_addInterest_56 (by decide)
theorem e20_59 : mm_E 20 59 ls (.int y :: .int x :: .ref a :: st) I r Q ↔ mm_ix r a 2 x ∧ mm_E 20 60 ls st (mm_uI I a x.toNatClampNeg y) r Q := me_is mc_20 dX0_addInterest_59
theorem e20_60 : mm_E 20 60 [l0, some (.int x), l2] st I r Q ↔ mm_c1 l0 ∧ mm_E 20 63 [l0, some (.int (x + 1)), l2] st I r Q := me_st (k := 1) (v := .int (x + 1)) mc_20 dX0_addInterest_60 rfl rfl (Nat.le_of_ble_eq_true rfl) rfl ⟨Or.inr, fun h => h.resolve_left (by decide)⟩
theorem e20_63 : mm_E 20 63 ls st I r Q ↔ mm_E 20 2 ls st I r Q := me_goto mc_20 dX0_addInterest_63 (by decide)
theorem e20_66 : mm_E 20 66 ls [] I r Q ↔ Q none I r := me_rv mc_20 dX0_addInterest_66 rfl
theorem mc_21 : mm_c 21 = cX1_init := rfl
theorem e21_0 : mm_E 21 0 [some (.ref a)] st I r Q ↔ mm_E 21 1 [some (.ref a)] (.ref a :: st) I r Q := me_al mc_21 dX1_init_0 rfl
theorem e21_1 : mm_E 21 1 ls (.ref a :: st) I r Q ↔ mm_w8 st = true ∧ mm_E 21 4 ls st I r Q := me_oi mc_21 dX1_init_1 (by decide +kernel)
theorem e21_4 : mm_E 21 4 [some (.ref a)] st I r Q ↔ mm_E 21 5 [some (.ref a)] (.ref a :: st) I r Q := me_al mc_21 dX1_init_4 rfl
theorem e21_5 : mm_E 21 5 ls st I r Q ↔ mm_E 21 7 ls (.int 6 :: st) I r Q := me_bi mc_21 dX1_init_5 (by decide)
theorem e21_7 : mm_E 21 7 ls (.int x :: st) I r Q ↔ (¬ x < 0 ∧ x.toNatClampNeg ≤ 1000) ∧ mm_E 21 9 ls (.ref (mm_t r) :: st) (mm_nI I r) (mm_nR r (2, x.toNatClampNeg) x.toNatClampNeg) Q := me_nai mc_21 dX1_init_7
theorem e21_9 : mm_E 21 9 ls (.ref b :: .ref a :: st) I r Q ↔ mm_S r a = (1, 1) ∧ mm_E 21 12 ls st I (mm_uP r a 2 (some b)) Q := me_pr mc_21 dX1_init_9 (by decide +kernel) (by decide +kernel)
theorem e21_12 : mm_E 21 12 [some (.ref a)] st I r Q ↔ mm_E 21 13 [some (.ref a)] (.ref a :: st) I r Q := me_al mc_21 dX1_init_12 rfl
theorem e21_13 : mm_E 21 13 ls st I r Q ↔ mm_E 21 15 ls (.int 6 :: st) I r Q := me_bi mc_21 dX1_init_13 (by decide)
theorem e21_15 : mm_E 21 15 ls (.int x :: st) I r Q ↔ (¬ x < 0 ∧ x.toNatClampNeg ≤ 1000) ∧ mm_E 21 17 ls (.ref (mm_t r) :: st) (mm_nI I r) (mm_nR r (2, x.toNatClampNeg) x.toNatClampNeg) Q := me_nai mc_21 dX1_init_15
theorem e21_17 : mm_E 21 17 ls (.ref b :: .ref a :: st) I r Q ↔ mm_S r a = (1, 1) ∧ mm_E 21 20 ls st I (mm_uP r a 3 (some b)) Q := me_pr mc_21 dX1_init_17 (by decide +kernel) (by decide +kernel)
theorem e21_20 : mm_E 21 20 ls [] I r Q ↔ Q none I r := me_rv mc_21 dX1_init_20 rfl
theorem mc_22 : mm_c 22 = cX1_find := rfl
theorem e22_0 : mm_E 22 0 [l0, some (.ref a), l2, l3, l4, l5, l6, l7] st I r Q ↔ mm_E 22 1 [l0, some (.ref a), l2, l3, l4, l5, l6, l7] (.ref a :: st) I r Q := me_al mc_22 dX1_find_0 rfl
theorem e22_1 : mm_E 22 1 ls (.ref a :: st) I r Q ↔ mm_S r a = (1, 0) ∧ mm_E 22 4 ls (.int (mm_rd I a 0) :: st) I r Q := me_gi mc_22 dX1_find_1 (by decide +kernel) rfl
theorem e22_4 : mm_E 22 4 [l0, l1, l2, l3, l4, l5, l6, l7] (.int x :: st) I r Q ↔ mm_c1 l4 ∧ mm_E 22 6 [l0, l1, l2, l3, l4, some (.int x), l6, l7] st I r Q := me_st (k := 5) (v := .int x) mc_22 dX1_find_4 rfl rfl (Nat.le_of_ble_eq_true rfl) rfl ⟨Or.inr, fun h => h.resolve_left (by decide)⟩
theorem e22_6 : mm_E 22 6 [l0, l1, l2, l3, l4, some (.int x), l6, l7] st I r Q ↔ mm_E 22 8 [l0, l1, l2, l3, l4, some (.int x), l6, l7] (.int x :: st) I r Q := me_il2 mc_22 dX1_find_6 rfl
theorem e22_8 : mm_E 22 8 ls st I r Q ↔ mm_E 22 9 ls (.int 1 :: st) I r Q := me_ic mc_22 dX1_find_8 (by decide)
theorem e22_9 : mm_E 22 9 ls (.int y :: .int x :: st) I r Q ↔ if y ≤ x then mm_E 22 13 ls st I r Q else mm_E 22 12 ls st I r Q := me_cge mc_22 dX1_find_9 (by decide)
theorem e22_12 : mm_E 22 12 ls [] I r Q ↔ Q none I r := me_rv mc_22 dX1_find_12 rfl
theorem e22_13 : mm_E 22 13 [some (.ref a), l1, l2, l3, l4, l5, l6, l7] st I r Q ↔ mm_E 22 14 [some (.ref a), l1, l2, l3, l4, l5, l6, l7] (.ref a :: st) I r Q := me_al mc_22 dX1_find_13 rfl
theorem e22_14 : mm_E 22 14 ls st I r Q ↔ mm_E 22 15 ls (.int (-1) :: st) I r Q := me_ic mc_22 dX1_find_14 (by decide)
theorem e22_15 : mm_E 22 15 ls (.int x :: .ref a :: st) I r Q ↔ mm_S r a = (1, 1) ∧ mm_E 22 18 ls st (mm_uI I a 0 x) r Q := me_pi mc_22 dX1_find_15 (by decide +kernel) (by decide +kernel)
theorem e22_18 : mm_E 22 18 ls st I r Q ↔ mm_E 22 19 ls (.int 0 :: st) I r Q := me_ic mc_22 dX1_find_18 (by decide)
theorem e22_19 : mm_E 22 19 [l0, l1, l2, l3, l4, l5, l6, l7] (.int x :: st) I r Q ↔ mm_c1 l5 ∧ mm_E 22 21 [l0, l1, l2, l3, l4, l5, some (.int x), l7] st I r Q := me_st (k := 6) (v := .int x) mc_22 dX1_find_19 rfl rfl (Nat.le_of_ble_eq_true rfl) rfl ⟨Or.inr, fun h => h.resolve_left (by decide)⟩
theorem e22_21 : mm_E 22 21 [l0, l1, l2, l3, l4, l5, some (.int x), l7] st I r Q ↔ mm_E 22 23 [l0, l1, l2, l3, l4, l5, some (.int x), l7] (.int x :: st) I r Q := me_il2 mc_22 dX1_find_21 rfl
theorem e22_23 : mm_E 22 23 [l0, l1, l2, l3, l4, some (.int x), l6, l7] st I r Q ↔ mm_E 22 25 [l0, l1, l2, l3, l4, some (.int x), l6, l7] (.int x :: st) I r Q := me_il2 mc_22 dX1_find_23 rfl
theorem e22_25 : mm_E 22 25 ls (.int y :: .int x :: st) I r Q ↔ if y ≤ x then mm_E 22 42 ls st I r Q else mm_E 22 28 ls st I r Q := me_cge mc_22 dX1_find_25 (by decide)
theorem e22_28 : mm_E 22 28 [some (.ref a), l1, l2, l3, l4, l5, l6, l7] st I r Q ↔ mm_E 22 29 [some (.ref a), l1, l2, l3, l4, l5, l6, l7] (.ref a :: st) I r Q := me_al mc_22 dX1_find_28 rfl
theorem e22_29 : mm_E 22 29 ls (.ref a :: st) I r Q ↔ mm_S r a = (1, 1) ∧ mm_E 22 32 ls (va_rf (mm_P r a 3) :: st) I r Q := me_gr mc_22 dX1_find_29 (by decide +kernel) rfl
theorem e22_32 : mm_E 22 32 [l0, l1, l2, l3, l4, l5, some (.int x), l7] st I r Q ↔ mm_E 22 34 [l0, l1, l2, l3, l4, l5, some (.int x), l7] (.int x :: st) I r Q := me_il2 mc_22 dX1_find_32 rfl
theorem e22_34 : mm_E 22 34 ls st I r Q ↔ mm_E 22 35 ls (.int 0 :: st) I r Q := me_ic mc_22 dX1_find_34 (by decide)
theorem e22_35 : mm_E 22 35 ls (.int y :: .int x :: .ref a :: st) I r Q ↔ mm_ix r a 2 x ∧ mm_E 22 36 ls st (mm_uI I a x.toNatClampNeg y) r Q := me_is mc_22 dX1_find_35
theorem e22_36 : mm_E 22 36 [l0, l1, l2, l3, l4, l5, some (.int x), l7] st I r Q ↔ mm_c1 l5 ∧ mm_E 22 39 [l0, l1, l2, l3, l4, l5, some (.int (x + 1)), l7] st I r Q := me_st (k := 6) (v := .int (x + 1)) mc_22 dX1_find_36 rfl rfl (Nat.le_of_ble_eq_true rfl) rfl ⟨Or.inr, fun h => h.resolve_left (by decide)⟩
theorem e22_39 : mm_E 22 39 ls st I r Q ↔ mm_E 22 21 ls st I r Q := me_goto mc_22 dX1_find_39 (by decide)
theorem e22_42 : mm_E 22 42 [some (.ref a), l1, l2, l3, l4, l5, l6, l7] st I r Q ↔ mm_E 22 43 [some (.ref a), l1, l2, l3, l4, l5, l6, l7] (.ref a :: st) I r Q := me_al mc_22 dX1_find_42 rfl
theorem e22_43 : mm_E 22 43 ls (.ref a :: st) I r Q ↔ mm_S r a = (1, 1) ∧ mm_E 22 46 ls (va_rf (mm_P r a 3) :: st) I r Q := me_gr mc_22 dX1_find_43 (by decide +kernel) rfl
theorem e22_46 : mm_E 22 46 [l0, l1, l2, l3, l4, some (.int x), l6, l7] st I r Q ↔ mm_E 22 48 [l0, l1, l2, l3, l4, some (.int x), l6, l7] (.int x :: st) I r Q := me_il2 mc_22 dX1_find_46 rfl
theorem e22_48 : mm_E 22 48 ls st I r Q ↔ mm_E 22 49 ls (.int 1 :: st) I r Q := me_ic mc_22 dX1_find_48 (by decide)
theorem e22_49 : mm_E 22 49 ls (.int y :: .int x :: st) I r Q ↔ mm_E 22 50 ls (.int (x - y) :: st) I r Q := me_isub mc_22 dX1_find_49
theorem e22_50 : mm_E 22 50 [l0, l1, l2, some (.int x), l4, l5, l6, l7] st I r Q ↔ mm_E 22 51 [l0, l1, l2, some (.int x), l4, l5, l6, l7] (.int x :: st) I r Q := me_il mc_22 dX1_find_50 rfl
theorem e22_51 : mm_E 22 51 ls (.int y :: .int x :: .ref a :: st) I r Q ↔ mm_ix r a 2 x ∧ mm_E 22 52 ls st (mm_uI I a x.toNatClampNeg y) r Q := me_is mc_22 dX1_find_51
theorem e22_52 : mm_E 22 52 ls st I r Q ↔ mm_E 22 53 ls (.int 1 :: st) I r Q := me_ic mc_22 dX1_find_52 (by decide)
theorem e22_53 : mm_E 22 53 [l0, l1, l2, l3, l4, l5, l6, l7] (.int x :: st) I r Q ↔ mm_c1 l5 ∧ mm_E 22 55 [l0, l1, l2, l3, l4, l5, some (.int x), l7] st I r Q := me_st (k := 6) (v := .int x) mc_22 dX1_find_53 rfl rfl (Nat.le_of_ble_eq_true rfl) rfl ⟨Or.inr, fun h => h.resolve_left (by decide)⟩
theorem e22_55 : mm_E 22 55 ls st I r Q ↔ mm_E 22 56 ls (.int 0 :: st) I r Q := me_ic mc_22 dX1_find_55 (by decide)
theorem e22_56 : mm_E 22 56 [l0, l1, l2, l3, l4, l5, l6, l7] (.int x :: st) I r Q ↔ mm_c1 l6 ∧ mm_E 22 58 [l0, l1, l2, l3, l4, l5, l6, some (.int x)] st I r Q := me_st (k := 7) (v := .int x) mc_22 dX1_find_56 rfl rfl (Nat.le_of_ble_eq_true rfl) rfl ⟨Or.inr, fun h => h.resolve_left (by decide)⟩
theorem e22_58 : mm_E 22 58 [l0, l1, l2, l3, l4, l5, some (.int x), l7] st I r Q ↔ mm_E 22 60 [l0, l1, l2, l3, l4, l5, some (.int x), l7] (.int x :: st) I r Q := me_il2 mc_22 dX1_find_58 rfl
theorem e22_60 : mm_E 22 60 ls (.int x :: st) I r Q ↔ if x = 0 then mm_E 22 93 ls st I r Q else mm_E 22 63 ls st I r Q := me_zeq mc_22 dX1_find_60 (by decide)
theorem e22_63 : mm_E 22 63 [l0, l1, l2, l3, l4, l5, l6, some (.int x)] st I r Q ↔ mm_E 22 65 [l0, l1, l2, l3, l4, l5, l6, some (.int x)] (.int x :: st) I r Q := me_il2 mc_22 dX1_find_63 rfl
theorem e22_65 : mm_E 22 65 ls st I r Q ↔ mm_E 22 68 ls (.int 10000 :: st) I r Q := me_si mc_22 dX1_find_65 (by decide)
theorem e22_68 : mm_E 22 68 ls (.int y :: .int x :: st) I r Q ↔ if y ≤ x then mm_E 22 93 ls st I r Q else mm_E 22 71 ls st I r Q := me_cge mc_22 dX1_find_68 (by decide)
theorem e22_71 : mm_E 22 71 [some (.ref a), l1, l2, l3, l4, l5, l6, l7] st I r Q ↔ mm_E 22 72 [some (.ref a), l1, l2, l3, l4, l5, l6, l7] (.ref a :: st) I r Q := me_al mc_22 dX1_find_71 rfl
theorem e22_72 : mm_E 22 72 [l0, some (.ref a), l2, l3, l4, l5, l6, l7] st I r Q ↔ mm_E 22 73 [l0, some (.ref a), l2, l3, l4, l5, l6, l7] (.ref a :: st) I r Q := me_al mc_22 dX1_find_72 rfl
theorem e22_73 : mm_E 22 73 [l0, l1, some (.ref a), l3, l4, l5, l6, l7] st I r Q ↔ mm_E 22 74 [l0, l1, some (.ref a), l3, l4, l5, l6, l7] (.ref a :: st) I r Q := me_al mc_22 dX1_find_73 rfl
theorem e22_74 : mm_E 22 74 [l0, l1, l2, l3, some (.int x), l5, l6, l7] st I r Q ↔ mm_E 22 76 [l0, l1, l2, l3, some (.int x), l5, l6, l7] (.int x :: st) I r Q := me_il2 mc_22 dX1_find_74 rfl
theorem e22_76 : ∀ (x0 : Nat) (x1 : Nat) (x2 : Int32), (mm_E 22 76 ls (.int x2 :: .ref x1 :: .ref x0 :: .ref a :: st) I r Q ↔ (mm_w8 st = true ∧ mm_S r a = (1, 1)) ∧ mm_E 23 0 [some (.ref a), some (.ref x0), some (.ref x1), some (.int x2), none, none, none, none] [] I r (fun v I2 r2 => mm_E 22 79 ls (mm_pu v st) I2 r2 Q)) := fun x0 x1 x2 => me_vc (n := 3) (As := [.ref x0, .ref x1, .int x2]) (xs := [.int x2, .ref x1, .ref x0]) (a := a) mc_22 dX1_find_76 (by decide +kernel) (by decide +kernel) rfl rfl (Nat.le_of_ble_eq_true rfl) rfl
theorem e22_79 : mm_E 22 79 [some (.ref a), l1, l2, l3, l4, l5, l6, l7] st I r Q ↔ mm_E 22 80 [some (.ref a), l1, l2, l3, l4, l5, l6, l7] (.ref a :: st) I r Q := me_al mc_22 dX1_find_79 rfl
theorem e22_80 : mm_E 22 80 [l0, l1, l2, l3, l4, some (.int x), l6, l7] st I r Q ↔ mm_E 22 82 [l0, l1, l2, l3, l4, some (.int x), l6, l7] (.int x :: st) I r Q := me_il2 mc_22 dX1_find_80 rfl
theorem e22_82 : ∀ (x0 : Int32), (mm_E 22 82 ls (.int x0 :: .ref a :: st) I r Q ↔ (mm_w8 st = true ∧ mm_S r a = (1, 1)) ∧ mm_E 24 0 [some (.ref a), some (.int x0), none, none] [] I r (fun v I2 r2 => mm_E 22 85 ls (mm_pu v st) I2 r2 Q)) := fun x0 => me_vc (n := 1) (As := [.int x0]) (xs := [.int x0]) (a := a) mc_22 dX1_find_82 (by decide +kernel) (by decide +kernel) rfl rfl (Nat.le_of_ble_eq_true rfl) rfl
theorem e22_85 : mm_E 22 85 [l0, l1, l2, l3, l4, l5, l6, l7] (.int x :: st) I r Q ↔ mm_c1 l5 ∧ mm_E 22 87 [l0, l1, l2, l3, l4, l5, some (.int x), l7] st I r Q := me_st (k := 6) (v := .int x) mc_22 dX1_find_85 rfl rfl (Nat.le_of_ble_eq_true rfl) rfl ⟨Or.inr, fun h => h.resolve_left (by decide)⟩
theorem e22_87 : mm_E 22 87 [l0, l1, l2, l3, l4, l5, l6, some (.int x)] st I r Q ↔ mm_c1 l6 ∧ mm_E 22 90 [l0, l1, l2, l3, l4, l5, l6, some (.int (x + 1))] st I r Q := me_st (k := 7) (v := .int (x + 1)) mc_22 dX1_find_87 rfl rfl (Nat.le_of_ble_eq_true rfl) rfl ⟨Or.inr, fun h => h.resolve_left (by decide)⟩
theorem e22_90 : mm_E 22 90 ls st I r Q ↔ mm_E 22 58 ls st I r Q := me_goto mc_22 dX1_find_90 (by decide)
theorem e22_93 : mm_E 22 93 ls [] I r Q ↔ Q none I r := me_rv mc_22 dX1_find_93 rfl
theorem mc_23 : mm_c 23 = cX1_judge := rfl
theorem e23_0 : mm_E 23 0 [l0, some (.ref a), l2, l3, l4, l5, l6, l7] st I r Q ↔ mm_E 23 1 [l0, some (.ref a), l2, l3, l4, l5, l6, l7] (.ref a :: st) I r Q := me_al mc_23 dX1_judge_0 rfl
theorem e23_1 : mm_E 23 1 ls (.ref a :: st) I r Q ↔ mm_S r a = (1, 0) ∧ mm_E 23 4 ls (.int (mm_rd I a 0) :: st) I r Q := me_gi mc_23 dX1_judge_1 (by decide +kernel) rfl
theorem e23_4 : mm_E 23 4 [l0, l1, l2, l3, l4, l5, l6, l7] (.int x :: st) I r Q ↔ mm_c1 l3 ∧ mm_E 23 6 [l0, l1, l2, l3, some (.int x), l5, l6, l7] st I r Q := me_st (k := 4) (v := .int x) mc_23 dX1_judge_4 rfl rfl (Nat.le_of_ble_eq_true rfl) rfl ⟨Or.inr, fun h => h.resolve_left (by decide)⟩
theorem e23_6 : mm_E 23 6 [l0, l1, some (.ref a), l3, l4, l5, l6, l7] st I r Q ↔ mm_E 23 7 [l0, l1, some (.ref a), l3, l4, l5, l6, l7] (.ref a :: st) I r Q := me_al mc_23 dX1_judge_6 rfl
theorem e23_7 : mm_E 23 7 [l0, some (.ref a), l2, l3, l4, l5, l6, l7] st I r Q ↔ mm_E 23 8 [l0, some (.ref a), l2, l3, l4, l5, l6, l7] (.ref a :: st) I r Q := me_al mc_23 dX1_judge_7 rfl
theorem e23_8 : ∀ (x0 : Nat), (mm_E 23 8 ls (.ref x0 :: .ref a :: st) I r Q ↔ (mm_w8 st = true ∧ mm_S r a = (1, 0)) ∧ mm_E 1 0 [some (.ref a), some (.ref x0), none] [] I r (fun v I2 r2 => mm_E 23 11 ls (mm_pu v st) I2 r2 Q)) := fun x0 => me_vc (n := 1) (As := [.ref x0]) (xs := [.ref x0]) (a := a) mc_23 dX1_judge_8 (by decide +kernel) (by decide +kernel) rfl rfl (Nat.le_of_ble_eq_true rfl) rfl
theorem e23_11 : mm_E 23 11 ls st I r Q ↔ mm_E 23 12 ls (.int 0 :: st) I r Q := me_ic mc_23 dX1_judge_11 (by decide)
theorem e23_12 : mm_E 23 12 [l0, l1, l2, l3, l4, l5, l6, l7] (.int x :: st) I r Q ↔ mm_c1 l4 ∧ mm_E 23 14 [l0, l1, l2, l3, l4, some (.int x), l6, l7] st I r Q := me_st (k := 5) (v := .int x) mc_23 dX1_judge_12 rfl rfl (Nat.le_of_ble_eq_true rfl) rfl ⟨Or.inr, fun h => h.resolve_left (by decide)⟩
theorem e23_14 : mm_E 23 14 [l0, l1, l2, l3, l4, some (.int x), l6, l7] st I r Q ↔ mm_E 23 16 [l0, l1, l2, l3, l4, some (.int x), l6, l7] (.int x :: st) I r Q := me_il2 mc_23 dX1_judge_14 rfl
theorem e23_16 : mm_E 23 16 [l0, l1, l2, l3, some (.int x), l5, l6, l7] st I r Q ↔ mm_E 23 18 [l0, l1, l2, l3, some (.int x), l5, l6, l7] (.int x :: st) I r Q := me_il2 mc_23 dX1_judge_16 rfl
theorem e23_18 : mm_E 23 18 ls (.int y :: .int x :: st) I r Q ↔ if y ≤ x then mm_E 23 41 ls st I r Q else mm_E 23 21 ls st I r Q := me_cge mc_23 dX1_judge_18 (by decide)
theorem e23_21 : mm_E 23 21 [l0, l1, some (.ref a), l3, l4, l5, l6, l7] st I r Q ↔ mm_E 23 22 [l0, l1, some (.ref a), l3, l4, l5, l6, l7] (.ref a :: st) I r Q := me_al mc_23 dX1_judge_21 rfl
theorem e23_22 : mm_E 23 22 ls (.ref a :: st) I r Q ↔ mm_S r a = (1, 0) ∧ mm_E 23 25 ls (va_rf (mm_P r a 7) :: st) I r Q := me_gr mc_23 dX1_judge_22 (by decide +kernel) rfl
theorem e23_25 : mm_E 23 25 [l0, l1, l2, l3, l4, some (.int x), l6, l7] st I r Q ↔ mm_E 23 27 [l0, l1, l2, l3, l4, some (.int x), l6, l7] (.int x :: st) I r Q := me_il2 mc_23 dX1_judge_25 rfl
theorem e23_27 : mm_E 23 27 [some (.ref a), l1, l2, l3, l4, l5, l6, l7] st I r Q ↔ mm_E 23 28 [some (.ref a), l1, l2, l3, l4, l5, l6, l7] (.ref a :: st) I r Q := me_al mc_23 dX1_judge_27 rfl
theorem e23_28 : mm_E 23 28 ls (.ref a :: st) I r Q ↔ mm_S r a = (1, 1) ∧ mm_E 23 31 ls (va_rf (mm_P r a 3) :: st) I r Q := me_gr mc_23 dX1_judge_28 (by decide +kernel) rfl
theorem e23_31 : mm_E 23 31 [l0, l1, l2, l3, l4, some (.int x), l6, l7] st I r Q ↔ mm_E 23 33 [l0, l1, l2, l3, l4, some (.int x), l6, l7] (.int x :: st) I r Q := me_il2 mc_23 dX1_judge_31 rfl
theorem e23_33 : mm_E 23 33 ls (.int x :: .ref a :: st) I r Q ↔ mm_ix r a 2 x ∧ mm_E 23 34 ls (.int (mm_rd I a x.toNatClampNeg) :: st) I r Q := me_ia mc_23 dX1_judge_33
theorem e23_34 : mm_E 23 34 ls (.int y :: .int x :: .ref a :: st) I r Q ↔ mm_ix r a 2 x ∧ mm_E 23 35 ls st (mm_uI I a x.toNatClampNeg y) r Q := me_is mc_23 dX1_judge_34
theorem e23_35 : mm_E 23 35 [l0, l1, l2, l3, l4, some (.int x), l6, l7] st I r Q ↔ mm_c1 l4 ∧ mm_E 23 38 [l0, l1, l2, l3, l4, some (.int (x + 1)), l6, l7] st I r Q := me_st (k := 5) (v := .int (x + 1)) mc_23 dX1_judge_35 rfl rfl (Nat.le_of_ble_eq_true rfl) rfl ⟨Or.inr, fun h => h.resolve_left (by decide)⟩
theorem e23_38 : mm_E 23 38 ls st I r Q ↔ mm_E 23 14 ls st I r Q := me_goto mc_23 dX1_judge_38 (by decide)
theorem e23_41 : mm_E 23 41 [l0, l1, l2, l3, some (.int x), l5, l6, l7] st I r Q ↔ mm_E 23 43 [l0, l1, l2, l3, some (.int x), l5, l6, l7] (.int x :: st) I r Q := me_il2 mc_23 dX1_judge_41 rfl
theorem e23_43 : mm_E 23 43 [l0, l1, l2, l3, l4, l5, l6, l7] (.int x :: st) I r Q ↔ mm_c1 l4 ∧ mm_E 23 45 [l0, l1, l2, l3, l4, some (.int x), l6, l7] st I r Q := me_st (k := 5) (v := .int x) mc_23 dX1_judge_43 rfl rfl (Nat.le_of_ble_eq_true rfl) rfl ⟨Or.inr, fun h => h.resolve_left (by decide)⟩
theorem e23_45 : mm_E 23 45 ls st I r Q ↔ mm_E 23 46 ls (.int 0 :: st) I r Q := me_ic mc_23 dX1_judge_45 (by decide)
theorem e23_46 : mm_E 23 46 [l0, l1, l2, l3, l4, l5, l6, l7] (.int x :: st) I r Q ↔ mm_c1 l5 ∧ mm_E 23 48 [l0, l1, l2, l3, l4, l5, some (.int x), l7] st I r Q := me_st (k := 6) (v := .int x) mc_23 dX1_judge_46 rfl rfl (Nat.le_of_ble_eq_true rfl) rfl ⟨Or.inr, fun h => h.resolve_left (by decide)⟩
theorem e23_48 : mm_E 23 48 [l0, l1, l2, l3, l4, l5, some (.int x), l7] st I r Q ↔ mm_E 23 50 [l0, l1, l2, l3, l4, l5, some (.int x), l7] (.int x :: st) I r Q := me_il2 mc_23 dX1_judge_48 rfl
theorem e23_50 : mm_E 23 50 [l0, l1, l2, some (.int x), l4, l5, l6, l7] st I r Q ↔ mm_E 23 51 [l0, l1, l2, some (.int x), l4, l5, l6, l7] (.int x :: st) I r Q := me_il mc_23 dX1_judge_50 rfl
theorem e23_51 : mm_E 23 51 ls (.int y :: .int x :: st) I r Q ↔ if y ≤ x then mm_E 23 86 ls st I r Q else mm_E 23 54 ls st I r Q := me_cge mc_23 dX1_judge_51 (by decide)
theorem e23_54 : mm_E 23 54 [l0, l1, l2, l3, l4, some (.int x), l6, l7] st I r Q ↔ mm_E 23 56 [l0, l1, l2, l3, l4, some (.int x), l6, l7] (.int x :: st) I r Q := me_il2 mc_23 dX1_judge_54 rfl
theorem e23_56 : mm_E 23 56 [some (.ref a), l1, l2, l3, l4, l5, l6, l7] st I r Q ↔ mm_E 23 57 [some (.ref a), l1, l2, l3, l4, l5, l6, l7] (.ref a :: st) I r Q := me_al mc_23 dX1_judge_56 rfl
theorem e23_57 : mm_E 23 57 ls (.ref a :: st) I r Q ↔ mm_S r a = (1, 1) ∧ mm_E 23 60 ls (.int (mm_rd I a 0) :: st) I r Q := me_gi mc_23 dX1_judge_57 (by decide +kernel) rfl
theorem e23_60 : mm_E 23 60 ls (.int y :: .int x :: st) I r Q ↔ if x < y then mm_E 23 86 ls st I r Q else mm_E 23 63 ls st I r Q := me_clt mc_23 dX1_judge_60 (by decide)
theorem e23_63 : mm_E 23 63 [l0, l1, some (.ref a), l3, l4, l5, l6, l7] st I r Q ↔ mm_E 23 64 [l0, l1, some (.ref a), l3, l4, l5, l6, l7] (.ref a :: st) I r Q := me_al mc_23 dX1_judge_63 rfl
theorem e23_64 : mm_E 23 64 ls st I r Q ↔ mm_E 23 65 ls (.int 0 :: st) I r Q := me_ic mc_23 dX1_judge_64 (by decide)
theorem e23_65 : ∀ (x0 : Int32), (mm_E 23 65 ls (.int x0 :: .ref a :: st) I r Q ↔ (mm_w8 st = true ∧ mm_S r a = (1, 0)) ∧ mm_E 16 0 [some (.ref a), some (.int x0), none, none] [] I r (fun v I2 r2 => mm_E 23 68 ls (mm_pu v st) I2 r2 Q)) := fun x0 => me_vc (n := 1) (As := [.int x0]) (xs := [.int x0]) (a := a) mc_23 dX1_judge_65 (by decide +kernel) (by decide +kernel) rfl rfl (Nat.le_of_ble_eq_true rfl) rfl
theorem e23_68 : mm_E 23 68 [l0, l1, l2, l3, some (.int x), l5, l6, l7] st I r Q ↔ mm_E 23 70 [l0, l1, l2, l3, some (.int x), l5, l6, l7] (.int x :: st) I r Q := me_il2 mc_23 dX1_judge_68 rfl
theorem e23_70 : mm_E 23 70 [l0, l1, some (.ref a), l3, l4, l5, l6, l7] st I r Q ↔ mm_E 23 71 [l0, l1, some (.ref a), l3, l4, l5, l6, l7] (.ref a :: st) I r Q := me_al mc_23 dX1_judge_70 rfl
theorem e23_71 : (mm_E 23 71 ls (.ref a :: st) I r Q ↔ (mm_w8 st = true ∧ mm_S r a = (1, 0)) ∧ mm_E 9 0 [some (.ref a), none, none] [] I r (fun v I2 r2 => mm_E 23 74 ls (mm_pu v st) I2 r2 Q)) := me_vc (n := 0) (As := []) (xs := []) (a := a) mc_23 dX1_judge_71 (by decide +kernel) (by decide +kernel) rfl rfl (Nat.le_of_ble_eq_true rfl) rfl
theorem e23_74 : ∀ (x0 : Int32), (mm_E 23 74 ls (.int x0 :: st) I r Q ↔ mm_w8 st = true ∧ mm_E 163 0 [some (.int x0)] [] I r (fun v I2 r2 => mm_E 23 77 ls (mm_pu v st) I2 r2 Q)) := fun x0 => me_sc (n := 1) (As := [.int x0]) (xs := [.int x0]) mc_23 dX1_judge_74 (by decide +kernel) (by decide +kernel) rfl rfl (Nat.le_of_ble_eq_true rfl) rfl
theorem e23_77 : mm_E 23 77 ls (.int y :: .int x :: st) I r Q ↔ mm_E 23 78 ls (.int (x - y) :: st) I r Q := me_isub mc_23 dX1_judge_77
theorem e23_78 : mm_E 23 78 [l0, l1, l2, l3, l4, l5, l6, l7] (.int x :: st) I r Q ↔ mm_c1 l4 ∧ mm_E 23 80 [l0, l1, l2, l3, l4, some (.int x), l6, l7] st I r Q := me_st (k := 5) (v := .int x) mc_23 dX1_judge_78 rfl rfl (Nat.le_of_ble_eq_true rfl) rfl ⟨Or.inr, fun h => h.resolve_left (by decide)⟩
theorem e23_80 : mm_E 23 80 [l0, l1, l2, l3, l4, l5, some (.int x), l7] st I r Q ↔ mm_c1 l5 ∧ mm_E 23 83 [l0, l1, l2, l3, l4, l5, some (.int (x + 1)), l7] st I r Q := me_st (k := 6) (v := .int (x + 1)) mc_23 dX1_judge_80 rfl rfl (Nat.le_of_ble_eq_true rfl) rfl ⟨Or.inr, fun h => h.resolve_left (by decide)⟩
theorem e23_83 : mm_E 23 83 ls st I r Q ↔ mm_E 23 48 ls st I r Q := me_goto mc_23 dX1_judge_83 (by decide)
theorem e23_86 : mm_E 23 86 [l0, l1, some (.ref a), l3, l4, l5, l6, l7] st I r Q ↔ mm_E 23 87 [l0, l1, some (.ref a), l3, l4, l5, l6, l7] (.ref a :: st) I r Q := me_al mc_23 dX1_judge_86 rfl
theorem e23_87 : (mm_E 23 87 ls (.ref a :: st) I r Q ↔ (mm_w8 st = true ∧ mm_S r a = (1, 0)) ∧ mm_E 10 0 [some (.ref a), none, none] [] I r (fun v I2 r2 => mm_E 23 90 ls (mm_pu v st) I2 r2 Q)) := me_vc (n := 0) (As := []) (xs := []) (a := a) mc_23 dX1_judge_87 (by decide +kernel) (by decide +kernel) rfl rfl (Nat.le_of_ble_eq_true rfl) rfl
theorem e23_90 : mm_E 23 90 [l0, l1, l2, l3, l4, l5, l6, l7] (.int x :: st) I r Q ↔ mm_c1 l5 ∧ mm_E 23 92 [l0, l1, l2, l3, l4, l5, some (.int x), l7] st I r Q := me_st (k := 6) (v := .int x) mc_23 dX1_judge_90 rfl rfl (Nat.le_of_ble_eq_true rfl) rfl ⟨Or.inr, fun h => h.resolve_left (by decide)⟩
theorem e23_92 : mm_E 23 92 [l0, l1, l2, l3, l4, some (.int x), l6, l7] st I r Q ↔ mm_E 23 94 [l0, l1, l2, l3, l4, some (.int x), l6, l7] (.int x :: st) I r Q := me_il2 mc_23 dX1_judge_92 rfl
theorem e23_94 : mm_E 23 94 [some (.ref a), l1, l2, l3, l4, l5, l6, l7] st I r Q ↔ mm_E 23 95 [some (.ref a), l1, l2, l3, l4, l5, l6, l7] (.ref a :: st) I r Q := me_al mc_23 dX1_judge_94 rfl
theorem e23_95 : mm_E 23 95 ls (.ref a :: st) I r Q ↔ mm_S r a = (1, 1) ∧ mm_E 23 98 ls (.int (mm_rd I a 0) :: st) I r Q := me_gi mc_23 dX1_judge_95 (by decide +kernel) rfl
theorem e23_98 : mm_E 23 98 ls (.int y :: .int x :: st) I r Q ↔ if y < x then mm_E 23 119 ls st I r Q else mm_E 23 101 ls st I r Q := me_cgt mc_23 dX1_judge_98 (by decide)
theorem e23_101 : mm_E 23 101 [l0, l1, l2, l3, l4, some (.int x), l6, l7] st I r Q ↔ mm_E 23 103 [l0, l1, l2, l3, l4, some (.int x), l6, l7] (.int x :: st) I r Q := me_il2 mc_23 dX1_judge_101 rfl
theorem e23_103 : mm_E 23 103 [some (.ref a), l1, l2, l3, l4, l5, l6, l7] st I r Q ↔ mm_E 23 104 [some (.ref a), l1, l2, l3, l4, l5, l6, l7] (.ref a :: st) I r Q := me_al mc_23 dX1_judge_103 rfl
theorem e23_104 : mm_E 23 104 ls (.ref a :: st) I r Q ↔ mm_S r a = (1, 1) ∧ mm_E 23 107 ls (.int (mm_rd I a 0) :: st) I r Q := me_gi mc_23 dX1_judge_104 (by decide +kernel) rfl
theorem e23_107 : mm_E 23 107 ls (.int y :: .int x :: st) I r Q ↔ if ¬ x = y then mm_E 23 161 ls st I r Q else mm_E 23 110 ls st I r Q := me_cne mc_23 dX1_judge_107 (by decide)
theorem e23_110 : mm_E 23 110 [l0, l1, l2, l3, l4, l5, some (.int x), l7] st I r Q ↔ mm_E 23 112 [l0, l1, l2, l3, l4, l5, some (.int x), l7] (.int x :: st) I r Q := me_il2 mc_23 dX1_judge_110 rfl
theorem e23_112 : mm_E 23 112 [some (.ref a), l1, l2, l3, l4, l5, l6, l7] st I r Q ↔ mm_E 23 113 [some (.ref a), l1, l2, l3, l4, l5, l6, l7] (.ref a :: st) I r Q := me_al mc_23 dX1_judge_112 rfl
theorem e23_113 : mm_E 23 113 ls (.ref a :: st) I r Q ↔ mm_S r a = (1, 1) ∧ mm_E 23 116 ls (.int (mm_rd I a 1) :: st) I r Q := me_gi mc_23 dX1_judge_113 (by decide +kernel) rfl
theorem e23_116 : mm_E 23 116 ls (.int y :: .int x :: st) I r Q ↔ if y ≤ x then mm_E 23 161 ls st I r Q else mm_E 23 119 ls st I r Q := me_cge mc_23 dX1_judge_116 (by decide)
theorem e23_119 : mm_E 23 119 [some (.ref a), l1, l2, l3, l4, l5, l6, l7] st I r Q ↔ mm_E 23 120 [some (.ref a), l1, l2, l3, l4, l5, l6, l7] (.ref a :: st) I r Q := me_al mc_23 dX1_judge_119 rfl
theorem e23_120 : mm_E 23 120 [l0, l1, l2, l3, l4, some (.int x), l6, l7] st I r Q ↔ mm_E 23 122 [l0, l1, l2, l3, l4, some (.int x), l6, l7] (.int x :: st) I r Q := me_il2 mc_23 dX1_judge_120 rfl
theorem e23_122 : mm_E 23 122 ls (.int x :: .ref a :: st) I r Q ↔ mm_S r a = (1, 1) ∧ mm_E 23 125 ls st (mm_uI I a 0 x) r Q := me_pi mc_23 dX1_judge_122 (by decide +kernel) (by decide +kernel)
theorem e23_125 : mm_E 23 125 [some (.ref a), l1, l2, l3, l4, l5, l6, l7] st I r Q ↔ mm_E 23 126 [some (.ref a), l1, l2, l3, l4, l5, l6, l7] (.ref a :: st) I r Q := me_al mc_23 dX1_judge_125 rfl
theorem e23_126 : mm_E 23 126 [l0, l1, l2, l3, l4, l5, some (.int x), l7] st I r Q ↔ mm_E 23 128 [l0, l1, l2, l3, l4, l5, some (.int x), l7] (.int x :: st) I r Q := me_il2 mc_23 dX1_judge_126 rfl
theorem e23_128 : mm_E 23 128 ls (.int x :: .ref a :: st) I r Q ↔ mm_S r a = (1, 1) ∧ mm_E 23 131 ls st (mm_uI I a 1 x) r Q := me_pi mc_23 dX1_judge_128 (by decide +kernel) (by decide +kernel)
theorem e23_131 : mm_E 23 131 ls st I r Q ↔ mm_E 23 132 ls (.int 0 :: st) I r Q := me_ic mc_23 dX1_judge_131 (by decide)
theorem e23_132 : mm_E 23 132 [l0, l1, l2, l3, l4, l5, l6, l7] (.int x :: st) I r Q ↔ mm_c1 l6 ∧ mm_E 23 134 [l0, l1, l2, l3, l4, l5, l6, some (.int x)] st I r Q := me_st (k := 7) (v := .int x) mc_23 dX1_judge_132 rfl rfl (Nat.le_of_ble_eq_true rfl) rfl ⟨Or.inr, fun h => h.resolve_left (by decide)⟩
theorem e23_134 : mm_E 23 134 [l0, l1, l2, l3, l4, l5, l6, some (.int x)] st I r Q ↔ mm_E 23 136 [l0, l1, l2, l3, l4, l5, l6, some (.int x)] (.int x :: st) I r Q := me_il2 mc_23 dX1_judge_134 rfl
theorem e23_136 : mm_E 23 136 [l0, l1, l2, l3, some (.int x), l5, l6, l7] st I r Q ↔ mm_E 23 138 [l0, l1, l2, l3, some (.int x), l5, l6, l7] (.int x :: st) I r Q := me_il2 mc_23 dX1_judge_136 rfl
theorem e23_138 : mm_E 23 138 ls (.int y :: .int x :: st) I r Q ↔ if y ≤ x then mm_E 23 161 ls st I r Q else mm_E 23 141 ls st I r Q := me_cge mc_23 dX1_judge_138 (by decide)
theorem e23_141 : mm_E 23 141 [some (.ref a), l1, l2, l3, l4, l5, l6, l7] st I r Q ↔ mm_E 23 142 [some (.ref a), l1, l2, l3, l4, l5, l6, l7] (.ref a :: st) I r Q := me_al mc_23 dX1_judge_141 rfl
theorem e23_142 : mm_E 23 142 ls (.ref a :: st) I r Q ↔ mm_S r a = (1, 1) ∧ mm_E 23 145 ls (va_rf (mm_P r a 2) :: st) I r Q := me_gr mc_23 dX1_judge_142 (by decide +kernel) rfl
theorem e23_145 : mm_E 23 145 [l0, l1, l2, l3, l4, l5, l6, some (.int x)] st I r Q ↔ mm_E 23 147 [l0, l1, l2, l3, l4, l5, l6, some (.int x)] (.int x :: st) I r Q := me_il2 mc_23 dX1_judge_145 rfl
theorem e23_147 : mm_E 23 147 [some (.ref a), l1, l2, l3, l4, l5, l6, l7] st I r Q ↔ mm_E 23 148 [some (.ref a), l1, l2, l3, l4, l5, l6, l7] (.ref a :: st) I r Q := me_al mc_23 dX1_judge_147 rfl
theorem e23_148 : mm_E 23 148 ls (.ref a :: st) I r Q ↔ mm_S r a = (1, 1) ∧ mm_E 23 151 ls (va_rf (mm_P r a 3) :: st) I r Q := me_gr mc_23 dX1_judge_148 (by decide +kernel) rfl
theorem e23_151 : mm_E 23 151 [l0, l1, l2, l3, l4, l5, l6, some (.int x)] st I r Q ↔ mm_E 23 153 [l0, l1, l2, l3, l4, l5, l6, some (.int x)] (.int x :: st) I r Q := me_il2 mc_23 dX1_judge_151 rfl
theorem e23_153 : mm_E 23 153 ls (.int x :: .ref a :: st) I r Q ↔ mm_ix r a 2 x ∧ mm_E 23 154 ls (.int (mm_rd I a x.toNatClampNeg) :: st) I r Q := me_ia mc_23 dX1_judge_153
theorem e23_154 : mm_E 23 154 ls (.int y :: .int x :: .ref a :: st) I r Q ↔ mm_ix r a 2 x ∧ mm_E 23 155 ls st (mm_uI I a x.toNatClampNeg y) r Q := me_is mc_23 dX1_judge_154
theorem e23_155 : mm_E 23 155 [l0, l1, l2, l3, l4, l5, l6, some (.int x)] st I r Q ↔ mm_c1 l6 ∧ mm_E 23 158 [l0, l1, l2, l3, l4, l5, l6, some (.int (x + 1))] st I r Q := me_st (k := 7) (v := .int (x + 1)) mc_23 dX1_judge_155 rfl rfl (Nat.le_of_ble_eq_true rfl) rfl ⟨Or.inr, fun h => h.resolve_left (by decide)⟩
theorem e23_158 : mm_E 23 158 ls st I r Q ↔ mm_E 23 134 ls st I r Q := me_goto mc_23 dX1_judge_158 (by decide)
theorem e23_161 : mm_E 23 161 ls [] I r Q ↔ Q none I r := me_rv mc_23 dX1_judge_161 rfl
theorem mc_24 : mm_c 24 = cX1_nextWay := rfl
theorem e24_0 : mm_E 24 0 [l0, some (.int x), l2, l3] st I r Q ↔ mm_E 24 1 [l0, some (.int x), l2, l3] (.int x :: st) I r Q := me_il mc_24 dX1_nextWay_0 rfl
theorem e24_1 : mm_E 24 1 ls st I r Q ↔ mm_E 24 2 ls (.int 1 :: st) I r Q := me_ic mc_24 dX1_nextWay_1 (by decide)
theorem e24_2 : mm_E 24 2 ls (.int y :: .int x :: st) I r Q ↔ mm_E 24 3 ls (.int (x - y) :: st) I r Q := me_isub mc_24 dX1_nextWay_2
theorem e24_3 : mm_E 24 3 [l0, l1, l2, l3] (.int x :: st) I r Q ↔ mm_c1 l1 ∧ mm_E 24 4 [l0, l1, some (.int x), l3] st I r Q := me_st (k := 2) (v := .int x) mc_24 dX1_nextWay_3 rfl rfl (Nat.le_of_ble_eq_true rfl) rfl ⟨Or.inr, fun h => h.resolve_left (by decide)⟩
theorem e24_4 : mm_E 24 4 [l0, l1, some (.int x), l3] st I r Q ↔ mm_E 24 5 [l0, l1, some (.int x), l3] (.int x :: st) I r Q := me_il mc_24 dX1_nextWay_4 rfl
theorem e24_5 : mm_E 24 5 ls (.int x :: st) I r Q ↔ if x ≤ 0 then mm_E 24 57 ls st I r Q else mm_E 24 8 ls st I r Q := me_zle mc_24 dX1_nextWay_5 (by decide)
theorem e24_8 : mm_E 24 8 [some (.ref a), l1, l2, l3] st I r Q ↔ mm_E 24 9 [some (.ref a), l1, l2, l3] (.ref a :: st) I r Q := me_al mc_24 dX1_nextWay_8 rfl
theorem e24_9 : mm_E 24 9 ls (.ref a :: st) I r Q ↔ mm_S r a = (1, 1) ∧ mm_E 24 12 ls (va_rf (mm_P r a 3) :: st) I r Q := me_gr mc_24 dX1_nextWay_9 (by decide +kernel) rfl
theorem e24_12 : mm_E 24 12 [l0, l1, some (.int x), l3] st I r Q ↔ mm_E 24 13 [l0, l1, some (.int x), l3] (.int x :: st) I r Q := me_il mc_24 dX1_nextWay_12 rfl
theorem e24_13 : mm_E 24 13 ls (.int x :: .ref a :: st) I r Q ↔ mm_ix r a 2 x ∧ mm_E 24 14 ls (.int (mm_rd I a x.toNatClampNeg) :: st) I r Q := me_ia mc_24 dX1_nextWay_13
theorem e24_14 : mm_E 24 14 [l0, l1, l2, l3] (.int x :: st) I r Q ↔ mm_c1 l2 ∧ mm_E 24 15 [l0, l1, l2, some (.int x)] st I r Q := me_st (k := 3) (v := .int x) mc_24 dX1_nextWay_14 rfl rfl (Nat.le_of_ble_eq_true rfl) rfl ⟨Or.inr, fun h => h.resolve_left (by decide)⟩
theorem e24_15 : mm_E 24 15 [some (.ref a), l1, l2, l3] st I r Q ↔ mm_E 24 16 [some (.ref a), l1, l2, l3] (.ref a :: st) I r Q := me_al mc_24 dX1_nextWay_15 rfl
theorem e24_16 : mm_E 24 16 ls (.ref a :: st) I r Q ↔ mm_S r a = (1, 1) ∧ mm_E 24 19 ls (va_rf (mm_P r a 3) :: st) I r Q := me_gr mc_24 dX1_nextWay_16 (by decide +kernel) rfl
theorem e24_19 : mm_E 24 19 [l0, l1, some (.int x), l3] st I r Q ↔ mm_E 24 20 [l0, l1, some (.int x), l3] (.int x :: st) I r Q := me_il mc_24 dX1_nextWay_19 rfl
theorem e24_20 : mm_E 24 20 ls st I r Q ↔ mm_E 24 21 ls (.int 0 :: st) I r Q := me_ic mc_24 dX1_nextWay_20 (by decide)
theorem e24_21 : mm_E 24 21 ls (.int y :: .int x :: .ref a :: st) I r Q ↔ mm_ix r a 2 x ∧ mm_E 24 22 ls st (mm_uI I a x.toNatClampNeg y) r Q := me_is mc_24 dX1_nextWay_21
theorem e24_22 : mm_E 24 22 [l0, l1, l2, some (.int x)] st I r Q ↔ mm_E 24 23 [l0, l1, l2, some (.int x)] (.int x :: st) I r Q := me_il mc_24 dX1_nextWay_22 rfl
theorem e24_23 : mm_E 24 23 ls (.int x :: st) I r Q ↔ if x ≤ 0 then mm_E 24 51 ls st I r Q else mm_E 24 26 ls st I r Q := me_zle mc_24 dX1_nextWay_23 (by decide)
theorem e24_26 : mm_E 24 26 [some (.ref a), l1, l2, l3] st I r Q ↔ mm_E 24 27 [some (.ref a), l1, l2, l3] (.ref a :: st) I r Q := me_al mc_24 dX1_nextWay_26 rfl
theorem e24_27 : mm_E 24 27 ls (.ref a :: st) I r Q ↔ mm_S r a = (1, 1) ∧ mm_E 24 30 ls (va_rf (mm_P r a 3) :: st) I r Q := me_gr mc_24 dX1_nextWay_27 (by decide +kernel) rfl
theorem e24_30 : mm_E 24 30 [l0, l1, some (.int x), l3] st I r Q ↔ mm_E 24 31 [l0, l1, some (.int x), l3] (.int x :: st) I r Q := me_il mc_24 dX1_nextWay_30 rfl
theorem e24_31 : mm_E 24 31 ls st I r Q ↔ mm_E 24 32 ls (.int 1 :: st) I r Q := me_ic mc_24 dX1_nextWay_31 (by decide)
theorem e24_32 : mm_E 24 32 ls (.int y :: .int x :: st) I r Q ↔ mm_E 24 33 ls (.int (x - y) :: st) I r Q := me_isub mc_24 dX1_nextWay_32
theorem e24_33 : mm_E 24 33 ls (u :: v :: st) I r Q ↔ (v.category = 1 ∧ u.category = 1) ∧ mm_E 24 34 ls (u :: v :: u :: v :: st) I r Q := me_dup2 mc_24 dX1_nextWay_33
theorem e24_34 : mm_E 24 34 ls (.int x :: .ref a :: st) I r Q ↔ mm_ix r a 2 x ∧ mm_E 24 35 ls (.int (mm_rd I a x.toNatClampNeg) :: st) I r Q := me_ia mc_24 dX1_nextWay_34
theorem e24_35 : mm_E 24 35 ls st I r Q ↔ mm_E 24 36 ls (.int 1 :: st) I r Q := me_ic mc_24 dX1_nextWay_35 (by decide)
theorem e24_36 : mm_E 24 36 ls (.int y :: .int x :: st) I r Q ↔ mm_E 24 37 ls (.int (x + y) :: st) I r Q := me_iadd mc_24 dX1_nextWay_36
theorem e24_37 : mm_E 24 37 ls (.int y :: .int x :: .ref a :: st) I r Q ↔ mm_ix r a 2 x ∧ mm_E 24 38 ls st (mm_uI I a x.toNatClampNeg y) r Q := me_is mc_24 dX1_nextWay_37
theorem e24_38 : mm_E 24 38 [some (.ref a), l1, l2, l3] st I r Q ↔ mm_E 24 39 [some (.ref a), l1, l2, l3] (.ref a :: st) I r Q := me_al mc_24 dX1_nextWay_38 rfl
theorem e24_39 : mm_E 24 39 ls (.ref a :: st) I r Q ↔ mm_S r a = (1, 1) ∧ mm_E 24 42 ls (va_rf (mm_P r a 3) :: st) I r Q := me_gr mc_24 dX1_nextWay_39 (by decide +kernel) rfl
theorem e24_42 : mm_E 24 42 [l0, some (.int x), l2, l3] st I r Q ↔ mm_E 24 43 [l0, some (.int x), l2, l3] (.int x :: st) I r Q := me_il mc_24 dX1_nextWay_42 rfl
theorem e24_43 : mm_E 24 43 ls st I r Q ↔ mm_E 24 44 ls (.int 1 :: st) I r Q := me_ic mc_24 dX1_nextWay_43 (by decide)
theorem e24_44 : mm_E 24 44 ls (.int y :: .int x :: st) I r Q ↔ mm_E 24 45 ls (.int (x - y) :: st) I r Q := me_isub mc_24 dX1_nextWay_44
theorem e24_45 : mm_E 24 45 [l0, l1, l2, some (.int x)] st I r Q ↔ mm_E 24 46 [l0, l1, l2, some (.int x)] (.int x :: st) I r Q := me_il mc_24 dX1_nextWay_45 rfl
theorem e24_46 : mm_E 24 46 ls st I r Q ↔ mm_E 24 47 ls (.int 1 :: st) I r Q := me_ic mc_24 dX1_nextWay_46 (by decide)
theorem e24_47 : mm_E 24 47 ls (.int y :: .int x :: st) I r Q ↔ mm_E 24 48 ls (.int (x - y) :: st) I r Q := me_isub mc_24 dX1_nextWay_47
theorem e24_48 : mm_E 24 48 ls (.int y :: .int x :: .ref a :: st) I r Q ↔ mm_ix r a 2 x ∧ mm_E 24 49 ls st (mm_uI I a x.toNatClampNeg y) r Q := me_is mc_24 dX1_nextWay_48
theorem e24_49 : mm_E 24 49 ls st I r Q ↔ mm_E 24 50 ls (.int 1 :: st) I r Q := me_ic mc_24 dX1_nextWay_49 (by decide)
theorem e24_50 : mm_E 24 50 ls [.int x] I r Q ↔ (x = 0 ∨ x = 1) ∧ Q (some (.int x)) I r := me_rz mc_24 dX1_nextWay_50 rfl
theorem e24_51 : mm_E 24 51 [l0, l1, some (.int x), l3] st I r Q ↔ mm_c1 l1 ∧ mm_E 24 54 [l0, l1, some (.int (x + (-1))), l3] st I r Q := me_st (k := 2) (v := .int (x + (-1))) mc_24 dX1_nextWay_51 rfl rfl (Nat.le_of_ble_eq_true rfl) rfl ⟨Or.inr, fun h => h.resolve_left (by decide)⟩
theorem e24_54 : mm_E 24 54 ls st I r Q ↔ mm_E 24 4 ls st I r Q := me_goto mc_24 dX1_nextWay_54 (by decide)
theorem e24_57 : mm_E 24 57 ls st I r Q ↔ mm_E 24 58 ls (.int 0 :: st) I r Q := me_ic mc_24 dX1_nextWay_57 (by decide)
theorem e24_58 : mm_E 24 58 ls [.int x] I r Q ↔ (x = 0 ∨ x = 1) ∧ Q (some (.int x)) I r := me_rz mc_24 dX1_nextWay_58 rfl
theorem mc_25 : mm_c 25 = cX2_init := rfl
theorem e25_0 : mm_E 25 0 [some (.ref a), l1] st I r Q ↔ mm_E 25 1 [some (.ref a), l1] (.ref a :: st) I r Q := me_al mc_25 dX2_init_0 rfl
theorem e25_1 : mm_E 25 1 ls (.ref a :: st) I r Q ↔ mm_w8 st = true ∧ mm_E 25 4 ls st I r Q := me_oi mc_25 dX2_init_1 (by decide +kernel)
theorem e25_4 : mm_E 25 4 [some (.ref a), l1] st I r Q ↔ mm_E 25 5 [some (.ref a), l1] (.ref a :: st) I r Q := me_al mc_25 dX2_init_4 rfl
theorem e25_5 : mm_E 25 5 ls st I r Q ↔ mm_E 25 7 ls (.int 8 :: st) I r Q := me_bi mc_25 dX2_init_5 (by decide)
theorem e25_7 : mm_E 25 7 ls (.int x :: st) I r Q ↔ (¬ x < 0 ∧ x.toNatClampNeg ≤ 1000) ∧ mm_E 25 10 ls (.ref (mm_t r) :: st) (mm_nI I r) (mm_nR r (4, x.toNatClampNeg) x.toNatClampNeg) Q := me_na0 mc_25 dX2_init_7 (by decide +kernel)
theorem e25_10 : mm_E 25 10 ls (.ref b :: .ref a :: st) I r Q ↔ mm_S r a = (1, 2) ∧ mm_E 25 13 ls st I (mm_uP r a 0 (some b)) Q := me_pr mc_25 dX2_init_10 (by decide +kernel) (by decide +kernel)
theorem e25_13 : mm_E 25 13 ls st I r Q ↔ mm_E 25 14 ls (.int 0 :: st) I r Q := me_ic mc_25 dX2_init_13 (by decide)
theorem e25_14 : mm_E 25 14 [l0, l1] (.int x :: st) I r Q ↔ mm_c1 l0 ∧ mm_E 25 15 [l0, some (.int x)] st I r Q := me_st (k := 1) (v := .int x) mc_25 dX2_init_14 rfl rfl (Nat.le_of_ble_eq_true rfl) rfl ⟨Or.inr, fun h => h.resolve_left (by decide)⟩
theorem e25_15 : mm_E 25 15 [l0, some (.int x)] st I r Q ↔ mm_E 25 16 [l0, some (.int x)] (.int x :: st) I r Q := me_il mc_25 dX2_init_15 rfl
theorem e25_16 : mm_E 25 16 ls st I r Q ↔ mm_E 25 18 ls (.int 8 :: st) I r Q := me_bi mc_25 dX2_init_16 (by decide)
theorem e25_18 : mm_E 25 18 ls (.int y :: .int x :: st) I r Q ↔ if y ≤ x then mm_E 25 40 ls st I r Q else mm_E 25 21 ls st I r Q := me_cge mc_25 dX2_init_18 (by decide)
theorem e25_21 : mm_E 25 21 [some (.ref a), l1] st I r Q ↔ mm_E 25 22 [some (.ref a), l1] (.ref a :: st) I r Q := me_al mc_25 dX2_init_21 rfl
theorem e25_22 : mm_E 25 22 ls (.ref a :: st) I r Q ↔ mm_S r a = (1, 2) ∧ mm_E 25 25 ls (va_rf (mm_P r a 0) :: st) I r Q := me_gr mc_25 dX2_init_22 (by decide +kernel) rfl
theorem e25_25 : mm_E 25 25 [l0, some (.int x)] st I r Q ↔ mm_E 25 26 [l0, some (.int x)] (.int x :: st) I r Q := me_il mc_25 dX2_init_25 rfl
theorem e25_26 : mm_E 25 26 ls st I r Q ↔ mm_E 25 29 ls (.ref (mm_t r) :: st) (mm_nI I r) (mm_nR r (1, 0) 14) Q := me_new mc_25 dX2_init_26 (by decide +kernel)
theorem e25_29 : mm_E 25 29 ls (v :: st) I r Q ↔ v.category = 1 ∧ mm_E 25 30 ls (v :: v :: st) I r Q := me_dup mc_25 dX2_init_29
theorem e25_30 : (mm_E 25 30 ls (.ref a :: st) I r Q ↔ mm_w8 st = true ∧ mm_E 0 0 [some (.ref a)] [] I r (fun v I2 r2 => mm_E 25 33 ls (mm_pu v st) I2 r2 Q)) := me_xc (n := 0) (As := []) (xs := []) (a := a) mc_25 dX2_init_30 (by decide +kernel) (by decide +kernel) rfl rfl (Nat.le_of_ble_eq_true rfl) rfl
theorem e25_33 : mm_E 25 33 ls (.ref b :: .int x :: .ref a :: st) I r Q ↔ (((mm_S r a).1 = 4 ∧ mm_S r b = (1, 0) ∨ (mm_S r a).1 = 5 ∧ mm_S r b = (1, 3)) ∧ vp_in x (mm_S r a).2) ∧ mm_E 25 34 ls st I (mm_uP r a x.toNatClampNeg (some b)) Q := me_as mc_25 dX2_init_33
theorem e25_34 : mm_E 25 34 [l0, some (.int x)] st I r Q ↔ mm_c1 l0 ∧ mm_E 25 37 [l0, some (.int (x + 1))] st I r Q := me_st (k := 1) (v := .int (x + 1)) mc_25 dX2_init_34 rfl rfl (Nat.le_of_ble_eq_true rfl) rfl ⟨Or.inr, fun h => h.resolve_left (by decide)⟩
theorem e25_37 : mm_E 25 37 ls st I r Q ↔ mm_E 25 15 ls st I r Q := me_goto mc_25 dX2_init_37 (by decide)
theorem e25_40 : mm_E 25 40 ls [] I r Q ↔ Q none I r := me_rv mc_25 dX2_init_40 rfl
theorem mc_26 : mm_c 26 = cX2_forget := rfl
theorem e26_0 : mm_E 26 0 [some (.ref a)] st I r Q ↔ mm_E 26 1 [some (.ref a)] (.ref a :: st) I r Q := me_al mc_26 dX2_forget_0 rfl
theorem e26_1 : mm_E 26 1 ls st I r Q ↔ mm_E 26 2 ls (.int 0 :: st) I r Q := me_ic mc_26 dX2_forget_1 (by decide)
theorem e26_2 : mm_E 26 2 ls (.int x :: .ref a :: st) I r Q ↔ mm_S r a = (1, 2) ∧ mm_E 26 5 ls st (mm_uI I a 1 x) r Q := me_pi mc_26 dX2_forget_2 (by decide +kernel) (by decide +kernel)
theorem e26_5 : mm_E 26 5 ls [] I r Q ↔ Q none I r := me_rv mc_26 dX2_forget_5 rfl
theorem mc_27 : mm_c 27 = cX2_remember := rfl
theorem e27_0 : mm_E 27 0 [some (.ref a), l1] st I r Q ↔ mm_E 27 1 [some (.ref a), l1] (.ref a :: st) I r Q := me_al mc_27 dX2_remember_0 rfl
theorem e27_1 : mm_E 27 1 ls (.ref a :: st) I r Q ↔ mm_S r a = (1, 2) ∧ mm_E 27 4 ls (.int (mm_rd I a 1) :: st) I r Q := me_gi mc_27 dX2_remember_1 (by decide +kernel) rfl
theorem e27_4 : mm_E 27 4 ls st I r Q ↔ mm_E 27 6 ls (.int 8 :: st) I r Q := me_bi mc_27 dX2_remember_4 (by decide)
theorem e27_6 : mm_E 27 6 ls (.int y :: .int x :: st) I r Q ↔ if x < y then mm_E 27 13 ls st I r Q else mm_E 27 9 ls st I r Q := me_clt mc_27 dX2_remember_6 (by decide)
theorem e27_9 : mm_E 27 9 [some (.ref a), l1] st I r Q ↔ mm_E 27 10 [some (.ref a), l1] (.ref a :: st) I r Q := me_al mc_27 dX2_remember_9 rfl
theorem e27_10 : (mm_E 27 10 ls (.ref a :: st) I r Q ↔ (mm_w8 st = true ∧ mm_S r a = (1, 2)) ∧ mm_E 28 0 [some (.ref a), none, none] [] I r (fun v I2 r2 => mm_E 27 13 ls (mm_pu v st) I2 r2 Q)) := me_vc (n := 0) (As := []) (xs := []) (a := a) mc_27 dX2_remember_10 (by decide +kernel) (by decide +kernel) rfl rfl (Nat.le_of_ble_eq_true rfl) rfl
theorem e27_13 : mm_E 27 13 [some (.ref a), l1] st I r Q ↔ mm_E 27 14 [some (.ref a), l1] (.ref a :: st) I r Q := me_al mc_27 dX2_remember_13 rfl
theorem e27_14 : mm_E 27 14 ls (.ref a :: st) I r Q ↔ mm_S r a = (1, 2) ∧ mm_E 27 17 ls (va_rf (mm_P r a 0) :: st) I r Q := me_gr mc_27 dX2_remember_14 (by decide +kernel) rfl
theorem e27_17 : mm_E 27 17 [some (.ref a), l1] st I r Q ↔ mm_E 27 18 [some (.ref a), l1] (.ref a :: st) I r Q := me_al mc_27 dX2_remember_17 rfl
theorem e27_18 : mm_E 27 18 ls (.ref a :: st) I r Q ↔ mm_S r a = (1, 2) ∧ mm_E 27 21 ls (.int (mm_rd I a 1) :: st) I r Q := me_gi mc_27 dX2_remember_18 (by decide +kernel) rfl
theorem e27_21 : mm_E 27 21 ls (.int x :: .ref a :: st) I r Q ↔ (((mm_S r a).1 = 4 ∨ (mm_S r a).1 = 5) ∧ vp_in x (mm_S r a).2) ∧ mm_E 27 22 ls (va_rf (mm_P r a x.toNatClampNeg) :: st) I r Q := me_aa mc_27 dX2_remember_21
theorem e27_22 : mm_E 27 22 [l0, some (.ref a)] st I r Q ↔ mm_E 27 23 [l0, some (.ref a)] (.ref a :: st) I r Q := me_al mc_27 dX2_remember_22 rfl
theorem e27_23 : ∀ (x0 : Nat), (mm_E 27 23 ls (.ref x0 :: .ref a :: st) I r Q ↔ (mm_w8 st = true ∧ mm_S r a = (1, 0)) ∧ mm_E 1 0 [some (.ref a), some (.ref x0), none] [] I r (fun v I2 r2 => mm_E 27 26 ls (mm_pu v st) I2 r2 Q)) := fun x0 => me_vc (n := 1) (As := [.ref x0]) (xs := [.ref x0]) (a := a) mc_27 dX2_remember_23 (by decide +kernel) (by decide +kernel) rfl rfl (Nat.le_of_ble_eq_true rfl) rfl
theorem e27_26 : mm_E 27 26 [some (.ref a), l1] st I r Q ↔ mm_E 27 27 [some (.ref a), l1] (.ref a :: st) I r Q := me_al mc_27 dX2_remember_26 rfl
theorem e27_27 : mm_E 27 27 ls (v :: st) I r Q ↔ v.category = 1 ∧ mm_E 27 28 ls (v :: v :: st) I r Q := me_dup mc_27 dX2_remember_27
theorem e27_28 : mm_E 27 28 ls (.ref a :: st) I r Q ↔ mm_S r a = (1, 2) ∧ mm_E 27 31 ls (.int (mm_rd I a 1) :: st) I r Q := me_gi mc_27 dX2_remember_28 (by decide +kernel) rfl
theorem e27_31 : mm_E 27 31 ls st I r Q ↔ mm_E 27 32 ls (.int 1 :: st) I r Q := me_ic mc_27 dX2_remember_31 (by decide)
theorem e27_32 : mm_E 27 32 ls (.int y :: .int x :: st) I r Q ↔ mm_E 27 33 ls (.int (x + y) :: st) I r Q := me_iadd mc_27 dX2_remember_32
theorem e27_33 : mm_E 27 33 ls (.int x :: .ref a :: st) I r Q ↔ mm_S r a = (1, 2) ∧ mm_E 27 36 ls st (mm_uI I a 1 x) r Q := me_pi mc_27 dX2_remember_33 (by decide +kernel) (by decide +kernel)
theorem e27_36 : mm_E 27 36 ls [] I r Q ↔ Q none I r := me_rv mc_27 dX2_remember_36 rfl
theorem mc_28 : mm_c 28 = cX2_dropOldest := rfl
theorem e28_0 : mm_E 28 0 [some (.ref a), l1, l2] st I r Q ↔ mm_E 28 1 [some (.ref a), l1, l2] (.ref a :: st) I r Q := me_al mc_28 dX2_dropOldest_0 rfl
theorem e28_1 : mm_E 28 1 ls (.ref a :: st) I r Q ↔ mm_S r a = (1, 2) ∧ mm_E 28 4 ls (va_rf (mm_P r a 0) :: st) I r Q := me_gr mc_28 dX2_dropOldest_1 (by decide +kernel) rfl
theorem e28_4 : mm_E 28 4 ls st I r Q ↔ mm_E 28 5 ls (.int 0 :: st) I r Q := me_ic mc_28 dX2_dropOldest_4 (by decide)
theorem e28_5 : mm_E 28 5 ls (.int x :: .ref a :: st) I r Q ↔ (((mm_S r a).1 = 4 ∨ (mm_S r a).1 = 5) ∧ vp_in x (mm_S r a).2) ∧ mm_E 28 6 ls (va_rf (mm_P r a x.toNatClampNeg) :: st) I r Q := me_aa mc_28 dX2_dropOldest_5
theorem e28_6 : mm_E 28 6 [l0, l1, l2] (.ref a :: st) I r Q ↔ mm_c1 l0 ∧ mm_E 28 7 [l0, some (.ref a), l2] st I r Q := me_st (k := 1) (v := .ref a) mc_28 dX2_dropOldest_6 rfl rfl (Nat.le_of_ble_eq_true rfl) rfl ⟨Or.inr, fun h => h.resolve_left (by decide)⟩
theorem e28_7 : mm_E 28 7 ls st I r Q ↔ mm_E 28 8 ls (.int 1 :: st) I r Q := me_ic mc_28 dX2_dropOldest_7 (by decide)
theorem e28_8 : mm_E 28 8 [l0, l1, l2] (.int x :: st) I r Q ↔ mm_c1 l1 ∧ mm_E 28 9 [l0, l1, some (.int x)] st I r Q := me_st (k := 2) (v := .int x) mc_28 dX2_dropOldest_8 rfl rfl (Nat.le_of_ble_eq_true rfl) rfl ⟨Or.inr, fun h => h.resolve_left (by decide)⟩
theorem e28_9 : mm_E 28 9 [l0, l1, some (.int x)] st I r Q ↔ mm_E 28 10 [l0, l1, some (.int x)] (.int x :: st) I r Q := me_il mc_28 dX2_dropOldest_9 rfl
theorem e28_10 : mm_E 28 10 ls st I r Q ↔ mm_E 28 12 ls (.int 8 :: st) I r Q := me_bi mc_28 dX2_dropOldest_10 (by decide)
theorem e28_12 : mm_E 28 12 ls (.int y :: .int x :: st) I r Q ↔ if y ≤ x then mm_E 28 35 ls st I r Q else mm_E 28 15 ls st I r Q := me_cge mc_28 dX2_dropOldest_12 (by decide)
theorem e28_15 : mm_E 28 15 [some (.ref a), l1, l2] st I r Q ↔ mm_E 28 16 [some (.ref a), l1, l2] (.ref a :: st) I r Q := me_al mc_28 dX2_dropOldest_15 rfl
theorem e28_16 : mm_E 28 16 ls (.ref a :: st) I r Q ↔ mm_S r a = (1, 2) ∧ mm_E 28 19 ls (va_rf (mm_P r a 0) :: st) I r Q := me_gr mc_28 dX2_dropOldest_16 (by decide +kernel) rfl
theorem e28_19 : mm_E 28 19 [l0, l1, some (.int x)] st I r Q ↔ mm_E 28 20 [l0, l1, some (.int x)] (.int x :: st) I r Q := me_il mc_28 dX2_dropOldest_19 rfl
theorem e28_20 : mm_E 28 20 ls st I r Q ↔ mm_E 28 21 ls (.int 1 :: st) I r Q := me_ic mc_28 dX2_dropOldest_20 (by decide)
theorem e28_21 : mm_E 28 21 ls (.int y :: .int x :: st) I r Q ↔ mm_E 28 22 ls (.int (x - y) :: st) I r Q := me_isub mc_28 dX2_dropOldest_21
theorem e28_22 : mm_E 28 22 [some (.ref a), l1, l2] st I r Q ↔ mm_E 28 23 [some (.ref a), l1, l2] (.ref a :: st) I r Q := me_al mc_28 dX2_dropOldest_22 rfl
theorem e28_23 : mm_E 28 23 ls (.ref a :: st) I r Q ↔ mm_S r a = (1, 2) ∧ mm_E 28 26 ls (va_rf (mm_P r a 0) :: st) I r Q := me_gr mc_28 dX2_dropOldest_23 (by decide +kernel) rfl
theorem e28_26 : mm_E 28 26 [l0, l1, some (.int x)] st I r Q ↔ mm_E 28 27 [l0, l1, some (.int x)] (.int x :: st) I r Q := me_il mc_28 dX2_dropOldest_26 rfl
theorem e28_27 : mm_E 28 27 ls (.int x :: .ref a :: st) I r Q ↔ (((mm_S r a).1 = 4 ∨ (mm_S r a).1 = 5) ∧ vp_in x (mm_S r a).2) ∧ mm_E 28 28 ls (va_rf (mm_P r a x.toNatClampNeg) :: st) I r Q := me_aa mc_28 dX2_dropOldest_27
theorem e28_28 : mm_E 28 28 ls (.ref b :: .int x :: .ref a :: st) I r Q ↔ (((mm_S r a).1 = 4 ∧ mm_S r b = (1, 0) ∨ (mm_S r a).1 = 5 ∧ mm_S r b = (1, 3)) ∧ vp_in x (mm_S r a).2) ∧ mm_E 28 29 ls st I (mm_uP r a x.toNatClampNeg (some b)) Q := me_as mc_28 dX2_dropOldest_28
theorem e28_29 : mm_E 28 29 [l0, l1, some (.int x)] st I r Q ↔ mm_c1 l1 ∧ mm_E 28 32 [l0, l1, some (.int (x + 1))] st I r Q := me_st (k := 2) (v := .int (x + 1)) mc_28 dX2_dropOldest_29 rfl rfl (Nat.le_of_ble_eq_true rfl) rfl ⟨Or.inr, fun h => h.resolve_left (by decide)⟩
theorem e28_32 : mm_E 28 32 ls st I r Q ↔ mm_E 28 9 ls st I r Q := me_goto mc_28 dX2_dropOldest_32 (by decide)
theorem e28_35 : mm_E 28 35 [some (.ref a), l1, l2] st I r Q ↔ mm_E 28 36 [some (.ref a), l1, l2] (.ref a :: st) I r Q := me_al mc_28 dX2_dropOldest_35 rfl
theorem e28_36 : mm_E 28 36 ls (.ref a :: st) I r Q ↔ mm_S r a = (1, 2) ∧ mm_E 28 39 ls (va_rf (mm_P r a 0) :: st) I r Q := me_gr mc_28 dX2_dropOldest_36 (by decide +kernel) rfl
theorem e28_39 : mm_E 28 39 ls st I r Q ↔ mm_E 28 41 ls (.int 7 :: st) I r Q := me_bi mc_28 dX2_dropOldest_39 (by decide)
theorem e28_41 : mm_E 28 41 [l0, some (.ref a), l2] st I r Q ↔ mm_E 28 42 [l0, some (.ref a), l2] (.ref a :: st) I r Q := me_al mc_28 dX2_dropOldest_41 rfl
theorem e28_42 : mm_E 28 42 ls (.ref b :: .int x :: .ref a :: st) I r Q ↔ (((mm_S r a).1 = 4 ∧ mm_S r b = (1, 0) ∨ (mm_S r a).1 = 5 ∧ mm_S r b = (1, 3)) ∧ vp_in x (mm_S r a).2) ∧ mm_E 28 43 ls st I (mm_uP r a x.toNatClampNeg (some b)) Q := me_as mc_28 dX2_dropOldest_42
theorem e28_43 : mm_E 28 43 [some (.ref a), l1, l2] st I r Q ↔ mm_E 28 44 [some (.ref a), l1, l2] (.ref a :: st) I r Q := me_al mc_28 dX2_dropOldest_43 rfl
theorem e28_44 : mm_E 28 44 ls st I r Q ↔ mm_E 28 46 ls (.int 7 :: st) I r Q := me_bi mc_28 dX2_dropOldest_44 (by decide)
theorem e28_46 : mm_E 28 46 ls (.int x :: .ref a :: st) I r Q ↔ mm_S r a = (1, 2) ∧ mm_E 28 49 ls st (mm_uI I a 1 x) r Q := me_pi mc_28 dX2_dropOldest_46 (by decide +kernel) (by decide +kernel)
theorem e28_49 : mm_E 28 49 ls [] I r Q ↔ Q none I r := me_rv mc_28 dX2_dropOldest_49 rfl
theorem mc_29 : mm_c 29 = cX2_bringBack := rfl
theorem e29_0 : mm_E 29 0 [some (.ref a), l1] st I r Q ↔ mm_E 29 1 [some (.ref a), l1] (.ref a :: st) I r Q := me_al mc_29 dX2_bringBack_0 rfl
theorem e29_1 : mm_E 29 1 ls (.ref a :: st) I r Q ↔ mm_S r a = (1, 2) ∧ mm_E 29 4 ls (.int (mm_rd I a 1) :: st) I r Q := me_gi mc_29 dX2_bringBack_1 (by decide +kernel) rfl
theorem e29_4 : mm_E 29 4 ls (.int x :: st) I r Q ↔ if x ≤ 0 then mm_E 29 30 ls st I r Q else mm_E 29 7 ls st I r Q := me_zle mc_29 dX2_bringBack_4 (by decide)
theorem e29_7 : mm_E 29 7 [some (.ref a), l1] st I r Q ↔ mm_E 29 8 [some (.ref a), l1] (.ref a :: st) I r Q := me_al mc_29 dX2_bringBack_7 rfl
theorem e29_8 : mm_E 29 8 ls (v :: st) I r Q ↔ v.category = 1 ∧ mm_E 29 9 ls (v :: v :: st) I r Q := me_dup mc_29 dX2_bringBack_8
theorem e29_9 : mm_E 29 9 ls (.ref a :: st) I r Q ↔ mm_S r a = (1, 2) ∧ mm_E 29 12 ls (.int (mm_rd I a 1) :: st) I r Q := me_gi mc_29 dX2_bringBack_9 (by decide +kernel) rfl
theorem e29_12 : mm_E 29 12 ls st I r Q ↔ mm_E 29 13 ls (.int 1 :: st) I r Q := me_ic mc_29 dX2_bringBack_12 (by decide)
theorem e29_13 : mm_E 29 13 ls (.int y :: .int x :: st) I r Q ↔ mm_E 29 14 ls (.int (x - y) :: st) I r Q := me_isub mc_29 dX2_bringBack_13
theorem e29_14 : mm_E 29 14 ls (.int x :: .ref a :: st) I r Q ↔ mm_S r a = (1, 2) ∧ mm_E 29 17 ls st (mm_uI I a 1 x) r Q := me_pi mc_29 dX2_bringBack_14 (by decide +kernel) (by decide +kernel)
theorem e29_17 : mm_E 29 17 [l0, some (.ref a)] st I r Q ↔ mm_E 29 18 [l0, some (.ref a)] (.ref a :: st) I r Q := me_al mc_29 dX2_bringBack_17 rfl
theorem e29_18 : mm_E 29 18 [some (.ref a), l1] st I r Q ↔ mm_E 29 19 [some (.ref a), l1] (.ref a :: st) I r Q := me_al mc_29 dX2_bringBack_18 rfl
theorem e29_19 : mm_E 29 19 ls (.ref a :: st) I r Q ↔ mm_S r a = (1, 2) ∧ mm_E 29 22 ls (va_rf (mm_P r a 0) :: st) I r Q := me_gr mc_29 dX2_bringBack_19 (by decide +kernel) rfl
theorem e29_22 : mm_E 29 22 [some (.ref a), l1] st I r Q ↔ mm_E 29 23 [some (.ref a), l1] (.ref a :: st) I r Q := me_al mc_29 dX2_bringBack_22 rfl
theorem e29_23 : mm_E 29 23 ls (.ref a :: st) I r Q ↔ mm_S r a = (1, 2) ∧ mm_E 29 26 ls (.int (mm_rd I a 1) :: st) I r Q := me_gi mc_29 dX2_bringBack_23 (by decide +kernel) rfl
theorem e29_26 : mm_E 29 26 ls (.int x :: .ref a :: st) I r Q ↔ (((mm_S r a).1 = 4 ∨ (mm_S r a).1 = 5) ∧ vp_in x (mm_S r a).2) ∧ mm_E 29 27 ls (va_rf (mm_P r a x.toNatClampNeg) :: st) I r Q := me_aa mc_29 dX2_bringBack_26
theorem e29_27 : ∀ (x0 : Nat), (mm_E 29 27 ls (.ref x0 :: .ref a :: st) I r Q ↔ (mm_w8 st = true ∧ mm_S r a = (1, 0)) ∧ mm_E 1 0 [some (.ref a), some (.ref x0), none] [] I r (fun v I2 r2 => mm_E 29 30 ls (mm_pu v st) I2 r2 Q)) := fun x0 => me_vc (n := 1) (As := [.ref x0]) (xs := [.ref x0]) (a := a) mc_29 dX2_bringBack_27 (by decide +kernel) (by decide +kernel) rfl rfl (Nat.le_of_ble_eq_true rfl) rfl
theorem e29_30 : mm_E 29 30 ls [] I r Q ↔ Q none I r := me_rv mc_29 dX2_bringBack_30 rfl
theorem mc_30 : mm_c 30 = cX2_takeFrom := rfl
theorem e30_0 : mm_E 30 0 [some (.ref a), l1, l2] st I r Q ↔ mm_E 30 1 [some (.ref a), l1, l2] (.ref a :: st) I r Q := me_al mc_30 dX2_takeFrom_0 rfl
theorem e30_1 : mm_E 30 1 [l0, some (.ref a), l2] st I r Q ↔ mm_E 30 2 [l0, some (.ref a), l2] (.ref a :: st) I r Q := me_al mc_30 dX2_takeFrom_1 rfl
theorem e30_2 : mm_E 30 2 ls (.ref a :: st) I r Q ↔ mm_S r a = (1, 2) ∧ mm_E 30 5 ls (.int (mm_rd I a 1) :: st) I r Q := me_gi mc_30 dX2_takeFrom_2 (by decide +kernel) rfl
theorem e30_5 : mm_E 30 5 ls (.int x :: .ref a :: st) I r Q ↔ mm_S r a = (1, 2) ∧ mm_E 30 8 ls st (mm_uI I a 1 x) r Q := me_pi mc_30 dX2_takeFrom_5 (by decide +kernel) (by decide +kernel)
theorem e30_8 : mm_E 30 8 ls st I r Q ↔ mm_E 30 9 ls (.int 0 :: st) I r Q := me_ic mc_30 dX2_takeFrom_8 (by decide)
theorem e30_9 : mm_E 30 9 [l0, l1, l2] (.int x :: st) I r Q ↔ mm_c1 l1 ∧ mm_E 30 10 [l0, l1, some (.int x)] st I r Q := me_st (k := 2) (v := .int x) mc_30 dX2_takeFrom_9 rfl rfl (Nat.le_of_ble_eq_true rfl) rfl ⟨Or.inr, fun h => h.resolve_left (by decide)⟩
theorem e30_10 : mm_E 30 10 [l0, l1, some (.int x)] st I r Q ↔ mm_E 30 11 [l0, l1, some (.int x)] (.int x :: st) I r Q := me_il mc_30 dX2_takeFrom_10 rfl
theorem e30_11 : mm_E 30 11 ls st I r Q ↔ mm_E 30 13 ls (.int 8 :: st) I r Q := me_bi mc_30 dX2_takeFrom_11 (by decide)
theorem e30_13 : mm_E 30 13 ls (.int y :: .int x :: st) I r Q ↔ if y ≤ x then mm_E 30 37 ls st I r Q else mm_E 30 16 ls st I r Q := me_cge mc_30 dX2_takeFrom_13 (by decide)
theorem e30_16 : mm_E 30 16 [some (.ref a), l1, l2] st I r Q ↔ mm_E 30 17 [some (.ref a), l1, l2] (.ref a :: st) I r Q := me_al mc_30 dX2_takeFrom_16 rfl
theorem e30_17 : mm_E 30 17 ls (.ref a :: st) I r Q ↔ mm_S r a = (1, 2) ∧ mm_E 30 20 ls (va_rf (mm_P r a 0) :: st) I r Q := me_gr mc_30 dX2_takeFrom_17 (by decide +kernel) rfl
theorem e30_20 : mm_E 30 20 [l0, l1, some (.int x)] st I r Q ↔ mm_E 30 21 [l0, l1, some (.int x)] (.int x :: st) I r Q := me_il mc_30 dX2_takeFrom_20 rfl
theorem e30_21 : mm_E 30 21 ls (.int x :: .ref a :: st) I r Q ↔ (((mm_S r a).1 = 4 ∨ (mm_S r a).1 = 5) ∧ vp_in x (mm_S r a).2) ∧ mm_E 30 22 ls (va_rf (mm_P r a x.toNatClampNeg) :: st) I r Q := me_aa mc_30 dX2_takeFrom_21
theorem e30_22 : mm_E 30 22 [l0, some (.ref a), l2] st I r Q ↔ mm_E 30 23 [l0, some (.ref a), l2] (.ref a :: st) I r Q := me_al mc_30 dX2_takeFrom_22 rfl
theorem e30_23 : mm_E 30 23 ls (.ref a :: st) I r Q ↔ mm_S r a = (1, 2) ∧ mm_E 30 26 ls (va_rf (mm_P r a 0) :: st) I r Q := me_gr mc_30 dX2_takeFrom_23 (by decide +kernel) rfl
theorem e30_26 : mm_E 30 26 [l0, l1, some (.int x)] st I r Q ↔ mm_E 30 27 [l0, l1, some (.int x)] (.int x :: st) I r Q := me_il mc_30 dX2_takeFrom_26 rfl
theorem e30_27 : mm_E 30 27 ls (.int x :: .ref a :: st) I r Q ↔ (((mm_S r a).1 = 4 ∨ (mm_S r a).1 = 5) ∧ vp_in x (mm_S r a).2) ∧ mm_E 30 28 ls (va_rf (mm_P r a x.toNatClampNeg) :: st) I r Q := me_aa mc_30 dX2_takeFrom_27
theorem e30_28 : ∀ (x0 : Nat), (mm_E 30 28 ls (.ref x0 :: .ref a :: st) I r Q ↔ (mm_w8 st = true ∧ mm_S r a = (1, 0)) ∧ mm_E 1 0 [some (.ref a), some (.ref x0), none] [] I r (fun v I2 r2 => mm_E 30 31 ls (mm_pu v st) I2 r2 Q)) := fun x0 => me_vc (n := 1) (As := [.ref x0]) (xs := [.ref x0]) (a := a) mc_30 dX2_takeFrom_28 (by decide +kernel) (by decide +kernel) rfl rfl (Nat.le_of_ble_eq_true rfl) rfl
theorem e30_31 : mm_E 30 31 [l0, l1, some (.int x)] st I r Q ↔ mm_c1 l1 ∧ mm_E 30 34 [l0, l1, some (.int (x + 1))] st I r Q := me_st (k := 2) (v := .int (x + 1)) mc_30 dX2_takeFrom_31 rfl rfl (Nat.le_of_ble_eq_true rfl) rfl ⟨Or.inr, fun h => h.resolve_left (by decide)⟩
theorem e30_34 : mm_E 30 34 ls st I r Q ↔ mm_E 30 10 ls st I r Q := me_goto mc_30 dX2_takeFrom_34 (by decide)
theorem e30_37 : mm_E 30 37 ls [] I r Q ↔ Q none I r := me_rv mc_30 dX2_takeFrom_37 rfl
theorem mc_31 : mm_c 31 = cX3_init := rfl
theorem e31_0 : mm_E 31 0 [some (.ref a)] st I r Q ↔ mm_E 31 1 [some (.ref a)] (.ref a :: st) I r Q := me_al mc_31 dX3_init_0 rfl
theorem e31_1 : mm_E 31 1 ls (.ref a :: st) I r Q ↔ mm_w8 st = true ∧ mm_E 31 4 ls st I r Q := me_oi mc_31 dX3_init_1 (by decide +kernel)
theorem e31_4 : mm_E 31 4 [some (.ref a)] st I r Q ↔ mm_E 31 5 [some (.ref a)] (.ref a :: st) I r Q := me_al mc_31 dX3_init_4 rfl
theorem e31_5 : mm_E 31 5 ls st I r Q ↔ mm_E 31 7 ls (.int 24 :: st) I r Q := me_bi mc_31 dX3_init_5 (by decide)
theorem e31_7 : mm_E 31 7 ls (.int x :: st) I r Q ↔ (¬ x < 0 ∧ x.toNatClampNeg ≤ 1000) ∧ mm_E 31 9 ls (.ref (mm_t r) :: st) (mm_nI I r) (mm_nR r (3, x.toNatClampNeg) x.toNatClampNeg) Q := me_nal mc_31 dX3_init_7
theorem e31_9 : mm_E 31 9 ls (.ref b :: .ref a :: st) I r Q ↔ mm_S r a = (1, 3) ∧ mm_E 31 12 ls st I (mm_uP r a 3 (some b)) Q := me_pr mc_31 dX3_init_9 (by decide +kernel) (by decide +kernel)
theorem e31_12 : mm_E 31 12 ls [] I r Q ↔ Q none I r := me_rv mc_31 dX3_init_12 rfl
end
