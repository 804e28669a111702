section
variable (ls : mm_L) (st : List Value) (I : mm_I) (r : mm_R) (Q : Option Value → mm_I → mm_R → Prop) (l0 l1 l2 l3 l4 l5 l6 l7 l8 l9 l10 l11 l12 l13 l14 : Option Value) (x y : Int32) (z w : Int64) (a b : Nat) (v u : Value)
theorem mc_89 : mm_c 89 = cX5_looksMore := rfl
theorem e89_0 : mm_E 89 0 [some (.ref a), l1, l2] st I r Q ↔ mm_E 89 1 [some (.ref a), l1, l2] (.ref a :: st) I r Q := me_al mc_89 dX5_looksMore_0 rfl
theorem e89_1 : mm_E 89 1 ls (.ref a :: st) I r Q ↔ mm_S r a = (1, 5) ∧ mm_E 89 4 ls (va_rf (mm_P r a 1) :: st) I r Q := me_gr mc_89 dX5_looksMore_1 (by decide +kernel) rfl
theorem e89_4 : mm_E 89 4 [some (.ref a), l1, l2] st I r Q ↔ mm_E 89 5 [some (.ref a), l1, l2] (.ref a :: st) I r Q := me_al mc_89 dX5_looksMore_4 rfl
theorem e89_5 : mm_E 89 5 ls (.ref a :: st) I r Q ↔ mm_S r a = (1, 5) ∧ mm_E 89 8 ls (va_rf (mm_P r a 0) :: st) I r Q := me_gr mc_89 dX5_looksMore_5 (by decide +kernel) rfl
theorem e89_8 : ∀ (x0 : Nat), (mm_E 89 8 ls (.ref x0 :: .ref a :: st) I r Q ↔ (mm_w8 st = true ∧ mm_S r a = (1, 0)) ∧ mm_E 1 0 [some (.ref a), some (.ref x0), none] [] I r (fun v I2 r2 => mm_E 89 11 ls (mm_pu v st) I2 r2 Q)) := fun x0 => me_vc (n := 1) (As := [.ref x0]) (xs := [.ref x0]) (a := a) mc_89 dX5_looksMore_8 (by decide +kernel) (by decide +kernel) rfl rfl (Nat.le_of_ble_eq_true rfl) rfl
theorem e89_11 : mm_E 89 11 [some (.ref a), l1, l2] st I r Q ↔ mm_E 89 12 [some (.ref a), l1, l2] (.ref a :: st) I r Q := me_al mc_89 dX5_looksMore_11 rfl
theorem e89_12 : mm_E 89 12 ls (.ref a :: st) I r Q ↔ mm_S r a = (1, 5) ∧ mm_E 89 15 ls (va_rf (mm_P r a 1) :: st) I r Q := me_gr mc_89 dX5_looksMore_12 (by decide +kernel) rfl
theorem e89_15 : mm_E 89 15 [l0, l1, some (.int x)] st I r Q ↔ mm_E 89 16 [l0, l1, some (.int x)] (.int x :: st) I r Q := me_il mc_89 dX5_looksMore_15 rfl
theorem e89_16 : ∀ (x0 : Int32), (mm_E 89 16 ls (.int x0 :: .ref a :: st) I r Q ↔ (mm_w8 st = true ∧ mm_S r a = (1, 0)) ∧ mm_E 16 0 [some (.ref a), some (.int x0), none, none] [] I r (fun v I2 r2 => mm_E 89 19 ls (mm_pu v st) I2 r2 Q)) := fun x0 => me_vc (n := 1) (As := [.int x0]) (xs := [.int x0]) (a := a) mc_89 dX5_looksMore_16 (by decide +kernel) (by decide +kernel) rfl rfl (Nat.le_of_ble_eq_true rfl) rfl
theorem e89_19 : mm_E 89 19 [some (.ref a), l1, l2] st I r Q ↔ mm_E 89 20 [some (.ref a), l1, l2] (.ref a :: st) I r Q := me_al mc_89 dX5_looksMore_19 rfl
theorem e89_20 : mm_E 89 20 ls (.ref a :: st) I r Q ↔ mm_S r a = (1, 5) ∧ mm_E 89 23 ls (va_rf (mm_P r a 1) :: st) I r Q := me_gr mc_89 dX5_looksMore_20 (by decide +kernel) rfl
theorem e89_23 : mm_E 89 23 ls (.ref a :: st) I r Q ↔ mm_S r a = (1, 0) ∧ mm_E 89 26 ls (va_rf (mm_P r a 8) :: st) I r Q := me_gr mc_89 dX5_looksMore_23 (by decide +kernel) rfl
theorem e89_26 : mm_E 89 26 [l0, some (.int x), l2] st I r Q ↔ mm_E 89 27 [l0, some (.int x), l2] (.int x :: st) I r Q := me_il mc_89 dX5_looksMore_26 rfl
theorem e89_27 : mm_E 89 27 ls (.int x :: .ref a :: st) I r Q ↔ mm_ix r a 2 x ∧ mm_E 89 28 ls (.int (mm_rd I a x.toNatClampNeg) :: st) I r Q := me_ia mc_89 dX5_looksMore_27
theorem e89_28 : mm_E 89 28 [some (.ref a), l1, l2] st I r Q ↔ mm_E 89 29 [some (.ref a), l1, l2] (.ref a :: st) I r Q := me_al mc_89 dX5_looksMore_28 rfl
theorem e89_29 : mm_E 89 29 ls (.ref a :: st) I r Q ↔ mm_S r a = (1, 5) ∧ mm_E 89 32 ls (va_rf (mm_P r a 0) :: st) I r Q := me_gr mc_89 dX5_looksMore_29 (by decide +kernel) rfl
theorem e89_32 : mm_E 89 32 ls (.ref a :: st) I r Q ↔ mm_S r a = (1, 0) ∧ mm_E 89 35 ls (va_rf (mm_P r a 8) :: st) I r Q := me_gr mc_89 dX5_looksMore_32 (by decide +kernel) rfl
theorem e89_35 : mm_E 89 35 [l0, some (.int x), l2] st I r Q ↔ mm_E 89 36 [l0, some (.int x), l2] (.int x :: st) I r Q := me_il mc_89 dX5_looksMore_35 rfl
theorem e89_36 : mm_E 89 36 ls (.int x :: .ref a :: st) I r Q ↔ mm_ix r a 2 x ∧ mm_E 89 37 ls (.int (mm_rd I a x.toNatClampNeg) :: st) I r Q := me_ia mc_89 dX5_looksMore_36
theorem e89_37 : mm_E 89 37 ls (.int y :: .int x :: st) I r Q ↔ if x ≤ y then mm_E 89 44 ls st I r Q else mm_E 89 40 ls st I r Q := me_cle mc_89 dX5_looksMore_37 (by decide)
theorem e89_40 : mm_E 89 40 ls st I r Q ↔ mm_E 89 41 ls (.int 1 :: st) I r Q := me_ic mc_89 dX5_looksMore_40 (by decide)
theorem e89_41 : mm_E 89 41 ls st I r Q ↔ mm_E 89 45 ls st I r Q := me_goto mc_89 dX5_looksMore_41 (by decide)
theorem e89_44 : mm_E 89 44 ls st I r Q ↔ mm_E 89 45 ls (.int 0 :: st) I r Q := me_ic mc_89 dX5_looksMore_44 (by decide)
theorem e89_45 : mm_E 89 45 ls [.int x] I r Q ↔ (x = 0 ∨ x = 1) ∧ Q (some (.int x)) I r := me_rz mc_89 dX5_looksMore_45 rfl
theorem mc_90 : mm_c 90 = cX5_commonDivisor := rfl
theorem e90_0 : mm_E 90 0 [some (.int x), l1, l2, l3, l4, l5] st I r Q ↔ mm_E 90 1 [some (.int x), l1, l2, l3, l4, l5] (.int x :: st) I r Q := me_il mc_90 dX5_commonDivisor_0 rfl
theorem e90_1 : mm_E 90 1 [l0, l1, l2, l3, l4, l5] (.int x :: st) I r Q ↔ mm_c1 l1 ∧ mm_E 90 2 [l0, l1, some (.int x), l3, l4, l5] st I r Q := me_st (k := 2) (v := .int x) mc_90 dX5_commonDivisor_1 rfl rfl (Nat.le_of_ble_eq_true rfl) rfl ⟨Or.inr, fun h => h.resolve_left (by decide)⟩
theorem e90_2 : mm_E 90 2 [l0, some (.int x), l2, l3, l4, l5] st I r Q ↔ mm_E 90 3 [l0, some (.int x), l2, l3, l4, l5] (.int x :: st) I r Q := me_il mc_90 dX5_commonDivisor_2 rfl
theorem e90_3 : mm_E 90 3 [l0, l1, l2, l3, l4, l5] (.int x :: st) I r Q ↔ mm_c1 l2 ∧ mm_E 90 4 [l0, l1, l2, some (.int x), l4, l5] st I r Q := me_st (k := 3) (v := .int x) mc_90 dX5_commonDivisor_3 rfl rfl (Nat.le_of_ble_eq_true rfl) rfl ⟨Or.inr, fun h => h.resolve_left (by decide)⟩
theorem e90_4 : mm_E 90 4 ls st I r Q ↔ mm_E 90 5 ls (.int 0 :: st) I r Q := me_ic mc_90 dX5_commonDivisor_4 (by decide)
theorem e90_5 : mm_E 90 5 [l0, l1, l2, l3, l4, l5] (.int x :: st) I r Q ↔ mm_c1 l3 ∧ mm_E 90 7 [l0, l1, l2, l3, some (.int x), l5] st I r Q := me_st (k := 4) (v := .int x) mc_90 dX5_commonDivisor_5 rfl rfl (Nat.le_of_ble_eq_true rfl) rfl ⟨Or.inr, fun h => h.resolve_left (by decide)⟩
theorem e90_7 : mm_E 90 7 [l0, l1, l2, l3, some (.int x), l5] st I r Q ↔ mm_E 90 9 [l0, l1, l2, l3, some (.int x), l5] (.int x :: st) I r Q := me_il2 mc_90 dX5_commonDivisor_7 rfl
theorem e90_9 : mm_E 90 9 ls st I r Q ↔ mm_E 90 11 ls (.int 64 :: st) I r Q := me_bi mc_90 dX5_commonDivisor_9 (by decide)
theorem e90_11 : mm_E 90 11 ls (.int y :: .int x :: st) I r Q ↔ if y ≤ x then mm_E 90 34 ls st I r Q else mm_E 90 14 ls st I r Q := me_cge mc_90 dX5_commonDivisor_11 (by decide)
theorem e90_14 : mm_E 90 14 [l0, l1, l2, some (.int x), l4, l5] st I r Q ↔ mm_E 90 15 [l0, l1, l2, some (.int x), l4, l5] (.int x :: st) I r Q := me_il mc_90 dX5_commonDivisor_14 rfl
theorem e90_15 : mm_E 90 15 ls (.int x :: st) I r Q ↔ if x ≤ 0 then mm_E 90 34 ls st I r Q else mm_E 90 18 ls st I r Q := me_zle mc_90 dX5_commonDivisor_15 (by decide)
theorem e90_18 : mm_E 90 18 [l0, l1, some (.int x), l3, l4, l5] st I r Q ↔ mm_E 90 19 [l0, l1, some (.int x), l3, l4, l5] (.int x :: st) I r Q := me_il mc_90 dX5_commonDivisor_18 rfl
theorem e90_19 : mm_E 90 19 [l0, l1, l2, some (.int x), l4, l5] st I r Q ↔ mm_E 90 20 [l0, l1, l2, some (.int x), l4, l5] (.int x :: st) I r Q := me_il mc_90 dX5_commonDivisor_19 rfl
theorem e90_20 : mm_E 90 20 ls (.int y :: .int x :: st) I r Q ↔ ¬ y = 0 ∧ mm_E 90 21 ls (.int (x - x / y * y) :: st) I r Q := me_irem mc_90 dX5_commonDivisor_20
theorem e90_21 : mm_E 90 21 [l0, l1, l2, l3, l4, l5] (.int x :: st) I r Q ↔ mm_c1 l4 ∧ mm_E 90 23 [l0, l1, l2, l3, l4, some (.int x)] st I r Q := me_st (k := 5) (v := .int x) mc_90 dX5_commonDivisor_21 rfl rfl (Nat.le_of_ble_eq_true rfl) rfl ⟨Or.inr, fun h => h.resolve_left (by decide)⟩
theorem e90_23 : mm_E 90 23 [l0, l1, l2, some (.int x), l4, l5] st I r Q ↔ mm_E 90 24 [l0, l1, l2, some (.int x), l4, l5] (.int x :: st) I r Q := me_il mc_90 dX5_commonDivisor_23 rfl
theorem e90_24 : mm_E 90 24 [l0, l1, l2, l3, l4, l5] (.int x :: st) I r Q ↔ mm_c1 l1 ∧ mm_E 90 25 [l0, l1, some (.int x), l3, l4, l5] st I r Q := me_st (k := 2) (v := .int x) mc_90 dX5_commonDivisor_24 rfl rfl (Nat.le_of_ble_eq_true rfl) rfl ⟨Or.inr, fun h => h.resolve_left (by decide)⟩
theorem e90_25 : mm_E 90 25 [l0, l1, l2, l3, l4, some (.int x)] st I r Q ↔ mm_E 90 27 [l0, l1, l2, l3, l4, some (.int x)] (.int x :: st) I r Q := me_il2 mc_90 dX5_commonDivisor_25 rfl
theorem e90_27 : mm_E 90 27 [l0, l1, l2, l3, l4, l5] (.int x :: st) I r Q ↔ mm_c1 l2 ∧ mm_E 90 28 [l0, l1, l2, some (.int x), l4, l5] st I r Q := me_st (k := 3) (v := .int x) mc_90 dX5_commonDivisor_27 rfl rfl (Nat.le_of_ble_eq_true rfl) rfl ⟨Or.inr, fun h => h.resolve_left (by decide)⟩
theorem e90_28 : mm_E 90 28 [l0, l1, l2, l3, some (.int x), l5] st I r Q ↔ mm_c1 l3 ∧ mm_E 90 31 [l0, l1, l2, l3, some (.int (x + 1)), l5] st I r Q := me_st (k := 4) (v := .int (x + 1)) mc_90 dX5_commonDivisor_28 rfl rfl (Nat.le_of_ble_eq_true rfl) rfl ⟨Or.inr, fun h => h.resolve_left (by decide)⟩
theorem e90_31 : mm_E 90 31 ls st I r Q ↔ mm_E 90 7 ls st I r Q := me_goto mc_90 dX5_commonDivisor_31 (by decide)
theorem e90_34 : mm_E 90 34 [l0, l1, some (.int x), l3, l4, l5] st I r Q ↔ mm_E 90 35 [l0, l1, some (.int x), l3, l4, l5] (.int x :: st) I r Q := me_il mc_90 dX5_commonDivisor_34 rfl
theorem e90_35 : mm_E 90 35 ls [.int x] I r Q ↔ Q (some (.int x)) I r := me_ri mc_90 dX5_commonDivisor_35 rfl
theorem mc_91 : mm_c 91 = cX5_dawnsAs := rfl
theorem e91_0 : mm_E 91 0 ls st I r Q ↔ mm_E 91 1 ls (.int 0 :: st) I r Q := me_ic mc_91 dX5_dawnsAs_0 (by decide)
theorem e91_1 : mm_E 91 1 [l0, l1, l2, l3, l4, l5] (.int x :: st) I r Q ↔ mm_c1 l4 ∧ mm_E 91 3 [l0, l1, l2, l3, l4, some (.int x)] st I r Q := me_st (k := 5) (v := .int x) mc_91 dX5_dawnsAs_1 rfl rfl (Nat.le_of_ble_eq_true rfl) rfl ⟨Or.inr, fun h => h.resolve_left (by decide)⟩
theorem e91_3 : mm_E 91 3 [l0, l1, l2, l3, l4, some (.int x)] st I r Q ↔ mm_E 91 5 [l0, l1, l2, l3, l4, some (.int x)] (.int x :: st) I r Q := me_il2 mc_91 dX5_dawnsAs_3 rfl
theorem e91_5 : mm_E 91 5 [l0, l1, l2, l3, some (.int x), l5] st I r Q ↔ mm_E 91 7 [l0, l1, l2, l3, some (.int x), l5] (.int x :: st) I r Q := me_il2 mc_91 dX5_dawnsAs_5 rfl
theorem e91_7 : mm_E 91 7 ls (.int y :: .int x :: st) I r Q ↔ if y ≤ x then mm_E 91 49 ls st I r Q else mm_E 91 10 ls st I r Q := me_cge mc_91 dX5_dawnsAs_7 (by decide)
theorem e91_10 : mm_E 91 10 [some (.ref a), l1, l2, l3, l4, l5] st I r Q ↔ mm_E 91 11 [some (.ref a), l1, l2, l3, l4, l5] (.ref a :: st) I r Q := me_al mc_91 dX5_dawnsAs_10 rfl
theorem e91_11 : mm_E 91 11 ls (.ref a :: st) I r Q ↔ mm_S r a = (1, 5) ∧ mm_E 91 14 ls (va_rf (mm_P r a 1) :: st) I r Q := me_gr mc_91 dX5_dawnsAs_11 (by decide +kernel) rfl
theorem e91_14 : mm_E 91 14 ls st I r Q ↔ mm_E 91 15 ls (.int 0 :: st) I r Q := me_ic mc_91 dX5_dawnsAs_14 (by decide)
theorem e91_15 : ∀ (x0 : Int32), (mm_E 91 15 ls (.int x0 :: .ref a :: st) I r Q ↔ (mm_w8 st = true ∧ mm_S r a = (1, 0)) ∧ mm_E 16 0 [some (.ref a), some (.int x0), none, none] [] I r (fun v I2 r2 => mm_E 91 18 ls (mm_pu v st) I2 r2 Q)) := fun x0 => me_vc (n := 1) (As := [.int x0]) (xs := [.int x0]) (a := a) mc_91 dX5_dawnsAs_15 (by decide +kernel) (by decide +kernel) rfl rfl (Nat.le_of_ble_eq_true rfl) rfl
theorem e91_18 : mm_E 91 18 [l0, l1, some (.ref a), l3, l4, l5] st I r Q ↔ mm_E 91 19 [l0, l1, some (.ref a), l3, l4, l5] (.ref a :: st) I r Q := me_al mc_91 dX5_dawnsAs_18 rfl
theorem e91_19 : mm_E 91 19 ls (.ref a :: st) I r Q ↔ mm_S r a = (1, 3) ∧ mm_E 91 22 ls (va_rf (mm_P r a 3) :: st) I r Q := me_gr mc_91 dX5_dawnsAs_19 (by decide +kernel) rfl
theorem e91_22 : mm_E 91 22 [l0, l1, l2, some (.int x), l4, l5] st I r Q ↔ mm_E 91 23 [l0, l1, l2, some (.int x), l4, l5] (.int x :: st) I r Q := me_il mc_91 dX5_dawnsAs_22 rfl
theorem e91_23 : mm_E 91 23 [l0, l1, l2, l3, l4, some (.int x)] st I r Q ↔ mm_E 91 25 [l0, l1, l2, l3, l4, some (.int x)] (.int x :: st) I r Q := me_il2 mc_91 dX5_dawnsAs_23 rfl
theorem e91_25 : mm_E 91 25 ls (.int y :: .int x :: st) I r Q ↔ mm_E 91 26 ls (.int (x + y) :: st) I r Q := me_iadd mc_91 dX5_dawnsAs_25
theorem e91_26 : mm_E 91 26 ls (.int x :: .ref a :: st) I r Q ↔ mm_ix r a 3 x ∧ mm_E 91 27 ls (.long (mm_G r a x.toNatClampNeg) :: st) I r Q := me_la mc_91 dX5_dawnsAs_26
theorem e91_27 : mm_E 91 27 [some (.ref a), l1, l2, l3, l4, l5] st I r Q ↔ mm_E 91 28 [some (.ref a), l1, l2, l3, l4, l5] (.ref a :: st) I r Q := me_al mc_91 dX5_dawnsAs_27 rfl
theorem e91_28 : mm_E 91 28 ls (.ref a :: st) I r Q ↔ mm_S r a = (1, 5) ∧ mm_E 91 31 ls (va_rf (mm_P r a 1) :: st) I r Q := me_gr mc_91 dX5_dawnsAs_28 (by decide +kernel) rfl
theorem e91_31 : mm_E 91 31 ls (.ref a :: st) I r Q ↔ mm_S r a = (1, 0) ∧ mm_E 91 34 ls (va_rf (mm_P r a 12) :: st) I r Q := me_gr mc_91 dX5_dawnsAs_31 (by decide +kernel) rfl
theorem e91_34 : mm_E 91 34 [l0, some (.int x), l2, l3, l4, l5] st I r Q ↔ mm_E 91 35 [l0, some (.int x), l2, l3, l4, l5] (.int x :: st) I r Q := me_il mc_91 dX5_dawnsAs_34 rfl
theorem e91_35 : mm_E 91 35 ls (.int x :: .ref a :: st) I r Q ↔ mm_ix r a 2 x ∧ mm_E 91 36 ls (.int (mm_rd I a x.toNatClampNeg) :: st) I r Q := me_ia mc_91 dX5_dawnsAs_35
theorem e91_36 : mm_E 91 36 ls (.int x :: st) I r Q ↔ mm_E 91 37 ls (.long x.toInt64 :: st) I r Q := me_i2l mc_91 dX5_dawnsAs_36
theorem e91_37 : mm_E 91 37 ls (.long w :: .long z :: st) I r Q ↔ mm_E 91 38 ls (.int (lg_cmp z w) :: st) I r Q := me_lcmp mc_91 dX5_dawnsAs_37
theorem e91_38 : mm_E 91 38 ls (.int x :: st) I r Q ↔ if x = 0 then mm_E 91 43 ls st I r Q else mm_E 91 41 ls st I r Q := me_zeq mc_91 dX5_dawnsAs_38 (by decide)
theorem e91_41 : mm_E 91 41 ls st I r Q ↔ mm_E 91 42 ls (.int 0 :: st) I r Q := me_ic mc_91 dX5_dawnsAs_41 (by decide)
theorem e91_42 : mm_E 91 42 ls [.int x] I r Q ↔ (x = 0 ∨ x = 1) ∧ Q (some (.int x)) I r := me_rz mc_91 dX5_dawnsAs_42 rfl
theorem e91_43 : mm_E 91 43 [l0, l1, l2, l3, l4, some (.int x)] st I r Q ↔ mm_c1 l4 ∧ mm_E 91 46 [l0, l1, l2, l3, l4, some (.int (x + 1))] st I r Q := me_st (k := 5) (v := .int (x + 1)) mc_91 dX5_dawnsAs_43 rfl rfl (Nat.le_of_ble_eq_true rfl) rfl ⟨Or.inr, fun h => h.resolve_left (by decide)⟩
theorem e91_46 : mm_E 91 46 ls st I r Q ↔ mm_E 91 3 ls st I r Q := me_goto mc_91 dX5_dawnsAs_46 (by decide)
theorem e91_49 : mm_E 91 49 ls st I r Q ↔ mm_E 91 50 ls (.int 1 :: st) I r Q := me_ic mc_91 dX5_dawnsAs_49 (by decide)
theorem e91_50 : mm_E 91 50 ls [.int x] I r Q ↔ (x = 0 ∨ x = 1) ∧ Q (some (.int x)) I r := me_rz mc_91 dX5_dawnsAs_50 rfl
theorem mc_92 : mm_c 92 = cX6_init := rfl
theorem e92_0 : mm_E 92 0 [some (.ref a), l1] st I r Q ↔ mm_E 92 1 [some (.ref a), l1] (.ref a :: st) I r Q := me_al mc_92 dX6_init_0 rfl
theorem e92_1 : mm_E 92 1 ls (.ref a :: st) I r Q ↔ mm_w8 st = true ∧ mm_E 92 4 ls st I r Q := me_oi mc_92 dX6_init_1 (by decide +kernel)
theorem e92_4 : mm_E 92 4 [some (.ref a), l1] st I r Q ↔ mm_E 92 5 [some (.ref a), l1] (.ref a :: st) I r Q := me_al mc_92 dX6_init_4 rfl
theorem e92_5 : mm_E 92 5 ls st I r Q ↔ mm_E 92 6 ls (.int 4 :: st) I r Q := me_ic mc_92 dX6_init_5 (by decide)
theorem e92_6 : mm_E 92 6 ls (.int x :: st) I r Q ↔ (¬ x < 0 ∧ x.toNatClampNeg ≤ 1000) ∧ mm_E 92 8 ls (.ref (mm_t r) :: st) (mm_nI I r) (mm_nR r (2, x.toNatClampNeg) x.toNatClampNeg) Q := me_nai mc_92 dX6_init_6
theorem e92_8 : mm_E 92 8 ls (.ref b :: .ref a :: st) I r Q ↔ mm_S r a = (1, 6) ∧ mm_E 92 11 ls st I (mm_uP r a 0 (some b)) Q := me_pr mc_92 dX6_init_8 (by decide +kernel) (by decide +kernel)
theorem e92_11 : mm_E 92 11 [some (.ref a), l1] st I r Q ↔ mm_E 92 12 [some (.ref a), l1] (.ref a :: st) I r Q := me_al mc_92 dX6_init_11 rfl
theorem e92_12 : mm_E 92 12 ls st I r Q ↔ mm_E 92 13 ls (.int 4 :: st) I r Q := me_ic mc_92 dX6_init_12 (by decide)
theorem e92_13 : mm_E 92 13 ls (.int x :: st) I r Q ↔ (¬ x < 0 ∧ x.toNatClampNeg ≤ 1000) ∧ mm_E 92 15 ls (.ref (mm_t r) :: st) (mm_nI I r) (mm_nR r (2, x.toNatClampNeg) x.toNatClampNeg) Q := me_nai mc_92 dX6_init_13
theorem e92_15 : mm_E 92 15 ls (.ref b :: .ref a :: st) I r Q ↔ mm_S r a = (1, 6) ∧ mm_E 92 18 ls st I (mm_uP r a 1 (some b)) Q := me_pr mc_92 dX6_init_15 (by decide +kernel) (by decide +kernel)
theorem e92_18 : mm_E 92 18 [some (.ref a), l1] st I r Q ↔ mm_E 92 19 [some (.ref a), l1] (.ref a :: st) I r Q := me_al mc_92 dX6_init_18 rfl
theorem e92_19 : mm_E 92 19 ls st I r Q ↔ mm_E 92 21 ls (.int 96 :: st) I r Q := me_bi mc_92 dX6_init_19 (by decide)
theorem e92_21 : mm_E 92 21 ls (.int x :: st) I r Q ↔ (¬ x < 0 ∧ x.toNatClampNeg ≤ 1000) ∧ mm_E 92 23 ls (.ref (mm_t r) :: st) (mm_nI I r) (mm_nR r (3, x.toNatClampNeg) x.toNatClampNeg) Q := me_nal mc_92 dX6_init_21
theorem e92_23 : mm_E 92 23 ls (.ref b :: .ref a :: st) I r Q ↔ mm_S r a = (1, 6) ∧ mm_E 92 26 ls st I (mm_uP r a 2 (some b)) Q := me_pr mc_92 dX6_init_23 (by decide +kernel) (by decide +kernel)
theorem e92_26 : mm_E 92 26 [some (.ref a), l1] st I r Q ↔ mm_E 92 27 [some (.ref a), l1] (.ref a :: st) I r Q := me_al mc_92 dX6_init_26 rfl
theorem e92_27 : mm_E 92 27 ls st I r Q ↔ mm_E 92 29 ls (.int 80 :: st) I r Q := me_bi mc_92 dX6_init_27 (by decide)
theorem e92_29 : mm_E 92 29 ls (.int x :: st) I r Q ↔ (¬ x < 0 ∧ x.toNatClampNeg ≤ 1000) ∧ mm_E 92 31 ls (.ref (mm_t r) :: st) (mm_nI I r) (mm_nR r (2, x.toNatClampNeg) x.toNatClampNeg) Q := me_nai mc_92 dX6_init_29
theorem e92_31 : mm_E 92 31 ls (.ref b :: .ref a :: st) I r Q ↔ mm_S r a = (1, 6) ∧ mm_E 92 34 ls st I (mm_uP r a 4 (some b)) Q := me_pr mc_92 dX6_init_31 (by decide +kernel) (by decide +kernel)
theorem e92_34 : mm_E 92 34 [some (.ref a), l1] st I r Q ↔ mm_E 92 35 [some (.ref a), l1] (.ref a :: st) I r Q := me_al mc_92 dX6_init_34 rfl
theorem e92_35 : mm_E 92 35 ls st I r Q ↔ mm_E 92 38 ls (.int 248 :: st) I r Q := me_si mc_92 dX6_init_35 (by decide)
theorem e92_38 : mm_E 92 38 ls (.int x :: st) I r Q ↔ (¬ x < 0 ∧ x.toNatClampNeg ≤ 1000) ∧ mm_E 92 40 ls (.ref (mm_t r) :: st) (mm_nI I r) (mm_nR r (2, x.toNatClampNeg) x.toNatClampNeg) Q := me_nai mc_92 dX6_init_38
theorem e92_40 : mm_E 92 40 ls (.ref b :: .ref a :: st) I r Q ↔ mm_S r a = (1, 6) ∧ mm_E 92 43 ls st I (mm_uP r a 7 (some b)) Q := me_pr mc_92 dX6_init_40 (by decide +kernel) (by decide +kernel)
theorem e92_43 : mm_E 92 43 [some (.ref a), l1] st I r Q ↔ mm_E 92 44 [some (.ref a), l1] (.ref a :: st) I r Q := me_al mc_92 dX6_init_43 rfl
theorem e92_44 : mm_E 92 44 ls st I r Q ↔ mm_E 92 47 ls (.int 248 :: st) I r Q := me_si mc_92 dX6_init_44 (by decide)
theorem e92_47 : mm_E 92 47 ls (.int x :: st) I r Q ↔ (¬ x < 0 ∧ x.toNatClampNeg ≤ 1000) ∧ mm_E 92 49 ls (.ref (mm_t r) :: st) (mm_nI I r) (mm_nR r (2, x.toNatClampNeg) x.toNatClampNeg) Q := me_nai mc_92 dX6_init_47
theorem e92_49 : mm_E 92 49 ls (.ref b :: .ref a :: st) I r Q ↔ mm_S r a = (1, 6) ∧ mm_E 92 52 ls st I (mm_uP r a 8 (some b)) Q := me_pr mc_92 dX6_init_49 (by decide +kernel) (by decide +kernel)
theorem e92_52 : mm_E 92 52 [some (.ref a), l1] st I r Q ↔ mm_E 92 53 [some (.ref a), l1] (.ref a :: st) I r Q := me_al mc_92 dX6_init_52 rfl
theorem e92_53 : mm_E 92 53 ls st I r Q ↔ mm_E 92 56 ls (.int 248 :: st) I r Q := me_si mc_92 dX6_init_53 (by decide)
theorem e92_56 : mm_E 92 56 ls (.int x :: st) I r Q ↔ (¬ x < 0 ∧ x.toNatClampNeg ≤ 1000) ∧ mm_E 92 58 ls (.ref (mm_t r) :: st) (mm_nI I r) (mm_nR r (2, x.toNatClampNeg) x.toNatClampNeg) Q := me_nai mc_92 dX6_init_56
theorem e92_58 : mm_E 92 58 ls (.ref b :: .ref a :: st) I r Q ↔ mm_S r a = (1, 6) ∧ mm_E 92 61 ls st I (mm_uP r a 9 (some b)) Q := me_pr mc_92 dX6_init_58 (by decide +kernel) (by decide +kernel)
theorem e92_61 : mm_E 92 61 [some (.ref a), l1] st I r Q ↔ mm_E 92 62 [some (.ref a), l1] (.ref a :: st) I r Q := me_al mc_92 dX6_init_61 rfl
theorem e92_62 : mm_E 92 62 ls st I r Q ↔ mm_E 92 65 ls (.int 248 :: st) I r Q := me_si mc_92 dX6_init_62 (by decide)
theorem e92_65 : mm_E 92 65 ls (.int x :: st) I r Q ↔ (¬ x < 0 ∧ x.toNatClampNeg ≤ 1000) ∧ mm_E 92 67 ls (.ref (mm_t r) :: st) (mm_nI I r) (mm_nR r (2, x.toNatClampNeg) x.toNatClampNeg) Q := me_nai mc_92 dX6_init_65
theorem e92_67 : mm_E 92 67 ls (.ref b :: .ref a :: st) I r Q ↔ mm_S r a = (1, 6) ∧ mm_E 92 70 ls st I (mm_uP r a 10 (some b)) Q := me_pr mc_92 dX6_init_67 (by decide +kernel) (by decide +kernel)
theorem e92_70 : mm_E 92 70 [some (.ref a), l1] st I r Q ↔ mm_E 92 71 [some (.ref a), l1] (.ref a :: st) I r Q := me_al mc_92 dX6_init_70 rfl
theorem e92_71 : mm_E 92 71 ls st I r Q ↔ mm_E 92 73 ls (.int 6 :: st) I r Q := me_bi mc_92 dX6_init_71 (by decide)
theorem e92_73 : mm_E 92 73 ls (.int x :: st) I r Q ↔ (¬ x < 0 ∧ x.toNatClampNeg ≤ 1000) ∧ mm_E 92 75 ls (.ref (mm_t r) :: st) (mm_nI I r) (mm_nR r (2, x.toNatClampNeg) x.toNatClampNeg) Q := me_nai mc_92 dX6_init_73
theorem e92_75 : mm_E 92 75 ls (.ref b :: .ref a :: st) I r Q ↔ mm_S r a = (1, 6) ∧ mm_E 92 78 ls st I (mm_uP r a 12 (some b)) Q := me_pr mc_92 dX6_init_75 (by decide +kernel) (by decide +kernel)
theorem e92_78 : mm_E 92 78 [some (.ref a), l1] st I r Q ↔ mm_E 92 79 [some (.ref a), l1] (.ref a :: st) I r Q := me_al mc_92 dX6_init_78 rfl
theorem e92_79 : mm_E 92 79 ls st I r Q ↔ mm_E 92 81 ls (.int 6 :: st) I r Q := me_bi mc_92 dX6_init_79 (by decide)
theorem e92_81 : mm_E 92 81 ls (.int x :: st) I r Q ↔ (¬ x < 0 ∧ x.toNatClampNeg ≤ 1000) ∧ mm_E 92 83 ls (.ref (mm_t r) :: st) (mm_nI I r) (mm_nR r (2, x.toNatClampNeg) x.toNatClampNeg) Q := me_nai mc_92 dX6_init_81
theorem e92_83 : mm_E 92 83 ls (.ref b :: .ref a :: st) I r Q ↔ mm_S r a = (1, 6) ∧ mm_E 92 86 ls st I (mm_uP r a 13 (some b)) Q := me_pr mc_92 dX6_init_83 (by decide +kernel) (by decide +kernel)
theorem e92_86 : mm_E 92 86 [some (.ref a), l1] st I r Q ↔ mm_E 92 87 [some (.ref a), l1] (.ref a :: st) I r Q := me_al mc_92 dX6_init_86 rfl
theorem e92_87 : mm_E 92 87 ls st I r Q ↔ mm_E 92 89 ls (.int 6 :: st) I r Q := me_bi mc_92 dX6_init_87 (by decide)
theorem e92_89 : mm_E 92 89 ls (.int x :: st) I r Q ↔ (¬ x < 0 ∧ x.toNatClampNeg ≤ 1000) ∧ mm_E 92 91 ls (.ref (mm_t r) :: st) (mm_nI I r) (mm_nR r (2, x.toNatClampNeg) x.toNatClampNeg) Q := me_nai mc_92 dX6_init_89
theorem e92_91 : mm_E 92 91 ls (.ref b :: .ref a :: st) I r Q ↔ mm_S r a = (1, 6) ∧ mm_E 92 94 ls st I (mm_uP r a 14 (some b)) Q := me_pr mc_92 dX6_init_91 (by decide +kernel) (by decide +kernel)
theorem e92_94 : mm_E 92 94 [some (.ref a), l1] st I r Q ↔ mm_E 92 95 [some (.ref a), l1] (.ref a :: st) I r Q := me_al mc_92 dX6_init_94 rfl
theorem e92_95 : mm_E 92 95 ls st I r Q ↔ mm_E 92 97 ls (.int 6 :: st) I r Q := me_bi mc_92 dX6_init_95 (by decide)
theorem e92_97 : mm_E 92 97 ls (.int x :: st) I r Q ↔ (¬ x < 0 ∧ x.toNatClampNeg ≤ 1000) ∧ mm_E 92 99 ls (.ref (mm_t r) :: st) (mm_nI I r) (mm_nR r (2, x.toNatClampNeg) x.toNatClampNeg) Q := me_nai mc_92 dX6_init_97
theorem e92_99 : mm_E 92 99 ls (.ref b :: .ref a :: st) I r Q ↔ mm_S r a = (1, 6) ∧ mm_E 92 102 ls st I (mm_uP r a 15 (some b)) Q := me_pr mc_92 dX6_init_99 (by decide +kernel) (by decide +kernel)
theorem e92_102 : mm_E 92 102 ls st I r Q ↔ mm_E 92 103 ls (.int 0 :: st) I r Q := me_ic mc_92 dX6_init_102 (by decide)
theorem e92_103 : mm_E 92 103 [l0, l1] (.int x :: st) I r Q ↔ mm_c1 l0 ∧ mm_E 92 104 [l0, some (.int x)] st I r Q := me_st (k := 1) (v := .int x) mc_92 dX6_init_103 rfl rfl (Nat.le_of_ble_eq_true rfl) rfl ⟨Or.inr, fun h => h.resolve_left (by decide)⟩
theorem e92_104 : mm_E 92 104 [l0, some (.int x)] st I r Q ↔ mm_E 92 105 [l0, some (.int x)] (.int x :: st) I r Q := me_il mc_92 dX6_init_104 rfl
theorem e92_105 : mm_E 92 105 ls st I r Q ↔ mm_E 92 106 ls (.int 4 :: st) I r Q := me_ic mc_92 dX6_init_105 (by decide)
theorem e92_106 : mm_E 92 106 ls (.int y :: .int x :: st) I r Q ↔ if y ≤ x then mm_E 92 122 ls st I r Q else mm_E 92 109 ls st I r Q := me_cge mc_92 dX6_init_106 (by decide)
theorem e92_109 : mm_E 92 109 [some (.ref a), l1] st I r Q ↔ mm_E 92 110 [some (.ref a), l1] (.ref a :: st) I r Q := me_al mc_92 dX6_init_109 rfl
theorem e92_110 : mm_E 92 110 ls (.ref a :: st) I r Q ↔ mm_S r a = (1, 6) ∧ mm_E 92 113 ls (va_rf (mm_P r a 0) :: st) I r Q := me_gr mc_92 dX6_init_110 (by decide +kernel) rfl
theorem e92_113 : mm_E 92 113 [l0, some (.int x)] st I r Q ↔ mm_E 92 114 [l0, some (.int x)] (.int x :: st) I r Q := me_il mc_92 dX6_init_113 rfl
theorem e92_114 : mm_E 92 114 ls st I r Q ↔ mm_E 92 115 ls (.int (-1) :: st) I r Q := me_ic mc_92 dX6_init_114 (by decide)
theorem e92_115 : mm_E 92 115 ls (.int y :: .int x :: .ref a :: st) I r Q ↔ mm_ix r a 2 x ∧ mm_E 92 116 ls st (mm_uI I a x.toNatClampNeg y) r Q := me_is mc_92 dX6_init_115
theorem e92_116 : mm_E 92 116 [l0, some (.int x)] st I r Q ↔ mm_c1 l0 ∧ mm_E 92 119 [l0, some (.int (x + 1))] st I r Q := me_st (k := 1) (v := .int (x + 1)) mc_92 dX6_init_116 rfl rfl (Nat.le_of_ble_eq_true rfl) rfl ⟨Or.inr, fun h => h.resolve_left (by decide)⟩
theorem e92_119 : mm_E 92 119 ls st I r Q ↔ mm_E 92 104 ls st I r Q := me_goto mc_92 dX6_init_119 (by decide)
theorem e92_122 : mm_E 92 122 [some (.ref a), l1] st I r Q ↔ mm_E 92 123 [some (.ref a), l1] (.ref a :: st) I r Q := me_al mc_92 dX6_init_122 rfl
theorem e92_123 : mm_E 92 123 ls (.ref a :: st) I r Q ↔ mm_S r a = (1, 6) ∧ mm_E 92 126 ls (va_rf (mm_P r a 7) :: st) I r Q := me_gr mc_92 dX6_init_123 (by decide +kernel) rfl
theorem e92_126 : mm_E 92 126 ls st I r Q ↔ mm_E 92 127 ls (.int 1 :: st) I r Q := me_ic mc_92 dX6_init_126 (by decide)
theorem e92_127 : mm_E 92 127 ls st I r Q ↔ mm_E 92 128 ls (.int 1 :: st) I r Q := me_ic mc_92 dX6_init_127 (by decide)
theorem e92_128 : mm_E 92 128 ls (.int y :: .int x :: .ref a :: st) I r Q ↔ mm_ix r a 2 x ∧ mm_E 92 129 ls st (mm_uI I a x.toNatClampNeg y) r Q := me_is mc_92 dX6_init_128
theorem e92_129 : mm_E 92 129 [some (.ref a), l1] st I r Q ↔ mm_E 92 130 [some (.ref a), l1] (.ref a :: st) I r Q := me_al mc_92 dX6_init_129 rfl
theorem e92_130 : mm_E 92 130 ls (.ref a :: st) I r Q ↔ mm_S r a = (1, 6) ∧ mm_E 92 133 ls (va_rf (mm_P r a 7) :: st) I r Q := me_gr mc_92 dX6_init_130 (by decide +kernel) rfl
theorem e92_133 : mm_E 92 133 ls st I r Q ↔ mm_E 92 135 ls (.int 26 :: st) I r Q := me_bi mc_92 dX6_init_133 (by decide)
theorem e92_135 : mm_E 92 135 ls st I r Q ↔ mm_E 92 136 ls (.int 5 :: st) I r Q := me_ic mc_92 dX6_init_135 (by decide)
theorem e92_136 : mm_E 92 136 ls (.int y :: .int x :: .ref a :: st) I r Q ↔ mm_ix r a 2 x ∧ mm_E 92 137 ls st (mm_uI I a x.toNatClampNeg y) r Q := me_is mc_92 dX6_init_136
theorem e92_137 : mm_E 92 137 ls [] I r Q ↔ Q none I r := me_rv mc_92 dX6_init_137 rfl
theorem mc_93 : mm_c 93 = cX6_in := rfl
theorem e93_0 : mm_E 93 0 [some (.int x), l1, l2] st I r Q ↔ mm_E 93 1 [some (.int x), l1, l2] (.int x :: st) I r Q := me_il mc_93 dX6_in_0 rfl
theorem e93_1 : mm_E 93 1 [l0, some (.int x), l2] st I r Q ↔ mm_E 93 2 [l0, some (.int x), l2] (.int x :: st) I r Q := me_il mc_93 dX6_in_1 rfl
theorem e93_2 : mm_E 93 2 ls (.int y :: .int x :: st) I r Q ↔ if x < y then mm_E 93 14 ls st I r Q else mm_E 93 5 ls st I r Q := me_clt mc_93 dX6_in_2 (by decide)
theorem e93_5 : mm_E 93 5 [some (.int x), l1, l2] st I r Q ↔ mm_E 93 6 [some (.int x), l1, l2] (.int x :: st) I r Q := me_il mc_93 dX6_in_5 rfl
theorem e93_6 : mm_E 93 6 [l0, l1, some (.int x)] st I r Q ↔ mm_E 93 7 [l0, l1, some (.int x)] (.int x :: st) I r Q := me_il mc_93 dX6_in_6 rfl
theorem e93_7 : mm_E 93 7 ls (.int y :: .int x :: st) I r Q ↔ if y < x then mm_E 93 14 ls st I r Q else mm_E 93 10 ls st I r Q := me_cgt mc_93 dX6_in_7 (by decide)
theorem e93_10 : mm_E 93 10 ls st I r Q ↔ mm_E 93 11 ls (.int 1 :: st) I r Q := me_ic mc_93 dX6_in_10 (by decide)
theorem e93_11 : mm_E 93 11 ls st I r Q ↔ mm_E 93 15 ls st I r Q := me_goto mc_93 dX6_in_11 (by decide)
theorem e93_14 : mm_E 93 14 ls st I r Q ↔ mm_E 93 15 ls (.int 0 :: st) I r Q := me_ic mc_93 dX6_in_14 (by decide)
theorem e93_15 : mm_E 93 15 ls [.int x] I r Q ↔ (x = 0 ∨ x = 1) ∧ Q (some (.int x)) I r := me_rz mc_93 dX6_in_15 rfl
theorem mc_94 : mm_c 94 = cX6_has := rfl
theorem e94_0 : mm_E 94 0 [some (.int x), l1] st I r Q ↔ mm_E 94 1 [some (.int x), l1] (.int x :: st) I r Q := me_il mc_94 dX6_has_0 rfl
theorem e94_1 : mm_E 94 1 [l0, some (.int x)] st I r Q ↔ mm_E 94 2 [l0, some (.int x)] (.int x :: st) I r Q := me_il mc_94 dX6_has_1 rfl
theorem e94_2 : mm_E 94 2 ls (.int y :: .int x :: st) I r Q ↔ mm_E 94 3 ls (.int (x >>> (y &&& 31)) :: st) I r Q := me_ishr mc_94 dX6_has_2
theorem e94_3 : mm_E 94 3 ls st I r Q ↔ mm_E 94 4 ls (.int 1 :: st) I r Q := me_ic mc_94 dX6_has_3 (by decide)
theorem e94_4 : mm_E 94 4 ls (.int y :: .int x :: st) I r Q ↔ mm_E 94 5 ls (.int (x &&& y) :: st) I r Q := me_iand mc_94 dX6_has_4
theorem e94_5 : mm_E 94 5 ls st I r Q ↔ mm_E 94 6 ls (.int 1 :: st) I r Q := me_ic mc_94 dX6_has_5 (by decide)
theorem e94_6 : mm_E 94 6 ls (.int y :: .int x :: st) I r Q ↔ if ¬ x = y then mm_E 94 13 ls st I r Q else mm_E 94 9 ls st I r Q := me_cne mc_94 dX6_has_6 (by decide)
theorem e94_9 : mm_E 94 9 ls st I r Q ↔ mm_E 94 10 ls (.int 1 :: st) I r Q := me_ic mc_94 dX6_has_9 (by decide)
theorem e94_10 : mm_E 94 10 ls st I r Q ↔ mm_E 94 14 ls st I r Q := me_goto mc_94 dX6_has_10 (by decide)
theorem e94_13 : mm_E 94 13 ls st I r Q ↔ mm_E 94 14 ls (.int 0 :: st) I r Q := me_ic mc_94 dX6_has_13 (by decide)
theorem e94_14 : mm_E 94 14 ls [.int x] I r Q ↔ (x = 0 ∨ x = 1) ∧ Q (some (.int x)) I r := me_rz mc_94 dX6_has_14 rfl
theorem mc_95 : mm_c 95 = cX6_bits := rfl
theorem e95_0 : mm_E 95 0 ls st I r Q ↔ mm_E 95 1 ls (.int 0 :: st) I r Q := me_ic mc_95 dX6_bits_0 (by decide)
theorem e95_1 : mm_E 95 1 [l0, l1, l2] (.int x :: st) I r Q ↔ mm_c1 l0 ∧ mm_E 95 2 [l0, some (.int x), l2] st I r Q := me_st (k := 1) (v := .int x) mc_95 dX6_bits_1 rfl rfl (Nat.le_of_ble_eq_true rfl) rfl ⟨Or.inr, fun h => h.resolve_left (by decide)⟩
theorem e95_2 : mm_E 95 2 ls st I r Q ↔ mm_E 95 3 ls (.int 0 :: st) I r Q := me_ic mc_95 dX6_bits_2 (by decide)
theorem e95_3 : mm_E 95 3 [l0, l1, l2] (.int x :: st) I r Q ↔ mm_c1 l1 ∧ mm_E 95 4 [l0, l1, some (.int x)] st I r Q := me_st (k := 2) (v := .int x) mc_95 dX6_bits_3 rfl rfl (Nat.le_of_ble_eq_true rfl) rfl ⟨Or.inr, fun h => h.resolve_left (by decide)⟩
theorem e95_4 : mm_E 95 4 [l0, l1, some (.int x)] st I r Q ↔ mm_E 95 5 [l0, l1, some (.int x)] (.int x :: st) I r Q := me_il mc_95 dX6_bits_4 rfl
theorem e95_5 : mm_E 95 5 ls st I r Q ↔ mm_E 95 7 ls (.int 6 :: st) I r Q := me_bi mc_95 dX6_bits_5 (by decide)
theorem e95_7 : mm_E 95 7 ls (.int y :: .int x :: st) I r Q ↔ if y ≤ x then mm_E 95 24 ls st I r Q else mm_E 95 10 ls st I r Q := me_cge mc_95 dX6_bits_7 (by decide)
theorem e95_10 : mm_E 95 10 [l0, some (.int x), l2] st I r Q ↔ mm_E 95 11 [l0, some (.int x), l2] (.int x :: st) I r Q := me_il mc_95 dX6_bits_10 rfl
theorem e95_11 : mm_E 95 11 [some (.int x), l1, l2] st I r Q ↔ mm_E 95 12 [some (.int x), l1, l2] (.int x :: st) I r Q := me_il mc_95 dX6_bits_11 rfl
theorem e95_12 : mm_E 95 12 [l0, l1, some (.int x)] st I r Q ↔ mm_E 95 13 [l0, l1, some (.int x)] (.int x :: st) I r Q := me_il mc_95 dX6_bits_12 rfl
theorem e95_13 : mm_E 95 13 ls (.int y :: .int x :: st) I r Q ↔ mm_E 95 14 ls (.int (x >>> (y &&& 31)) :: st) I r Q := me_ishr mc_95 dX6_bits_13
theorem e95_14 : mm_E 95 14 ls st I r Q ↔ mm_E 95 15 ls (.int 1 :: st) I r Q := me_ic mc_95 dX6_bits_14 (by decide)
theorem e95_15 : mm_E 95 15 ls (.int y :: .int x :: st) I r Q ↔ mm_E 95 16 ls (.int (x &&& y) :: st) I r Q := me_iand mc_95 dX6_bits_15
theorem e95_16 : mm_E 95 16 ls (.int y :: .int x :: st) I r Q ↔ mm_E 95 17 ls (.int (x + y) :: st) I r Q := me_iadd mc_95 dX6_bits_16
theorem e95_17 : mm_E 95 17 [l0, l1, l2] (.int x :: st) I r Q ↔ mm_c1 l0 ∧ mm_E 95 18 [l0, some (.int x), l2] st I r Q := me_st (k := 1) (v := .int x) mc_95 dX6_bits_17 rfl rfl (Nat.le_of_ble_eq_true rfl) rfl ⟨Or.inr, fun h => h.resolve_left (by decide)⟩
theorem e95_18 : mm_E 95 18 [l0, l1, some (.int x)] st I r Q ↔ mm_c1 l1 ∧ mm_E 95 21 [l0, l1, some (.int (x + 1))] st I r Q := me_st (k := 2) (v := .int (x + 1)) mc_95 dX6_bits_18 rfl rfl (Nat.le_of_ble_eq_true rfl) rfl ⟨Or.inr, fun h => h.resolve_left (by decide)⟩
theorem e95_21 : mm_E 95 21 ls st I r Q ↔ mm_E 95 4 ls st I r Q := me_goto mc_95 dX6_bits_21 (by decide)
theorem e95_24 : mm_E 95 24 [l0, some (.int x), l2] st I r Q ↔ mm_E 95 25 [l0, some (.int x), l2] (.int x :: st) I r Q := me_il mc_95 dX6_bits_24 rfl
theorem e95_25 : mm_E 95 25 ls [.int x] I r Q ↔ Q (some (.int x)) I r := me_ri mc_95 dX6_bits_25 rfl
theorem mc_96 : mm_c 96 = cX6_bring := rfl
theorem e96_0 : mm_E 96 0 ls st I r Q ↔ mm_E 96 1 ls (.int 0 :: st) I r Q := me_ic mc_96 dX6_bring_0 (by decide)
theorem e96_1 : mm_E 96 1 [l0, l1, l2, l3, l4, l5] (.int x :: st) I r Q ↔ mm_c1 l4 ∧ mm_E 96 3 [l0, l1, l2, l3, l4, some (.int x)] st I r Q := me_st (k := 5) (v := .int x) mc_96 dX6_bring_1 rfl rfl (Nat.le_of_ble_eq_true rfl) rfl ⟨Or.inr, fun h => h.resolve_left (by decide)⟩
theorem e96_3 : mm_E 96 3 [l0, l1, l2, l3, l4, some (.int x)] st I r Q ↔ mm_E 96 5 [l0, l1, l2, l3, l4, some (.int x)] (.int x :: st) I r Q := me_il2 mc_96 dX6_bring_3 rfl
theorem e96_5 : mm_E 96 5 [l0, l1, l2, l3, some (.int x), l5] st I r Q ↔ mm_E 96 7 [l0, l1, l2, l3, some (.int x), l5] (.int x :: st) I r Q := me_il2 mc_96 dX6_bring_5 rfl
theorem e96_7 : mm_E 96 7 ls (.int y :: .int x :: st) I r Q ↔ if y ≤ x then mm_E 96 28 ls st I r Q else mm_E 96 10 ls st I r Q := me_cge mc_96 dX6_bring_7 (by decide)
theorem e96_10 : mm_E 96 10 [l0, l1, some (.ref a), l3, l4, l5] st I r Q ↔ mm_E 96 11 [l0, l1, some (.ref a), l3, l4, l5] (.ref a :: st) I r Q := me_al mc_96 dX6_bring_10 rfl
theorem e96_11 : mm_E 96 11 [l0, l1, l2, some (.int x), l4, l5] st I r Q ↔ mm_E 96 12 [l0, l1, l2, some (.int x), l4, l5] (.int x :: st) I r Q := me_il mc_96 dX6_bring_11 rfl
theorem e96_12 : mm_E 96 12 [l0, l1, l2, l3, l4, some (.int x)] st I r Q ↔ mm_E 96 14 [l0, l1, l2, l3, l4, some (.int x)] (.int x :: st) I r Q := me_il2 mc_96 dX6_bring_12 rfl
theorem e96_14 : mm_E 96 14 ls (.int y :: .int x :: st) I r Q ↔ mm_E 96 15 ls (.int (x + y) :: st) I r Q := me_iadd mc_96 dX6_bring_14
theorem e96_15 : mm_E 96 15 [some (.ref a), l1, l2, l3, l4, l5] st I r Q ↔ mm_E 96 16 [some (.ref a), l1, l2, l3, l4, l5] (.ref a :: st) I r Q := me_al mc_96 dX6_bring_15 rfl
theorem e96_16 : mm_E 96 16 [l0, some (.int x), l2, l3, l4, l5] st I r Q ↔ mm_E 96 17 [l0, some (.int x), l2, l3, l4, l5] (.int x :: st) I r Q := me_il mc_96 dX6_bring_16 rfl
theorem e96_17 : mm_E 96 17 [l0, l1, l2, l3, l4, some (.int x)] st I r Q ↔ mm_E 96 19 [l0, l1, l2, l3, l4, some (.int x)] (.int x :: st) I r Q := me_il2 mc_96 dX6_bring_17 rfl
theorem e96_19 : mm_E 96 19 ls (.int y :: .int x :: st) I r Q ↔ mm_E 96 20 ls (.int (x + y) :: st) I r Q := me_iadd mc_96 dX6_bring_19
theorem e96_20 : mm_E 96 20 ls (.int x :: .ref a :: st) I r Q ↔ mm_ix r a 2 x ∧ mm_E 96 21 ls (.int (mm_rd I a x.toNatClampNeg) :: st) I r Q := me_ia mc_96 dX6_bring_20
theorem e96_21 : mm_E 96 21 ls (.int y :: .int x :: .ref a :: st) I r Q ↔ mm_ix r a 2 x ∧ mm_E 96 22 ls st (mm_uI I a x.toNatClampNeg y) r Q := me_is mc_96 dX6_bring_21
theorem e96_22 : mm_E 96 22 [l0, l1, l2, l3, l4, some (.int x)] st I r Q ↔ mm_c1 l4 ∧ mm_E 96 25 [l0, l1, l2, l3, l4, some (.int (x + 1))] st I r Q := me_st (k := 5) (v := .int (x + 1)) mc_96 dX6_bring_22 rfl rfl (Nat.le_of_ble_eq_true rfl) rfl ⟨Or.inr, fun h => h.resolve_left (by decide)⟩
theorem e96_25 : mm_E 96 25 ls st I r Q ↔ mm_E 96 3 ls st I r Q := me_goto mc_96 dX6_bring_25 (by decide)
theorem e96_28 : mm_E 96 28 ls [] I r Q ↔ Q none I r := me_rv mc_96 dX6_bring_28 rfl
theorem mc_97 : mm_c 97 = cX6_isHouse := rfl
theorem e97_0 : mm_E 97 0 [l0, some (.int x)] st I r Q ↔ mm_E 97 1 [l0, some (.int x)] (.int x :: st) I r Q := me_il mc_97 dX6_isHouse_0 rfl
theorem e97_1 : mm_E 97 1 ls st I r Q ↔ mm_E 97 2 ls (.int 0 :: st) I r Q := me_ic mc_97 dX6_isHouse_1 (by decide)
theorem e97_2 : mm_E 97 2 [some (.ref a), l1] st I r Q ↔ mm_E 97 3 [some (.ref a), l1] (.ref a :: st) I r Q := me_al mc_97 dX6_isHouse_2 rfl
theorem e97_3 : mm_E 97 3 ls (.ref a :: st) I r Q ↔ mm_S r a = (1, 6) ∧ mm_E 97 6 ls (va_rf (mm_P r a 7) :: st) I r Q := me_gr mc_97 dX6_isHouse_3 (by decide +kernel) rfl
theorem e97_6 : mm_E 97 6 ls st I r Q ↔ mm_E 97 8 ls (.int 27 :: st) I r Q := me_bi mc_97 dX6_isHouse_6 (by decide)
theorem e97_8 : mm_E 97 8 ls (.int x :: .ref a :: st) I r Q ↔ mm_ix r a 2 x ∧ mm_E 97 9 ls (.int (mm_rd I a x.toNatClampNeg) :: st) I r Q := me_ia mc_97 dX6_isHouse_8
theorem e97_9 : mm_E 97 9 ls st I r Q ↔ mm_E 97 10 ls (.int 1 :: st) I r Q := me_ic mc_97 dX6_isHouse_9 (by decide)
theorem e97_10 : mm_E 97 10 ls (.int y :: .int x :: st) I r Q ↔ mm_E 97 11 ls (.int (x - y) :: st) I r Q := me_isub mc_97 dX6_isHouse_10
theorem e97_11 : ∀ (x0 : Int32) (x1 : Int32) (x2 : Int32), (mm_E 97 11 ls (.int x2 :: .int x1 :: .int x0 :: st) I r Q ↔ mm_w8 st = true ∧ mm_E 93 0 [some (.int x0), some (.int x1), some (.int x2)] [] I r (fun v I2 r2 => mm_E 97 14 ls (mm_pu v st) I2 r2 Q)) := fun x0 x1 x2 => me_sc (n := 3) (As := [.int x0, .int x1, .int x2]) (xs := [.int x2, .int x1, .int x0]) mc_97 dX6_isHouse_11 (by decide +kernel) (by decide +kernel) rfl rfl (Nat.le_of_ble_eq_true rfl) rfl
theorem e97_14 : mm_E 97 14 ls [.int x] I r Q ↔ (x = 0 ∨ x = 1) ∧ Q (some (.int x)) I r := me_rz mc_97 dX6_isHouse_14 rfl
theorem mc_98 : mm_c 98 = cX6_isHog := rfl
theorem e98_0 : mm_E 98 0 [l0, some (.int x)] st I r Q ↔ mm_E 98 1 [l0, some (.int x)] (.int x :: st) I r Q := me_il mc_98 dX6_isHog_0 rfl
theorem e98_1 : mm_E 98 1 ls st I r Q ↔ mm_E 98 2 ls (.int 0 :: st) I r Q := me_ic mc_98 dX6_isHog_1 (by decide)
theorem e98_2 : mm_E 98 2 [some (.ref a), l1] st I r Q ↔ mm_E 98 3 [some (.ref a), l1] (.ref a :: st) I r Q := me_al mc_98 dX6_isHog_2 rfl
theorem e98_3 : mm_E 98 3 ls (.ref a :: st) I r Q ↔ mm_S r a = (1, 6) ∧ mm_E 98 6 ls (va_rf (mm_P r a 7) :: st) I r Q := me_gr mc_98 dX6_isHog_3 (by decide +kernel) rfl
theorem e98_6 : mm_E 98 6 ls st I r Q ↔ mm_E 98 8 ls (.int 28 :: st) I r Q := me_bi mc_98 dX6_isHog_6 (by decide)
theorem e98_8 : mm_E 98 8 ls (.int x :: .ref a :: st) I r Q ↔ mm_ix r a 2 x ∧ mm_E 98 9 ls (.int (mm_rd I a x.toNatClampNeg) :: st) I r Q := me_ia mc_98 dX6_isHog_8
theorem e98_9 : mm_E 98 9 ls st I r Q ↔ mm_E 98 10 ls (.int 1 :: st) I r Q := me_ic mc_98 dX6_isHog_9 (by decide)
theorem e98_10 : mm_E 98 10 ls (.int y :: .int x :: st) I r Q ↔ mm_E 98 11 ls (.int (x - y) :: st) I r Q := me_isub mc_98 dX6_isHog_10
theorem e98_11 : ∀ (x0 : Int32) (x1 : Int32) (x2 : Int32), (mm_E 98 11 ls (.int x2 :: .int x1 :: .int x0 :: st) I r Q ↔ mm_w8 st = true ∧ mm_E 93 0 [some (.int x0), some (.int x1), some (.int x2)] [] I r (fun v I2 r2 => mm_E 98 14 ls (mm_pu v st) I2 r2 Q)) := fun x0 x1 x2 => me_sc (n := 3) (As := [.int x0, .int x1, .int x2]) (xs := [.int x2, .int x1, .int x0]) mc_98 dX6_isHog_11 (by decide +kernel) (by decide +kernel) rfl rfl (Nat.le_of_ble_eq_true rfl) rfl
theorem e98_14 : mm_E 98 14 ls [.int x] I r Q ↔ (x = 0 ∨ x = 1) ∧ Q (some (.int x)) I r := me_rz mc_98 dX6_isHog_14 rfl
theorem mc_99 : mm_c 99 = cX6_addHouse := rfl
theorem e99_0 : mm_E 99 0 [some (.ref a), l1, l2, l3] st I r Q ↔ mm_E 99 1 [some (.ref a), l1, l2, l3] (.ref a :: st) I r Q := me_al mc_99 dX6_addHouse_0 rfl
theorem e99_1 : mm_E 99 1 ls st I r Q ↔ mm_E 99 3 ls (.int 27 :: st) I r Q := me_bi mc_99 dX6_addHouse_1 (by decide)
theorem e99_3 : mm_E 99 3 ls (.int x :: .ref a :: st) I r Q ↔ mm_ix r a 2 x ∧ mm_E 99 4 ls (.int (mm_rd I a x.toNatClampNeg) :: st) I r Q := me_ia mc_99 dX6_addHouse_3
theorem e99_4 : mm_E 99 4 [l0, l1, l2, l3] (.int x :: st) I r Q ↔ mm_c1 l2 ∧ mm_E 99 5 [l0, l1, l2, some (.int x)] st I r Q := me_st (k := 3) (v := .int x) mc_99 dX6_addHouse_4 rfl rfl (Nat.le_of_ble_eq_true rfl) rfl ⟨Or.inr, fun h => h.resolve_left (by decide)⟩
theorem e99_5 : mm_E 99 5 [some (.ref a), l1, l2, l3] st I r Q ↔ mm_E 99 6 [some (.ref a), l1, l2, l3] (.ref a :: st) I r Q := me_al mc_99 dX6_addHouse_5 rfl
theorem e99_6 : mm_E 99 6 ls st I r Q ↔ mm_E 99 7 ls (.int 3 :: st) I r Q := me_ic mc_99 dX6_addHouse_6 (by decide)
theorem e99_7 : mm_E 99 7 [l0, l1, l2, some (.int x)] st I r Q ↔ mm_E 99 8 [l0, l1, l2, some (.int x)] (.int x :: st) I r Q := me_il mc_99 dX6_addHouse_7 rfl
theorem e99_8 : mm_E 99 8 ls (.int y :: .int x :: st) I r Q ↔ mm_E 99 9 ls (.int (x + y) :: st) I r Q := me_iadd mc_99 dX6_addHouse_8
theorem e99_9 : mm_E 99 9 [l0, some (.int x), l2, l3] st I r Q ↔ mm_E 99 10 [l0, some (.int x), l2, l3] (.int x :: st) I r Q := me_il mc_99 dX6_addHouse_9 rfl
theorem e99_10 : mm_E 99 10 ls (.int y :: .int x :: .ref a :: st) I r Q ↔ mm_ix r a 2 x ∧ mm_E 99 11 ls st (mm_uI I a x.toNatClampNeg y) r Q := me_is mc_99 dX6_addHouse_10
theorem e99_11 : mm_E 99 11 [some (.ref a), l1, l2, l3] st I r Q ↔ mm_E 99 12 [some (.ref a), l1, l2, l3] (.ref a :: st) I r Q := me_al mc_99 dX6_addHouse_11 rfl
theorem e99_12 : mm_E 99 12 ls st I r Q ↔ mm_E 99 14 ls (.int 9 :: st) I r Q := me_bi mc_99 dX6_addHouse_12 (by decide)
theorem e99_14 : mm_E 99 14 [l0, l1, l2, some (.int x)] st I r Q ↔ mm_E 99 15 [l0, l1, l2, some (.int x)] (.int x :: st) I r Q := me_il mc_99 dX6_addHouse_14 rfl
theorem e99_15 : mm_E 99 15 ls (.int y :: .int x :: st) I r Q ↔ mm_E 99 16 ls (.int (x + y) :: st) I r Q := me_iadd mc_99 dX6_addHouse_15
theorem e99_16 : mm_E 99 16 [l0, l1, some (.int x), l3] st I r Q ↔ mm_E 99 17 [l0, l1, some (.int x), l3] (.int x :: st) I r Q := me_il mc_99 dX6_addHouse_16 rfl
theorem e99_17 : mm_E 99 17 ls (.int y :: .int x :: .ref a :: st) I r Q ↔ mm_ix r a 2 x ∧ mm_E 99 18 ls st (mm_uI I a x.toNatClampNeg y) r Q := me_is mc_99 dX6_addHouse_17
theorem e99_18 : mm_E 99 18 [some (.ref a), l1, l2, l3] st I r Q ↔ mm_E 99 19 [some (.ref a), l1, l2, l3] (.ref a :: st) I r Q := me_al mc_99 dX6_addHouse_18 rfl
theorem e99_19 : mm_E 99 19 ls st I r Q ↔ mm_E 99 21 ls (.int 15 :: st) I r Q := me_bi mc_99 dX6_addHouse_19 (by decide)
theorem e99_21 : mm_E 99 21 [l0, l1, l2, some (.int x)] st I r Q ↔ mm_E 99 22 [l0, l1, l2, some (.int x)] (.int x :: st) I r Q := me_il mc_99 dX6_addHouse_21 rfl
theorem e99_22 : mm_E 99 22 ls (.int y :: .int x :: st) I r Q ↔ mm_E 99 23 ls (.int (x + y) :: st) I r Q := me_iadd mc_99 dX6_addHouse_22
theorem e99_23 : mm_E 99 23 ls st I r Q ↔ mm_E 99 24 ls (.int 0 :: st) I r Q := me_ic mc_99 dX6_addHouse_23 (by decide)
theorem e99_24 : mm_E 99 24 ls (.int y :: .int x :: .ref a :: st) I r Q ↔ mm_ix r a 2 x ∧ mm_E 99 25 ls st (mm_uI I a x.toNatClampNeg y) r Q := me_is mc_99 dX6_addHouse_24
theorem e99_25 : mm_E 99 25 [some (.ref a), l1, l2, l3] st I r Q ↔ mm_E 99 26 [some (.ref a), l1, l2, l3] (.ref a :: st) I r Q := me_al mc_99 dX6_addHouse_25 rfl
theorem e99_26 : mm_E 99 26 ls st I r Q ↔ mm_E 99 28 ls (.int 27 :: st) I r Q := me_bi mc_99 dX6_addHouse_26 (by decide)
theorem e99_28 : mm_E 99 28 ls (u :: v :: st) I r Q ↔ (v.category = 1 ∧ u.category = 1) ∧ mm_E 99 29 ls (u :: v :: u :: v :: st) I r Q := me_dup2 mc_99 dX6_addHouse_28
theorem e99_29 : mm_E 99 29 ls (.int x :: .ref a :: st) I r Q ↔ mm_ix r a 2 x ∧ mm_E 99 30 ls (.int (mm_rd I a x.toNatClampNeg) :: st) I r Q := me_ia mc_99 dX6_addHouse_29
theorem e99_30 : mm_E 99 30 ls st I r Q ↔ mm_E 99 31 ls (.int 1 :: st) I r Q := me_ic mc_99 dX6_addHouse_30 (by decide)
theorem e99_31 : mm_E 99 31 ls (.int y :: .int x :: st) I r Q ↔ mm_E 99 32 ls (.int (x + y) :: st) I r Q := me_iadd mc_99 dX6_addHouse_31
theorem e99_32 : mm_E 99 32 ls (.int y :: .int x :: .ref a :: st) I r Q ↔ mm_ix r a 2 x ∧ mm_E 99 33 ls st (mm_uI I a x.toNatClampNeg y) r Q := me_is mc_99 dX6_addHouse_32
theorem e99_33 : mm_E 99 33 [l0, l1, l2, some (.int x)] st I r Q ↔ mm_E 99 34 [l0, l1, l2, some (.int x)] (.int x :: st) I r Q := me_il mc_99 dX6_addHouse_33 rfl
theorem e99_34 : mm_E 99 34 ls [.int x] I r Q ↔ Q (some (.int x)) I r := me_ri mc_99 dX6_addHouse_34 rfl
theorem mc_100 : mm_c 100 = cX6_addHog := rfl
theorem e100_0 : mm_E 100 0 [some (.ref a), l1, l2, l3, l4] st I r Q ↔ mm_E 100 1 [some (.ref a), l1, l2, l3, l4] (.ref a :: st) I r Q := me_al mc_100 dX6_addHog_0 rfl
theorem e100_1 : mm_E 100 1 ls st I r Q ↔ mm_E 100 3 ls (.int 28 :: st) I r Q := me_bi mc_100 dX6_addHog_1 (by decide)
theorem e100_3 : mm_E 100 3 ls (.int x :: .ref a :: st) I r Q ↔ mm_ix r a 2 x ∧ mm_E 100 4 ls (.int (mm_rd I a x.toNatClampNeg) :: st) I r Q := me_ia mc_100 dX6_addHog_3
theorem e100_4 : mm_E 100 4 [l0, l1, l2, l3, l4] (.int x :: st) I r Q ↔ mm_c1 l3 ∧ mm_E 100 6 [l0, l1, l2, l3, some (.int x)] st I r Q := me_st (k := 4) (v := .int x) mc_100 dX6_addHog_4 rfl rfl (Nat.le_of_ble_eq_true rfl) rfl ⟨Or.inr, fun h => h.resolve_left (by decide)⟩
theorem e100_6 : mm_E 100 6 [some (.ref a), l1, l2, l3, l4] st I r Q ↔ mm_E 100 7 [some (.ref a), l1, l2, l3, l4] (.ref a :: st) I r Q := me_al mc_100 dX6_addHog_6 rfl
theorem e100_7 : mm_E 100 7 ls st I r Q ↔ mm_E 100 9 ls (.int 29 :: st) I r Q := me_bi mc_100 dX6_addHog_7 (by decide)
theorem e100_9 : mm_E 100 9 [l0, l1, l2, l3, some (.int x)] st I r Q ↔ mm_E 100 11 [l0, l1, l2, l3, some (.int x)] (.int x :: st) I r Q := me_il2 mc_100 dX6_addHog_9 rfl
theorem e100_11 : mm_E 100 11 ls (.int y :: .int x :: st) I r Q ↔ mm_E 100 12 ls (.int (x + y) :: st) I r Q := me_iadd mc_100 dX6_addHog_11
theorem e100_12 : mm_E 100 12 [l0, some (.int x), l2, l3, l4] st I r Q ↔ mm_E 100 13 [l0, some (.int x), l2, l3, l4] (.int x :: st) I r Q := me_il mc_100 dX6_addHog_12 rfl
theorem e100_13 : mm_E 100 13 ls (.int y :: .int x :: .ref a :: st) I r Q ↔ mm_ix r a 2 x ∧ mm_E 100 14 ls st (mm_uI I a x.toNatClampNeg y) r Q := me_is mc_100 dX6_addHog_13
theorem e100_14 : mm_E 100 14 [some (.ref a), l1, l2, l3, l4] st I r Q ↔ mm_E 100 15 [some (.ref a), l1, l2, l3, l4] (.ref a :: st) I r Q := me_al mc_100 dX6_addHog_14 rfl
theorem e100_15 : mm_E 100 15 ls st I r Q ↔ mm_E 100 17 ls (.int 34 :: st) I r Q := me_bi mc_100 dX6_addHog_15 (by decide)
theorem e100_17 : mm_E 100 17 [l0, l1, l2, l3, some (.int x)] st I r Q ↔ mm_E 100 19 [l0, l1, l2, l3, some (.int x)] (.int x :: st) I r Q := me_il2 mc_100 dX6_addHog_17 rfl
theorem e100_19 : mm_E 100 19 ls (.int y :: .int x :: st) I r Q ↔ mm_E 100 20 ls (.int (x + y) :: st) I r Q := me_iadd mc_100 dX6_addHog_19
theorem e100_20 : mm_E 100 20 [l0, l1, some (.int x), l3, l4] st I r Q ↔ mm_E 100 21 [l0, l1, some (.int x), l3, l4] (.int x :: st) I r Q := me_il mc_100 dX6_addHog_20 rfl
theorem e100_21 : mm_E 100 21 ls (.int y :: .int x :: .ref a :: st) I r Q ↔ mm_ix r a 2 x ∧ mm_E 100 22 ls st (mm_uI I a x.toNatClampNeg y) r Q := me_is mc_100 dX6_addHog_21
theorem e100_22 : mm_E 100 22 [some (.ref a), l1, l2, l3, l4] st I r Q ↔ mm_E 100 23 [some (.ref a), l1, l2, l3, l4] (.ref a :: st) I r Q := me_al mc_100 dX6_addHog_22 rfl
theorem e100_23 : mm_E 100 23 ls st I r Q ↔ mm_E 100 25 ls (.int 21 :: st) I r Q := me_bi mc_100 dX6_addHog_23 (by decide)
theorem e100_25 : mm_E 100 25 [l0, l1, l2, l3, some (.int x)] st I r Q ↔ mm_E 100 27 [l0, l1, l2, l3, some (.int x)] (.int x :: st) I r Q := me_il2 mc_100 dX6_addHog_25 rfl
theorem e100_27 : mm_E 100 27 ls (.int y :: .int x :: st) I r Q ↔ mm_E 100 28 ls (.int (x + y) :: st) I r Q := me_iadd mc_100 dX6_addHog_27
theorem e100_28 : mm_E 100 28 [l0, l1, l2, some (.int x), l4] st I r Q ↔ mm_E 100 29 [l0, l1, l2, some (.int x), l4] (.int x :: st) I r Q := me_il mc_100 dX6_addHog_28 rfl
theorem e100_29 : mm_E 100 29 ls (.int y :: .int x :: .ref a :: st) I r Q ↔ mm_ix r a 2 x ∧ mm_E 100 30 ls st (mm_uI I a x.toNatClampNeg y) r Q := me_is mc_100 dX6_addHog_29
theorem e100_30 : mm_E 100 30 [some (.ref a), l1, l2, l3, l4] st I r Q ↔ mm_E 100 31 [some (.ref a), l1, l2, l3, l4] (.ref a :: st) I r Q := me_al mc_100 dX6_addHog_30 rfl
theorem e100_31 : mm_E 100 31 ls st I r Q ↔ mm_E 100 33 ls (.int 28 :: st) I r Q := me_bi mc_100 dX6_addHog_31 (by decide)
theorem e100_33 : mm_E 100 33 ls (u :: v :: st) I r Q ↔ (v.category = 1 ∧ u.category = 1) ∧ mm_E 100 34 ls (u :: v :: u :: v :: st) I r Q := me_dup2 mc_100 dX6_addHog_33
theorem e100_34 : mm_E 100 34 ls (.int x :: .ref a :: st) I r Q ↔ mm_ix r a 2 x ∧ mm_E 100 35 ls (.int (mm_rd I a x.toNatClampNeg) :: st) I r Q := me_ia mc_100 dX6_addHog_34
theorem e100_35 : mm_E 100 35 ls st I r Q ↔ mm_E 100 36 ls (.int 1 :: st) I r Q := me_ic mc_100 dX6_addHog_35 (by decide)
theorem e100_36 : mm_E 100 36 ls (.int y :: .int x :: st) I r Q ↔ mm_E 100 37 ls (.int (x + y) :: st) I r Q := me_iadd mc_100 dX6_addHog_36
theorem e100_37 : mm_E 100 37 ls (.int y :: .int x :: .ref a :: st) I r Q ↔ mm_ix r a 2 x ∧ mm_E 100 38 ls st (mm_uI I a x.toNatClampNeg y) r Q := me_is mc_100 dX6_addHog_37
theorem e100_38 : mm_E 100 38 [l0, l1, l2, l3, some (.int x)] st I r Q ↔ mm_E 100 40 [l0, l1, l2, l3, some (.int x)] (.int x :: st) I r Q := me_il2 mc_100 dX6_addHog_38 rfl
theorem e100_40 : mm_E 100 40 ls [.int x] I r Q ↔ Q (some (.int x)) I r := me_ri mc_100 dX6_addHog_40 rfl
theorem mc_101 : mm_c 101 = cX6_house := rfl
theorem e101_0 : mm_E 101 0 [l0, some (.int x), l2] st I r Q ↔ mm_E 101 1 [l0, some (.int x), l2] (.int x :: st) I r Q := me_il mc_101 dX6_house_0 rfl
theorem e101_1 : mm_E 101 1 ls st I r Q ↔ mm_E 101 2 ls (.int 0 :: st) I r Q := me_ic mc_101 dX6_house_1 (by decide)
theorem e101_2 : mm_E 101 2 ls st I r Q ↔ mm_E 101 5 ls (.int 9999 :: st) I r Q := me_si mc_101 dX6_house_2 (by decide)
theorem e101_5 : ∀ (x0 : Int32) (x1 : Int32) (x2 : Int32), (mm_E 101 5 ls (.int x2 :: .int x1 :: .int x0 :: st) I r Q ↔ mm_w8 st = true ∧ mm_E 93 0 [some (.int x0), some (.int x1), some (.int x2)] [] I r (fun v I2 r2 => mm_E 101 8 ls (mm_pu v st) I2 r2 Q)) := fun x0 x1 x2 => me_sc (n := 3) (As := [.int x0, .int x1, .int x2]) (xs := [.int x2, .int x1, .int x0]) mc_101 dX6_house_5 (by decide +kernel) (by decide +kernel) rfl rfl (Nat.le_of_ble_eq_true rfl) rfl
theorem e101_8 : mm_E 101 8 ls (.int x :: st) I r Q ↔ if x = 0 then mm_E 101 21 ls st I r Q else mm_E 101 11 ls st I r Q := me_zeq mc_101 dX6_house_8 (by decide)
theorem e101_11 : mm_E 101 11 [l0, l1, some (.int x)] st I r Q ↔ mm_E 101 12 [l0, l1, some (.int x)] (.int x :: st) I r Q := me_il mc_101 dX6_house_11 rfl
theorem e101_12 : mm_E 101 12 ls st I r Q ↔ mm_E 101 13 ls (.int 0 :: st) I r Q := me_ic mc_101 dX6_house_12 (by decide)
theorem e101_13 : mm_E 101 13 ls st I r Q ↔ mm_E 101 15 ls (.int 20 :: st) I r Q := me_bi mc_101 dX6_house_13 (by decide)
theorem e101_15 : ∀ (x0 : Int32) (x1 : Int32) (x2 : Int32), (mm_E 101 15 ls (.int x2 :: .int x1 :: .int x0 :: st) I r Q ↔ mm_w8 st = true ∧ mm_E 93 0 [some (.int x0), some (.int x1), some (.int x2)] [] I r (fun v I2 r2 => mm_E 101 18 ls (mm_pu v st) I2 r2 Q)) := fun x0 x1 x2 => me_sc (n := 3) (As := [.int x0, .int x1, .int x2]) (xs := [.int x2, .int x1, .int x0]) mc_101 dX6_house_15 (by decide +kernel) (by decide +kernel) rfl rfl (Nat.le_of_ble_eq_true rfl) rfl
theorem e101_18 : mm_E 101 18 ls (.int x :: st) I r Q ↔ if ¬ x = 0 then mm_E 101 23 ls st I r Q else mm_E 101 21 ls st I r Q := me_zne mc_101 dX6_house_18 (by decide)
theorem e101_21 : mm_E 101 21 ls st I r Q ↔ mm_E 101 22 ls (.int (-1) :: st) I r Q := me_ic mc_101 dX6_house_21 (by decide)
theorem e101_22 : mm_E 101 22 ls [.int x] I r Q ↔ Q (some (.int x)) I r := me_ri mc_101 dX6_house_22 rfl
theorem e101_23 : mm_E 101 23 [some (.ref a), l1, l2] st I r Q ↔ mm_E 101 24 [some (.ref a), l1, l2] (.ref a :: st) I r Q := me_al mc_101 dX6_house_23 rfl
theorem e101_24 : mm_E 101 24 ls (.ref a :: st) I r Q ↔ mm_S r a = (1, 6) ∧ mm_E 101 27 ls (va_rf (mm_P r a 7) :: st) I r Q := me_gr mc_101 dX6_house_24 (by decide +kernel) rfl
theorem e101_27 : mm_E 101 27 ls st I r Q ↔ mm_E 101 29 ls (.int 27 :: st) I r Q := me_bi mc_101 dX6_house_27 (by decide)
theorem e101_29 : mm_E 101 29 ls (.int x :: .ref a :: st) I r Q ↔ mm_ix r a 2 x ∧ mm_E 101 30 ls (.int (mm_rd I a x.toNatClampNeg) :: st) I r Q := me_ia mc_101 dX6_house_29
theorem e101_30 : mm_E 101 30 ls st I r Q ↔ mm_E 101 32 ls (.int 6 :: st) I r Q := me_bi mc_101 dX6_house_30 (by decide)
theorem e101_32 : mm_E 101 32 ls (.int y :: .int x :: st) I r Q ↔ if ¬ x = y then mm_E 101 38 ls st I r Q else mm_E 101 35 ls st I r Q := me_cne mc_101 dX6_house_32 (by decide)
theorem e101_35 : mm_E 101 35 ls st I r Q ↔ mm_E 101 37 ls (.int (-3) :: st) I r Q := me_bi mc_101 dX6_house_35 (by decide)
theorem e101_37 : mm_E 101 37 ls [.int x] I r Q ↔ Q (some (.int x)) I r := me_ri mc_101 dX6_house_37 rfl
theorem e101_38 : mm_E 101 38 [some (.ref a), l1, l2] st I r Q ↔ mm_E 101 39 [some (.ref a), l1, l2] (.ref a :: st) I r Q := me_al mc_101 dX6_house_38 rfl
theorem e101_39 : mm_E 101 39 ls (.ref a :: st) I r Q ↔ mm_S r a = (1, 6) ∧ mm_E 101 42 ls (va_rf (mm_P r a 7) :: st) I r Q := me_gr mc_101 dX6_house_39 (by decide +kernel) rfl
theorem e101_42 : mm_E 101 42 ls st I r Q ↔ mm_E 101 44 ls (.int 39 :: st) I r Q := me_bi mc_101 dX6_house_42 (by decide)
theorem e101_44 : mm_E 101 44 ls st I r Q ↔ mm_E 101 45 ls (.int 0 :: st) I r Q := me_ic mc_101 dX6_house_44 (by decide)
theorem e101_45 : mm_E 101 45 ls (.int y :: .int x :: .ref a :: st) I r Q ↔ mm_ix r a 2 x ∧ mm_E 101 46 ls st (mm_uI I a x.toNatClampNeg y) r Q := me_is mc_101 dX6_house_45
theorem e101_46 : mm_E 101 46 [some (.ref a), l1, l2] st I r Q ↔ mm_E 101 47 [some (.ref a), l1, l2] (.ref a :: st) I r Q := me_al mc_101 dX6_house_46 rfl
theorem e101_47 : mm_E 101 47 ls (.ref a :: st) I r Q ↔ mm_S r a = (1, 6) ∧ mm_E 101 50 ls (va_rf (mm_P r a 7) :: st) I r Q := me_gr mc_101 dX6_house_47 (by decide +kernel) rfl
theorem e101_50 : mm_E 101 50 [l0, some (.int x), l2] st I r Q ↔ mm_E 101 51 [l0, some (.int x), l2] (.int x :: st) I r Q := me_il mc_101 dX6_house_50 rfl
theorem e101_51 : mm_E 101 51 [l0, l1, some (.int x)] st I r Q ↔ mm_E 101 52 [l0, l1, some (.int x)] (.int x :: st) I r Q := me_il mc_101 dX6_house_51 rfl
theorem e101_52 : ∀ (x0 : Nat) (x1 : Int32) (x2 : Int32), (mm_E 101 52 ls (.int x2 :: .int x1 :: .ref x0 :: st) I r Q ↔ mm_w8 st = true ∧ mm_E 99 0 [some (.ref x0), some (.int x1), some (.int x2), none] [] I r (fun v I2 r2 => mm_E 101 55 ls (mm_pu v st) I2 r2 Q)) := fun x0 x1 x2 => me_sc (n := 3) (As := [.ref x0, .int x1, .int x2]) (xs := [.int x2, .int x1, .ref x0]) mc_101 dX6_house_52 (by decide +kernel) (by decide +kernel) rfl rfl (Nat.le_of_ble_eq_true rfl) rfl
theorem e101_55 : mm_E 101 55 ls [.int x] I r Q ↔ Q (some (.int x)) I r := me_ri mc_101 dX6_house_55 rfl
theorem mc_102 : mm_c 102 = cX6_hog := rfl
theorem e102_0 : mm_E 102 0 [l0, some (.int x), l2, l3] st I r Q ↔ mm_E 102 1 [l0, some (.int x), l2, l3] (.int x :: st) I r Q := me_il mc_102 dX6_hog_0 rfl
theorem e102_1 : mm_E 102 1 ls st I r Q ↔ mm_E 102 2 ls (.int 0 :: st) I r Q := me_ic mc_102 dX6_hog_1 (by decide)
theorem e102_2 : mm_E 102 2 ls st I r Q ↔ mm_E 102 3 ls (.int 4 :: st) I r Q := me_ic mc_102 dX6_hog_2 (by decide)
theorem e102_3 : ∀ (x0 : Int32) (x1 : Int32) (x2 : Int32), (mm_E 102 3 ls (.int x2 :: .int x1 :: .int x0 :: st) I r Q ↔ mm_w8 st = true ∧ mm_E 93 0 [some (.int x0), some (.int x1), some (.int x2)] [] I r (fun v I2 r2 => mm_E 102 6 ls (mm_pu v st) I2 r2 Q)) := fun x0 x1 x2 => me_sc (n := 3) (As := [.int x0, .int x1, .int x2]) (xs := [.int x2, .int x1, .int x0]) mc_102 dX6_hog_3 (by decide +kernel) (by decide +kernel) rfl rfl (Nat.le_of_ble_eq_true rfl) rfl
theorem e102_6 : mm_E 102 6 ls (.int x :: st) I r Q ↔ if x = 0 then mm_E 102 27 ls st I r Q else mm_E 102 9 ls st I r Q := me_zeq mc_102 dX6_hog_6 (by decide)
theorem e102_9 : mm_E 102 9 [l0, l1, some (.int x), l3] st I r Q ↔ mm_E 102 10 [l0, l1, some (.int x), l3] (.int x :: st) I r Q := me_il mc_102 dX6_hog_9 rfl
theorem e102_10 : mm_E 102 10 ls st I r Q ↔ mm_E 102 11 ls (.int 1 :: st) I r Q := me_ic mc_102 dX6_hog_10 (by decide)
theorem e102_11 : mm_E 102 11 ls st I r Q ↔ mm_E 102 13 ls (.int 9 :: st) I r Q := me_bi mc_102 dX6_hog_11 (by decide)
theorem e102_13 : ∀ (x0 : Int32) (x1 : Int32) (x2 : Int32), (mm_E 102 13 ls (.int x2 :: .int x1 :: .int x0 :: st) I r Q ↔ mm_w8 st = true ∧ mm_E 93 0 [some (.int x0), some (.int x1), some (.int x2)] [] I r (fun v I2 r2 => mm_E 102 16 ls (mm_pu v st) I2 r2 Q)) := fun x0 x1 x2 => me_sc (n := 3) (As := [.int x0, .int x1, .int x2]) (xs := [.int x2, .int x1, .int x0]) mc_102 dX6_hog_13 (by decide +kernel) (by decide +kernel) rfl rfl (Nat.le_of_ble_eq_true rfl) rfl
theorem e102_16 : mm_E 102 16 ls (.int x :: st) I r Q ↔ if x = 0 then mm_E 102 27 ls st I r Q else mm_E 102 19 ls st I r Q := me_zeq mc_102 dX6_hog_16 (by decide)
theorem e102_19 : mm_E 102 19 [some (.ref a), l1, l2, l3] st I r Q ↔ mm_E 102 20 [some (.ref a), l1, l2, l3] (.ref a :: st) I r Q := me_al mc_102 dX6_hog_19 rfl
theorem e102_20 : mm_E 102 20 [l0, l1, l2, some (.int x)] st I r Q ↔ mm_E 102 21 [l0, l1, l2, some (.int x)] (.int x :: st) I r Q := me_il mc_102 dX6_hog_20 rfl
theorem e102_21 : ∀ (x0 : Int32), (mm_E 102 21 ls (.int x0 :: .ref a :: st) I r Q ↔ (mm_w8 st = true ∧ mm_S r a = (1, 6)) ∧ mm_E 97 0 [some (.ref a), some (.int x0)] [] I r (fun v I2 r2 => mm_E 102 24 ls (mm_pu v st) I2 r2 Q)) := fun x0 => me_vc (n := 1) (As := [.int x0]) (xs := [.int x0]) (a := a) mc_102 dX6_hog_21 (by decide +kernel) (by decide +kernel) rfl rfl (Nat.le_of_ble_eq_true rfl) rfl
theorem e102_24 : mm_E 102 24 ls (.int x :: st) I r Q ↔ if ¬ x = 0 then mm_E 102 29 ls st I r Q else mm_E 102 27 ls st I r Q := me_zne mc_102 dX6_hog_24 (by decide)
theorem e102_27 : mm_E 102 27 ls st I r Q ↔ mm_E 102 28 ls (.int (-1) :: st) I r Q := me_ic mc_102 dX6_hog_27 (by decide)
theorem e102_28 : mm_E 102 28 ls [.int x] I r Q ↔ Q (some (.int x)) I r := me_ri mc_102 dX6_hog_28 rfl
theorem e102_29 : mm_E 102 29 [some (.ref a), l1, l2, l3] st I r Q ↔ mm_E 102 30 [some (.ref a), l1, l2, l3] (.ref a :: st) I r Q := me_al mc_102 dX6_hog_29 rfl
theorem e102_30 : mm_E 102 30 ls (.ref a :: st) I r Q ↔ mm_S r a = (1, 6) ∧ mm_E 102 33 ls (va_rf (mm_P r a 7) :: st) I r Q := me_gr mc_102 dX6_hog_30 (by decide +kernel) rfl
theorem e102_33 : mm_E 102 33 ls st I r Q ↔ mm_E 102 35 ls (.int 28 :: st) I r Q := me_bi mc_102 dX6_hog_33 (by decide)
theorem e102_35 : mm_E 102 35 ls (.int x :: .ref a :: st) I r Q ↔ mm_ix r a 2 x ∧ mm_E 102 36 ls (.int (mm_rd I a x.toNatClampNeg) :: st) I r Q := me_ia mc_102 dX6_hog_35
theorem e102_36 : mm_E 102 36 ls st I r Q ↔ mm_E 102 37 ls (.int 5 :: st) I r Q := me_ic mc_102 dX6_hog_36 (by decide)
theorem e102_37 : mm_E 102 37 ls (.int y :: .int x :: st) I r Q ↔ if ¬ x = y then mm_E 102 43 ls st I r Q else mm_E 102 40 ls st I r Q := me_cne mc_102 dX6_hog_37 (by decide)
theorem e102_40 : mm_E 102 40 ls st I r Q ↔ mm_E 102 42 ls (.int (-3) :: st) I r Q := me_bi mc_102 dX6_hog_40 (by decide)
theorem e102_42 : mm_E 102 42 ls [.int x] I r Q ↔ Q (some (.int x)) I r := me_ri mc_102 dX6_hog_42 rfl
theorem e102_43 : mm_E 102 43 [some (.ref a), l1, l2, l3] st I r Q ↔ mm_E 102 44 [some (.ref a), l1, l2, l3] (.ref a :: st) I r Q := me_al mc_102 dX6_hog_43 rfl
theorem e102_44 : mm_E 102 44 ls (.ref a :: st) I r Q ↔ mm_S r a = (1, 6) ∧ mm_E 102 47 ls (va_rf (mm_P r a 7) :: st) I r Q := me_gr mc_102 dX6_hog_44 (by decide +kernel) rfl
theorem e102_47 : mm_E 102 47 ls st I r Q ↔ mm_E 102 49 ls (.int 39 :: st) I r Q := me_bi mc_102 dX6_hog_47 (by decide)
theorem e102_49 : mm_E 102 49 ls st I r Q ↔ mm_E 102 50 ls (.int 0 :: st) I r Q := me_ic mc_102 dX6_hog_49 (by decide)
theorem e102_50 : mm_E 102 50 ls (.int y :: .int x :: .ref a :: st) I r Q ↔ mm_ix r a 2 x ∧ mm_E 102 51 ls st (mm_uI I a x.toNatClampNeg y) r Q := me_is mc_102 dX6_hog_50
theorem e102_51 : mm_E 102 51 [some (.ref a), l1, l2, l3] st I r Q ↔ mm_E 102 52 [some (.ref a), l1, l2, l3] (.ref a :: st) I r Q := me_al mc_102 dX6_hog_51 rfl
theorem e102_52 : mm_E 102 52 ls (.ref a :: st) I r Q ↔ mm_S r a = (1, 6) ∧ mm_E 102 55 ls (va_rf (mm_P r a 7) :: st) I r Q := me_gr mc_102 dX6_hog_52 (by decide +kernel) rfl
theorem e102_55 : mm_E 102 55 [l0, some (.int x), l2, l3] st I r Q ↔ mm_E 102 56 [l0, some (.int x), l2, l3] (.int x :: st) I r Q := me_il mc_102 dX6_hog_55 rfl
theorem e102_56 : mm_E 102 56 [l0, l1, some (.int x), l3] st I r Q ↔ mm_E 102 57 [l0, l1, some (.int x), l3] (.int x :: st) I r Q := me_il mc_102 dX6_hog_56 rfl
theorem e102_57 : mm_E 102 57 [l0, l1, l2, some (.int x)] st I r Q ↔ mm_E 102 58 [l0, l1, l2, some (.int x)] (.int x :: st) I r Q := me_il mc_102 dX6_hog_57 rfl
theorem e102_58 : ∀ (x0 : Nat) (x1 : Int32) (x2 : Int32) (x3 : Int32), (mm_E 102 58 ls (.int x3 :: .int x2 :: .int x1 :: .ref x0 :: st) I r Q ↔ mm_w8 st = true ∧ mm_E 100 0 [some (.ref x0), some (.int x1), some (.int x2), some (.int x3), none] [] I r (fun v I2 r2 => mm_E 102 61 ls (mm_pu v st) I2 r2 Q)) := fun x0 x1 x2 x3 => me_sc (n := 4) (As := [.ref x0, .int x1, .int x2, .int x3]) (xs := [.int x3, .int x2, .int x1, .ref x0]) mc_102 dX6_hog_58 (by decide +kernel) (by decide +kernel) rfl rfl (Nat.le_of_ble_eq_true rfl) rfl
theorem e102_61 : mm_E 102 61 ls [.int x] I r Q ↔ Q (some (.int x)) I r := me_ri mc_102 dX6_hog_61 rfl
theorem mc_103 : mm_c 103 = cX6_interest := rfl
theorem e103_0 : mm_E 103 0 [l0, some (.int x), l2] st I r Q ↔ mm_E 103 1 [l0, some (.int x), l2] (.int x :: st) I r Q := me_il mc_103 dX6_interest_0 rfl
theorem e103_1 : mm_E 103 1 ls st I r Q ↔ mm_E 103 2 ls (.int 0 :: st) I r Q := me_ic mc_103 dX6_interest_1 (by decide)
theorem e103_2 : mm_E 103 2 ls st I r Q ↔ mm_E 103 4 ls (.int 20 :: st) I r Q := me_bi mc_103 dX6_interest_2 (by decide)
theorem e103_4 : ∀ (x0 : Int32) (x1 : Int32) (x2 : Int32), (mm_E 103 4 ls (.int x2 :: .int x1 :: .int x0 :: st) I r Q ↔ mm_w8 st = true ∧ mm_E 93 0 [some (.int x0), some (.int x1), some (.int x2)] [] I r (fun v I2 r2 => mm_E 103 7 ls (mm_pu v st) I2 r2 Q)) := fun x0 x1 x2 => me_sc (n := 3) (As := [.int x0, .int x1, .int x2]) (xs := [.int x2, .int x1, .int x0]) mc_103 dX6_interest_4 (by decide +kernel) (by decide +kernel) rfl rfl (Nat.le_of_ble_eq_true rfl) rfl
theorem e103_7 : mm_E 103 7 ls (.int x :: st) I r Q ↔ if ¬ x = 0 then mm_E 103 12 ls st I r Q else mm_E 103 10 ls st I r Q := me_zne mc_103 dX6_interest_7 (by decide)
theorem e103_10 : mm_E 103 10 ls st I r Q ↔ mm_E 103 11 ls (.int (-1) :: st) I r Q := me_ic mc_103 dX6_interest_10 (by decide)
theorem e103_11 : mm_E 103 11 ls [.int x] I r Q ↔ Q (some (.int x)) I r := me_ri mc_103 dX6_interest_11 rfl
theorem e103_12 : mm_E 103 12 [some (.ref a), l1, l2] st I r Q ↔ mm_E 103 13 [some (.ref a), l1, l2] (.ref a :: st) I r Q := me_al mc_103 dX6_interest_12 rfl
theorem e103_13 : mm_E 103 13 ls (.ref a :: st) I r Q ↔ mm_S r a = (1, 6) ∧ mm_E 103 16 ls (va_rf (mm_P r a 7) :: st) I r Q := me_gr mc_103 dX6_interest_13 (by decide +kernel) rfl
theorem e103_16 : mm_E 103 16 ls st I r Q ↔ mm_E 103 18 ls (.int 26 :: st) I r Q := me_bi mc_103 dX6_interest_16 (by decide)
theorem e103_18 : mm_E 103 18 ls (.int x :: .ref a :: st) I r Q ↔ mm_ix r a 2 x ∧ mm_E 103 19 ls (.int (mm_rd I a x.toNatClampNeg) :: st) I r Q := me_ia mc_103 dX6_interest_18
theorem e103_19 : mm_E 103 19 [l0, l1, l2] (.int x :: st) I r Q ↔ mm_c1 l1 ∧ mm_E 103 20 [l0, l1, some (.int x)] st I r Q := me_st (k := 2) (v := .int x) mc_103 dX6_interest_19 rfl rfl (Nat.le_of_ble_eq_true rfl) rfl ⟨Or.inr, fun h => h.resolve_left (by decide)⟩
theorem e103_20 : mm_E 103 20 [some (.ref a), l1, l2] st I r Q ↔ mm_E 103 21 [some (.ref a), l1, l2] (.ref a :: st) I r Q := me_al mc_103 dX6_interest_20 rfl
theorem e103_21 : mm_E 103 21 ls (.ref a :: st) I r Q ↔ mm_S r a = (1, 6) ∧ mm_E 103 24 ls (va_rf (mm_P r a 7) :: st) I r Q := me_gr mc_103 dX6_interest_21 (by decide +kernel) rfl
theorem e103_24 : mm_E 103 24 ls st I r Q ↔ mm_E 103 26 ls (.int 26 :: st) I r Q := me_bi mc_103 dX6_interest_24 (by decide)
theorem e103_26 : mm_E 103 26 [l0, some (.int x), l2] st I r Q ↔ mm_E 103 27 [l0, some (.int x), l2] (.int x :: st) I r Q := me_il mc_103 dX6_interest_26 rfl
theorem e103_27 : mm_E 103 27 ls (.int y :: .int x :: .ref a :: st) I r Q ↔ mm_ix r a 2 x ∧ mm_E 103 28 ls st (mm_uI I a x.toNatClampNeg y) r Q := me_is mc_103 dX6_interest_27
theorem e103_28 : mm_E 103 28 [l0, l1, some (.int x)] st I r Q ↔ mm_E 103 29 [l0, l1, some (.int x)] (.int x :: st) I r Q := me_il mc_103 dX6_interest_28 rfl
theorem e103_29 : mm_E 103 29 ls [.int x] I r Q ↔ Q (some (.int x)) I r := me_ri mc_103 dX6_interest_29 rfl
theorem mc_104 : mm_c 104 = cX6_hogsAt := rfl
theorem e104_0 : mm_E 104 0 ls st I r Q ↔ mm_E 104 1 ls (.int 0 :: st) I r Q := me_ic mc_104 dX6_hogsAt_0 (by decide)
theorem e104_1 : mm_E 104 1 [l0, l1, l2, l3] (.int x :: st) I r Q ↔ mm_c1 l1 ∧ mm_E 104 2 [l0, l1, some (.int x), l3] st I r Q := me_st (k := 2) (v := .int x) mc_104 dX6_hogsAt_1 rfl rfl (Nat.le_of_ble_eq_true rfl) rfl ⟨Or.inr, fun h => h.resolve_left (by decide)⟩
theorem e104_2 : mm_E 104 2 ls st I r Q ↔ mm_E 104 3 ls (.int 0 :: st) I r Q := me_ic mc_104 dX6_hogsAt_2 (by decide)
theorem e104_3 : mm_E 104 3 [l0, l1, l2, l3] (.int x :: st) I r Q ↔ mm_c1 l2 ∧ mm_E 104 4 [l0, l1, l2, some (.int x)] st I r Q := me_st (k := 3) (v := .int x) mc_104 dX6_hogsAt_3 rfl rfl (Nat.le_of_ble_eq_true rfl) rfl ⟨Or.inr, fun h => h.resolve_left (by decide)⟩
theorem e104_4 : mm_E 104 4 [l0, l1, l2, some (.int x)] st I r Q ↔ mm_E 104 5 [l0, l1, l2, some (.int x)] (.int x :: st) I r Q := me_il mc_104 dX6_hogsAt_4 rfl
theorem e104_5 : mm_E 104 5 [some (.ref a), l1, l2, l3] st I r Q ↔ mm_E 104 6 [some (.ref a), l1, l2, l3] (.ref a :: st) I r Q := me_al mc_104 dX6_hogsAt_5 rfl
theorem e104_6 : mm_E 104 6 ls st I r Q ↔ mm_E 104 8 ls (.int 28 :: st) I r Q := me_bi mc_104 dX6_hogsAt_6 (by decide)
theorem e104_8 : mm_E 104 8 ls (.int x :: .ref a :: st) I r Q ↔ mm_ix r a 2 x ∧ mm_E 104 9 ls (.int (mm_rd I a x.toNatClampNeg) :: st) I r Q := me_ia mc_104 dX6_hogsAt_8
theorem e104_9 : mm_E 104 9 ls (.int y :: .int x :: st) I r Q ↔ if y ≤ x then mm_E 104 38 ls st I r Q else mm_E 104 12 ls st I r Q := me_cge mc_104 dX6_hogsAt_9 (by decide)
theorem e104_12 : mm_E 104 12 [l0, l1, some (.int x), l3] st I r Q ↔ mm_E 104 13 [l0, l1, some (.int x), l3] (.int x :: st) I r Q := me_il mc_104 dX6_hogsAt_12 rfl
theorem e104_13 : mm_E 104 13 [some (.ref a), l1, l2, l3] st I r Q ↔ mm_E 104 14 [some (.ref a), l1, l2, l3] (.ref a :: st) I r Q := me_al mc_104 dX6_hogsAt_13 rfl
theorem e104_14 : mm_E 104 14 ls st I r Q ↔ mm_E 104 16 ls (.int 21 :: st) I r Q := me_bi mc_104 dX6_hogsAt_14 (by decide)
theorem e104_16 : mm_E 104 16 [l0, l1, l2, some (.int x)] st I r Q ↔ mm_E 104 17 [l0, l1, l2, some (.int x)] (.int x :: st) I r Q := me_il mc_104 dX6_hogsAt_16 rfl
theorem e104_17 : mm_E 104 17 ls (.int y :: .int x :: st) I r Q ↔ mm_E 104 18 ls (.int (x + y) :: st) I r Q := me_iadd mc_104 dX6_hogsAt_17
theorem e104_18 : mm_E 104 18 ls (.int x :: .ref a :: st) I r Q ↔ mm_ix r a 2 x ∧ mm_E 104 19 ls (.int (mm_rd I a x.toNatClampNeg) :: st) I r Q := me_ia mc_104 dX6_hogsAt_18
theorem e104_19 : mm_E 104 19 [l0, some (.int x), l2, l3] st I r Q ↔ mm_E 104 20 [l0, some (.int x), l2, l3] (.int x :: st) I r Q := me_il mc_104 dX6_hogsAt_19 rfl
theorem e104_20 : mm_E 104 20 ls (.int y :: .int x :: st) I r Q ↔ if ¬ x = y then mm_E 104 29 ls st I r Q else mm_E 104 23 ls st I r Q := me_cne mc_104 dX6_hogsAt_20 (by decide)
theorem e104_23 : mm_E 104 23 ls st I r Q ↔ mm_E 104 24 ls (.int 1 :: st) I r Q := me_ic mc_104 dX6_hogsAt_23 (by decide)
theorem e104_24 : mm_E 104 24 [l0, l1, l2, some (.int x)] st I r Q ↔ mm_E 104 25 [l0, l1, l2, some (.int x)] (.int x :: st) I r Q := me_il mc_104 dX6_hogsAt_24 rfl
theorem e104_25 : mm_E 104 25 ls (.int y :: .int x :: st) I r Q ↔ mm_E 104 26 ls (.int (x <<< (y &&& 31)) :: st) I r Q := me_ishl mc_104 dX6_hogsAt_25
theorem e104_26 : mm_E 104 26 ls st I r Q ↔ mm_E 104 30 ls st I r Q := me_goto mc_104 dX6_hogsAt_26 (by decide)
theorem e104_29 : mm_E 104 29 ls st I r Q ↔ mm_E 104 30 ls (.int 0 :: st) I r Q := me_ic mc_104 dX6_hogsAt_29 (by decide)
theorem e104_30 : mm_E 104 30 ls (.int y :: .int x :: st) I r Q ↔ mm_E 104 31 ls (.int (x ||| y) :: st) I r Q := me_ior mc_104 dX6_hogsAt_30
theorem e104_31 : mm_E 104 31 [l0, l1, l2, l3] (.int x :: st) I r Q ↔ mm_c1 l1 ∧ mm_E 104 32 [l0, l1, some (.int x), l3] st I r Q := me_st (k := 2) (v := .int x) mc_104 dX6_hogsAt_31 rfl rfl (Nat.le_of_ble_eq_true rfl) rfl ⟨Or.inr, fun h => h.resolve_left (by decide)⟩
theorem e104_32 : mm_E 104 32 [l0, l1, l2, some (.int x)] st I r Q ↔ mm_c1 l2 ∧ mm_E 104 35 [l0, l1, l2, some (.int (x + 1))] st I r Q := me_st (k := 3) (v := .int (x + 1)) mc_104 dX6_hogsAt_32 rfl rfl (Nat.le_of_ble_eq_true rfl) rfl ⟨Or.inr, fun h => h.resolve_left (by decide)⟩
theorem e104_35 : mm_E 104 35 ls st I r Q ↔ mm_E 104 4 ls st I r Q := me_goto mc_104 dX6_hogsAt_35 (by decide)
theorem e104_38 : mm_E 104 38 [l0, l1, some (.int x), l3] st I r Q ↔ mm_E 104 39 [l0, l1, some (.int x), l3] (.int x :: st) I r Q := me_il mc_104 dX6_hogsAt_38 rfl
theorem e104_39 : mm_E 104 39 ls [.int x] I r Q ↔ Q (some (.int x)) I r := me_ri mc_104 dX6_hogsAt_39 rfl
theorem mc_105 : mm_c 105 = cX6_isLost := rfl
theorem e105_0 : mm_E 105 0 [some (.ref a), l1] st I r Q ↔ mm_E 105 1 [some (.ref a), l1] (.ref a :: st) I r Q := me_al mc_105 dX6_isLost_0 rfl
theorem e105_1 : mm_E 105 1 ls st I r Q ↔ mm_E 105 3 ls (.int 15 :: st) I r Q := me_bi mc_105 dX6_isLost_1 (by decide)
theorem e105_3 : mm_E 105 3 [l0, some (.int x)] st I r Q ↔ mm_E 105 4 [l0, some (.int x)] (.int x :: st) I r Q := me_il mc_105 dX6_isLost_3 rfl
theorem e105_4 : mm_E 105 4 ls (.int y :: .int x :: st) I r Q ↔ mm_E 105 5 ls (.int (x + y) :: st) I r Q := me_iadd mc_105 dX6_isLost_4
theorem e105_5 : mm_E 105 5 ls (.int x :: .ref a :: st) I r Q ↔ mm_ix r a 2 x ∧ mm_E 105 6 ls (.int (mm_rd I a x.toNatClampNeg) :: st) I r Q := me_ia mc_105 dX6_isLost_5
theorem e105_6 : mm_E 105 6 ls st I r Q ↔ mm_E 105 7 ls (.int 3 :: st) I r Q := me_ic mc_105 dX6_isLost_6 (by decide)
theorem e105_7 : mm_E 105 7 ls (.int y :: .int x :: st) I r Q ↔ if ¬ x = y then mm_E 105 14 ls st I r Q else mm_E 105 10 ls st I r Q := me_cne mc_105 dX6_isLost_7 (by decide)
theorem e105_10 : mm_E 105 10 ls st I r Q ↔ mm_E 105 11 ls (.int 1 :: st) I r Q := me_ic mc_105 dX6_isLost_10 (by decide)
theorem e105_11 : mm_E 105 11 ls st I r Q ↔ mm_E 105 15 ls st I r Q := me_goto mc_105 dX6_isLost_11 (by decide)
theorem e105_14 : mm_E 105 14 ls st I r Q ↔ mm_E 105 15 ls (.int 0 :: st) I r Q := me_ic mc_105 dX6_isLost_14 (by decide)
theorem e105_15 : mm_E 105 15 ls [.int x] I r Q ↔ (x = 0 ∨ x = 1) ∧ Q (some (.int x)) I r := me_rz mc_105 dX6_isLost_15 rfl
theorem mc_106 : mm_c 106 = cX6_of := rfl
theorem e106_0 : mm_E 106 0 [some (.ref a), l1, l2] st I r Q ↔ mm_E 106 1 [some (.ref a), l1, l2] (.ref a :: st) I r Q := me_al mc_106 dX6_of_0 rfl
theorem e106_1 : mm_E 106 1 [l0, some (.int x), l2] st I r Q ↔ mm_E 106 2 [l0, some (.int x), l2] (.int x :: st) I r Q := me_il mc_106 dX6_of_1 rfl
theorem e106_2 : ∀ (x0 : Int32), (mm_E 106 2 ls (.int x0 :: .ref a :: st) I r Q ↔ (mm_w8 st = true ∧ mm_S r a = (1, 6)) ∧ mm_E 97 0 [some (.ref a), some (.int x0)] [] I r (fun v I2 r2 => mm_E 106 5 ls (mm_pu v st) I2 r2 Q)) := fun x0 => me_vc (n := 1) (As := [.int x0]) (xs := [.int x0]) (a := a) mc_106 dX6_of_2 (by decide +kernel) (by decide +kernel) rfl rfl (Nat.le_of_ble_eq_true rfl) rfl
theorem e106_5 : mm_E 106 5 ls (.int x :: st) I r Q ↔ if ¬ x = 0 then mm_E 106 10 ls st I r Q else mm_E 106 8 ls st I r Q := me_zne mc_106 dX6_of_5 (by decide)
theorem e106_8 : mm_E 106 8 ls st I r Q ↔ mm_E 106 9 ls (.int (-1) :: st) I r Q := me_ic mc_106 dX6_of_8 (by decide)
theorem e106_9 : mm_E 106 9 ls [.int x] I r Q ↔ Q (some (.int x)) I r := me_ri mc_106 dX6_of_9 rfl
theorem e106_10 : mm_E 106 10 [l0, l1, some (.int x)] st I r Q ↔ mm_E 106 11 [l0, l1, some (.int x)] (.int x :: st) I r Q := me_il mc_106 dX6_of_10 rfl
theorem e106_11 : mm_E 106 11 ls (.int x :: st) I r Q ↔ if x = 0 then mm_E 106 44 ls st I r Q else if x = 1 then mm_E 106 53 ls st I r Q else if x = 2 then mm_E 106 63 ls st I r Q else if x = 3 then mm_E 106 73 ls st I r Q else if x = 4 then mm_E 106 90 ls st I r Q else mm_E 106 99 ls st I r Q := by
  by_cases h0 : x = 0
  · subst h0
    simp only [if_true, if_pos]
    exact me_sw (off := 33) mc_106 dX6_of_11 rfl rfl (by decide)
  by_cases h1 : x = 1
  · subst h1
    simp only [if_true, if_pos]
    exact me_sw (off := 42) mc_106 dX6_of_11 rfl rfl (by decide)
  by_cases h2 : x = 2
  · subst h2
    simp only [if_true, if_pos]
    exact me_sw (off := 52) mc_106 dX6_of_11 rfl rfl (by decide)
  by_cases h3 : x = 3
  · subst h3
    simp only [if_true, if_pos]
    exact me_sw (off := 62) mc_106 dX6_of_11 rfl rfl (by decide)
  by_cases h4 : x = 4
  · subst h4
    simp only [if_true, if_pos]
    exact me_sw (off := 79) mc_106 dX6_of_11 rfl rfl (by decide)
  simp only [if_neg h0, if_neg h1, if_neg h2, if_neg h3, if_neg h4]
  have hx : x.toInt < 0 ∨ 4 < x.toInt := by
    rcases Int.lt_or_le x.toInt 0 with h | h
    · exact Or.inl h
    · rcases Int.lt_or_le 4 x.toInt with g | g
      · exact Or.inr g
      · exfalso
        have g0 : x.toInt ≠ 0 := fun q => h0 (Int32.toInt_inj.mp q)
        have g1 : x.toInt ≠ 1 := fun q => h1 (Int32.toInt_inj.mp q)
        have g2 : x.toInt ≠ 2 := fun q => h2 (Int32.toInt_inj.mp q)
        have g3 : x.toInt ≠ 3 := fun q => h3 (Int32.toInt_inj.mp q)
        have g4 : x.toInt ≠ 4 := fun q => h4 (Int32.toInt_inj.mp q)
        omega
  exact me_sw (off := 88) mc_106 dX6_of_11 rfl (by simp only [mm_act, mm_i1, mm_ts]; rw [if_pos hx]) (by decide)
theorem e106_44 : mm_E 106 44 [some (.ref a), l1, l2] st I r Q ↔ mm_E 106 45 [some (.ref a), l1, l2] (.ref a :: st) I r Q := me_al mc_106 dX6_of_44 rfl
theorem e106_45 : mm_E 106 45 ls (.ref a :: st) I r Q ↔ mm_S r a = (1, 6) ∧ mm_E 106 48 ls (va_rf (mm_P r a 7) :: st) I r Q := me_gr mc_106 dX6_of_45 (by decide +kernel) rfl
theorem e106_48 : mm_E 106 48 ls st I r Q ↔ mm_E 106 49 ls (.int 3 :: st) I r Q := me_ic mc_106 dX6_of_48 (by decide)
theorem e106_49 : mm_E 106 49 [l0, some (.int x), l2] st I r Q ↔ mm_E 106 50 [l0, some (.int x), l2] (.int x :: st) I r Q := me_il mc_106 dX6_of_49 rfl
theorem e106_50 : mm_E 106 50 ls (.int y :: .int x :: st) I r Q ↔ mm_E 106 51 ls (.int (x + y) :: st) I r Q := me_iadd mc_106 dX6_of_50
theorem e106_51 : mm_E 106 51 ls (.int x :: .ref a :: st) I r Q ↔ mm_ix r a 2 x ∧ mm_E 106 52 ls (.int (mm_rd I a x.toNatClampNeg) :: st) I r Q := me_ia mc_106 dX6_of_51
theorem e106_52 : mm_E 106 52 ls [.int x] I r Q ↔ Q (some (.int x)) I r := me_ri mc_106 dX6_of_52 rfl
theorem e106_53 : mm_E 106 53 [some (.ref a), l1, l2] st I r Q ↔ mm_E 106 54 [some (.ref a), l1, l2] (.ref a :: st) I r Q := me_al mc_106 dX6_of_53 rfl
theorem e106_54 : mm_E 106 54 ls (.ref a :: st) I r Q ↔ mm_S r a = (1, 6) ∧ mm_E 106 57 ls (va_rf (mm_P r a 7) :: st) I r Q := me_gr mc_106 dX6_of_54 (by decide +kernel) rfl
theorem e106_57 : mm_E 106 57 ls st I r Q ↔ mm_E 106 59 ls (.int 9 :: st) I r Q := me_bi mc_106 dX6_of_57 (by decide)
theorem e106_59 : mm_E 106 59 [l0, some (.int x), l2] st I r Q ↔ mm_E 106 60 [l0, some (.int x), l2] (.int x :: st) I r Q := me_il mc_106 dX6_of_59 rfl
theorem e106_60 : mm_E 106 60 ls (.int y :: .int x :: st) I r Q ↔ mm_E 106 61 ls (.int (x + y) :: st) I r Q := me_iadd mc_106 dX6_of_60
theorem e106_61 : mm_E 106 61 ls (.int x :: .ref a :: st) I r Q ↔ mm_ix r a 2 x ∧ mm_E 106 62 ls (.int (mm_rd I a x.toNatClampNeg) :: st) I r Q := me_ia mc_106 dX6_of_61
theorem e106_62 : mm_E 106 62 ls [.int x] I r Q ↔ Q (some (.int x)) I r := me_ri mc_106 dX6_of_62 rfl
theorem e106_63 : mm_E 106 63 [some (.ref a), l1, l2] st I r Q ↔ mm_E 106 64 [some (.ref a), l1, l2] (.ref a :: st) I r Q := me_al mc_106 dX6_of_63 rfl
theorem e106_64 : mm_E 106 64 ls (.ref a :: st) I r Q ↔ mm_S r a = (1, 6) ∧ mm_E 106 67 ls (va_rf (mm_P r a 7) :: st) I r Q := me_gr mc_106 dX6_of_64 (by decide +kernel) rfl
theorem e106_67 : mm_E 106 67 ls st I r Q ↔ mm_E 106 69 ls (.int 15 :: st) I r Q := me_bi mc_106 dX6_of_67 (by decide)
theorem e106_69 : mm_E 106 69 [l0, some (.int x), l2] st I r Q ↔ mm_E 106 70 [l0, some (.int x), l2] (.int x :: st) I r Q := me_il mc_106 dX6_of_69 rfl
theorem e106_70 : mm_E 106 70 ls (.int y :: .int x :: st) I r Q ↔ mm_E 106 71 ls (.int (x + y) :: st) I r Q := me_iadd mc_106 dX6_of_70
theorem e106_71 : mm_E 106 71 ls (.int x :: .ref a :: st) I r Q ↔ mm_ix r a 2 x ∧ mm_E 106 72 ls (.int (mm_rd I a x.toNatClampNeg) :: st) I r Q := me_ia mc_106 dX6_of_71
theorem e106_72 : mm_E 106 72 ls [.int x] I r Q ↔ Q (some (.int x)) I r := me_ri mc_106 dX6_of_72 rfl
theorem e106_73 : mm_E 106 73 [some (.ref a), l1, l2] st I r Q ↔ mm_E 106 74 [some (.ref a), l1, l2] (.ref a :: st) I r Q := me_al mc_106 dX6_of_73 rfl
theorem e106_74 : mm_E 106 74 ls (.ref a :: st) I r Q ↔ mm_S r a = (1, 6) ∧ mm_E 106 77 ls (va_rf (mm_P r a 7) :: st) I r Q := me_gr mc_106 dX6_of_74 (by decide +kernel) rfl
theorem e106_77 : mm_E 106 77 [l0, some (.int x), l2] st I r Q ↔ mm_E 106 78 [l0, some (.int x), l2] (.int x :: st) I r Q := me_il mc_106 dX6_of_77 rfl
theorem e106_78 : ∀ (x0 : Nat) (x1 : Int32), (mm_E 106 78 ls (.int x1 :: .ref x0 :: st) I r Q ↔ mm_w8 st = true ∧ mm_E 105 0 [some (.ref x0), some (.int x1)] [] I r (fun v I2 r2 => mm_E 106 81 ls (mm_pu v st) I2 r2 Q)) := fun x0 x1 => me_sc (n := 2) (As := [.ref x0, .int x1]) (xs := [.int x1, .ref x0]) mc_106 dX6_of_78 (by decide +kernel) (by decide +kernel) rfl rfl (Nat.le_of_ble_eq_true rfl) rfl
theorem e106_81 : mm_E 106 81 ls (.int x :: st) I r Q ↔ if x = 0 then mm_E 106 88 ls st I r Q else mm_E 106 84 ls st I r Q := me_zeq mc_106 dX6_of_81 (by decide)
theorem e106_84 : mm_E 106 84 ls st I r Q ↔ mm_E 106 85 ls (.int 1 :: st) I r Q := me_ic mc_106 dX6_of_84 (by decide)
theorem e106_85 : mm_E 106 85 ls st I r Q ↔ mm_E 106 89 ls st I r Q := me_goto mc_106 dX6_of_85 (by decide)
theorem e106_88 : mm_E 106 88 ls st I r Q ↔ mm_E 106 89 ls (.int 0 :: st) I r Q := me_ic mc_106 dX6_of_88 (by decide)
theorem e106_89 : mm_E 106 89 ls [.int x] I r Q ↔ Q (some (.int x)) I r := me_ri mc_106 dX6_of_89 rfl
theorem e106_90 : mm_E 106 90 [some (.ref a), l1, l2] st I r Q ↔ mm_E 106 91 [some (.ref a), l1, l2] (.ref a :: st) I r Q := me_al mc_106 dX6_of_90 rfl
theorem e106_91 : mm_E 106 91 ls (.ref a :: st) I r Q ↔ mm_S r a = (1, 6) ∧ mm_E 106 94 ls (va_rf (mm_P r a 7) :: st) I r Q := me_gr mc_106 dX6_of_91 (by decide +kernel) rfl
theorem e106_94 : mm_E 106 94 [l0, some (.int x), l2] st I r Q ↔ mm_E 106 95 [l0, some (.int x), l2] (.int x :: st) I r Q := me_il mc_106 dX6_of_94 rfl
theorem e106_95 : ∀ (x0 : Nat) (x1 : Int32), (mm_E 106 95 ls (.int x1 :: .ref x0 :: st) I r Q ↔ mm_w8 st = true ∧ mm_E 104 0 [some (.ref x0), some (.int x1), none, none] [] I r (fun v I2 r2 => mm_E 106 98 ls (mm_pu v st) I2 r2 Q)) := fun x0 x1 => me_sc (n := 2) (As := [.ref x0, .int x1]) (xs := [.int x1, .ref x0]) mc_106 dX6_of_95 (by decide +kernel) (by decide +kernel) rfl rfl (Nat.le_of_ble_eq_true rfl) rfl
theorem e106_98 : mm_E 106 98 ls [.int x] I r Q ↔ Q (some (.int x)) I r := me_ri mc_106 dX6_of_98 rfl
theorem e106_99 : mm_E 106 99 ls st I r Q ↔ mm_E 106 100 ls (.int (-1) :: st) I r Q := me_ic mc_106 dX6_of_99 (by decide)
theorem e106_100 : mm_E 106 100 ls [.int x] I r Q ↔ Q (some (.int x)) I r := me_ri mc_106 dX6_of_100 rfl
theorem mc_107 : mm_c 107 = cX6_mealOf := rfl
theorem e107_0 : mm_E 107 0 [some (.ref a), l1, l2] st I r Q ↔ mm_E 107 1 [some (.ref a), l1, l2] (.ref a :: st) I r Q := me_al mc_107 dX6_mealOf_0 rfl
theorem e107_1 : mm_E 107 1 ls st I r Q ↔ mm_E 107 3 ls (.int 34 :: st) I r Q := me_bi mc_107 dX6_mealOf_1 (by decide)
theorem e107_3 : mm_E 107 3 [l0, some (.int x), l2] st I r Q ↔ mm_E 107 4 [l0, some (.int x), l2] (.int x :: st) I r Q := me_il mc_107 dX6_mealOf_3 rfl
theorem e107_4 : mm_E 107 4 ls (.int y :: .int x :: st) I r Q ↔ mm_E 107 5 ls (.int (x + y) :: st) I r Q := me_iadd mc_107 dX6_mealOf_4
theorem e107_5 : mm_E 107 5 ls (.int x :: .ref a :: st) I r Q ↔ mm_ix r a 2 x ∧ mm_E 107 6 ls (.int (mm_rd I a x.toNatClampNeg) :: st) I r Q := me_ia mc_107 dX6_mealOf_5
theorem e107_6 : mm_E 107 6 [l0, l1, l2] (.int x :: st) I r Q ↔ mm_c1 l1 ∧ mm_E 107 7 [l0, l1, some (.int x)] st I r Q := me_st (k := 2) (v := .int x) mc_107 dX6_mealOf_6 rfl rfl (Nat.le_of_ble_eq_true rfl) rfl ⟨Or.inr, fun h => h.resolve_left (by decide)⟩
theorem e107_7 : mm_E 107 7 [some (.ref a), l1, l2] st I r Q ↔ mm_E 107 8 [some (.ref a), l1, l2] (.ref a :: st) I r Q := me_al mc_107 dX6_mealOf_7 rfl
theorem e107_8 : mm_E 107 8 ls st I r Q ↔ mm_E 107 10 ls (.int 29 :: st) I r Q := me_bi mc_107 dX6_mealOf_8 (by decide)
theorem e107_10 : mm_E 107 10 [l0, some (.int x), l2] st I r Q ↔ mm_E 107 11 [l0, some (.int x), l2] (.int x :: st) I r Q := me_il mc_107 dX6_mealOf_10 rfl
theorem e107_11 : mm_E 107 11 ls (.int y :: .int x :: st) I r Q ↔ mm_E 107 12 ls (.int (x + y) :: st) I r Q := me_iadd mc_107 dX6_mealOf_11
theorem e107_12 : mm_E 107 12 ls (.int x :: .ref a :: st) I r Q ↔ mm_ix r a 2 x ∧ mm_E 107 13 ls (.int (mm_rd I a x.toNatClampNeg) :: st) I r Q := me_ia mc_107 dX6_mealOf_12
theorem e107_13 : mm_E 107 13 ls st I r Q ↔ mm_E 107 14 ls (.int 3 :: st) I r Q := me_ic mc_107 dX6_mealOf_13 (by decide)
theorem e107_14 : mm_E 107 14 ls (.int y :: .int x :: st) I r Q ↔ if ¬ x = y then mm_E 107 23 ls st I r Q else mm_E 107 17 ls st I r Q := me_cne mc_107 dX6_mealOf_14 (by decide)
theorem e107_17 : mm_E 107 17 ls st I r Q ↔ mm_E 107 18 ls (.int 2 :: st) I r Q := me_ic mc_107 dX6_mealOf_17 (by decide)
theorem e107_18 : mm_E 107 18 [l0, l1, some (.int x)] st I r Q ↔ mm_E 107 19 [l0, l1, some (.int x)] (.int x :: st) I r Q := me_il mc_107 dX6_mealOf_18 rfl
theorem e107_19 : mm_E 107 19 ls (.int y :: .int x :: st) I r Q ↔ mm_E 107 20 ls (.int (x * y) :: st) I r Q := me_imul mc_107 dX6_mealOf_19
theorem e107_20 : mm_E 107 20 ls st I r Q ↔ mm_E 107 40 ls st I r Q := me_goto mc_107 dX6_mealOf_20 (by decide)
theorem e107_23 : mm_E 107 23 [some (.ref a), l1, l2] st I r Q ↔ mm_E 107 24 [some (.ref a), l1, l2] (.ref a :: st) I r Q := me_al mc_107 dX6_mealOf_23 rfl
theorem e107_24 : mm_E 107 24 ls st I r Q ↔ mm_E 107 26 ls (.int 29 :: st) I r Q := me_bi mc_107 dX6_mealOf_24 (by decide)
theorem e107_26 : mm_E 107 26 [l0, some (.int x), l2] st I r Q ↔ mm_E 107 27 [l0, some (.int x), l2] (.int x :: st) I r Q := me_il mc_107 dX6_mealOf_26 rfl
theorem e107_27 : mm_E 107 27 ls (.int y :: .int x :: st) I r Q ↔ mm_E 107 28 ls (.int (x + y) :: st) I r Q := me_iadd mc_107 dX6_mealOf_27
theorem e107_28 : mm_E 107 28 ls (.int x :: .ref a :: st) I r Q ↔ mm_ix r a 2 x ∧ mm_E 107 29 ls (.int (mm_rd I a x.toNatClampNeg) :: st) I r Q := me_ia mc_107 dX6_mealOf_28
theorem e107_29 : mm_E 107 29 ls st I r Q ↔ mm_E 107 30 ls (.int 4 :: st) I r Q := me_ic mc_107 dX6_mealOf_29 (by decide)
theorem e107_30 : mm_E 107 30 ls (.int y :: .int x :: st) I r Q ↔ if ¬ x = y then mm_E 107 39 ls st I r Q else mm_E 107 33 ls st I r Q := me_cne mc_107 dX6_mealOf_30 (by decide)
theorem e107_33 : mm_E 107 33 [l0, l1, some (.int x)] st I r Q ↔ mm_E 107 34 [l0, l1, some (.int x)] (.int x :: st) I r Q := me_il mc_107 dX6_mealOf_33 rfl
theorem e107_34 : mm_E 107 34 ls st I r Q ↔ mm_E 107 35 ls (.int 2 :: st) I r Q := me_ic mc_107 dX6_mealOf_34 (by decide)
theorem e107_35 : mm_E 107 35 ls (.int y :: .int x :: st) I r Q ↔ ¬ y = 0 ∧ mm_E 107 36 ls (.int (x / y) :: st) I r Q := me_idiv mc_107 dX6_mealOf_35
theorem e107_36 : mm_E 107 36 ls st I r Q ↔ mm_E 107 40 ls st I r Q := me_goto mc_107 dX6_mealOf_36 (by decide)
theorem e107_39 : mm_E 107 39 [l0, l1, some (.int x)] st I r Q ↔ mm_E 107 40 [l0, l1, some (.int x)] (.int x :: st) I r Q := me_il mc_107 dX6_mealOf_39 rfl
theorem e107_40 : mm_E 107 40 ls [.int x] I r Q ↔ Q (some (.int x)) I r := me_ri mc_107 dX6_mealOf_40 rfl
theorem mc_108 : mm_c 108 = cX6_at := rfl
theorem e108_0 : mm_E 108 0 [some (.ref a), l1, l2] st I r Q ↔ mm_E 108 1 [some (.ref a), l1, l2] (.ref a :: st) I r Q := me_al mc_108 dX6_at_0 rfl
theorem e108_1 : mm_E 108 1 [l0, some (.int x), l2] st I r Q ↔ mm_E 108 2 [l0, some (.int x), l2] (.int x :: st) I r Q := me_il mc_108 dX6_at_1 rfl
theorem e108_2 : ∀ (x0 : Int32), (mm_E 108 2 ls (.int x0 :: .ref a :: st) I r Q ↔ (mm_w8 st = true ∧ mm_S r a = (1, 6)) ∧ mm_E 98 0 [some (.ref a), some (.int x0)] [] I r (fun v I2 r2 => mm_E 108 5 ls (mm_pu v st) I2 r2 Q)) := fun x0 => me_vc (n := 1) (As := [.int x0]) (xs := [.int x0]) (a := a) mc_108 dX6_at_2 (by decide +kernel) (by decide +kernel) rfl rfl (Nat.le_of_ble_eq_true rfl) rfl
theorem e108_5 : mm_E 108 5 ls (.int x :: st) I r Q ↔ if ¬ x = 0 then mm_E 108 10 ls st I r Q else mm_E 108 8 ls st I r Q := me_zne mc_108 dX6_at_5 (by decide)
theorem e108_8 : mm_E 108 8 ls st I r Q ↔ mm_E 108 9 ls (.int (-1) :: st) I r Q := me_ic mc_108 dX6_at_8 (by decide)
theorem e108_9 : mm_E 108 9 ls [.int x] I r Q ↔ Q (some (.int x)) I r := me_ri mc_108 dX6_at_9 rfl
theorem e108_10 : mm_E 108 10 [l0, l1, some (.int x)] st I r Q ↔ mm_E 108 11 [l0, l1, some (.int x)] (.int x :: st) I r Q := me_il mc_108 dX6_at_10 rfl
theorem e108_11 : mm_E 108 11 ls (.int x :: st) I r Q ↔ if x = 0 then mm_E 108 40 ls st I r Q else if x = 1 then mm_E 108 50 ls st I r Q else if x = 2 then mm_E 108 60 ls st I r Q else if x = 3 then mm_E 108 70 ls st I r Q else mm_E 108 79 ls st I r Q := by
  by_cases h0 : x = 0
  · subst h0
    simp only [if_true, if_pos]
    exact me_sw (off := 29) mc_108 dX6_at_11 rfl rfl (by decide)
  by_cases h1 : x = 1
  · subst h1
    simp only [if_true, if_pos]
    exact me_sw (off := 39) mc_108 dX6_at_11 rfl rfl (by decide)
  by_cases h2 : x = 2
  · subst h2
    simp only [if_true, if_pos]
    exact me_sw (off := 49) mc_108 dX6_at_11 rfl rfl (by decide)
  by_cases h3 : x = 3
  · subst h3
    simp only [if_true, if_pos]
    exact me_sw (off := 59) mc_108 dX6_at_11 rfl rfl (by decide)
  simp only [if_neg h0, if_neg h1, if_neg h2, if_neg h3]
  have hx : x.toInt < 0 ∨ 3 < x.toInt := by
    rcases Int.lt_or_le x.toInt 0 with h | h
    · exact Or.inl h
    · rcases Int.lt_or_le 3 x.toInt with g | g
      · exact Or.inr g
      · exfalso
        have g0 : x.toInt ≠ 0 := fun q => h0 (Int32.toInt_inj.mp q)
        have g1 : x.toInt ≠ 1 := fun q => h1 (Int32.toInt_inj.mp q)
        have g2 : x.toInt ≠ 2 := fun q => h2 (Int32.toInt_inj.mp q)
        have g3 : x.toInt ≠ 3 := fun q => h3 (Int32.toInt_inj.mp q)
        omega
  exact me_sw (off := 68) mc_108 dX6_at_11 rfl (by simp only [mm_act, mm_i1, mm_ts]; rw [if_pos hx]) (by decide)
theorem e108_40 : mm_E 108 40 [some (.ref a), l1, l2] st I r Q ↔ mm_E 108 41 [some (.ref a), l1, l2] (.ref a :: st) I r Q := me_al mc_108 dX6_at_40 rfl
theorem e108_41 : mm_E 108 41 ls (.ref a :: st) I r Q ↔ mm_S r a = (1, 6) ∧ mm_E 108 44 ls (va_rf (mm_P r a 7) :: st) I r Q := me_gr mc_108 dX6_at_41 (by decide +kernel) rfl
theorem e108_44 : mm_E 108 44 ls st I r Q ↔ mm_E 108 46 ls (.int 29 :: st) I r Q := me_bi mc_108 dX6_at_44 (by decide)
theorem e108_46 : mm_E 108 46 [l0, some (.int x), l2] st I r Q ↔ mm_E 108 47 [l0, some (.int x), l2] (.int x :: st) I r Q := me_il mc_108 dX6_at_46 rfl
theorem e108_47 : mm_E 108 47 ls (.int y :: .int x :: st) I r Q ↔ mm_E 108 48 ls (.int (x + y) :: st) I r Q := me_iadd mc_108 dX6_at_47
theorem e108_48 : mm_E 108 48 ls (.int x :: .ref a :: st) I r Q ↔ mm_ix r a 2 x ∧ mm_E 108 49 ls (.int (mm_rd I a x.toNatClampNeg) :: st) I r Q := me_ia mc_108 dX6_at_48
theorem e108_49 : mm_E 108 49 ls [.int x] I r Q ↔ Q (some (.int x)) I r := me_ri mc_108 dX6_at_49 rfl
theorem e108_50 : mm_E 108 50 [some (.ref a), l1, l2] st I r Q ↔ mm_E 108 51 [some (.ref a), l1, l2] (.ref a :: st) I r Q := me_al mc_108 dX6_at_50 rfl
theorem e108_51 : mm_E 108 51 ls (.ref a :: st) I r Q ↔ mm_S r a = (1, 6) ∧ mm_E 108 54 ls (va_rf (mm_P r a 7) :: st) I r Q := me_gr mc_108 dX6_at_51 (by decide +kernel) rfl
theorem e108_54 : mm_E 108 54 ls st I r Q ↔ mm_E 108 56 ls (.int 34 :: st) I r Q := me_bi mc_108 dX6_at_54 (by decide)
theorem e108_56 : mm_E 108 56 [l0, some (.int x), l2] st I r Q ↔ mm_E 108 57 [l0, some (.int x), l2] (.int x :: st) I r Q := me_il mc_108 dX6_at_56 rfl
theorem e108_57 : mm_E 108 57 ls (.int y :: .int x :: st) I r Q ↔ mm_E 108 58 ls (.int (x + y) :: st) I r Q := me_iadd mc_108 dX6_at_57
theorem e108_58 : mm_E 108 58 ls (.int x :: .ref a :: st) I r Q ↔ mm_ix r a 2 x ∧ mm_E 108 59 ls (.int (mm_rd I a x.toNatClampNeg) :: st) I r Q := me_ia mc_108 dX6_at_58
theorem e108_59 : mm_E 108 59 ls [.int x] I r Q ↔ Q (some (.int x)) I r := me_ri mc_108 dX6_at_59 rfl
theorem e108_60 : mm_E 108 60 [some (.ref a), l1, l2] st I r Q ↔ mm_E 108 61 [some (.ref a), l1, l2] (.ref a :: st) I r Q := me_al mc_108 dX6_at_60 rfl
theorem e108_61 : mm_E 108 61 ls (.ref a :: st) I r Q ↔ mm_S r a = (1, 6) ∧ mm_E 108 64 ls (va_rf (mm_P r a 7) :: st) I r Q := me_gr mc_108 dX6_at_61 (by decide +kernel) rfl
theorem e108_64 : mm_E 108 64 ls st I r Q ↔ mm_E 108 66 ls (.int 21 :: st) I r Q := me_bi mc_108 dX6_at_64 (by decide)
theorem e108_66 : mm_E 108 66 [l0, some (.int x), l2] st I r Q ↔ mm_E 108 67 [l0, some (.int x), l2] (.int x :: st) I r Q := me_il mc_108 dX6_at_66 rfl
theorem e108_67 : mm_E 108 67 ls (.int y :: .int x :: st) I r Q ↔ mm_E 108 68 ls (.int (x + y) :: st) I r Q := me_iadd mc_108 dX6_at_67
theorem e108_68 : mm_E 108 68 ls (.int x :: .ref a :: st) I r Q ↔ mm_ix r a 2 x ∧ mm_E 108 69 ls (.int (mm_rd I a x.toNatClampNeg) :: st) I r Q := me_ia mc_108 dX6_at_68
theorem e108_69 : mm_E 108 69 ls [.int x] I r Q ↔ Q (some (.int x)) I r := me_ri mc_108 dX6_at_69 rfl
theorem e108_70 : mm_E 108 70 [some (.ref a), l1, l2] st I r Q ↔ mm_E 108 71 [some (.ref a), l1, l2] (.ref a :: st) I r Q := me_al mc_108 dX6_at_70 rfl
theorem e108_71 : mm_E 108 71 ls (.ref a :: st) I r Q ↔ mm_S r a = (1, 6) ∧ mm_E 108 74 ls (va_rf (mm_P r a 7) :: st) I r Q := me_gr mc_108 dX6_at_71 (by decide +kernel) rfl
theorem e108_74 : mm_E 108 74 [l0, some (.int x), l2] st I r Q ↔ mm_E 108 75 [l0, some (.int x), l2] (.int x :: st) I r Q := me_il mc_108 dX6_at_74 rfl
theorem e108_75 : ∀ (x0 : Nat) (x1 : Int32), (mm_E 108 75 ls (.int x1 :: .ref x0 :: st) I r Q ↔ mm_w8 st = true ∧ mm_E 107 0 [some (.ref x0), some (.int x1), none] [] I r (fun v I2 r2 => mm_E 108 78 ls (mm_pu v st) I2 r2 Q)) := fun x0 x1 => me_sc (n := 2) (As := [.ref x0, .int x1]) (xs := [.int x1, .ref x0]) mc_108 dX6_at_75 (by decide +kernel) (by decide +kernel) rfl rfl (Nat.le_of_ble_eq_true rfl) rfl
theorem e108_78 : mm_E 108 78 ls [.int x] I r Q ↔ Q (some (.int x)) I r := me_ri mc_108 dX6_at_78 rfl
theorem e108_79 : mm_E 108 79 ls st I r Q ↔ mm_E 108 80 ls (.int (-1) :: st) I r Q := me_ic mc_108 dX6_at_79 (by decide)
theorem e108_80 : mm_E 108 80 ls [.int x] I r Q ↔ Q (some (.int x)) I r := me_ri mc_108 dX6_at_80 rfl
theorem mc_109 : mm_c 109 = cX6_type := rfl
theorem e109_0 : mm_E 109 0 [l0, some (.int x)] st I r Q ↔ mm_E 109 1 [l0, some (.int x)] (.int x :: st) I r Q := me_il mc_109 dX6_type_0 rfl
theorem e109_1 : mm_E 109 1 ls st I r Q ↔ mm_E 109 3 ls (.int 32 :: st) I r Q := me_bi mc_109 dX6_type_1 (by decide)
theorem e109_3 : mm_E 109 3 ls st I r Q ↔ mm_E 109 5 ls (.int 126 :: st) I r Q := me_bi mc_109 dX6_type_3 (by decide)
theorem e109_5 : ∀ (x0 : Int32) (x1 : Int32) (x2 : Int32), (mm_E 109 5 ls (.int x2 :: .int x1 :: .int x0 :: st) I r Q ↔ mm_w8 st = true ∧ mm_E 93 0 [some (.int x0), some (.int x1), some (.int x2)] [] I r (fun v I2 r2 => mm_E 109 8 ls (mm_pu v st) I2 r2 Q)) := fun x0 x1 x2 => me_sc (n := 3) (As := [.int x0, .int x1, .int x2]) (xs := [.int x2, .int x1, .int x0]) mc_109 dX6_type_5 (by decide +kernel) (by decide +kernel) rfl rfl (Nat.le_of_ble_eq_true rfl) rfl
theorem e109_8 : mm_E 109 8 ls (.int x :: st) I r Q ↔ if ¬ x = 0 then mm_E 109 13 ls st I r Q else mm_E 109 11 ls st I r Q := me_zne mc_109 dX6_type_8 (by decide)
theorem e109_11 : mm_E 109 11 ls st I r Q ↔ mm_E 109 12 ls (.int (-1) :: st) I r Q := me_ic mc_109 dX6_type_11 (by decide)
theorem e109_12 : mm_E 109 12 ls [.int x] I r Q ↔ Q (some (.int x)) I r := me_ri mc_109 dX6_type_12 rfl
theorem e109_13 : mm_E 109 13 [some (.ref a), l1] st I r Q ↔ mm_E 109 14 [some (.ref a), l1] (.ref a :: st) I r Q := me_al mc_109 dX6_type_13 rfl
theorem e109_14 : mm_E 109 14 ls (.ref a :: st) I r Q ↔ mm_S r a = (1, 6) ∧ mm_E 109 17 ls (.int (mm_rd I a 3) :: st) I r Q := me_gi mc_109 dX6_type_14 (by decide +kernel) rfl
theorem e109_17 : mm_E 109 17 ls st I r Q ↔ mm_E 109 19 ls (.int 80 :: st) I r Q := me_bi mc_109 dX6_type_17 (by decide)
theorem e109_19 : mm_E 109 19 ls (.int y :: .int x :: st) I r Q ↔ if ¬ x = y then mm_E 109 25 ls st I r Q else mm_E 109 22 ls st I r Q := me_cne mc_109 dX6_type_19 (by decide)
theorem e109_22 : mm_E 109 22 ls st I r Q ↔ mm_E 109 24 ls (.int (-3) :: st) I r Q := me_bi mc_109 dX6_type_22 (by decide)
theorem e109_24 : mm_E 109 24 ls [.int x] I r Q ↔ Q (some (.int x)) I r := me_ri mc_109 dX6_type_24 rfl
theorem e109_25 : mm_E 109 25 [some (.ref a), l1] st I r Q ↔ mm_E 109 26 [some (.ref a), l1] (.ref a :: st) I r Q := me_al mc_109 dX6_type_25 rfl
theorem e109_26 : mm_E 109 26 ls (.ref a :: st) I r Q ↔ mm_S r a = (1, 6) ∧ mm_E 109 29 ls (va_rf (mm_P r a 4) :: st) I r Q := me_gr mc_109 dX6_type_26 (by decide +kernel) rfl
theorem e109_29 : mm_E 109 29 [some (.ref a), l1] st I r Q ↔ mm_E 109 30 [some (.ref a), l1] (.ref a :: st) I r Q := me_al mc_109 dX6_type_29 rfl
theorem e109_30 : mm_E 109 30 ls (.ref a :: st) I r Q ↔ mm_S r a = (1, 6) ∧ mm_E 109 33 ls (.int (mm_rd I a 3) :: st) I r Q := me_gi mc_109 dX6_type_30 (by decide +kernel) rfl
theorem e109_33 : mm_E 109 33 [l0, some (.int x)] st I r Q ↔ mm_E 109 34 [l0, some (.int x)] (.int x :: st) I r Q := me_il mc_109 dX6_type_33 rfl
theorem e109_34 : mm_E 109 34 ls (.int y :: .int x :: .ref a :: st) I r Q ↔ mm_ix r a 2 x ∧ mm_E 109 35 ls st (mm_uI I a x.toNatClampNeg y) r Q := me_is mc_109 dX6_type_34
theorem e109_35 : mm_E 109 35 [some (.ref a), l1] st I r Q ↔ mm_E 109 36 [some (.ref a), l1] (.ref a :: st) I r Q := me_al mc_109 dX6_type_35 rfl
theorem e109_36 : mm_E 109 36 ls (v :: st) I r Q ↔ v.category = 1 ∧ mm_E 109 37 ls (v :: v :: st) I r Q := me_dup mc_109 dX6_type_36
theorem e109_37 : mm_E 109 37 ls (.ref a :: st) I r Q ↔ mm_S r a = (1, 6) ∧ mm_E 109 40 ls (.int (mm_rd I a 3) :: st) I r Q := me_gi mc_109 dX6_type_37 (by decide +kernel) rfl
theorem e109_40 : mm_E 109 40 ls st I r Q ↔ mm_E 109 41 ls (.int 1 :: st) I r Q := me_ic mc_109 dX6_type_40 (by decide)
theorem e109_41 : mm_E 109 41 ls (.int y :: .int x :: st) I r Q ↔ mm_E 109 42 ls (.int (x + y) :: st) I r Q := me_iadd mc_109 dX6_type_41
theorem e109_42 : mm_E 109 42 ls (.int x :: .ref a :: st) I r Q ↔ mm_S r a = (1, 6) ∧ mm_E 109 45 ls st (mm_uI I a 3 x) r Q := me_pi mc_109 dX6_type_42 (by decide +kernel) (by decide +kernel)
theorem e109_45 : mm_E 109 45 [some (.ref a), l1] st I r Q ↔ mm_E 109 46 [some (.ref a), l1] (.ref a :: st) I r Q := me_al mc_109 dX6_type_45 rfl
theorem e109_46 : mm_E 109 46 ls (.ref a :: st) I r Q ↔ mm_S r a = (1, 6) ∧ mm_E 109 49 ls (.int (mm_rd I a 3) :: st) I r Q := me_gi mc_109 dX6_type_46 (by decide +kernel) rfl
theorem e109_49 : mm_E 109 49 ls [.int x] I r Q ↔ Q (some (.int x)) I r := me_ri mc_109 dX6_type_49 rfl
theorem mc_110 : mm_c 110 = cX6_peek := rfl
theorem e110_0 : mm_E 110 0 [some (.ref a)] st I r Q ↔ mm_E 110 1 [some (.ref a)] (.ref a :: st) I r Q := me_al mc_110 dX6_peek_0 rfl
theorem e110_1 : mm_E 110 1 ls (.ref a :: st) I r Q ↔ mm_S r a = (1, 6) ∧ mm_E 110 4 ls (.int (mm_rd I a 5) :: st) I r Q := me_gi mc_110 dX6_peek_1 (by decide +kernel) rfl
theorem e110_4 : mm_E 110 4 [some (.ref a)] st I r Q ↔ mm_E 110 5 [some (.ref a)] (.ref a :: st) I r Q := me_al mc_110 dX6_peek_4 rfl
theorem e110_5 : mm_E 110 5 ls (.ref a :: st) I r Q ↔ mm_S r a = (1, 6) ∧ mm_E 110 8 ls (.int (mm_rd I a 3) :: st) I r Q := me_gi mc_110 dX6_peek_5 (by decide +kernel) rfl
theorem e110_8 : mm_E 110 8 ls (.int y :: .int x :: st) I r Q ↔ if y ≤ x then mm_E 110 38 ls st I r Q else mm_E 110 11 ls st I r Q := me_cge mc_110 dX6_peek_8 (by decide)
theorem e110_11 : mm_E 110 11 [some (.ref a)] st I r Q ↔ mm_E 110 12 [some (.ref a)] (.ref a :: st) I r Q := me_al mc_110 dX6_peek_11 rfl
theorem e110_12 : mm_E 110 12 ls (.ref a :: st) I r Q ↔ mm_S r a = (1, 6) ∧ mm_E 110 15 ls (va_rf (mm_P r a 4) :: st) I r Q := me_gr mc_110 dX6_peek_12 (by decide +kernel) rfl
theorem e110_15 : mm_E 110 15 [some (.ref a)] st I r Q ↔ mm_E 110 16 [some (.ref a)] (.ref a :: st) I r Q := me_al mc_110 dX6_peek_15 rfl
theorem e110_16 : mm_E 110 16 ls (.ref a :: st) I r Q ↔ mm_S r a = (1, 6) ∧ mm_E 110 19 ls (.int (mm_rd I a 5) :: st) I r Q := me_gi mc_110 dX6_peek_16 (by decide +kernel) rfl
theorem e110_19 : mm_E 110 19 ls (.int x :: .ref a :: st) I r Q ↔ mm_ix r a 2 x ∧ mm_E 110 20 ls (.int (mm_rd I a x.toNatClampNeg) :: st) I r Q := me_ia mc_110 dX6_peek_19
theorem e110_20 : mm_E 110 20 ls st I r Q ↔ mm_E 110 22 ls (.int 32 :: st) I r Q := me_bi mc_110 dX6_peek_20 (by decide)
theorem e110_22 : mm_E 110 22 ls (.int y :: .int x :: st) I r Q ↔ if ¬ x = y then mm_E 110 38 ls st I r Q else mm_E 110 25 ls st I r Q := me_cne mc_110 dX6_peek_22 (by decide)
theorem e110_25 : mm_E 110 25 [some (.ref a)] st I r Q ↔ mm_E 110 26 [some (.ref a)] (.ref a :: st) I r Q := me_al mc_110 dX6_peek_25 rfl
theorem e110_26 : mm_E 110 26 ls (v :: st) I r Q ↔ v.category = 1 ∧ mm_E 110 27 ls (v :: v :: st) I r Q := me_dup mc_110 dX6_peek_26
theorem e110_27 : mm_E 110 27 ls (.ref a :: st) I r Q ↔ mm_S r a = (1, 6) ∧ mm_E 110 30 ls (.int (mm_rd I a 5) :: st) I r Q := me_gi mc_110 dX6_peek_27 (by decide +kernel) rfl
theorem e110_30 : mm_E 110 30 ls st I r Q ↔ mm_E 110 31 ls (.int 1 :: st) I r Q := me_ic mc_110 dX6_peek_30 (by decide)
theorem e110_31 : mm_E 110 31 ls (.int y :: .int x :: st) I r Q ↔ mm_E 110 32 ls (.int (x + y) :: st) I r Q := me_iadd mc_110 dX6_peek_31
theorem e110_32 : mm_E 110 32 ls (.int x :: .ref a :: st) I r Q ↔ mm_S r a = (1, 6) ∧ mm_E 110 35 ls st (mm_uI I a 5 x) r Q := me_pi mc_110 dX6_peek_32 (by decide +kernel) (by decide +kernel)
theorem e110_35 : mm_E 110 35 ls st I r Q ↔ mm_E 110 0 ls st I r Q := me_goto mc_110 dX6_peek_35 (by decide)
theorem e110_38 : mm_E 110 38 [some (.ref a)] st I r Q ↔ mm_E 110 39 [some (.ref a)] (.ref a :: st) I r Q := me_al mc_110 dX6_peek_38 rfl
theorem e110_39 : mm_E 110 39 ls (.ref a :: st) I r Q ↔ mm_S r a = (1, 6) ∧ mm_E 110 42 ls (.int (mm_rd I a 5) :: st) I r Q := me_gi mc_110 dX6_peek_39 (by decide +kernel) rfl
theorem e110_42 : mm_E 110 42 [some (.ref a)] st I r Q ↔ mm_E 110 43 [some (.ref a)] (.ref a :: st) I r Q := me_al mc_110 dX6_peek_42 rfl
theorem e110_43 : mm_E 110 43 ls (.ref a :: st) I r Q ↔ mm_S r a = (1, 6) ∧ mm_E 110 46 ls (.int (mm_rd I a 3) :: st) I r Q := me_gi mc_110 dX6_peek_43 (by decide +kernel) rfl
theorem e110_46 : mm_E 110 46 ls (.int y :: .int x :: st) I r Q ↔ if y ≤ x then mm_E 110 61 ls st I r Q else mm_E 110 49 ls st I r Q := me_cge mc_110 dX6_peek_46 (by decide)
theorem e110_49 : mm_E 110 49 [some (.ref a)] st I r Q ↔ mm_E 110 50 [some (.ref a)] (.ref a :: st) I r Q := me_al mc_110 dX6_peek_49 rfl
theorem e110_50 : mm_E 110 50 ls (.ref a :: st) I r Q ↔ mm_S r a = (1, 6) ∧ mm_E 110 53 ls (va_rf (mm_P r a 4) :: st) I r Q := me_gr mc_110 dX6_peek_50 (by decide +kernel) rfl
theorem e110_53 : mm_E 110 53 [some (.ref a)] st I r Q ↔ mm_E 110 54 [some (.ref a)] (.ref a :: st) I r Q := me_al mc_110 dX6_peek_53 rfl
theorem e110_54 : mm_E 110 54 ls (.ref a :: st) I r Q ↔ mm_S r a = (1, 6) ∧ mm_E 110 57 ls (.int (mm_rd I a 5) :: st) I r Q := me_gi mc_110 dX6_peek_54 (by decide +kernel) rfl
theorem e110_57 : mm_E 110 57 ls (.int x :: .ref a :: st) I r Q ↔ mm_ix r a 2 x ∧ mm_E 110 58 ls (.int (mm_rd I a x.toNatClampNeg) :: st) I r Q := me_ia mc_110 dX6_peek_57
theorem e110_58 : mm_E 110 58 ls st I r Q ↔ mm_E 110 62 ls st I r Q := me_goto mc_110 dX6_peek_58 (by decide)
theorem e110_61 : mm_E 110 61 ls st I r Q ↔ mm_E 110 62 ls (.int 0 :: st) I r Q := me_ic mc_110 dX6_peek_61 (by decide)
theorem e110_62 : mm_E 110 62 ls [.int x] I r Q ↔ Q (some (.int x)) I r := me_ri mc_110 dX6_peek_62 rfl
theorem mc_111 : mm_c 111 = cX6_isSign := rfl
theorem e111_0 : mm_E 111 0 [some (.ref a), l1] st I r Q ↔ mm_E 111 1 [some (.ref a), l1] (.ref a :: st) I r Q := me_al mc_111 dX6_isSign_0 rfl
theorem e111_1 : (mm_E 111 1 ls (.ref a :: st) I r Q ↔ (mm_w8 st = true ∧ mm_S r a = (1, 6)) ∧ mm_E 110 0 [some (.ref a)] [] I r (fun v I2 r2 => mm_E 111 4 ls (mm_pu v st) I2 r2 Q)) := me_vc (n := 0) (As := []) (xs := []) (a := a) mc_111 dX6_isSign_1 (by decide +kernel) (by decide +kernel) rfl rfl (Nat.le_of_ble_eq_true rfl) rfl
theorem e111_4 : mm_E 111 4 [l0, some (.int x)] st I r Q ↔ mm_E 111 5 [l0, some (.int x)] (.int x :: st) I r Q := me_il mc_111 dX6_isSign_4 rfl
theorem e111_5 : mm_E 111 5 ls (.int y :: .int x :: st) I r Q ↔ if x = y then mm_E 111 10 ls st I r Q else mm_E 111 8 ls st I r Q := me_ceq mc_111 dX6_isSign_5 (by decide)
theorem e111_8 : mm_E 111 8 ls st I r Q ↔ mm_E 111 9 ls (.int 0 :: st) I r Q := me_ic mc_111 dX6_isSign_8 (by decide)
theorem e111_9 : mm_E 111 9 ls [.int x] I r Q ↔ (x = 0 ∨ x = 1) ∧ Q (some (.int x)) I r := me_rz mc_111 dX6_isSign_9 rfl
theorem e111_10 : mm_E 111 10 [some (.ref a), l1] st I r Q ↔ mm_E 111 11 [some (.ref a), l1] (.ref a :: st) I r Q := me_al mc_111 dX6_isSign_10 rfl
theorem e111_11 : mm_E 111 11 ls (v :: st) I r Q ↔ v.category = 1 ∧ mm_E 111 12 ls (v :: v :: st) I r Q := me_dup mc_111 dX6_isSign_11
theorem e111_12 : mm_E 111 12 ls (.ref a :: st) I r Q ↔ mm_S r a = (1, 6) ∧ mm_E 111 15 ls (.int (mm_rd I a 5) :: st) I r Q := me_gi mc_111 dX6_isSign_12 (by decide +kernel) rfl
theorem e111_15 : mm_E 111 15 ls st I r Q ↔ mm_E 111 16 ls (.int 1 :: st) I r Q := me_ic mc_111 dX6_isSign_15 (by decide)
theorem e111_16 : mm_E 111 16 ls (.int y :: .int x :: st) I r Q ↔ mm_E 111 17 ls (.int (x + y) :: st) I r Q := me_iadd mc_111 dX6_isSign_16
theorem e111_17 : mm_E 111 17 ls (.int x :: .ref a :: st) I r Q ↔ mm_S r a = (1, 6) ∧ mm_E 111 20 ls st (mm_uI I a 5 x) r Q := me_pi mc_111 dX6_isSign_17 (by decide +kernel) (by decide +kernel)
theorem e111_20 : mm_E 111 20 ls st I r Q ↔ mm_E 111 21 ls (.int 1 :: st) I r Q := me_ic mc_111 dX6_isSign_20 (by decide)
theorem e111_21 : mm_E 111 21 ls [.int x] I r Q ↔ (x = 0 ∨ x = 1) ∧ Q (some (.int x)) I r := me_rz mc_111 dX6_isSign_21 rfl
theorem mc_112 : mm_c 112 = cX6_isDigit := rfl
theorem e112_0 : mm_E 112 0 [some (.ref a), l1, l2] st I r Q ↔ mm_E 112 1 [some (.ref a), l1, l2] (.ref a :: st) I r Q := me_al mc_112 dX6_isDigit_0 rfl
theorem e112_1 : mm_E 112 1 [some (.ref a), l1, l2] st I r Q ↔ mm_E 112 2 [some (.ref a), l1, l2] (.ref a :: st) I r Q := me_al mc_112 dX6_isDigit_1 rfl
theorem e112_2 : (mm_E 112 2 ls (.ref a :: st) I r Q ↔ (mm_w8 st = true ∧ mm_S r a = (1, 6)) ∧ mm_E 110 0 [some (.ref a)] [] I r (fun v I2 r2 => mm_E 112 5 ls (mm_pu v st) I2 r2 Q)) := me_vc (n := 0) (As := []) (xs := []) (a := a) mc_112 dX6_isDigit_2 (by decide +kernel) (by decide +kernel) rfl rfl (Nat.le_of_ble_eq_true rfl) rfl
theorem e112_5 : mm_E 112 5 ls st I r Q ↔ mm_E 112 7 ls (.int 48 :: st) I r Q := me_bi mc_112 dX6_isDigit_5 (by decide)
theorem e112_7 : mm_E 112 7 ls (.int y :: .int x :: st) I r Q ↔ mm_E 112 8 ls (.int (x - y) :: st) I r Q := me_isub mc_112 dX6_isDigit_7
theorem e112_8 : mm_E 112 8 ls (.int x :: .ref a :: st) I r Q ↔ mm_S r a = (1, 6) ∧ mm_E 112 11 ls st (mm_uI I a 6 x) r Q := me_pi mc_112 dX6_isDigit_8 (by decide +kernel) (by decide +kernel)
theorem e112_11 : mm_E 112 11 [some (.ref a), l1, l2] st I r Q ↔ mm_E 112 12 [some (.ref a), l1, l2] (.ref a :: st) I r Q := me_al mc_112 dX6_isDigit_11 rfl
theorem e112_12 : mm_E 112 12 ls (.ref a :: st) I r Q ↔ mm_S r a = (1, 6) ∧ mm_E 112 15 ls (.int (mm_rd I a 6) :: st) I r Q := me_gi mc_112 dX6_isDigit_12 (by decide +kernel) rfl
theorem e112_15 : mm_E 112 15 [l0, some (.int x), l2] st I r Q ↔ mm_E 112 16 [l0, some (.int x), l2] (.int x :: st) I r Q := me_il mc_112 dX6_isDigit_15 rfl
theorem e112_16 : mm_E 112 16 [l0, l1, some (.int x)] st I r Q ↔ mm_E 112 17 [l0, l1, some (.int x)] (.int x :: st) I r Q := me_il mc_112 dX6_isDigit_16 rfl
theorem e112_17 : ∀ (x0 : Int32) (x1 : Int32) (x2 : Int32), (mm_E 112 17 ls (.int x2 :: .int x1 :: .int x0 :: st) I r Q ↔ mm_w8 st = true ∧ mm_E 93 0 [some (.int x0), some (.int x1), some (.int x2)] [] I r (fun v I2 r2 => mm_E 112 20 ls (mm_pu v st) I2 r2 Q)) := fun x0 x1 x2 => me_sc (n := 3) (As := [.int x0, .int x1, .int x2]) (xs := [.int x2, .int x1, .int x0]) mc_112 dX6_isDigit_17 (by decide +kernel) (by decide +kernel) rfl rfl (Nat.le_of_ble_eq_true rfl) rfl
theorem e112_20 : mm_E 112 20 ls (.int x :: st) I r Q ↔ if ¬ x = 0 then mm_E 112 25 ls st I r Q else mm_E 112 23 ls st I r Q := me_zne mc_112 dX6_isDigit_20 (by decide)
theorem e112_23 : mm_E 112 23 ls st I r Q ↔ mm_E 112 24 ls (.int 0 :: st) I r Q := me_ic mc_112 dX6_isDigit_23 (by decide)
theorem e112_24 : mm_E 112 24 ls [.int x] I r Q ↔ (x = 0 ∨ x = 1) ∧ Q (some (.int x)) I r := me_rz mc_112 dX6_isDigit_24 rfl
theorem e112_25 : mm_E 112 25 [some (.ref a), l1, l2] st I r Q ↔ mm_E 112 26 [some (.ref a), l1, l2] (.ref a :: st) I r Q := me_al mc_112 dX6_isDigit_25 rfl
theorem e112_26 : mm_E 112 26 ls (v :: st) I r Q ↔ v.category = 1 ∧ mm_E 112 27 ls (v :: v :: st) I r Q := me_dup mc_112 dX6_isDigit_26
theorem e112_27 : mm_E 112 27 ls (.ref a :: st) I r Q ↔ mm_S r a = (1, 6) ∧ mm_E 112 30 ls (.int (mm_rd I a 5) :: st) I r Q := me_gi mc_112 dX6_isDigit_27 (by decide +kernel) rfl
theorem e112_30 : mm_E 112 30 ls st I r Q ↔ mm_E 112 31 ls (.int 1 :: st) I r Q := me_ic mc_112 dX6_isDigit_30 (by decide)
theorem e112_31 : mm_E 112 31 ls (.int y :: .int x :: st) I r Q ↔ mm_E 112 32 ls (.int (x + y) :: st) I r Q := me_iadd mc_112 dX6_isDigit_31
theorem e112_32 : mm_E 112 32 ls (.int x :: .ref a :: st) I r Q ↔ mm_S r a = (1, 6) ∧ mm_E 112 35 ls st (mm_uI I a 5 x) r Q := me_pi mc_112 dX6_isDigit_32 (by decide +kernel) (by decide +kernel)
theorem e112_35 : mm_E 112 35 ls st I r Q ↔ mm_E 112 36 ls (.int 1 :: st) I r Q := me_ic mc_112 dX6_isDigit_35 (by decide)
theorem e112_36 : mm_E 112 36 ls [.int x] I r Q ↔ (x = 0 ∨ x = 1) ∧ Q (some (.int x)) I r := me_rz mc_112 dX6_isDigit_36 rfl
theorem mc_113 : mm_c 113 = cX6_isNumber := rfl
theorem e113_0 : mm_E 113 0 [some (.ref a), l1, l2, l3] st I r Q ↔ mm_E 113 1 [some (.ref a), l1, l2, l3] (.ref a :: st) I r Q := me_al mc_113 dX6_isNumber_0 rfl
theorem e113_1 : mm_E 113 1 ls st I r Q ↔ mm_E 113 2 ls (.int 0 :: st) I r Q := me_ic mc_113 dX6_isNumber_1 (by decide)
theorem e113_2 : mm_E 113 2 ls st I r Q ↔ mm_E 113 4 ls (.int 9 :: st) I r Q := me_bi mc_113 dX6_isNumber_2 (by decide)
theorem e113_4 : ∀ (x0 : Int32) (x1 : Int32), (mm_E 113 4 ls (.int x1 :: .int x0 :: .ref a :: st) I r Q ↔ (mm_w8 st = true ∧ mm_S r a = (1, 6)) ∧ mm_E 112 0 [some (.ref a), some (.int x0), some (.int x1)] [] I r (fun v I2 r2 => mm_E 113 7 ls (mm_pu v st) I2 r2 Q)) := fun x0 x1 => me_vc (n := 2) (As := [.int x0, .int x1]) (xs := [.int x1, .int x0]) (a := a) mc_113 dX6_isNumber_4 (by decide +kernel) (by decide +kernel) rfl rfl (Nat.le_of_ble_eq_true rfl) rfl
theorem e113_7 : mm_E 113 7 ls (.int x :: st) I r Q ↔ if ¬ x = 0 then mm_E 113 12 ls st I r Q else mm_E 113 10 ls st I r Q := me_zne mc_113 dX6_isNumber_7 (by decide)
theorem e113_10 : mm_E 113 10 ls st I r Q ↔ mm_E 113 11 ls (.int 0 :: st) I r Q := me_ic mc_113 dX6_isNumber_10 (by decide)
theorem e113_11 : mm_E 113 11 ls [.int x] I r Q ↔ (x = 0 ∨ x = 1) ∧ Q (some (.int x)) I r := me_rz mc_113 dX6_isNumber_11 rfl
theorem e113_12 : mm_E 113 12 [some (.ref a), l1, l2, l3] st I r Q ↔ mm_E 113 13 [some (.ref a), l1, l2, l3] (.ref a :: st) I r Q := me_al mc_113 dX6_isNumber_12 rfl
theorem e113_13 : mm_E 113 13 ls (.ref a :: st) I r Q ↔ mm_S r a = (1, 6) ∧ mm_E 113 16 ls (.int (mm_rd I a 5) :: st) I r Q := me_gi mc_113 dX6_isNumber_13 (by decide +kernel) rfl
theorem e113_16 : mm_E 113 16 ls st I r Q ↔ mm_E 113 17 ls (.int 1 :: st) I r Q := me_ic mc_113 dX6_isNumber_16 (by decide)
theorem e113_17 : mm_E 113 17 ls (.int y :: .int x :: st) I r Q ↔ mm_E 113 18 ls (.int (x - y) :: st) I r Q := me_isub mc_113 dX6_isNumber_17
theorem e113_18 : mm_E 113 18 [l0, l1, l2, l3] (.int x :: st) I r Q ↔ mm_c1 l1 ∧ mm_E 113 19 [l0, l1, some (.int x), l3] st I r Q := me_st (k := 2) (v := .int x) mc_113 dX6_isNumber_18 rfl rfl (Nat.le_of_ble_eq_true rfl) rfl ⟨Or.inr, fun h => h.resolve_left (by decide)⟩
theorem e113_19 : mm_E 113 19 [some (.ref a), l1, l2, l3] st I r Q ↔ mm_E 113 20 [some (.ref a), l1, l2, l3] (.ref a :: st) I r Q := me_al mc_113 dX6_isNumber_19 rfl
theorem e113_20 : mm_E 113 20 ls (.ref a :: st) I r Q ↔ mm_S r a = (1, 6) ∧ mm_E 113 23 ls (.int (mm_rd I a 6) :: st) I r Q := me_gi mc_113 dX6_isNumber_20 (by decide +kernel) rfl
theorem e113_23 : mm_E 113 23 [l0, l1, l2, l3] (.int x :: st) I r Q ↔ mm_c1 l2 ∧ mm_E 113 24 [l0, l1, l2, some (.int x)] st I r Q := me_st (k := 3) (v := .int x) mc_113 dX6_isNumber_23 rfl rfl (Nat.le_of_ble_eq_true rfl) rfl ⟨Or.inr, fun h => h.resolve_left (by decide)⟩
theorem e113_24 : mm_E 113 24 [some (.ref a), l1, l2, l3] st I r Q ↔ mm_E 113 25 [some (.ref a), l1, l2, l3] (.ref a :: st) I r Q := me_al mc_113 dX6_isNumber_24 rfl
theorem e113_25 : mm_E 113 25 ls (.ref a :: st) I r Q ↔ mm_S r a = (1, 6) ∧ mm_E 113 28 ls (.int (mm_rd I a 5) :: st) I r Q := me_gi mc_113 dX6_isNumber_25 (by decide +kernel) rfl
theorem e113_28 : mm_E 113 28 [some (.ref a), l1, l2, l3] st I r Q ↔ mm_E 113 29 [some (.ref a), l1, l2, l3] (.ref a :: st) I r Q := me_al mc_113 dX6_isNumber_28 rfl
theorem e113_29 : mm_E 113 29 ls (.ref a :: st) I r Q ↔ mm_S r a = (1, 6) ∧ mm_E 113 32 ls (.int (mm_rd I a 3) :: st) I r Q := me_gi mc_113 dX6_isNumber_29 (by decide +kernel) rfl
theorem e113_32 : mm_E 113 32 ls (.int y :: .int x :: st) I r Q ↔ if y ≤ x then mm_E 113 82 ls st I r Q else mm_E 113 35 ls st I r Q := me_cge mc_113 dX6_isNumber_32 (by decide)
theorem e113_35 : mm_E 113 35 [some (.ref a), l1, l2, l3] st I r Q ↔ mm_E 113 36 [some (.ref a), l1, l2, l3] (.ref a :: st) I r Q := me_al mc_113 dX6_isNumber_35 rfl
theorem e113_36 : mm_E 113 36 ls (.ref a :: st) I r Q ↔ mm_S r a = (1, 6) ∧ mm_E 113 39 ls (va_rf (mm_P r a 4) :: st) I r Q := me_gr mc_113 dX6_isNumber_36 (by decide +kernel) rfl
theorem e113_39 : mm_E 113 39 [some (.ref a), l1, l2, l3] st I r Q ↔ mm_E 113 40 [some (.ref a), l1, l2, l3] (.ref a :: st) I r Q := me_al mc_113 dX6_isNumber_39 rfl
theorem e113_40 : mm_E 113 40 ls (.ref a :: st) I r Q ↔ mm_S r a = (1, 6) ∧ mm_E 113 43 ls (.int (mm_rd I a 5) :: st) I r Q := me_gi mc_113 dX6_isNumber_40 (by decide +kernel) rfl
theorem e113_43 : mm_E 113 43 ls (.int x :: .ref a :: st) I r Q ↔ mm_ix r a 2 x ∧ mm_E 113 44 ls (.int (mm_rd I a x.toNatClampNeg) :: st) I r Q := me_ia mc_113 dX6_isNumber_43
theorem e113_44 : mm_E 113 44 ls st I r Q ↔ mm_E 113 46 ls (.int 48 :: st) I r Q := me_bi mc_113 dX6_isNumber_44 (by decide)
theorem e113_46 : mm_E 113 46 ls st I r Q ↔ mm_E 113 48 ls (.int 57 :: st) I r Q := me_bi mc_113 dX6_isNumber_46 (by decide)
theorem e113_48 : ∀ (x0 : Int32) (x1 : Int32) (x2 : Int32), (mm_E 113 48 ls (.int x2 :: .int x1 :: .int x0 :: st) I r Q ↔ mm_w8 st = true ∧ mm_E 93 0 [some (.int x0), some (.int x1), some (.int x2)] [] I r (fun v I2 r2 => mm_E 113 51 ls (mm_pu v st) I2 r2 Q)) := fun x0 x1 x2 => me_sc (n := 3) (As := [.int x0, .int x1, .int x2]) (xs := [.int x2, .int x1, .int x0]) mc_113 dX6_isNumber_48 (by decide +kernel) (by decide +kernel) rfl rfl (Nat.le_of_ble_eq_true rfl) rfl
theorem e113_51 : mm_E 113 51 ls (.int x :: st) I r Q ↔ if x = 0 then mm_E 113 82 ls st I r Q else mm_E 113 54 ls st I r Q := me_zeq mc_113 dX6_isNumber_51 (by decide)
theorem e113_54 : mm_E 113 54 ls st I r Q ↔ mm_E 113 56 ls (.int 10 :: st) I r Q := me_bi mc_113 dX6_isNumber_54 (by decide)
theorem e113_56 : mm_E 113 56 [l0, l1, l2, some (.int x)] st I r Q ↔ mm_E 113 57 [l0, l1, l2, some (.int x)] (.int x :: st) I r Q := me_il mc_113 dX6_isNumber_56 rfl
theorem e113_57 : mm_E 113 57 ls (.int y :: .int x :: st) I r Q ↔ mm_E 113 58 ls (.int (x * y) :: st) I r Q := me_imul mc_113 dX6_isNumber_57
theorem e113_58 : mm_E 113 58 [some (.ref a), l1, l2, l3] st I r Q ↔ mm_E 113 59 [some (.ref a), l1, l2, l3] (.ref a :: st) I r Q := me_al mc_113 dX6_isNumber_58 rfl
theorem e113_59 : mm_E 113 59 ls (.ref a :: st) I r Q ↔ mm_S r a = (1, 6) ∧ mm_E 113 62 ls (va_rf (mm_P r a 4) :: st) I r Q := me_gr mc_113 dX6_isNumber_59 (by decide +kernel) rfl
theorem e113_62 : mm_E 113 62 [some (.ref a), l1, l2, l3] st I r Q ↔ mm_E 113 63 [some (.ref a), l1, l2, l3] (.ref a :: st) I r Q := me_al mc_113 dX6_isNumber_62 rfl
theorem e113_63 : mm_E 113 63 ls (.ref a :: st) I r Q ↔ mm_S r a = (1, 6) ∧ mm_E 113 66 ls (.int (mm_rd I a 5) :: st) I r Q := me_gi mc_113 dX6_isNumber_63 (by decide +kernel) rfl
theorem e113_66 : mm_E 113 66 ls (.int x :: .ref a :: st) I r Q ↔ mm_ix r a 2 x ∧ mm_E 113 67 ls (.int (mm_rd I a x.toNatClampNeg) :: st) I r Q := me_ia mc_113 dX6_isNumber_66
theorem e113_67 : mm_E 113 67 ls (.int y :: .int x :: st) I r Q ↔ mm_E 113 68 ls (.int (x + y) :: st) I r Q := me_iadd mc_113 dX6_isNumber_67
theorem e113_68 : mm_E 113 68 ls st I r Q ↔ mm_E 113 70 ls (.int 48 :: st) I r Q := me_bi mc_113 dX6_isNumber_68 (by decide)
theorem e113_70 : mm_E 113 70 ls (.int y :: .int x :: st) I r Q ↔ mm_E 113 71 ls (.int (x - y) :: st) I r Q := me_isub mc_113 dX6_isNumber_70
theorem e113_71 : mm_E 113 71 [l0, l1, l2, l3] (.int x :: st) I r Q ↔ mm_c1 l2 ∧ mm_E 113 72 [l0, l1, l2, some (.int x)] st I r Q := me_st (k := 3) (v := .int x) mc_113 dX6_isNumber_71 rfl rfl (Nat.le_of_ble_eq_true rfl) rfl ⟨Or.inr, fun h => h.resolve_left (by decide)⟩
theorem e113_72 : mm_E 113 72 [some (.ref a), l1, l2, l3] st I r Q ↔ mm_E 113 73 [some (.ref a), l1, l2, l3] (.ref a :: st) I r Q := me_al mc_113 dX6_isNumber_72 rfl
theorem e113_73 : mm_E 113 73 ls (v :: st) I r Q ↔ v.category = 1 ∧ mm_E 113 74 ls (v :: v :: st) I r Q := me_dup mc_113 dX6_isNumber_73
theorem e113_74 : mm_E 113 74 ls (.ref a :: st) I r Q ↔ mm_S r a = (1, 6) ∧ mm_E 113 77 ls (.int (mm_rd I a 5) :: st) I r Q := me_gi mc_113 dX6_isNumber_74 (by decide +kernel) rfl
theorem e113_77 : mm_E 113 77 ls st I r Q ↔ mm_E 113 78 ls (.int 1 :: st) I r Q := me_ic mc_113 dX6_isNumber_77 (by decide)
theorem e113_78 : mm_E 113 78 ls (.int y :: .int x :: st) I r Q ↔ mm_E 113 79 ls (.int (x + y) :: st) I r Q := me_iadd mc_113 dX6_isNumber_78
theorem e113_79 : mm_E 113 79 ls (.int x :: .ref a :: st) I r Q ↔ mm_S r a = (1, 6) ∧ mm_E 113 82 ls st (mm_uI I a 5 x) r Q := me_pi mc_113 dX6_isNumber_79 (by decide +kernel) (by decide +kernel)
theorem e113_82 : mm_E 113 82 [some (.ref a), l1, l2, l3] st I r Q ↔ mm_E 113 83 [some (.ref a), l1, l2, l3] (.ref a :: st) I r Q := me_al mc_113 dX6_isNumber_82 rfl
theorem e113_83 : mm_E 113 83 [l0, l1, l2, some (.int x)] st I r Q ↔ mm_E 113 84 [l0, l1, l2, some (.int x)] (.int x :: st) I r Q := me_il mc_113 dX6_isNumber_83 rfl
theorem e113_84 : mm_E 113 84 ls (.int x :: .ref a :: st) I r Q ↔ mm_S r a = (1, 6) ∧ mm_E 113 87 ls st (mm_uI I a 6 x) r Q := me_pi mc_113 dX6_isNumber_84 (by decide +kernel) (by decide +kernel)
theorem e113_87 : mm_E 113 87 [l0, l1, l2, some (.int x)] st I r Q ↔ mm_E 113 88 [l0, l1, l2, some (.int x)] (.int x :: st) I r Q := me_il mc_113 dX6_isNumber_87 rfl
theorem e113_88 : mm_E 113 88 [l0, some (.int x), l2, l3] st I r Q ↔ mm_E 113 89 [l0, some (.int x), l2, l3] (.int x :: st) I r Q := me_il mc_113 dX6_isNumber_88 rfl
theorem e113_89 : mm_E 113 89 ls (.int y :: .int x :: st) I r Q ↔ if x ≤ y then mm_E 113 99 ls st I r Q else mm_E 113 92 ls st I r Q := me_cle mc_113 dX6_isNumber_89 (by decide)
theorem e113_92 : mm_E 113 92 [some (.ref a), l1, l2, l3] st I r Q ↔ mm_E 113 93 [some (.ref a), l1, l2, l3] (.ref a :: st) I r Q := me_al mc_113 dX6_isNumber_92 rfl
theorem e113_93 : mm_E 113 93 [l0, l1, some (.int x), l3] st I r Q ↔ mm_E 113 94 [l0, l1, some (.int x), l3] (.int x :: st) I r Q := me_il mc_113 dX6_isNumber_93 rfl
theorem e113_94 : mm_E 113 94 ls (.int x :: .ref a :: st) I r Q ↔ mm_S r a = (1, 6) ∧ mm_E 113 97 ls st (mm_uI I a 5 x) r Q := me_pi mc_113 dX6_isNumber_94 (by decide +kernel) (by decide +kernel)
theorem e113_97 : mm_E 113 97 ls st I r Q ↔ mm_E 113 98 ls (.int 0 :: st) I r Q := me_ic mc_113 dX6_isNumber_97 (by decide)
theorem e113_98 : mm_E 113 98 ls [.int x] I r Q ↔ (x = 0 ∨ x = 1) ∧ Q (some (.int x)) I r := me_rz mc_113 dX6_isNumber_98 rfl
theorem e113_99 : mm_E 113 99 [some (.ref a), l1, l2, l3] st I r Q ↔ mm_E 113 100 [some (.ref a), l1, l2, l3] (.ref a :: st) I r Q := me_al mc_113 dX6_isNumber_99 rfl
theorem e113_100 : mm_E 113 100 ls (.ref a :: st) I r Q ↔ mm_S r a = (1, 6) ∧ mm_E 113 103 ls (.int (mm_rd I a 5) :: st) I r Q := me_gi mc_113 dX6_isNumber_100 (by decide +kernel) rfl
theorem e113_103 : mm_E 113 103 [some (.ref a), l1, l2, l3] st I r Q ↔ mm_E 113 104 [some (.ref a), l1, l2, l3] (.ref a :: st) I r Q := me_al mc_113 dX6_isNumber_103 rfl
theorem e113_104 : mm_E 113 104 ls (.ref a :: st) I r Q ↔ mm_S r a = (1, 6) ∧ mm_E 113 107 ls (.int (mm_rd I a 3) :: st) I r Q := me_gi mc_113 dX6_isNumber_104 (by decide +kernel) rfl
theorem e113_107 : mm_E 113 107 ls (.int y :: .int x :: st) I r Q ↔ if x = y then mm_E 113 129 ls st I r Q else mm_E 113 110 ls st I r Q := me_ceq mc_113 dX6_isNumber_107 (by decide)
theorem e113_110 : mm_E 113 110 [some (.ref a), l1, l2, l3] st I r Q ↔ mm_E 113 111 [some (.ref a), l1, l2, l3] (.ref a :: st) I r Q := me_al mc_113 dX6_isNumber_110 rfl
theorem e113_111 : mm_E 113 111 ls (.ref a :: st) I r Q ↔ mm_S r a = (1, 6) ∧ mm_E 113 114 ls (va_rf (mm_P r a 4) :: st) I r Q := me_gr mc_113 dX6_isNumber_111 (by decide +kernel) rfl
theorem e113_114 : mm_E 113 114 [some (.ref a), l1, l2, l3] st I r Q ↔ mm_E 113 115 [some (.ref a), l1, l2, l3] (.ref a :: st) I r Q := me_al mc_113 dX6_isNumber_114 rfl
theorem e113_115 : mm_E 113 115 ls (.ref a :: st) I r Q ↔ mm_S r a = (1, 6) ∧ mm_E 113 118 ls (.int (mm_rd I a 5) :: st) I r Q := me_gi mc_113 dX6_isNumber_115 (by decide +kernel) rfl
theorem e113_118 : mm_E 113 118 ls (.int x :: .ref a :: st) I r Q ↔ mm_ix r a 2 x ∧ mm_E 113 119 ls (.int (mm_rd I a x.toNatClampNeg) :: st) I r Q := me_ia mc_113 dX6_isNumber_118
theorem e113_119 : mm_E 113 119 ls st I r Q ↔ mm_E 113 121 ls (.int 48 :: st) I r Q := me_bi mc_113 dX6_isNumber_119 (by decide)
theorem e113_121 : mm_E 113 121 ls st I r Q ↔ mm_E 113 123 ls (.int 57 :: st) I r Q := me_bi mc_113 dX6_isNumber_121 (by decide)
theorem e113_123 : ∀ (x0 : Int32) (x1 : Int32) (x2 : Int32), (mm_E 113 123 ls (.int x2 :: .int x1 :: .int x0 :: st) I r Q ↔ mm_w8 st = true ∧ mm_E 93 0 [some (.int x0), some (.int x1), some (.int x2)] [] I r (fun v I2 r2 => mm_E 113 126 ls (mm_pu v st) I2 r2 Q)) := fun x0 x1 x2 => me_sc (n := 3) (As := [.int x0, .int x1, .int x2]) (xs := [.int x2, .int x1, .int x0]) mc_113 dX6_isNumber_123 (by decide +kernel) (by decide +kernel) rfl rfl (Nat.le_of_ble_eq_true rfl) rfl
theorem e113_126 : mm_E 113 126 ls (.int x :: st) I r Q ↔ if ¬ x = 0 then mm_E 113 133 ls st I r Q else mm_E 113 129 ls st I r Q := me_zne mc_113 dX6_isNumber_126 (by decide)
theorem e113_129 : mm_E 113 129 ls st I r Q ↔ mm_E 113 130 ls (.int 1 :: st) I r Q := me_ic mc_113 dX6_isNumber_129 (by decide)
theorem e113_130 : mm_E 113 130 ls st I r Q ↔ mm_E 113 134 ls st I r Q := me_goto mc_113 dX6_isNumber_130 (by decide)
theorem e113_133 : mm_E 113 133 ls st I r Q ↔ mm_E 113 134 ls (.int 0 :: st) I r Q := me_ic mc_113 dX6_isNumber_133 (by decide)
theorem e113_134 : mm_E 113 134 ls [.int x] I r Q ↔ (x = 0 ∨ x = 1) ∧ Q (some (.int x)) I r := me_rz mc_113 dX6_isNumber_134 rfl
theorem mc_114 : mm_c 114 = cX6_kindBy := rfl
theorem e114_0 : mm_E 114 0 [some (.int x)] st I r Q ↔ mm_E 114 1 [some (.int x)] (.int x :: st) I r Q := me_il mc_114 dX6_kindBy_0 rfl
theorem e114_1 : mm_E 114 1 ls st I r Q ↔ mm_E 114 3 ls (.int 112 :: st) I r Q := me_bi mc_114 dX6_kindBy_1 (by decide)
theorem e114_3 : mm_E 114 3 ls (.int y :: .int x :: st) I r Q ↔ if ¬ x = y then mm_E 114 10 ls st I r Q else mm_E 114 6 ls st I r Q := me_cne mc_114 dX6_kindBy_3 (by decide)
theorem e114_6 : mm_E 114 6 ls st I r Q ↔ mm_E 114 7 ls (.int 0 :: st) I r Q := me_ic mc_114 dX6_kindBy_6 (by decide)
theorem e114_7 : mm_E 114 7 ls st I r Q ↔ mm_E 114 51 ls st I r Q := me_goto mc_114 dX6_kindBy_7 (by decide)
theorem e114_10 : mm_E 114 10 [some (.int x)] st I r Q ↔ mm_E 114 11 [some (.int x)] (.int x :: st) I r Q := me_il mc_114 dX6_kindBy_10 rfl
theorem e114_11 : mm_E 114 11 ls st I r Q ↔ mm_E 114 13 ls (.int 103 :: st) I r Q := me_bi mc_114 dX6_kindBy_11 (by decide)
theorem e114_13 : mm_E 114 13 ls (.int y :: .int x :: st) I r Q ↔ if ¬ x = y then mm_E 114 20 ls st I r Q else mm_E 114 16 ls st I r Q := me_cne mc_114 dX6_kindBy_13 (by decide)
theorem e114_16 : mm_E 114 16 ls st I r Q ↔ mm_E 114 17 ls (.int 1 :: st) I r Q := me_ic mc_114 dX6_kindBy_16 (by decide)
theorem e114_17 : mm_E 114 17 ls st I r Q ↔ mm_E 114 51 ls st I r Q := me_goto mc_114 dX6_kindBy_17 (by decide)
theorem e114_20 : mm_E 114 20 [some (.int x)] st I r Q ↔ mm_E 114 21 [some (.int x)] (.int x :: st) I r Q := me_il mc_114 dX6_kindBy_20 rfl
theorem e114_21 : mm_E 114 21 ls st I r Q ↔ mm_E 114 23 ls (.int 115 :: st) I r Q := me_bi mc_114 dX6_kindBy_21 (by decide)
theorem e114_23 : mm_E 114 23 ls (.int y :: .int x :: st) I r Q ↔ if ¬ x = y then mm_E 114 30 ls st I r Q else mm_E 114 26 ls st I r Q := me_cne mc_114 dX6_kindBy_23 (by decide)
theorem e114_26 : mm_E 114 26 ls st I r Q ↔ mm_E 114 27 ls (.int 2 :: st) I r Q := me_ic mc_114 dX6_kindBy_26 (by decide)
theorem e114_27 : mm_E 114 27 ls st I r Q ↔ mm_E 114 51 ls st I r Q := me_goto mc_114 dX6_kindBy_27 (by decide)
theorem e114_30 : mm_E 114 30 [some (.int x)] st I r Q ↔ mm_E 114 31 [some (.int x)] (.int x :: st) I r Q := me_il mc_114 dX6_kindBy_30 rfl
theorem e114_31 : mm_E 114 31 ls st I r Q ↔ mm_E 114 33 ls (.int 102 :: st) I r Q := me_bi mc_114 dX6_kindBy_31 (by decide)
theorem e114_33 : mm_E 114 33 ls (.int y :: .int x :: st) I r Q ↔ if ¬ x = y then mm_E 114 40 ls st I r Q else mm_E 114 36 ls st I r Q := me_cne mc_114 dX6_kindBy_33 (by decide)
theorem e114_36 : mm_E 114 36 ls st I r Q ↔ mm_E 114 37 ls (.int 3 :: st) I r Q := me_ic mc_114 dX6_kindBy_36 (by decide)
theorem e114_37 : mm_E 114 37 ls st I r Q ↔ mm_E 114 51 ls st I r Q := me_goto mc_114 dX6_kindBy_37 (by decide)
theorem e114_40 : mm_E 114 40 [some (.int x)] st I r Q ↔ mm_E 114 41 [some (.int x)] (.int x :: st) I r Q := me_il mc_114 dX6_kindBy_40 rfl
theorem e114_41 : mm_E 114 41 ls st I r Q ↔ mm_E 114 43 ls (.int 121 :: st) I r Q := me_bi mc_114 dX6_kindBy_41 (by decide)
theorem e114_43 : mm_E 114 43 ls (.int y :: .int x :: st) I r Q ↔ if ¬ x = y then mm_E 114 50 ls st I r Q else mm_E 114 46 ls st I r Q := me_cne mc_114 dX6_kindBy_43 (by decide)
theorem e114_46 : mm_E 114 46 ls st I r Q ↔ mm_E 114 47 ls (.int 4 :: st) I r Q := me_ic mc_114 dX6_kindBy_46 (by decide)
theorem e114_47 : mm_E 114 47 ls st I r Q ↔ mm_E 114 51 ls st I r Q := me_goto mc_114 dX6_kindBy_47 (by decide)
theorem e114_50 : mm_E 114 50 ls st I r Q ↔ mm_E 114 51 ls (.int (-1) :: st) I r Q := me_ic mc_114 dX6_kindBy_50 (by decide)
theorem e114_51 : mm_E 114 51 ls [.int x] I r Q ↔ Q (some (.int x)) I r := me_ri mc_114 dX6_kindBy_51 rfl
theorem mc_115 : mm_c 115 = cX6_isHouseItem := rfl
theorem e115_0 : mm_E 115 0 [some (.ref a), l1, l2, l3] st I r Q ↔ mm_E 115 1 [some (.ref a), l1, l2, l3] (.ref a :: st) I r Q := me_al mc_115 dX6_isHouseItem_0 rfl
theorem e115_1 : mm_E 115 1 ls st I r Q ↔ mm_E 115 3 ls (.int 99 :: st) I r Q := me_bi mc_115 dX6_isHouseItem_1 (by decide)
theorem e115_3 : ∀ (x0 : Int32), (mm_E 115 3 ls (.int x0 :: .ref a :: st) I r Q ↔ (mm_w8 st = true ∧ mm_S r a = (1, 6)) ∧ mm_E 113 0 [some (.ref a), some (.int x0), none, none] [] I r (fun v I2 r2 => mm_E 115 6 ls (mm_pu v st) I2 r2 Q)) := fun x0 => me_vc (n := 1) (As := [.int x0]) (xs := [.int x0]) (a := a) mc_115 dX6_isHouseItem_3 (by decide +kernel) (by decide +kernel) rfl rfl (Nat.le_of_ble_eq_true rfl) rfl
theorem e115_6 : mm_E 115 6 ls (.int x :: st) I r Q ↔ if ¬ x = 0 then mm_E 115 11 ls st I r Q else mm_E 115 9 ls st I r Q := me_zne mc_115 dX6_isHouseItem_6 (by decide)
theorem e115_9 : mm_E 115 9 ls st I r Q ↔ mm_E 115 10 ls (.int 0 :: st) I r Q := me_ic mc_115 dX6_isHouseItem_9 (by decide)
theorem e115_10 : mm_E 115 10 ls [.int x] I r Q ↔ (x = 0 ∨ x = 1) ∧ Q (some (.int x)) I r := me_rz mc_115 dX6_isHouseItem_10 rfl
theorem e115_11 : mm_E 115 11 ls st I r Q ↔ mm_E 115 13 ls (.int 10 :: st) I r Q := me_bi mc_115 dX6_isHouseItem_11 (by decide)
theorem e115_13 : mm_E 115 13 [some (.ref a), l1, l2, l3] st I r Q ↔ mm_E 115 14 [some (.ref a), l1, l2, l3] (.ref a :: st) I r Q := me_al mc_115 dX6_isHouseItem_13 rfl
theorem e115_14 : mm_E 115 14 ls (.ref a :: st) I r Q ↔ mm_S r a = (1, 6) ∧ mm_E 115 17 ls (.int (mm_rd I a 6) :: st) I r Q := me_gi mc_115 dX6_isHouseItem_14 (by decide +kernel) rfl
theorem e115_17 : mm_E 115 17 ls (.int y :: .int x :: st) I r Q ↔ mm_E 115 18 ls (.int (x * y) :: st) I r Q := me_imul mc_115 dX6_isHouseItem_17
theorem e115_18 : mm_E 115 18 [l0, l1, l2, l3] (.int x :: st) I r Q ↔ mm_c1 l0 ∧ mm_E 115 19 [l0, some (.int x), l2, l3] st I r Q := me_st (k := 1) (v := .int x) mc_115 dX6_isHouseItem_18 rfl rfl (Nat.le_of_ble_eq_true rfl) rfl ⟨Or.inr, fun h => h.resolve_left (by decide)⟩
theorem e115_19 : mm_E 115 19 [some (.ref a), l1, l2, l3] st I r Q ↔ mm_E 115 20 [some (.ref a), l1, l2, l3] (.ref a :: st) I r Q := me_al mc_115 dX6_isHouseItem_19 rfl
theorem e115_20 : mm_E 115 20 ls st I r Q ↔ mm_E 115 22 ls (.int 46 :: st) I r Q := me_bi mc_115 dX6_isHouseItem_20 (by decide)
theorem e115_22 : ∀ (x0 : Int32), (mm_E 115 22 ls (.int x0 :: .ref a :: st) I r Q ↔ (mm_w8 st = true ∧ mm_S r a = (1, 6)) ∧ mm_E 111 0 [some (.ref a), some (.int x0)] [] I r (fun v I2 r2 => mm_E 115 25 ls (mm_pu v st) I2 r2 Q)) := fun x0 => me_vc (n := 1) (As := [.int x0]) (xs := [.int x0]) (a := a) mc_115 dX6_isHouseItem_22 (by decide +kernel) (by decide +kernel) rfl rfl (Nat.le_of_ble_eq_true rfl) rfl
theorem e115_25 : mm_E 115 25 ls (.int x :: st) I r Q ↔ if x = 0 then mm_E 115 37 ls st I r Q else mm_E 115 28 ls st I r Q := me_zeq mc_115 dX6_isHouseItem_25 (by decide)
theorem e115_28 : mm_E 115 28 [some (.ref a), l1, l2, l3] st I r Q ↔ mm_E 115 29 [some (.ref a), l1, l2, l3] (.ref a :: st) I r Q := me_al mc_115 dX6_isHouseItem_28 rfl
theorem e115_29 : mm_E 115 29 ls st I r Q ↔ mm_E 115 31 ls (.int 20 :: st) I r Q := me_bi mc_115 dX6_isHouseItem_29 (by decide)
theorem e115_31 : ∀ (x0 : Int32), (mm_E 115 31 ls (.int x0 :: .ref a :: st) I r Q ↔ (mm_w8 st = true ∧ mm_S r a = (1, 6)) ∧ mm_E 113 0 [some (.ref a), some (.int x0), none, none] [] I r (fun v I2 r2 => mm_E 115 34 ls (mm_pu v st) I2 r2 Q)) := fun x0 => me_vc (n := 1) (As := [.int x0]) (xs := [.int x0]) (a := a) mc_115 dX6_isHouseItem_31 (by decide +kernel) (by decide +kernel) rfl rfl (Nat.le_of_ble_eq_true rfl) rfl
theorem e115_34 : mm_E 115 34 ls (.int x :: st) I r Q ↔ if ¬ x = 0 then mm_E 115 39 ls st I r Q else mm_E 115 37 ls st I r Q := me_zne mc_115 dX6_isHouseItem_34 (by decide)
theorem e115_37 : mm_E 115 37 ls st I r Q ↔ mm_E 115 38 ls (.int 0 :: st) I r Q := me_ic mc_115 dX6_isHouseItem_37 (by decide)
theorem e115_38 : mm_E 115 38 ls [.int x] I r Q ↔ (x = 0 ∨ x = 1) ∧ Q (some (.int x)) I r := me_rz mc_115 dX6_isHouseItem_38 rfl
theorem e115_39 : mm_E 115 39 [some (.ref a), l1, l2, l3] st I r Q ↔ mm_E 115 40 [some (.ref a), l1, l2, l3] (.ref a :: st) I r Q := me_al mc_115 dX6_isHouseItem_39 rfl
theorem e115_40 : mm_E 115 40 ls (.ref a :: st) I r Q ↔ mm_S r a = (1, 6) ∧ mm_E 115 43 ls (va_rf (mm_P r a 9) :: st) I r Q := me_gr mc_115 dX6_isHouseItem_40 (by decide +kernel) rfl
theorem e115_43 : mm_E 115 43 [l0, some (.int x), l2, l3] st I r Q ↔ mm_E 115 44 [l0, some (.int x), l2, l3] (.int x :: st) I r Q := me_il mc_115 dX6_isHouseItem_43 rfl
theorem e115_44 : mm_E 115 44 [some (.ref a), l1, l2, l3] st I r Q ↔ mm_E 115 45 [some (.ref a), l1, l2, l3] (.ref a :: st) I r Q := me_al mc_115 dX6_isHouseItem_44 rfl
theorem e115_45 : mm_E 115 45 ls (.ref a :: st) I r Q ↔ mm_S r a = (1, 6) ∧ mm_E 115 48 ls (.int (mm_rd I a 6) :: st) I r Q := me_gi mc_115 dX6_isHouseItem_45 (by decide +kernel) rfl
theorem e115_48 : ∀ (x0 : Nat) (x1 : Int32) (x2 : Int32), (mm_E 115 48 ls (.int x2 :: .int x1 :: .ref x0 :: st) I r Q ↔ mm_w8 st = true ∧ mm_E 99 0 [some (.ref x0), some (.int x1), some (.int x2), none] [] I r (fun v I2 r2 => mm_E 115 51 ls (mm_pu v st) I2 r2 Q)) := fun x0 x1 x2 => me_sc (n := 3) (As := [.ref x0, .int x1, .int x2]) (xs := [.int x2, .int x1, .ref x0]) mc_115 dX6_isHouseItem_48 (by decide +kernel) (by decide +kernel) rfl rfl (Nat.le_of_ble_eq_true rfl) rfl
theorem e115_51 : mm_E 115 51 [l0, l1, l2, l3] (.int x :: st) I r Q ↔ mm_c1 l1 ∧ mm_E 115 52 [l0, l1, some (.int x), l3] st I r Q := me_st (k := 2) (v := .int x) mc_115 dX6_isHouseItem_51 rfl rfl (Nat.le_of_ble_eq_true rfl) rfl ⟨Or.inr, fun h => h.resolve_left (by decide)⟩
theorem e115_52 : mm_E 115 52 ls st I r Q ↔ mm_E 115 53 ls (.int 0 :: st) I r Q := me_ic mc_115 dX6_isHouseItem_52 (by decide)
theorem e115_53 : mm_E 115 53 [l0, l1, l2, l3] (.int x :: st) I r Q ↔ mm_c1 l2 ∧ mm_E 115 54 [l0, l1, l2, some (.int x)] st I r Q := me_st (k := 3) (v := .int x) mc_115 dX6_isHouseItem_53 rfl rfl (Nat.le_of_ble_eq_true rfl) rfl ⟨Or.inr, fun h => h.resolve_left (by decide)⟩
theorem e115_54 : mm_E 115 54 [l0, l1, l2, some (.int x)] st I r Q ↔ mm_E 115 55 [l0, l1, l2, some (.int x)] (.int x :: st) I r Q := me_il mc_115 dX6_isHouseItem_54 rfl
theorem e115_55 : mm_E 115 55 ls st I r Q ↔ mm_E 115 56 ls (.int 3 :: st) I r Q := me_ic mc_115 dX6_isHouseItem_55 (by decide)
theorem e115_56 : mm_E 115 56 ls (.int y :: .int x :: st) I r Q ↔ if y ≤ x then mm_E 115 91 ls st I r Q else mm_E 115 59 ls st I r Q := me_cge mc_115 dX6_isHouseItem_56 (by decide)
theorem e115_59 : mm_E 115 59 [some (.ref a), l1, l2, l3] st I r Q ↔ mm_E 115 60 [some (.ref a), l1, l2, l3] (.ref a :: st) I r Q := me_al mc_115 dX6_isHouseItem_59 rfl
theorem e115_60 : mm_E 115 60 ls (.ref a :: st) I r Q ↔ mm_S r a = (1, 6) ∧ mm_E 115 63 ls (va_rf (mm_P r a 9) :: st) I r Q := me_gr mc_115 dX6_isHouseItem_60 (by decide +kernel) rfl
theorem e115_63 : mm_E 115 63 ls st I r Q ↔ mm_E 115 65 ls (.int 15 :: st) I r Q := me_bi mc_115 dX6_isHouseItem_63 (by decide)
theorem e115_65 : mm_E 115 65 [l0, l1, some (.int x), l3] st I r Q ↔ mm_E 115 66 [l0, l1, some (.int x), l3] (.int x :: st) I r Q := me_il mc_115 dX6_isHouseItem_65 rfl
theorem e115_66 : mm_E 115 66 ls (.int y :: .int x :: st) I r Q ↔ mm_E 115 67 ls (.int (x + y) :: st) I r Q := me_iadd mc_115 dX6_isHouseItem_66
theorem e115_67 : mm_E 115 67 ls (u :: v :: st) I r Q ↔ (v.category = 1 ∧ u.category = 1) ∧ mm_E 115 68 ls (u :: v :: u :: v :: st) I r Q := me_dup2 mc_115 dX6_isHouseItem_67
theorem e115_68 : mm_E 115 68 ls (.int x :: .ref a :: st) I r Q ↔ mm_ix r a 2 x ∧ mm_E 115 69 ls (.int (mm_rd I a x.toNatClampNeg) :: st) I r Q := me_ia mc_115 dX6_isHouseItem_68
theorem e115_69 : mm_E 115 69 [some (.ref a), l1, l2, l3] st I r Q ↔ mm_E 115 70 [some (.ref a), l1, l2, l3] (.ref a :: st) I r Q := me_al mc_115 dX6_isHouseItem_69 rfl
theorem e115_70 : mm_E 115 70 ls st I r Q ↔ mm_E 115 72 ls (.int 33 :: st) I r Q := me_bi mc_115 dX6_isHouseItem_70 (by decide)
theorem e115_72 : ∀ (x0 : Int32), (mm_E 115 72 ls (.int x0 :: .ref a :: st) I r Q ↔ (mm_w8 st = true ∧ mm_S r a = (1, 6)) ∧ mm_E 111 0 [some (.ref a), some (.int x0)] [] I r (fun v I2 r2 => mm_E 115 75 ls (mm_pu v st) I2 r2 Q)) := fun x0 => me_vc (n := 1) (As := [.int x0]) (xs := [.int x0]) (a := a) mc_115 dX6_isHouseItem_72 (by decide +kernel) (by decide +kernel) rfl rfl (Nat.le_of_ble_eq_true rfl) rfl
theorem e115_75 : mm_E 115 75 ls (.int x :: st) I r Q ↔ if x = 0 then mm_E 115 82 ls st I r Q else mm_E 115 78 ls st I r Q := me_zeq mc_115 dX6_isHouseItem_75 (by decide)
theorem e115_78 : mm_E 115 78 ls st I r Q ↔ mm_E 115 79 ls (.int 1 :: st) I r Q := me_ic mc_115 dX6_isHouseItem_78 (by decide)
theorem e115_79 : mm_E 115 79 ls st I r Q ↔ mm_E 115 83 ls st I r Q := me_goto mc_115 dX6_isHouseItem_79 (by decide)
theorem e115_82 : mm_E 115 82 ls st I r Q ↔ mm_E 115 83 ls (.int 0 :: st) I r Q := me_ic mc_115 dX6_isHouseItem_82 (by decide)
theorem e115_83 : mm_E 115 83 ls (.int y :: .int x :: st) I r Q ↔ mm_E 115 84 ls (.int (x + y) :: st) I r Q := me_iadd mc_115 dX6_isHouseItem_83
theorem e115_84 : mm_E 115 84 ls (.int y :: .int x :: .ref a :: st) I r Q ↔ mm_ix r a 2 x ∧ mm_E 115 85 ls st (mm_uI I a x.toNatClampNeg y) r Q := me_is mc_115 dX6_isHouseItem_84
theorem e115_85 : mm_E 115 85 [l0, l1, l2, some (.int x)] st I r Q ↔ mm_c1 l2 ∧ mm_E 115 88 [l0, l1, l2, some (.int (x + 1))] st I r Q := me_st (k := 3) (v := .int (x + 1)) mc_115 dX6_isHouseItem_85 rfl rfl (Nat.le_of_ble_eq_true rfl) rfl ⟨Or.inr, fun h => h.resolve_left (by decide)⟩
theorem e115_88 : mm_E 115 88 ls st I r Q ↔ mm_E 115 54 ls st I r Q := me_goto mc_115 dX6_isHouseItem_88 (by decide)
theorem e115_91 : mm_E 115 91 ls st I r Q ↔ mm_E 115 92 ls (.int 1 :: st) I r Q := me_ic mc_115 dX6_isHouseItem_91 (by decide)
theorem e115_92 : mm_E 115 92 ls [.int x] I r Q ↔ (x = 0 ∨ x = 1) ∧ Q (some (.int x)) I r := me_rz mc_115 dX6_isHouseItem_92 rfl
theorem mc_116 : mm_c 116 = cX6_isHogItem := rfl
theorem e116_0 : mm_E 116 0 [some (.ref a), l1, l2] st I r Q ↔ mm_E 116 1 [some (.ref a), l1, l2] (.ref a :: st) I r Q := me_al mc_116 dX6_isHogItem_0 rfl
theorem e116_1 : (mm_E 116 1 ls (.ref a :: st) I r Q ↔ (mm_w8 st = true ∧ mm_S r a = (1, 6)) ∧ mm_E 110 0 [some (.ref a)] [] I r (fun v I2 r2 => mm_E 116 4 ls (mm_pu v st) I2 r2 Q)) := me_vc (n := 0) (As := []) (xs := []) (a := a) mc_116 dX6_isHogItem_1 (by decide +kernel) (by decide +kernel) rfl rfl (Nat.le_of_ble_eq_true rfl) rfl
theorem e116_4 : ∀ (x0 : Int32), (mm_E 116 4 ls (.int x0 :: st) I r Q ↔ mm_w8 st = true ∧ mm_E 114 0 [some (.int x0)] [] I r (fun v I2 r2 => mm_E 116 7 ls (mm_pu v st) I2 r2 Q)) := fun x0 => me_sc (n := 1) (As := [.int x0]) (xs := [.int x0]) mc_116 dX6_isHogItem_4 (by decide +kernel) (by decide +kernel) rfl rfl (Nat.le_of_ble_eq_true rfl) rfl
theorem e116_7 : mm_E 116 7 [l0, l1, l2] (.int x :: st) I r Q ↔ mm_c1 l0 ∧ mm_E 116 8 [l0, some (.int x), l2] st I r Q := me_st (k := 1) (v := .int x) mc_116 dX6_isHogItem_7 rfl rfl (Nat.le_of_ble_eq_true rfl) rfl ⟨Or.inr, fun h => h.resolve_left (by decide)⟩
theorem e116_8 : mm_E 116 8 [l0, some (.int x), l2] st I r Q ↔ mm_E 116 9 [l0, some (.int x), l2] (.int x :: st) I r Q := me_il mc_116 dX6_isHogItem_8 rfl
theorem e116_9 : mm_E 116 9 ls (.int x :: st) I r Q ↔ if 0 ≤ x then mm_E 116 14 ls st I r Q else mm_E 116 12 ls st I r Q := me_zge mc_116 dX6_isHogItem_9 (by decide)
theorem e116_12 : mm_E 116 12 ls st I r Q ↔ mm_E 116 13 ls (.int 0 :: st) I r Q := me_ic mc_116 dX6_isHogItem_12 (by decide)
theorem e116_13 : mm_E 116 13 ls [.int x] I r Q ↔ (x = 0 ∨ x = 1) ∧ Q (some (.int x)) I r := me_rz mc_116 dX6_isHogItem_13 rfl
theorem e116_14 : mm_E 116 14 [some (.ref a), l1, l2] st I r Q ↔ mm_E 116 15 [some (.ref a), l1, l2] (.ref a :: st) I r Q := me_al mc_116 dX6_isHogItem_14 rfl
theorem e116_15 : mm_E 116 15 ls (v :: st) I r Q ↔ v.category = 1 ∧ mm_E 116 16 ls (v :: v :: st) I r Q := me_dup mc_116 dX6_isHogItem_15
theorem e116_16 : mm_E 116 16 ls (.ref a :: st) I r Q ↔ mm_S r a = (1, 6) ∧ mm_E 116 19 ls (.int (mm_rd I a 5) :: st) I r Q := me_gi mc_116 dX6_isHogItem_16 (by decide +kernel) rfl
theorem e116_19 : mm_E 116 19 ls st I r Q ↔ mm_E 116 20 ls (.int 1 :: st) I r Q := me_ic mc_116 dX6_isHogItem_19 (by decide)
theorem e116_20 : mm_E 116 20 ls (.int y :: .int x :: st) I r Q ↔ mm_E 116 21 ls (.int (x + y) :: st) I r Q := me_iadd mc_116 dX6_isHogItem_20
theorem e116_21 : mm_E 116 21 ls (.int x :: .ref a :: st) I r Q ↔ mm_S r a = (1, 6) ∧ mm_E 116 24 ls st (mm_uI I a 5 x) r Q := me_pi mc_116 dX6_isHogItem_21 (by decide +kernel) (by decide +kernel)
theorem e116_24 : mm_E 116 24 [some (.ref a), l1, l2] st I r Q ↔ mm_E 116 25 [some (.ref a), l1, l2] (.ref a :: st) I r Q := me_al mc_116 dX6_isHogItem_24 rfl
theorem e116_25 : mm_E 116 25 ls st I r Q ↔ mm_E 116 26 ls (.int 1 :: st) I r Q := me_ic mc_116 dX6_isHogItem_25 (by decide)
theorem e116_26 : mm_E 116 26 ls st I r Q ↔ mm_E 116 28 ls (.int 9 :: st) I r Q := me_bi mc_116 dX6_isHogItem_26 (by decide)
theorem e116_28 : ∀ (x0 : Int32) (x1 : Int32), (mm_E 116 28 ls (.int x1 :: .int x0 :: .ref a :: st) I r Q ↔ (mm_w8 st = true ∧ mm_S r a = (1, 6)) ∧ mm_E 112 0 [some (.ref a), some (.int x0), some (.int x1)] [] I r (fun v I2 r2 => mm_E 116 31 ls (mm_pu v st) I2 r2 Q)) := fun x0 x1 => me_vc (n := 2) (As := [.int x0, .int x1]) (xs := [.int x1, .int x0]) (a := a) mc_116 dX6_isHogItem_28 (by decide +kernel) (by decide +kernel) rfl rfl (Nat.le_of_ble_eq_true rfl) rfl
theorem e116_31 : mm_E 116 31 ls (.int x :: st) I r Q ↔ if ¬ x = 0 then mm_E 116 36 ls st I r Q else mm_E 116 34 ls st I r Q := me_zne mc_116 dX6_isHogItem_31 (by decide)
theorem e116_34 : mm_E 116 34 ls st I r Q ↔ mm_E 116 35 ls (.int 0 :: st) I r Q := me_ic mc_116 dX6_isHogItem_34 (by decide)
theorem e116_35 : mm_E 116 35 ls [.int x] I r Q ↔ (x = 0 ∨ x = 1) ∧ Q (some (.int x)) I r := me_rz mc_116 dX6_isHogItem_35 rfl
theorem e116_36 : mm_E 116 36 [some (.ref a), l1, l2] st I r Q ↔ mm_E 116 37 [some (.ref a), l1, l2] (.ref a :: st) I r Q := me_al mc_116 dX6_isHogItem_36 rfl
theorem e116_37 : mm_E 116 37 ls (.ref a :: st) I r Q ↔ mm_S r a = (1, 6) ∧ mm_E 116 40 ls (va_rf (mm_P r a 9) :: st) I r Q := me_gr mc_116 dX6_isHogItem_37 (by decide +kernel) rfl
theorem e116_40 : mm_E 116 40 [l0, some (.int x), l2] st I r Q ↔ mm_E 116 41 [l0, some (.int x), l2] (.int x :: st) I r Q := me_il mc_116 dX6_isHogItem_40 rfl
theorem e116_41 : mm_E 116 41 [some (.ref a), l1, l2] st I r Q ↔ mm_E 116 42 [some (.ref a), l1, l2] (.ref a :: st) I r Q := me_al mc_116 dX6_isHogItem_41 rfl
theorem e116_42 : mm_E 116 42 ls (.ref a :: st) I r Q ↔ mm_S r a = (1, 6) ∧ mm_E 116 45 ls (.int (mm_rd I a 6) :: st) I r Q := me_gi mc_116 dX6_isHogItem_42 (by decide +kernel) rfl
theorem e116_45 : mm_E 116 45 ls st I r Q ↔ mm_E 116 46 ls (.int 0 :: st) I r Q := me_ic mc_116 dX6_isHogItem_45 (by decide)
theorem e116_46 : ∀ (x0 : Nat) (x1 : Int32) (x2 : Int32) (x3 : Int32), (mm_E 116 46 ls (.int x3 :: .int x2 :: .int x1 :: .ref x0 :: st) I r Q ↔ mm_w8 st = true ∧ mm_E 100 0 [some (.ref x0), some (.int x1), some (.int x2), some (.int x3), none] [] I r (fun v I2 r2 => mm_E 116 49 ls (mm_pu v st) I2 r2 Q)) := fun x0 x1 x2 x3 => me_sc (n := 4) (As := [.ref x0, .int x1, .int x2, .int x3]) (xs := [.int x3, .int x2, .int x1, .ref x0]) mc_116 dX6_isHogItem_46 (by decide +kernel) (by decide +kernel) rfl rfl (Nat.le_of_ble_eq_true rfl) rfl
theorem e116_49 : mm_E 116 49 [l0, l1, l2] (.int x :: st) I r Q ↔ mm_c1 l1 ∧ mm_E 116 50 [l0, l1, some (.int x)] st I r Q := me_st (k := 2) (v := .int x) mc_116 dX6_isHogItem_49 rfl rfl (Nat.le_of_ble_eq_true rfl) rfl ⟨Or.inr, fun h => h.resolve_left (by decide)⟩
theorem e116_50 : mm_E 116 50 [some (.ref a), l1, l2] st I r Q ↔ mm_E 116 51 [some (.ref a), l1, l2] (.ref a :: st) I r Q := me_al mc_116 dX6_isHogItem_50 rfl
theorem e116_51 : mm_E 116 51 ls st I r Q ↔ mm_E 116 53 ls (.int 64 :: st) I r Q := me_bi mc_116 dX6_isHogItem_51 (by decide)
theorem e116_53 : ∀ (x0 : Int32), (mm_E 116 53 ls (.int x0 :: .ref a :: st) I r Q ↔ (mm_w8 st = true ∧ mm_S r a = (1, 6)) ∧ mm_E 111 0 [some (.ref a), some (.int x0)] [] I r (fun v I2 r2 => mm_E 116 56 ls (mm_pu v st) I2 r2 Q)) := fun x0 => me_vc (n := 1) (As := [.int x0]) (xs := [.int x0]) (a := a) mc_116 dX6_isHogItem_53 (by decide +kernel) (by decide +kernel) rfl rfl (Nat.le_of_ble_eq_true rfl) rfl
theorem e116_56 : mm_E 116 56 ls (.int x :: st) I r Q ↔ if x = 0 then mm_E 116 91 ls st I r Q else mm_E 116 59 ls st I r Q := me_zeq mc_116 dX6_isHogItem_56 (by decide)
theorem e116_59 : mm_E 116 59 [some (.ref a), l1, l2] st I r Q ↔ mm_E 116 60 [some (.ref a), l1, l2] (.ref a :: st) I r Q := me_al mc_116 dX6_isHogItem_59 rfl
theorem e116_60 : mm_E 116 60 ls st I r Q ↔ mm_E 116 61 ls (.int 0 :: st) I r Q := me_ic mc_116 dX6_isHogItem_60 (by decide)
theorem e116_61 : mm_E 116 61 [some (.ref a), l1, l2] st I r Q ↔ mm_E 116 62 [some (.ref a), l1, l2] (.ref a :: st) I r Q := me_al mc_116 dX6_isHogItem_61 rfl
theorem e116_62 : mm_E 116 62 ls (.ref a :: st) I r Q ↔ mm_S r a = (1, 6) ∧ mm_E 116 65 ls (va_rf (mm_P r a 9) :: st) I r Q := me_gr mc_116 dX6_isHogItem_62 (by decide +kernel) rfl
theorem e116_65 : mm_E 116 65 ls st I r Q ↔ mm_E 116 67 ls (.int 27 :: st) I r Q := me_bi mc_116 dX6_isHogItem_65 (by decide)
theorem e116_67 : mm_E 116 67 ls (.int x :: .ref a :: st) I r Q ↔ mm_ix r a 2 x ∧ mm_E 116 68 ls (.int (mm_rd I a x.toNatClampNeg) :: st) I r Q := me_ia mc_116 dX6_isHogItem_67
theorem e116_68 : mm_E 116 68 ls st I r Q ↔ mm_E 116 69 ls (.int 1 :: st) I r Q := me_ic mc_116 dX6_isHogItem_68 (by decide)
theorem e116_69 : mm_E 116 69 ls (.int y :: .int x :: st) I r Q ↔ mm_E 116 70 ls (.int (x - y) :: st) I r Q := me_isub mc_116 dX6_isHogItem_69
theorem e116_70 : ∀ (x0 : Int32) (x1 : Int32), (mm_E 116 70 ls (.int x1 :: .int x0 :: .ref a :: st) I r Q ↔ (mm_w8 st = true ∧ mm_S r a = (1, 6)) ∧ mm_E 112 0 [some (.ref a), some (.int x0), some (.int x1)] [] I r (fun v I2 r2 => mm_E 116 73 ls (mm_pu v st) I2 r2 Q)) := fun x0 x1 => me_vc (n := 2) (As := [.int x0, .int x1]) (xs := [.int x1, .int x0]) (a := a) mc_116 dX6_isHogItem_70 (by decide +kernel) (by decide +kernel) rfl rfl (Nat.le_of_ble_eq_true rfl) rfl
theorem e116_73 : mm_E 116 73 ls (.int x :: st) I r Q ↔ if ¬ x = 0 then mm_E 116 78 ls st I r Q else mm_E 116 76 ls st I r Q := me_zne mc_116 dX6_isHogItem_73 (by decide)
theorem e116_76 : mm_E 116 76 ls st I r Q ↔ mm_E 116 77 ls (.int 0 :: st) I r Q := me_ic mc_116 dX6_isHogItem_76 (by decide)
theorem e116_77 : mm_E 116 77 ls [.int x] I r Q ↔ (x = 0 ∨ x = 1) ∧ Q (some (.int x)) I r := me_rz mc_116 dX6_isHogItem_77 rfl
theorem e116_78 : mm_E 116 78 [some (.ref a), l1, l2] st I r Q ↔ mm_E 116 79 [some (.ref a), l1, l2] (.ref a :: st) I r Q := me_al mc_116 dX6_isHogItem_78 rfl
theorem e116_79 : mm_E 116 79 ls (.ref a :: st) I r Q ↔ mm_S r a = (1, 6) ∧ mm_E 116 82 ls (va_rf (mm_P r a 9) :: st) I r Q := me_gr mc_116 dX6_isHogItem_79 (by decide +kernel) rfl
theorem e116_82 : mm_E 116 82 ls st I r Q ↔ mm_E 116 84 ls (.int 21 :: st) I r Q := me_bi mc_116 dX6_isHogItem_82 (by decide)
theorem e116_84 : mm_E 116 84 [l0, l1, some (.int x)] st I r Q ↔ mm_E 116 85 [l0, l1, some (.int x)] (.int x :: st) I r Q := me_il mc_116 dX6_isHogItem_84 rfl
theorem e116_85 : mm_E 116 85 ls (.int y :: .int x :: st) I r Q ↔ mm_E 116 86 ls (.int (x + y) :: st) I r Q := me_iadd mc_116 dX6_isHogItem_85
theorem e116_86 : mm_E 116 86 [some (.ref a), l1, l2] st I r Q ↔ mm_E 116 87 [some (.ref a), l1, l2] (.ref a :: st) I r Q := me_al mc_116 dX6_isHogItem_86 rfl
theorem e116_87 : mm_E 116 87 ls (.ref a :: st) I r Q ↔ mm_S r a = (1, 6) ∧ mm_E 116 90 ls (.int (mm_rd I a 6) :: st) I r Q := me_gi mc_116 dX6_isHogItem_87 (by decide +kernel) rfl
theorem e116_90 : mm_E 116 90 ls (.int y :: .int x :: .ref a :: st) I r Q ↔ mm_ix r a 2 x ∧ mm_E 116 91 ls st (mm_uI I a x.toNatClampNeg y) r Q := me_is mc_116 dX6_isHogItem_90
theorem e116_91 : mm_E 116 91 ls st I r Q ↔ mm_E 116 92 ls (.int 1 :: st) I r Q := me_ic mc_116 dX6_isHogItem_91 (by decide)
theorem e116_92 : mm_E 116 92 ls [.int x] I r Q ↔ (x = 0 ∨ x = 1) ∧ Q (some (.int x)) I r := me_rz mc_116 dX6_isHogItem_92 rfl
theorem mc_117 : mm_c 117 = cX6_isLane := rfl
theorem e117_0 : mm_E 117 0 [some (.ref a), l1] st I r Q ↔ mm_E 117 1 [some (.ref a), l1] (.ref a :: st) I r Q := me_al mc_117 dX6_isLane_0 rfl
theorem e117_1 : mm_E 117 1 ls st I r Q ↔ mm_E 117 3 ls (.int 20 :: st) I r Q := me_bi mc_117 dX6_isLane_1 (by decide)
theorem e117_3 : ∀ (x0 : Int32), (mm_E 117 3 ls (.int x0 :: .ref a :: st) I r Q ↔ (mm_w8 st = true ∧ mm_S r a = (1, 6)) ∧ mm_E 113 0 [some (.ref a), some (.int x0), none, none] [] I r (fun v I2 r2 => mm_E 117 6 ls (mm_pu v st) I2 r2 Q)) := fun x0 => me_vc (n := 1) (As := [.int x0]) (xs := [.int x0]) (a := a) mc_117 dX6_isLane_3 (by decide +kernel) (by decide +kernel) rfl rfl (Nat.le_of_ble_eq_true rfl) rfl
theorem e117_6 : mm_E 117 6 ls (.int x :: st) I r Q ↔ if ¬ x = 0 then mm_E 117 11 ls st I r Q else mm_E 117 9 ls st I r Q := me_zne mc_117 dX6_isLane_6 (by decide)
theorem e117_9 : mm_E 117 9 ls st I r Q ↔ mm_E 117 10 ls (.int 0 :: st) I r Q := me_ic mc_117 dX6_isLane_9 (by decide)
theorem e117_10 : mm_E 117 10 ls [.int x] I r Q ↔ (x = 0 ∨ x = 1) ∧ Q (some (.int x)) I r := me_rz mc_117 dX6_isLane_10 rfl
theorem e117_11 : mm_E 117 11 [some (.ref a), l1] st I r Q ↔ mm_E 117 12 [some (.ref a), l1] (.ref a :: st) I r Q := me_al mc_117 dX6_isLane_11 rfl
theorem e117_12 : mm_E 117 12 ls (.ref a :: st) I r Q ↔ mm_S r a = (1, 6) ∧ mm_E 117 15 ls (va_rf (mm_P r a 9) :: st) I r Q := me_gr mc_117 dX6_isLane_12 (by decide +kernel) rfl
theorem e117_15 : mm_E 117 15 ls st I r Q ↔ mm_E 117 17 ls (.int 26 :: st) I r Q := me_bi mc_117 dX6_isLane_15 (by decide)
theorem e117_17 : mm_E 117 17 [some (.ref a), l1] st I r Q ↔ mm_E 117 18 [some (.ref a), l1] (.ref a :: st) I r Q := me_al mc_117 dX6_isLane_17 rfl
theorem e117_18 : mm_E 117 18 ls (.ref a :: st) I r Q ↔ mm_S r a = (1, 6) ∧ mm_E 117 21 ls (.int (mm_rd I a 6) :: st) I r Q := me_gi mc_117 dX6_isLane_18 (by decide +kernel) rfl
theorem e117_21 : mm_E 117 21 ls (.int y :: .int x :: .ref a :: st) I r Q ↔ mm_ix r a 2 x ∧ mm_E 117 22 ls st (mm_uI I a x.toNatClampNeg y) r Q := me_is mc_117 dX6_isLane_21
theorem e117_22 : mm_E 117 22 [some (.ref a), l1] st I r Q ↔ mm_E 117 23 [some (.ref a), l1] (.ref a :: st) I r Q := me_al mc_117 dX6_isLane_22 rfl
theorem e117_23 : mm_E 117 23 ls st I r Q ↔ mm_E 117 25 ls (.int 59 :: st) I r Q := me_bi mc_117 dX6_isLane_23 (by decide)
theorem e117_25 : ∀ (x0 : Int32), (mm_E 117 25 ls (.int x0 :: .ref a :: st) I r Q ↔ (mm_w8 st = true ∧ mm_S r a = (1, 6)) ∧ mm_E 111 0 [some (.ref a), some (.int x0)] [] I r (fun v I2 r2 => mm_E 117 28 ls (mm_pu v st) I2 r2 Q)) := fun x0 => me_vc (n := 1) (As := [.int x0]) (xs := [.int x0]) (a := a) mc_117 dX6_isLane_25 (by decide +kernel) (by decide +kernel) rfl rfl (Nat.le_of_ble_eq_true rfl) rfl
theorem e117_28 : mm_E 117 28 ls (.int x :: st) I r Q ↔ if ¬ x = 0 then mm_E 117 33 ls st I r Q else mm_E 117 31 ls st I r Q := me_zne mc_117 dX6_isLane_28 (by decide)
theorem e117_31 : mm_E 117 31 ls st I r Q ↔ mm_E 117 32 ls (.int 0 :: st) I r Q := me_ic mc_117 dX6_isLane_31 (by decide)
theorem e117_32 : mm_E 117 32 ls [.int x] I r Q ↔ (x = 0 ∨ x = 1) ∧ Q (some (.int x)) I r := me_rz mc_117 dX6_isLane_32 rfl
theorem e117_33 : mm_E 117 33 ls st I r Q ↔ mm_E 117 34 ls (.int 1 :: st) I r Q := me_ic mc_117 dX6_isLane_33 (by decide)
theorem e117_34 : mm_E 117 34 [l0, l1] (.int x :: st) I r Q ↔ mm_c1 l0 ∧ mm_E 117 35 [l0, some (.int x)] st I r Q := me_st (k := 1) (v := .int x) mc_117 dX6_isLane_34 rfl rfl (Nat.le_of_ble_eq_true rfl) rfl ⟨Or.inr, fun h => h.resolve_left (by decide)⟩
theorem e117_35 : mm_E 117 35 [l0, some (.int x)] st I r Q ↔ mm_E 117 36 [l0, some (.int x)] (.int x :: st) I r Q := me_il mc_117 dX6_isLane_35 rfl
theorem e117_36 : mm_E 117 36 ls (.int x :: st) I r Q ↔ if x = 0 then mm_E 117 78 ls st I r Q else mm_E 117 39 ls st I r Q := me_zeq mc_117 dX6_isLane_36 (by decide)
theorem e117_39 : mm_E 117 39 [some (.ref a), l1] st I r Q ↔ mm_E 117 40 [some (.ref a), l1] (.ref a :: st) I r Q := me_al mc_117 dX6_isLane_39 rfl
theorem e117_40 : (mm_E 117 40 ls (.ref a :: st) I r Q ↔ (mm_w8 st = true ∧ mm_S r a = (1, 6)) ∧ mm_E 115 0 [some (.ref a), none, none, none] [] I r (fun v I2 r2 => mm_E 117 43 ls (mm_pu v st) I2 r2 Q)) := me_vc (n := 0) (As := []) (xs := []) (a := a) mc_117 dX6_isLane_40 (by decide +kernel) (by decide +kernel) rfl rfl (Nat.le_of_ble_eq_true rfl) rfl
theorem e117_43 : mm_E 117 43 ls (.int x :: st) I r Q ↔ if ¬ x = 0 then mm_E 117 48 ls st I r Q else mm_E 117 46 ls st I r Q := me_zne mc_117 dX6_isLane_43 (by decide)
theorem e117_46 : mm_E 117 46 ls st I r Q ↔ mm_E 117 47 ls (.int 0 :: st) I r Q := me_ic mc_117 dX6_isLane_46 (by decide)
theorem e117_47 : mm_E 117 47 ls [.int x] I r Q ↔ (x = 0 ∨ x = 1) ∧ Q (some (.int x)) I r := me_rz mc_117 dX6_isLane_47 rfl
theorem e117_48 : mm_E 117 48 [some (.ref a), l1] st I r Q ↔ mm_E 117 49 [some (.ref a), l1] (.ref a :: st) I r Q := me_al mc_117 dX6_isLane_48 rfl
theorem e117_49 : mm_E 117 49 ls (.ref a :: st) I r Q ↔ mm_S r a = (1, 6) ∧ mm_E 117 52 ls (va_rf (mm_P r a 9) :: st) I r Q := me_gr mc_117 dX6_isLane_49 (by decide +kernel) rfl
theorem e117_52 : mm_E 117 52 ls st I r Q ↔ mm_E 117 54 ls (.int 27 :: st) I r Q := me_bi mc_117 dX6_isLane_52 (by decide)
theorem e117_54 : mm_E 117 54 ls (.int x :: .ref a :: st) I r Q ↔ mm_ix r a 2 x ∧ mm_E 117 55 ls (.int (mm_rd I a x.toNatClampNeg) :: st) I r Q := me_ia mc_117 dX6_isLane_54
theorem e117_55 : mm_E 117 55 ls st I r Q ↔ mm_E 117 57 ls (.int 6 :: st) I r Q := me_bi mc_117 dX6_isLane_55 (by decide)
theorem e117_57 : mm_E 117 57 ls (.int y :: .int x :: st) I r Q ↔ if y ≤ x then mm_E 117 73 ls st I r Q else mm_E 117 60 ls st I r Q := me_cge mc_117 dX6_isLane_57 (by decide)
theorem e117_60 : mm_E 117 60 [some (.ref a), l1] st I r Q ↔ mm_E 117 61 [some (.ref a), l1] (.ref a :: st) I r Q := me_al mc_117 dX6_isLane_60 rfl
theorem e117_61 : mm_E 117 61 ls st I r Q ↔ mm_E 117 63 ls (.int 44 :: st) I r Q := me_bi mc_117 dX6_isLane_61 (by decide)
theorem e117_63 : ∀ (x0 : Int32), (mm_E 117 63 ls (.int x0 :: .ref a :: st) I r Q ↔ (mm_w8 st = true ∧ mm_S r a = (1, 6)) ∧ mm_E 111 0 [some (.ref a), some (.int x0)] [] I r (fun v I2 r2 => mm_E 117 66 ls (mm_pu v st) I2 r2 Q)) := fun x0 => me_vc (n := 1) (As := [.int x0]) (xs := [.int x0]) (a := a) mc_117 dX6_isLane_63 (by decide +kernel) (by decide +kernel) rfl rfl (Nat.le_of_ble_eq_true rfl) rfl
theorem e117_66 : mm_E 117 66 ls (.int x :: st) I r Q ↔ if x = 0 then mm_E 117 73 ls st I r Q else mm_E 117 69 ls st I r Q := me_zeq mc_117 dX6_isLane_66 (by decide)
theorem e117_69 : mm_E 117 69 ls st I r Q ↔ mm_E 117 70 ls (.int 1 :: st) I r Q := me_ic mc_117 dX6_isLane_69 (by decide)
theorem e117_70 : mm_E 117 70 ls st I r Q ↔ mm_E 117 74 ls st I r Q := me_goto mc_117 dX6_isLane_70 (by decide)
theorem e117_73 : mm_E 117 73 ls st I r Q ↔ mm_E 117 74 ls (.int 0 :: st) I r Q := me_ic mc_117 dX6_isLane_73 (by decide)
theorem e117_74 : mm_E 117 74 [l0, l1] (.int x :: st) I r Q ↔ mm_c1 l0 ∧ mm_E 117 75 [l0, some (.int x)] st I r Q := me_st (k := 1) (v := .int x) mc_117 dX6_isLane_74 rfl rfl (Nat.le_of_ble_eq_true rfl) rfl ⟨Or.inr, fun h => h.resolve_left (by decide)⟩
theorem e117_75 : mm_E 117 75 ls st I r Q ↔ mm_E 117 35 ls st I r Q := me_goto mc_117 dX6_isLane_75 (by decide)
theorem e117_78 : mm_E 117 78 [some (.ref a), l1] st I r Q ↔ mm_E 117 79 [some (.ref a), l1] (.ref a :: st) I r Q := me_al mc_117 dX6_isLane_78 rfl
theorem e117_79 : mm_E 117 79 ls st I r Q ↔ mm_E 117 81 ls (.int 59 :: st) I r Q := me_bi mc_117 dX6_isLane_79 (by decide)
theorem e117_81 : ∀ (x0 : Int32), (mm_E 117 81 ls (.int x0 :: .ref a :: st) I r Q ↔ (mm_w8 st = true ∧ mm_S r a = (1, 6)) ∧ mm_E 111 0 [some (.ref a), some (.int x0)] [] I r (fun v I2 r2 => mm_E 117 84 ls (mm_pu v st) I2 r2 Q)) := fun x0 => me_vc (n := 1) (As := [.int x0]) (xs := [.int x0]) (a := a) mc_117 dX6_isLane_81 (by decide +kernel) (by decide +kernel) rfl rfl (Nat.le_of_ble_eq_true rfl) rfl
theorem e117_84 : mm_E 117 84 [l0, l1] (.int x :: st) I r Q ↔ mm_c1 l0 ∧ mm_E 117 85 [l0, some (.int x)] st I r Q := me_st (k := 1) (v := .int x) mc_117 dX6_isLane_84 rfl rfl (Nat.le_of_ble_eq_true rfl) rfl ⟨Or.inr, fun h => h.resolve_left (by decide)⟩
theorem e117_85 : mm_E 117 85 [l0, some (.int x)] st I r Q ↔ mm_E 117 86 [l0, some (.int x)] (.int x :: st) I r Q := me_il mc_117 dX6_isLane_85 rfl
theorem e117_86 : mm_E 117 86 ls (.int x :: st) I r Q ↔ if x = 0 then mm_E 117 127 ls st I r Q else mm_E 117 89 ls st I r Q := me_zeq mc_117 dX6_isLane_86 (by decide)
theorem e117_89 : mm_E 117 89 [some (.ref a), l1] st I r Q ↔ mm_E 117 90 [some (.ref a), l1] (.ref a :: st) I r Q := me_al mc_117 dX6_isLane_89 rfl
theorem e117_90 : (mm_E 117 90 ls (.ref a :: st) I r Q ↔ (mm_w8 st = true ∧ mm_S r a = (1, 6)) ∧ mm_E 116 0 [some (.ref a), none, none] [] I r (fun v I2 r2 => mm_E 117 93 ls (mm_pu v st) I2 r2 Q)) := me_vc (n := 0) (As := []) (xs := []) (a := a) mc_117 dX6_isLane_90 (by decide +kernel) (by decide +kernel) rfl rfl (Nat.le_of_ble_eq_true rfl) rfl
theorem e117_93 : mm_E 117 93 ls (.int x :: st) I r Q ↔ if ¬ x = 0 then mm_E 117 98 ls st I r Q else mm_E 117 96 ls st I r Q := me_zne mc_117 dX6_isLane_93 (by decide)
theorem e117_96 : mm_E 117 96 ls st I r Q ↔ mm_E 117 97 ls (.int 0 :: st) I r Q := me_ic mc_117 dX6_isLane_96 (by decide)
theorem e117_97 : mm_E 117 97 ls [.int x] I r Q ↔ (x = 0 ∨ x = 1) ∧ Q (some (.int x)) I r := me_rz mc_117 dX6_isLane_97 rfl
theorem e117_98 : mm_E 117 98 [some (.ref a), l1] st I r Q ↔ mm_E 117 99 [some (.ref a), l1] (.ref a :: st) I r Q := me_al mc_117 dX6_isLane_98 rfl
theorem e117_99 : mm_E 117 99 ls (.ref a :: st) I r Q ↔ mm_S r a = (1, 6) ∧ mm_E 117 102 ls (va_rf (mm_P r a 9) :: st) I r Q := me_gr mc_117 dX6_isLane_99 (by decide +kernel) rfl
theorem e117_102 : mm_E 117 102 ls st I r Q ↔ mm_E 117 104 ls (.int 28 :: st) I r Q := me_bi mc_117 dX6_isLane_102 (by decide)
theorem e117_104 : mm_E 117 104 ls (.int x :: .ref a :: st) I r Q ↔ mm_ix r a 2 x ∧ mm_E 117 105 ls (.int (mm_rd I a x.toNatClampNeg) :: st) I r Q := me_ia mc_117 dX6_isLane_104
theorem e117_105 : mm_E 117 105 ls st I r Q ↔ mm_E 117 106 ls (.int 5 :: st) I r Q := me_ic mc_117 dX6_isLane_105 (by decide)
theorem e117_106 : mm_E 117 106 ls (.int y :: .int x :: st) I r Q ↔ if y ≤ x then mm_E 117 122 ls st I r Q else mm_E 117 109 ls st I r Q := me_cge mc_117 dX6_isLane_106 (by decide)
theorem e117_109 : mm_E 117 109 [some (.ref a), l1] st I r Q ↔ mm_E 117 110 [some (.ref a), l1] (.ref a :: st) I r Q := me_al mc_117 dX6_isLane_109 rfl
theorem e117_110 : mm_E 117 110 ls st I r Q ↔ mm_E 117 112 ls (.int 44 :: st) I r Q := me_bi mc_117 dX6_isLane_110 (by decide)
theorem e117_112 : ∀ (x0 : Int32), (mm_E 117 112 ls (.int x0 :: .ref a :: st) I r Q ↔ (mm_w8 st = true ∧ mm_S r a = (1, 6)) ∧ mm_E 111 0 [some (.ref a), some (.int x0)] [] I r (fun v I2 r2 => mm_E 117 115 ls (mm_pu v st) I2 r2 Q)) := fun x0 => me_vc (n := 1) (As := [.int x0]) (xs := [.int x0]) (a := a) mc_117 dX6_isLane_112 (by decide +kernel) (by decide +kernel) rfl rfl (Nat.le_of_ble_eq_true rfl) rfl
theorem e117_115 : mm_E 117 115 ls (.int x :: st) I r Q ↔ if x = 0 then mm_E 117 122 ls st I r Q else mm_E 117 118 ls st I r Q := me_zeq mc_117 dX6_isLane_115 (by decide)
theorem e117_118 : mm_E 117 118 ls st I r Q ↔ mm_E 117 119 ls (.int 1 :: st) I r Q := me_ic mc_117 dX6_isLane_118 (by decide)
theorem e117_119 : mm_E 117 119 ls st I r Q ↔ mm_E 117 123 ls st I r Q := me_goto mc_117 dX6_isLane_119 (by decide)
theorem e117_122 : mm_E 117 122 ls st I r Q ↔ mm_E 117 123 ls (.int 0 :: st) I r Q := me_ic mc_117 dX6_isLane_122 (by decide)
theorem e117_123 : mm_E 117 123 [l0, l1] (.int x :: st) I r Q ↔ mm_c1 l0 ∧ mm_E 117 124 [l0, some (.int x)] st I r Q := me_st (k := 1) (v := .int x) mc_117 dX6_isLane_123 rfl rfl (Nat.le_of_ble_eq_true rfl) rfl ⟨Or.inr, fun h => h.resolve_left (by decide)⟩
theorem e117_124 : mm_E 117 124 ls st I r Q ↔ mm_E 117 85 ls st I r Q := me_goto mc_117 dX6_isLane_124 (by decide)
theorem e117_127 : mm_E 117 127 [some (.ref a), l1] st I r Q ↔ mm_E 117 128 [some (.ref a), l1] (.ref a :: st) I r Q := me_al mc_117 dX6_isLane_127 rfl
theorem e117_128 : (mm_E 117 128 ls (.ref a :: st) I r Q ↔ (mm_w8 st = true ∧ mm_S r a = (1, 6)) ∧ mm_E 110 0 [some (.ref a)] [] I r (fun v I2 r2 => mm_E 117 131 ls (mm_pu v st) I2 r2 Q)) := me_vc (n := 0) (As := []) (xs := []) (a := a) mc_117 dX6_isLane_128 (by decide +kernel) (by decide +kernel) rfl rfl (Nat.le_of_ble_eq_true rfl) rfl
theorem e117_131 : mm_E 117 131 ls (.int x :: st) I r Q ↔ if ¬ x = 0 then mm_E 117 138 ls st I r Q else mm_E 117 134 ls st I r Q := me_zne mc_117 dX6_isLane_131 (by decide)
theorem e117_134 : mm_E 117 134 ls st I r Q ↔ mm_E 117 135 ls (.int 1 :: st) I r Q := me_ic mc_117 dX6_isLane_134 (by decide)
theorem e117_135 : mm_E 117 135 ls st I r Q ↔ mm_E 117 139 ls st I r Q := me_goto mc_117 dX6_isLane_135 (by decide)
theorem e117_138 : mm_E 117 138 ls st I r Q ↔ mm_E 117 139 ls (.int 0 :: st) I r Q := me_ic mc_117 dX6_isLane_138 (by decide)
theorem e117_139 : mm_E 117 139 ls [.int x] I r Q ↔ (x = 0 ∨ x = 1) ∧ Q (some (.int x)) I r := me_rz mc_117 dX6_isLane_139 rfl
theorem mc_118 : mm_c 118 = cX6_read := rfl
theorem e118_0 : mm_E 118 0 ls st I r Q ↔ mm_E 118 1 ls (.int 0 :: st) I r Q := me_ic mc_118 dX6_read_0 (by decide)
theorem e118_1 : mm_E 118 1 [l0, l1] (.int x :: st) I r Q ↔ mm_c1 l0 ∧ mm_E 118 2 [l0, some (.int x)] st I r Q := me_st (k := 1) (v := .int x) mc_118 dX6_read_1 rfl rfl (Nat.le_of_ble_eq_true rfl) rfl ⟨Or.inr, fun h => h.resolve_left (by decide)⟩
theorem e118_2 : mm_E 118 2 [l0, some (.int x)] st I r Q ↔ mm_E 118 3 [l0, some (.int x)] (.int x :: st) I r Q := me_il mc_118 dX6_read_2 rfl
theorem e118_3 : mm_E 118 3 ls st I r Q ↔ mm_E 118 6 ls (.int 248 :: st) I r Q := me_si mc_118 dX6_read_3 (by decide)
theorem e118_6 : mm_E 118 6 ls (.int y :: .int x :: st) I r Q ↔ if y ≤ x then mm_E 118 22 ls st I r Q else mm_E 118 9 ls st I r Q := me_cge mc_118 dX6_read_6 (by decide)
theorem e118_9 : mm_E 118 9 [some (.ref a), l1] st I r Q ↔ mm_E 118 10 [some (.ref a), l1] (.ref a :: st) I r Q := me_al mc_118 dX6_read_9 rfl
theorem e118_10 : mm_E 118 10 ls (.ref a :: st) I r Q ↔ mm_S r a = (1, 6) ∧ mm_E 118 13 ls (va_rf (mm_P r a 9) :: st) I r Q := me_gr mc_118 dX6_read_10 (by decide +kernel) rfl
theorem e118_13 : mm_E 118 13 [l0, some (.int x)] st I r Q ↔ mm_E 118 14 [l0, some (.int x)] (.int x :: st) I r Q := me_il mc_118 dX6_read_13 rfl
theorem e118_14 : mm_E 118 14 ls st I r Q ↔ mm_E 118 15 ls (.int 0 :: st) I r Q := me_ic mc_118 dX6_read_14 (by decide)
theorem e118_15 : mm_E 118 15 ls (.int y :: .int x :: .ref a :: st) I r Q ↔ mm_ix r a 2 x ∧ mm_E 118 16 ls st (mm_uI I a x.toNatClampNeg y) r Q := me_is mc_118 dX6_read_15
theorem e118_16 : mm_E 118 16 [l0, some (.int x)] st I r Q ↔ mm_c1 l0 ∧ mm_E 118 19 [l0, some (.int (x + 1))] st I r Q := me_st (k := 1) (v := .int (x + 1)) mc_118 dX6_read_16 rfl rfl (Nat.le_of_ble_eq_true rfl) rfl ⟨Or.inr, fun h => h.resolve_left (by decide)⟩
theorem e118_19 : mm_E 118 19 ls st I r Q ↔ mm_E 118 2 ls st I r Q := me_goto mc_118 dX6_read_19 (by decide)
theorem e118_22 : mm_E 118 22 [some (.ref a), l1] st I r Q ↔ mm_E 118 23 [some (.ref a), l1] (.ref a :: st) I r Q := me_al mc_118 dX6_read_22 rfl
theorem e118_23 : mm_E 118 23 ls (.ref a :: st) I r Q ↔ mm_S r a = (1, 6) ∧ mm_E 118 26 ls (va_rf (mm_P r a 9) :: st) I r Q := me_gr mc_118 dX6_read_23 (by decide +kernel) rfl
theorem e118_26 : mm_E 118 26 ls st I r Q ↔ mm_E 118 27 ls (.int 1 :: st) I r Q := me_ic mc_118 dX6_read_26 (by decide)
theorem e118_27 : mm_E 118 27 [some (.ref a), l1] st I r Q ↔ mm_E 118 28 [some (.ref a), l1] (.ref a :: st) I r Q := me_al mc_118 dX6_read_27 rfl
theorem e118_28 : mm_E 118 28 ls (.ref a :: st) I r Q ↔ mm_S r a = (1, 6) ∧ mm_E 118 31 ls (va_rf (mm_P r a 7) :: st) I r Q := me_gr mc_118 dX6_read_28 (by decide +kernel) rfl
theorem e118_31 : mm_E 118 31 ls st I r Q ↔ mm_E 118 32 ls (.int 1 :: st) I r Q := me_ic mc_118 dX6_read_31 (by decide)
theorem e118_32 : mm_E 118 32 ls (.int x :: .ref a :: st) I r Q ↔ mm_ix r a 2 x ∧ mm_E 118 33 ls (.int (mm_rd I a x.toNatClampNeg) :: st) I r Q := me_ia mc_118 dX6_read_32
theorem e118_33 : mm_E 118 33 ls (.int y :: .int x :: .ref a :: st) I r Q ↔ mm_ix r a 2 x ∧ mm_E 118 34 ls st (mm_uI I a x.toNatClampNeg y) r Q := me_is mc_118 dX6_read_33
theorem e118_34 : mm_E 118 34 [some (.ref a), l1] st I r Q ↔ mm_E 118 35 [some (.ref a), l1] (.ref a :: st) I r Q := me_al mc_118 dX6_read_34 rfl
theorem e118_35 : mm_E 118 35 ls st I r Q ↔ mm_E 118 36 ls (.int 0 :: st) I r Q := me_ic mc_118 dX6_read_35 (by decide)
theorem e118_36 : mm_E 118 36 ls (.int x :: .ref a :: st) I r Q ↔ mm_S r a = (1, 6) ∧ mm_E 118 39 ls st (mm_uI I a 5 x) r Q := me_pi mc_118 dX6_read_36 (by decide +kernel) (by decide +kernel)
theorem e118_39 : mm_E 118 39 [some (.ref a), l1] st I r Q ↔ mm_E 118 40 [some (.ref a), l1] (.ref a :: st) I r Q := me_al mc_118 dX6_read_39 rfl
theorem e118_40 : (mm_E 118 40 ls (.ref a :: st) I r Q ↔ (mm_w8 st = true ∧ mm_S r a = (1, 6)) ∧ mm_E 117 0 [some (.ref a), none] [] I r (fun v I2 r2 => mm_E 118 43 ls (mm_pu v st) I2 r2 Q)) := me_vc (n := 0) (As := []) (xs := []) (a := a) mc_118 dX6_read_40 (by decide +kernel) (by decide +kernel) rfl rfl (Nat.le_of_ble_eq_true rfl) rfl
theorem e118_43 : mm_E 118 43 [l0, l1] (.int x :: st) I r Q ↔ mm_c1 l0 ∧ mm_E 118 44 [l0, some (.int x)] st I r Q := me_st (k := 1) (v := .int x) mc_118 dX6_read_43 rfl rfl (Nat.le_of_ble_eq_true rfl) rfl ⟨Or.inr, fun h => h.resolve_left (by decide)⟩
theorem e118_44 : mm_E 118 44 [some (.ref a), l1] st I r Q ↔ mm_E 118 45 [some (.ref a), l1] (.ref a :: st) I r Q := me_al mc_118 dX6_read_44 rfl
theorem e118_45 : mm_E 118 45 ls st I r Q ↔ mm_E 118 46 ls (.int 0 :: st) I r Q := me_ic mc_118 dX6_read_45 (by decide)
theorem e118_46 : mm_E 118 46 ls (.int x :: .ref a :: st) I r Q ↔ mm_S r a = (1, 6) ∧ mm_E 118 49 ls st (mm_uI I a 3 x) r Q := me_pi mc_118 dX6_read_46 (by decide +kernel) (by decide +kernel)
theorem e118_49 : mm_E 118 49 [l0, some (.int x)] st I r Q ↔ mm_E 118 50 [l0, some (.int x)] (.int x :: st) I r Q := me_il mc_118 dX6_read_49 rfl
theorem e118_50 : mm_E 118 50 ls (.int x :: st) I r Q ↔ if ¬ x = 0 then mm_E 118 61 ls st I r Q else mm_E 118 53 ls st I r Q := me_zne mc_118 dX6_read_50 (by decide)
theorem e118_53 : mm_E 118 53 ls st I r Q ↔ mm_E 118 55 ls (.int (-20) :: st) I r Q := me_bi mc_118 dX6_read_53 (by decide)
theorem e118_55 : mm_E 118 55 [some (.ref a), l1] st I r Q ↔ mm_E 118 56 [some (.ref a), l1] (.ref a :: st) I r Q := me_al mc_118 dX6_read_55 rfl
theorem e118_56 : mm_E 118 56 ls (.ref a :: st) I r Q ↔ mm_S r a = (1, 6) ∧ mm_E 118 59 ls (.int (mm_rd I a 5) :: st) I r Q := me_gi mc_118 dX6_read_56 (by decide +kernel) rfl
theorem e118_59 : mm_E 118 59 ls (.int y :: .int x :: st) I r Q ↔ mm_E 118 60 ls (.int (x - y) :: st) I r Q := me_isub mc_118 dX6_read_59
theorem e118_60 : mm_E 118 60 ls [.int x] I r Q ↔ Q (some (.int x)) I r := me_ri mc_118 dX6_read_60 rfl
theorem e118_61 : mm_E 118 61 [some (.ref a), l1] st I r Q ↔ mm_E 118 62 [some (.ref a), l1] (.ref a :: st) I r Q := me_al mc_118 dX6_read_61 rfl
theorem e118_62 : mm_E 118 62 ls (.ref a :: st) I r Q ↔ mm_S r a = (1, 6) ∧ mm_E 118 65 ls (va_rf (mm_P r a 9) :: st) I r Q := me_gr mc_118 dX6_read_62 (by decide +kernel) rfl
theorem e118_65 : mm_E 118 65 ls st I r Q ↔ mm_E 118 66 ls (.int 0 :: st) I r Q := me_ic mc_118 dX6_read_65 (by decide)
theorem e118_66 : mm_E 118 66 [some (.ref a), l1] st I r Q ↔ mm_E 118 67 [some (.ref a), l1] (.ref a :: st) I r Q := me_al mc_118 dX6_read_66 rfl
theorem e118_67 : mm_E 118 67 ls (.ref a :: st) I r Q ↔ mm_S r a = (1, 6) ∧ mm_E 118 70 ls (va_rf (mm_P r a 7) :: st) I r Q := me_gr mc_118 dX6_read_67 (by decide +kernel) rfl
theorem e118_70 : mm_E 118 70 ls st I r Q ↔ mm_E 118 71 ls (.int 0 :: st) I r Q := me_ic mc_118 dX6_read_70 (by decide)
theorem e118_71 : mm_E 118 71 ls st I r Q ↔ mm_E 118 74 ls (.int 248 :: st) I r Q := me_si mc_118 dX6_read_71 (by decide)
theorem e118_74 : ∀ (x0 : Nat) (x1 : Int32) (x2 : Nat) (x3 : Int32) (x4 : Int32), (mm_E 118 74 ls (.int x4 :: .int x3 :: .ref x2 :: .int x1 :: .ref x0 :: st) I r Q ↔ mm_w8 st = true ∧ mm_E 96 0 [some (.ref x0), some (.int x1), some (.ref x2), some (.int x3), some (.int x4), none] [] I r (fun v I2 r2 => mm_E 118 77 ls (mm_pu v st) I2 r2 Q)) := fun x0 x1 x2 x3 x4 => me_sc (n := 5) (As := [.ref x0, .int x1, .ref x2, .int x3, .int x4]) (xs := [.int x4, .int x3, .ref x2, .int x1, .ref x0]) mc_118 dX6_read_74 (by decide +kernel) (by decide +kernel) rfl rfl (Nat.le_of_ble_eq_true rfl) rfl
theorem e118_77 : mm_E 118 77 [some (.ref a), l1] st I r Q ↔ mm_E 118 78 [some (.ref a), l1] (.ref a :: st) I r Q := me_al mc_118 dX6_read_77 rfl
theorem e118_78 : mm_E 118 78 ls (.ref a :: st) I r Q ↔ mm_S r a = (1, 6) ∧ mm_E 118 81 ls (va_rf (mm_P r a 7) :: st) I r Q := me_gr mc_118 dX6_read_78 (by decide +kernel) rfl
theorem e118_81 : mm_E 118 81 ls st I r Q ↔ mm_E 118 83 ls (.int 27 :: st) I r Q := me_bi mc_118 dX6_read_81 (by decide)
theorem e118_83 : mm_E 118 83 ls (.int x :: .ref a :: st) I r Q ↔ mm_ix r a 2 x ∧ mm_E 118 84 ls (.int (mm_rd I a x.toNatClampNeg) :: st) I r Q := me_ia mc_118 dX6_read_83
theorem e118_84 : mm_E 118 84 ls [.int x] I r Q ↔ Q (some (.int x)) I r := me_ri mc_118 dX6_read_84 rfl
theorem mc_119 : mm_c 119 = cX6_lostOnes := rfl
theorem e119_0 : mm_E 119 0 ls st I r Q ↔ mm_E 119 1 ls (.int 0 :: st) I r Q := me_ic mc_119 dX6_lostOnes_0 (by decide)
theorem e119_1 : mm_E 119 1 [l0, l1, l2] (.int x :: st) I r Q ↔ mm_c1 l0 ∧ mm_E 119 2 [l0, some (.int x), l2] st I r Q := me_st (k := 1) (v := .int x) mc_119 dX6_lostOnes_1 rfl rfl (Nat.le_of_ble_eq_true rfl) rfl ⟨Or.inr, fun h => h.resolve_left (by decide)⟩
theorem e119_2 : mm_E 119 2 ls st I r Q ↔ mm_E 119 3 ls (.int 0 :: st) I r Q := me_ic mc_119 dX6_lostOnes_2 (by decide)
theorem e119_3 : mm_E 119 3 [l0, l1, l2] (.int x :: st) I r Q ↔ mm_c1 l1 ∧ mm_E 119 4 [l0, l1, some (.int x)] st I r Q := me_st (k := 2) (v := .int x) mc_119 dX6_lostOnes_3 rfl rfl (Nat.le_of_ble_eq_true rfl) rfl ⟨Or.inr, fun h => h.resolve_left (by decide)⟩
theorem e119_4 : mm_E 119 4 [l0, l1, some (.int x)] st I r Q ↔ mm_E 119 5 [l0, l1, some (.int x)] (.int x :: st) I r Q := me_il mc_119 dX6_lostOnes_4 rfl
theorem e119_5 : mm_E 119 5 [some (.ref a), l1, l2] st I r Q ↔ mm_E 119 6 [some (.ref a), l1, l2] (.ref a :: st) I r Q := me_al mc_119 dX6_lostOnes_5 rfl
theorem e119_6 : mm_E 119 6 ls st I r Q ↔ mm_E 119 8 ls (.int 27 :: st) I r Q := me_bi mc_119 dX6_lostOnes_6 (by decide)
theorem e119_8 : mm_E 119 8 ls (.int x :: .ref a :: st) I r Q ↔ mm_ix r a 2 x ∧ mm_E 119 9 ls (.int (mm_rd I a x.toNatClampNeg) :: st) I r Q := me_ia mc_119 dX6_lostOnes_8
theorem e119_9 : mm_E 119 9 ls (.int y :: .int x :: st) I r Q ↔ if y ≤ x then mm_E 119 36 ls st I r Q else mm_E 119 12 ls st I r Q := me_cge mc_119 dX6_lostOnes_9 (by decide)
theorem e119_12 : mm_E 119 12 [l0, some (.int x), l2] st I r Q ↔ mm_E 119 13 [l0, some (.int x), l2] (.int x :: st) I r Q := me_il mc_119 dX6_lostOnes_12 rfl
theorem e119_13 : mm_E 119 13 [some (.ref a), l1, l2] st I r Q ↔ mm_E 119 14 [some (.ref a), l1, l2] (.ref a :: st) I r Q := me_al mc_119 dX6_lostOnes_13 rfl
theorem e119_14 : mm_E 119 14 [l0, l1, some (.int x)] st I r Q ↔ mm_E 119 15 [l0, l1, some (.int x)] (.int x :: st) I r Q := me_il mc_119 dX6_lostOnes_14 rfl
theorem e119_15 : ∀ (x0 : Nat) (x1 : Int32), (mm_E 119 15 ls (.int x1 :: .ref x0 :: st) I r Q ↔ mm_w8 st = true ∧ mm_E 105 0 [some (.ref x0), some (.int x1)] [] I r (fun v I2 r2 => mm_E 119 18 ls (mm_pu v st) I2 r2 Q)) := fun x0 x1 => me_sc (n := 2) (As := [.ref x0, .int x1]) (xs := [.int x1, .ref x0]) mc_119 dX6_lostOnes_15 (by decide +kernel) (by decide +kernel) rfl rfl (Nat.le_of_ble_eq_true rfl) rfl
theorem e119_18 : mm_E 119 18 ls (.int x :: st) I r Q ↔ if x = 0 then mm_E 119 27 ls st I r Q else mm_E 119 21 ls st I r Q := me_zeq mc_119 dX6_lostOnes_18 (by decide)
theorem e119_21 : mm_E 119 21 ls st I r Q ↔ mm_E 119 22 ls (.int 1 :: st) I r Q := me_ic mc_119 dX6_lostOnes_21 (by decide)
theorem e119_22 : mm_E 119 22 [l0, l1, some (.int x)] st I r Q ↔ mm_E 119 23 [l0, l1, some (.int x)] (.int x :: st) I r Q := me_il mc_119 dX6_lostOnes_22 rfl
theorem e119_23 : mm_E 119 23 ls (.int y :: .int x :: st) I r Q ↔ mm_E 119 24 ls (.int (x <<< (y &&& 31)) :: st) I r Q := me_ishl mc_119 dX6_lostOnes_23
theorem e119_24 : mm_E 119 24 ls st I r Q ↔ mm_E 119 28 ls st I r Q := me_goto mc_119 dX6_lostOnes_24 (by decide)
theorem e119_27 : mm_E 119 27 ls st I r Q ↔ mm_E 119 28 ls (.int 0 :: st) I r Q := me_ic mc_119 dX6_lostOnes_27 (by decide)
theorem e119_28 : mm_E 119 28 ls (.int y :: .int x :: st) I r Q ↔ mm_E 119 29 ls (.int (x ||| y) :: st) I r Q := me_ior mc_119 dX6_lostOnes_28
theorem e119_29 : mm_E 119 29 [l0, l1, l2] (.int x :: st) I r Q ↔ mm_c1 l0 ∧ mm_E 119 30 [l0, some (.int x), l2] st I r Q := me_st (k := 1) (v := .int x) mc_119 dX6_lostOnes_29 rfl rfl (Nat.le_of_ble_eq_true rfl) rfl ⟨Or.inr, fun h => h.resolve_left (by decide)⟩
theorem e119_30 : mm_E 119 30 [l0, l1, some (.int x)] st I r Q ↔ mm_c1 l1 ∧ mm_E 119 33 [l0, l1, some (.int (x + 1))] st I r Q := me_st (k := 2) (v := .int (x + 1)) mc_119 dX6_lostOnes_30 rfl rfl (Nat.le_of_ble_eq_true rfl) rfl ⟨Or.inr, fun h => h.resolve_left (by decide)⟩
theorem e119_33 : mm_E 119 33 ls st I r Q ↔ mm_E 119 4 ls st I r Q := me_goto mc_119 dX6_lostOnes_33 (by decide)
theorem e119_36 : mm_E 119 36 [l0, some (.int x), l2] st I r Q ↔ mm_E 119 37 [l0, some (.int x), l2] (.int x :: st) I r Q := me_il mc_119 dX6_lostOnes_36 rfl
theorem e119_37 : mm_E 119 37 ls [.int x] I r Q ↔ Q (some (.int x)) I r := me_ri mc_119 dX6_lostOnes_37 rfl
end
