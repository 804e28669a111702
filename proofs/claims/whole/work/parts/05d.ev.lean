section
variable (ls : mm_L) (st : List Value) (I : mm_I) (r : mm_R) (Q : Option Value → mm_I → mm_R → Prop) (l0 l1 l2 l3 l4 l5 l6 l7 l8 l9 l10 l11 l12 l13 l14 : Option Value) (x y : Int32) (z w : Int64) (a b : Nat) (v u : Value)
theorem mc_63 : mm_c 63 = cX5_drift := rfl
theorem e63_0 : mm_E 63 0 [l0, some (.int x), l2] st I r Q ↔ mm_E 63 1 [l0, some (.int x), l2] (.int x :: st) I r Q := me_il mc_63 dX5_drift_0 rfl
theorem e63_1 : mm_E 63 1 ls st I r Q ↔ mm_E 63 2 ls (.int 1 :: st) I r Q := me_ic mc_63 dX5_drift_1 (by decide)
theorem e63_2 : mm_E 63 2 ls st I r Q ↔ mm_E 63 4 ls (.int 40 :: st) I r Q := me_bi mc_63 dX5_drift_2 (by decide)
theorem e63_4 : ∀ (x0 : Int32) (x1 : Int32) (x2 : Int32), (mm_E 63 4 ls (.int x2 :: .int x1 :: .int x0 :: st) I r Q ↔ mm_w8 st = true ∧ mm_E 85 0 [some (.int x0), some (.int x1), some (.int x2)] [] I r (fun v I2 r2 => mm_E 63 7 ls (mm_pu v st) I2 r2 Q)) := fun x0 x1 x2 => me_sc (n := 3) (As := [.int x0, .int x1, .int x2]) (xs := [.int x2, .int x1, .int x0]) mc_63 dX5_drift_4 (by decide +kernel) (by decide +kernel) rfl rfl (Nat.le_of_ble_eq_true rfl) rfl
theorem e63_7 : mm_E 63 7 ls (.int x :: st) I r Q ↔ if ¬ x = 0 then mm_E 63 12 ls st I r Q else mm_E 63 10 ls st I r Q := me_zne mc_63 dX5_drift_7 (by decide)
theorem e63_10 : mm_E 63 10 ls st I r Q ↔ mm_E 63 11 ls (.int (-1) :: st) I r Q := me_ic mc_63 dX5_drift_10 (by decide)
theorem e63_11 : mm_E 63 11 ls [.int x] I r Q ↔ Q (some (.int x)) I r := me_ri mc_63 dX5_drift_11 rfl
theorem e63_12 : mm_E 63 12 [some (.ref a), l1, l2] st I r Q ↔ mm_E 63 13 [some (.ref a), l1, l2] (.ref a :: st) I r Q := me_al mc_63 dX5_drift_12 rfl
theorem e63_13 : mm_E 63 13 ls (.ref a :: st) I r Q ↔ mm_S r a = (1, 5) ∧ mm_E 63 16 ls (va_rf (mm_P r a 0) :: st) I r Q := me_gr mc_63 dX5_drift_13 (by decide +kernel) rfl
theorem e63_16 : mm_E 63 16 ls (.ref a :: st) I r Q ↔ mm_S r a = (1, 0) ∧ mm_E 63 19 ls (.int (mm_rd I a 3) :: st) I r Q := me_gi mc_63 dX5_drift_16 (by decide +kernel) rfl
theorem e63_19 : mm_E 63 19 [l0, some (.int x), l2] st I r Q ↔ mm_E 63 20 [l0, some (.int x), l2] (.int x :: st) I r Q := me_il mc_63 dX5_drift_19 rfl
theorem e63_20 : mm_E 63 20 ls (.int y :: .int x :: st) I r Q ↔ mm_E 63 21 ls (.int (x + y) :: st) I r Q := me_iadd mc_63 dX5_drift_20
theorem e63_21 : mm_E 63 21 ls st I r Q ↔ mm_E 63 24 ls (.int 9999 :: st) I r Q := me_si mc_63 dX5_drift_21 (by decide)
theorem e63_24 : mm_E 63 24 ls (.int y :: .int x :: st) I r Q ↔ if x ≤ y then mm_E 63 30 ls st I r Q else mm_E 63 27 ls st I r Q := me_cle mc_63 dX5_drift_24 (by decide)
theorem e63_27 : mm_E 63 27 ls st I r Q ↔ mm_E 63 29 ls (.int (-3) :: st) I r Q := me_bi mc_63 dX5_drift_27 (by decide)
theorem e63_29 : mm_E 63 29 ls [.int x] I r Q ↔ Q (some (.int x)) I r := me_ri mc_63 dX5_drift_29 rfl
theorem e63_30 : mm_E 63 30 ls st I r Q ↔ mm_E 63 31 ls (.int 0 :: st) I r Q := me_ic mc_63 dX5_drift_30 (by decide)
theorem e63_31 : mm_E 63 31 [l0, l1, l2] (.int x :: st) I r Q ↔ mm_c1 l1 ∧ mm_E 63 32 [l0, l1, some (.int x)] st I r Q := me_st (k := 2) (v := .int x) mc_63 dX5_drift_31 rfl rfl (Nat.le_of_ble_eq_true rfl) rfl ⟨Or.inr, fun h => h.resolve_left (by decide)⟩
theorem e63_32 : mm_E 63 32 [l0, l1, some (.int x)] st I r Q ↔ mm_E 63 33 [l0, l1, some (.int x)] (.int x :: st) I r Q := me_il mc_63 dX5_drift_32 rfl
theorem e63_33 : mm_E 63 33 [l0, some (.int x), l2] st I r Q ↔ mm_E 63 34 [l0, some (.int x), l2] (.int x :: st) I r Q := me_il mc_63 dX5_drift_33 rfl
theorem e63_34 : mm_E 63 34 ls (.int y :: .int x :: st) I r Q ↔ if y ≤ x then mm_E 63 69 ls st I r Q else mm_E 63 37 ls st I r Q := me_cge mc_63 dX5_drift_34 (by decide)
theorem e63_37 : mm_E 63 37 [some (.ref a), l1, l2] st I r Q ↔ mm_E 63 38 [some (.ref a), l1, l2] (.ref a :: st) I r Q := me_al mc_63 dX5_drift_37 rfl
theorem e63_38 : mm_E 63 38 ls (.ref a :: st) I r Q ↔ mm_S r a = (1, 5) ∧ mm_E 63 41 ls (va_rf (mm_P r a 2) :: st) I r Q := me_gr mc_63 dX5_drift_38 (by decide +kernel) rfl
theorem e63_41 : mm_E 63 41 [some (.ref a), l1, l2] st I r Q ↔ mm_E 63 42 [some (.ref a), l1, l2] (.ref a :: st) I r Q := me_al mc_63 dX5_drift_41 rfl
theorem e63_42 : mm_E 63 42 ls (.ref a :: st) I r Q ↔ mm_S r a = (1, 5) ∧ mm_E 63 45 ls (va_rf (mm_P r a 0) :: st) I r Q := me_gr mc_63 dX5_drift_42 (by decide +kernel) rfl
theorem e63_45 : ∀ (x0 : Nat), (mm_E 63 45 ls (.ref x0 :: .ref a :: st) I r Q ↔ (mm_w8 st = true ∧ mm_S r a = (1, 2)) ∧ mm_E 27 0 [some (.ref a), some (.ref x0)] [] I r (fun v I2 r2 => mm_E 63 48 ls (mm_pu v st) I2 r2 Q)) := fun x0 => me_vc (n := 1) (As := [.ref x0]) (xs := [.ref x0]) (a := a) mc_63 dX5_drift_45 (by decide +kernel) (by decide +kernel) rfl rfl (Nat.le_of_ble_eq_true rfl) rfl
theorem e63_48 : mm_E 63 48 [some (.ref a), l1, l2] st I r Q ↔ mm_E 63 49 [some (.ref a), l1, l2] (.ref a :: st) I r Q := me_al mc_63 dX5_drift_48 rfl
theorem e63_49 : mm_E 63 49 ls (.ref a :: st) I r Q ↔ mm_S r a = (1, 5) ∧ mm_E 63 52 ls (va_rf (mm_P r a 0) :: st) I r Q := me_gr mc_63 dX5_drift_49 (by decide +kernel) rfl
theorem e63_52 : (mm_E 63 52 ls (.ref a :: st) I r Q ↔ (mm_w8 st = true ∧ mm_S r a = (1, 0)) ∧ mm_E 14 0 [some (.ref a)] [] I r (fun v I2 r2 => mm_E 63 55 ls (mm_pu v st) I2 r2 Q)) := me_vc (n := 0) (As := []) (xs := []) (a := a) mc_63 dX5_drift_52 (by decide +kernel) (by decide +kernel) rfl rfl (Nat.le_of_ble_eq_true rfl) rfl
theorem e63_55 : mm_E 63 55 [some (.ref a), l1, l2] st I r Q ↔ mm_E 63 56 [some (.ref a), l1, l2] (.ref a :: st) I r Q := me_al mc_63 dX5_drift_55 rfl
theorem e63_56 : mm_E 63 56 ls (.ref a :: st) I r Q ↔ mm_S r a = (1, 5) ∧ mm_E 63 59 ls (va_rf (mm_P r a 0) :: st) I r Q := me_gr mc_63 dX5_drift_56 (by decide +kernel) rfl
theorem e63_59 : mm_E 63 59 ls st I r Q ↔ mm_E 63 60 ls (.int 0 :: st) I r Q := me_ic mc_63 dX5_drift_59 (by decide)
theorem e63_60 : ∀ (x0 : Int32), (mm_E 63 60 ls (.int x0 :: .ref a :: st) I r Q ↔ (mm_w8 st = true ∧ mm_S r a = (1, 0)) ∧ mm_E 16 0 [some (.ref a), some (.int x0), none, none] [] I r (fun v I2 r2 => mm_E 63 63 ls (mm_pu v st) I2 r2 Q)) := fun x0 => me_vc (n := 1) (As := [.int x0]) (xs := [.int x0]) (a := a) mc_63 dX5_drift_60 (by decide +kernel) (by decide +kernel) rfl rfl (Nat.le_of_ble_eq_true rfl) rfl
theorem e63_63 : mm_E 63 63 [l0, l1, some (.int x)] st I r Q ↔ mm_c1 l1 ∧ mm_E 63 66 [l0, l1, some (.int (x + 1))] st I r Q := me_st (k := 2) (v := .int (x + 1)) mc_63 dX5_drift_63 rfl rfl (Nat.le_of_ble_eq_true rfl) rfl ⟨Or.inr, fun h => h.resolve_left (by decide)⟩
theorem e63_66 : mm_E 63 66 ls st I r Q ↔ mm_E 63 32 ls st I r Q := me_goto mc_63 dX5_drift_66 (by decide)
theorem e63_69 : mm_E 63 69 [some (.ref a), l1, l2] st I r Q ↔ mm_E 63 70 [some (.ref a), l1, l2] (.ref a :: st) I r Q := me_al mc_63 dX5_drift_69 rfl
theorem e63_70 : mm_E 63 70 ls (.ref a :: st) I r Q ↔ mm_S r a = (1, 5) ∧ mm_E 63 73 ls (va_rf (mm_P r a 0) :: st) I r Q := me_gr mc_63 dX5_drift_70 (by decide +kernel) rfl
theorem e63_73 : (mm_E 63 73 ls (.ref a :: st) I r Q ↔ (mm_w8 st = true ∧ mm_S r a = (1, 0)) ∧ mm_E 9 0 [some (.ref a), none, none] [] I r (fun v I2 r2 => mm_E 63 76 ls (mm_pu v st) I2 r2 Q)) := me_vc (n := 0) (As := []) (xs := []) (a := a) mc_63 dX5_drift_73 (by decide +kernel) (by decide +kernel) rfl rfl (Nat.le_of_ble_eq_true rfl) rfl
theorem e63_76 : mm_E 63 76 ls [.int x] I r Q ↔ Q (some (.int x)) I r := me_ri mc_63 dX5_drift_76 rfl
theorem mc_64 : mm_c 64 = cX5_undo := rfl
theorem e64_0 : mm_E 64 0 [some (.ref a), l1] st I r Q ↔ mm_E 64 1 [some (.ref a), l1] (.ref a :: st) I r Q := me_al mc_64 dX5_undo_0 rfl
theorem e64_1 : mm_E 64 1 ls (.ref a :: st) I r Q ↔ mm_S r a = (1, 5) ∧ mm_E 64 4 ls (va_rf (mm_P r a 2) :: st) I r Q := me_gr mc_64 dX5_undo_1 (by decide +kernel) rfl
theorem e64_4 : mm_E 64 4 ls (.ref a :: st) I r Q ↔ mm_S r a = (1, 2) ∧ mm_E 64 7 ls (.int (mm_rd I a 1) :: st) I r Q := me_gi mc_64 dX5_undo_4 (by decide +kernel) rfl
theorem e64_7 : mm_E 64 7 ls (.int x :: st) I r Q ↔ if ¬ x = 0 then mm_E 64 13 ls st I r Q else mm_E 64 10 ls st I r Q := me_zne mc_64 dX5_undo_7 (by decide)
theorem e64_10 : mm_E 64 10 ls st I r Q ↔ mm_E 64 12 ls (.int (-4) :: st) I r Q := me_bi mc_64 dX5_undo_10 (by decide)
theorem e64_12 : mm_E 64 12 ls [.int x] I r Q ↔ Q (some (.int x)) I r := me_ri mc_64 dX5_undo_12 rfl
theorem e64_13 : mm_E 64 13 [some (.ref a), l1] st I r Q ↔ mm_E 64 14 [some (.ref a), l1] (.ref a :: st) I r Q := me_al mc_64 dX5_undo_13 rfl
theorem e64_14 : mm_E 64 14 ls (.ref a :: st) I r Q ↔ mm_S r a = (1, 5) ∧ mm_E 64 17 ls (va_rf (mm_P r a 0) :: st) I r Q := me_gr mc_64 dX5_undo_14 (by decide +kernel) rfl
theorem e64_17 : mm_E 64 17 ls (.ref a :: st) I r Q ↔ mm_S r a = (1, 0) ∧ mm_E 64 20 ls (.int (mm_rd I a 2) :: st) I r Q := me_gi mc_64 dX5_undo_17 (by decide +kernel) rfl
theorem e64_20 : mm_E 64 20 [l0, l1] (.int x :: st) I r Q ↔ mm_c1 l0 ∧ mm_E 64 21 [l0, some (.int x)] st I r Q := me_st (k := 1) (v := .int x) mc_64 dX5_undo_20 rfl rfl (Nat.le_of_ble_eq_true rfl) rfl ⟨Or.inr, fun h => h.resolve_left (by decide)⟩
theorem e64_21 : mm_E 64 21 [some (.ref a), l1] st I r Q ↔ mm_E 64 22 [some (.ref a), l1] (.ref a :: st) I r Q := me_al mc_64 dX5_undo_21 rfl
theorem e64_22 : mm_E 64 22 ls (.ref a :: st) I r Q ↔ mm_S r a = (1, 5) ∧ mm_E 64 25 ls (va_rf (mm_P r a 2) :: st) I r Q := me_gr mc_64 dX5_undo_22 (by decide +kernel) rfl
theorem e64_25 : mm_E 64 25 [some (.ref a), l1] st I r Q ↔ mm_E 64 26 [some (.ref a), l1] (.ref a :: st) I r Q := me_al mc_64 dX5_undo_25 rfl
theorem e64_26 : mm_E 64 26 ls (.ref a :: st) I r Q ↔ mm_S r a = (1, 5) ∧ mm_E 64 29 ls (va_rf (mm_P r a 0) :: st) I r Q := me_gr mc_64 dX5_undo_26 (by decide +kernel) rfl
theorem e64_29 : ∀ (x0 : Nat), (mm_E 64 29 ls (.ref x0 :: .ref a :: st) I r Q ↔ (mm_w8 st = true ∧ mm_S r a = (1, 2)) ∧ mm_E 29 0 [some (.ref a), some (.ref x0)] [] I r (fun v I2 r2 => mm_E 64 32 ls (mm_pu v st) I2 r2 Q)) := fun x0 => me_vc (n := 1) (As := [.ref x0]) (xs := [.ref x0]) (a := a) mc_64 dX5_undo_29 (by decide +kernel) (by decide +kernel) rfl rfl (Nat.le_of_ble_eq_true rfl) rfl
theorem e64_32 : mm_E 64 32 [some (.ref a), l1] st I r Q ↔ mm_E 64 33 [some (.ref a), l1] (.ref a :: st) I r Q := me_al mc_64 dX5_undo_32 rfl
theorem e64_33 : mm_E 64 33 ls (.ref a :: st) I r Q ↔ mm_S r a = (1, 5) ∧ mm_E 64 36 ls (va_rf (mm_P r a 0) :: st) I r Q := me_gr mc_64 dX5_undo_33 (by decide +kernel) rfl
theorem e64_36 : mm_E 64 36 [l0, some (.int x)] st I r Q ↔ mm_E 64 37 [l0, some (.int x)] (.int x :: st) I r Q := me_il mc_64 dX5_undo_36 rfl
theorem e64_37 : mm_E 64 37 ls (.int x :: .ref a :: st) I r Q ↔ mm_S r a = (1, 0) ∧ mm_E 64 40 ls st (mm_uI I a 2 x) r Q := me_pi mc_64 dX5_undo_37 (by decide +kernel) (by decide +kernel)
theorem e64_40 : mm_E 64 40 [some (.ref a), l1] st I r Q ↔ mm_E 64 41 [some (.ref a), l1] (.ref a :: st) I r Q := me_al mc_64 dX5_undo_40 rfl
theorem e64_41 : mm_E 64 41 ls (.ref a :: st) I r Q ↔ mm_S r a = (1, 5) ∧ mm_E 64 44 ls (va_rf (mm_P r a 2) :: st) I r Q := me_gr mc_64 dX5_undo_41 (by decide +kernel) rfl
theorem e64_44 : mm_E 64 44 ls (.ref a :: st) I r Q ↔ mm_S r a = (1, 2) ∧ mm_E 64 47 ls (.int (mm_rd I a 1) :: st) I r Q := me_gi mc_64 dX5_undo_44 (by decide +kernel) rfl
theorem e64_47 : mm_E 64 47 ls [.int x] I r Q ↔ Q (some (.int x)) I r := me_ri mc_64 dX5_undo_47 rfl
theorem mc_65 : mm_c 65 = cX5_seed := rfl
theorem e65_0 : mm_E 65 0 [l0, some (.int x), l2] st I r Q ↔ mm_E 65 1 [l0, some (.int x), l2] (.int x :: st) I r Q := me_il mc_65 dX5_seed_0 rfl
theorem e65_1 : mm_E 65 1 ls (.int x :: st) I r Q ↔ if 0 ≤ x then mm_E 65 6 ls st I r Q else mm_E 65 4 ls st I r Q := me_zge mc_65 dX5_seed_1 (by decide)
theorem e65_4 : mm_E 65 4 ls st I r Q ↔ mm_E 65 5 ls (.int (-1) :: st) I r Q := me_ic mc_65 dX5_seed_4 (by decide)
theorem e65_5 : mm_E 65 5 ls [.int x] I r Q ↔ Q (some (.int x)) I r := me_ri mc_65 dX5_seed_5 rfl
theorem e65_6 : mm_E 65 6 [some (.ref a), l1, l2] st I r Q ↔ mm_E 65 7 [some (.ref a), l1, l2] (.ref a :: st) I r Q := me_al mc_65 dX5_seed_6 rfl
theorem e65_7 : mm_E 65 7 ls (.ref a :: st) I r Q ↔ mm_S r a = (1, 5) ∧ mm_E 65 10 ls (va_rf (mm_P r a 0) :: st) I r Q := me_gr mc_65 dX5_seed_7 (by decide +kernel) rfl
theorem e65_10 : mm_E 65 10 ls (.ref a :: st) I r Q ↔ mm_S r a = (1, 0) ∧ mm_E 65 13 ls (.int (mm_rd I a 5) :: st) I r Q := me_gi mc_65 dX5_seed_10 (by decide +kernel) rfl
theorem e65_13 : mm_E 65 13 [l0, l1, l2] (.int x :: st) I r Q ↔ mm_c1 l1 ∧ mm_E 65 14 [l0, l1, some (.int x)] st I r Q := me_st (k := 2) (v := .int x) mc_65 dX5_seed_13 rfl rfl (Nat.le_of_ble_eq_true rfl) rfl ⟨Or.inr, fun h => h.resolve_left (by decide)⟩
theorem e65_14 : mm_E 65 14 [some (.ref a), l1, l2] st I r Q ↔ mm_E 65 15 [some (.ref a), l1, l2] (.ref a :: st) I r Q := me_al mc_65 dX5_seed_14 rfl
theorem e65_15 : mm_E 65 15 ls (.ref a :: st) I r Q ↔ mm_S r a = (1, 5) ∧ mm_E 65 18 ls (va_rf (mm_P r a 0) :: st) I r Q := me_gr mc_65 dX5_seed_15 (by decide +kernel) rfl
theorem e65_18 : mm_E 65 18 [l0, some (.int x), l2] st I r Q ↔ mm_E 65 19 [l0, some (.int x), l2] (.int x :: st) I r Q := me_il mc_65 dX5_seed_18 rfl
theorem e65_19 : mm_E 65 19 ls (.int x :: .ref a :: st) I r Q ↔ mm_S r a = (1, 0) ∧ mm_E 65 22 ls st (mm_uI I a 5 x) r Q := me_pi mc_65 dX5_seed_19 (by decide +kernel) (by decide +kernel)
theorem e65_22 : mm_E 65 22 [l0, l1, some (.int x)] st I r Q ↔ mm_E 65 23 [l0, l1, some (.int x)] (.int x :: st) I r Q := me_il mc_65 dX5_seed_22 rfl
theorem e65_23 : mm_E 65 23 ls [.int x] I r Q ↔ Q (some (.int x)) I r := me_ri mc_65 dX5_seed_23 rfl
theorem mc_66 : mm_c 66 = cX5_ahead := rfl
theorem e66_0 : mm_E 66 0 [some (.ref a), l1, l2, l3] st I r Q ↔ mm_E 66 1 [some (.ref a), l1, l2, l3] (.ref a :: st) I r Q := me_al mc_66 dX5_ahead_0 rfl
theorem e66_1 : mm_E 66 1 ls (.ref a :: st) I r Q ↔ mm_S r a = (1, 5) ∧ mm_E 66 4 ls (va_rf (mm_P r a 0) :: st) I r Q := me_gr mc_66 dX5_ahead_1 (by decide +kernel) rfl
theorem e66_4 : mm_E 66 4 [l0, some (.int x), l2, l3] st I r Q ↔ mm_E 66 5 [l0, some (.int x), l2, l3] (.int x :: st) I r Q := me_il mc_66 dX5_ahead_4 rfl
theorem e66_5 : ∀ (x0 : Int32), (mm_E 66 5 ls (.int x0 :: .ref a :: st) I r Q ↔ (mm_w8 st = true ∧ mm_S r a = (1, 0)) ∧ mm_E 3 0 [some (.ref a), some (.int x0)] [] I r (fun v I2 r2 => mm_E 66 8 ls (mm_pu v st) I2 r2 Q)) := fun x0 => me_vc (n := 1) (As := [.int x0]) (xs := [.int x0]) (a := a) mc_66 dX5_ahead_5 (by decide +kernel) (by decide +kernel) rfl rfl (Nat.le_of_ble_eq_true rfl) rfl
theorem e66_8 : mm_E 66 8 ls (.int x :: st) I r Q ↔ if x = 0 then mm_E 66 30 ls st I r Q else mm_E 66 11 ls st I r Q := me_zeq mc_66 dX5_ahead_8 (by decide)
theorem e66_11 : mm_E 66 11 [l0, l1, some (.int x), l3] st I r Q ↔ mm_E 66 12 [l0, l1, some (.int x), l3] (.int x :: st) I r Q := me_il mc_66 dX5_ahead_11 rfl
theorem e66_12 : mm_E 66 12 ls st I r Q ↔ mm_E 66 13 ls (.int 0 :: st) I r Q := me_ic mc_66 dX5_ahead_12 (by decide)
theorem e66_13 : mm_E 66 13 ls st I r Q ↔ mm_E 66 15 ls (.int 60 :: st) I r Q := me_bi mc_66 dX5_ahead_13 (by decide)
theorem e66_15 : ∀ (x0 : Int32) (x1 : Int32) (x2 : Int32), (mm_E 66 15 ls (.int x2 :: .int x1 :: .int x0 :: st) I r Q ↔ mm_w8 st = true ∧ mm_E 85 0 [some (.int x0), some (.int x1), some (.int x2)] [] I r (fun v I2 r2 => mm_E 66 18 ls (mm_pu v st) I2 r2 Q)) := fun x0 x1 x2 => me_sc (n := 3) (As := [.int x0, .int x1, .int x2]) (xs := [.int x2, .int x1, .int x0]) mc_66 dX5_ahead_15 (by decide +kernel) (by decide +kernel) rfl rfl (Nat.le_of_ble_eq_true rfl) rfl
theorem e66_18 : mm_E 66 18 ls (.int x :: st) I r Q ↔ if x = 0 then mm_E 66 30 ls st I r Q else mm_E 66 21 ls st I r Q := me_zeq mc_66 dX5_ahead_18 (by decide)
theorem e66_21 : mm_E 66 21 [l0, l1, l2, some (.int x)] st I r Q ↔ mm_E 66 22 [l0, l1, l2, some (.int x)] (.int x :: st) I r Q := me_il mc_66 dX5_ahead_21 rfl
theorem e66_22 : mm_E 66 22 ls st I r Q ↔ mm_E 66 23 ls (.int 0 :: st) I r Q := me_ic mc_66 dX5_ahead_22 (by decide)
theorem e66_23 : mm_E 66 23 ls st I r Q ↔ mm_E 66 24 ls (.int 1 :: st) I r Q := me_ic mc_66 dX5_ahead_23 (by decide)
theorem e66_24 : ∀ (x0 : Int32) (x1 : Int32) (x2 : Int32), (mm_E 66 24 ls (.int x2 :: .int x1 :: .int x0 :: st) I r Q ↔ mm_w8 st = true ∧ mm_E 85 0 [some (.int x0), some (.int x1), some (.int x2)] [] I r (fun v I2 r2 => mm_E 66 27 ls (mm_pu v st) I2 r2 Q)) := fun x0 x1 x2 => me_sc (n := 3) (As := [.int x0, .int x1, .int x2]) (xs := [.int x2, .int x1, .int x0]) mc_66 dX5_ahead_24 (by decide +kernel) (by decide +kernel) rfl rfl (Nat.le_of_ble_eq_true rfl) rfl
theorem e66_27 : mm_E 66 27 ls (.int x :: st) I r Q ↔ if ¬ x = 0 then mm_E 66 32 ls st I r Q else mm_E 66 30 ls st I r Q := me_zne mc_66 dX5_ahead_27 (by decide)
theorem e66_30 : mm_E 66 30 ls st I r Q ↔ mm_E 66 31 ls (.int (-1) :: st) I r Q := me_ic mc_66 dX5_ahead_30 (by decide)
theorem e66_31 : mm_E 66 31 ls [.int x] I r Q ↔ Q (some (.int x)) I r := me_ri mc_66 dX5_ahead_31 rfl
theorem e66_32 : mm_E 66 32 [some (.ref a), l1, l2, l3] st I r Q ↔ mm_E 66 33 [some (.ref a), l1, l2, l3] (.ref a :: st) I r Q := me_al mc_66 dX5_ahead_32 rfl
theorem e66_33 : mm_E 66 33 [l0, l1, some (.int x), l3] st I r Q ↔ mm_E 66 34 [l0, l1, some (.int x), l3] (.int x :: st) I r Q := me_il mc_66 dX5_ahead_33 rfl
theorem e66_34 : ∀ (x0 : Int32), (mm_E 66 34 ls (.int x0 :: .ref a :: st) I r Q ↔ (mm_w8 st = true ∧ mm_S r a = (1, 5)) ∧ mm_E 86 0 [some (.ref a), some (.int x0)] [] I r (fun v I2 r2 => mm_E 66 37 ls (mm_pu v st) I2 r2 Q)) := fun x0 => me_vc (n := 1) (As := [.int x0]) (xs := [.int x0]) (a := a) mc_66 dX5_ahead_34 (by decide +kernel) (by decide +kernel) rfl rfl (Nat.le_of_ble_eq_true rfl) rfl
theorem e66_37 : mm_E 66 37 [l0, l1, l2, some (.int x)] st I r Q ↔ mm_E 66 38 [l0, l1, l2, some (.int x)] (.int x :: st) I r Q := me_il mc_66 dX5_ahead_37 rfl
theorem e66_38 : mm_E 66 38 ls (.int x :: st) I r Q ↔ if ¬ x = 0 then mm_E 66 53 ls st I r Q else mm_E 66 41 ls st I r Q := me_zne mc_66 dX5_ahead_38 (by decide)
theorem e66_41 : mm_E 66 41 [some (.ref a), l1, l2, l3] st I r Q ↔ mm_E 66 42 [some (.ref a), l1, l2, l3] (.ref a :: st) I r Q := me_al mc_66 dX5_ahead_41 rfl
theorem e66_42 : mm_E 66 42 ls (.ref a :: st) I r Q ↔ mm_S r a = (1, 5) ∧ mm_E 66 45 ls (va_rf (mm_P r a 1) :: st) I r Q := me_gr mc_66 dX5_ahead_42 (by decide +kernel) rfl
theorem e66_45 : mm_E 66 45 ls (.ref a :: st) I r Q ↔ mm_S r a = (1, 0) ∧ mm_E 66 48 ls (va_rf (mm_P r a 6) :: st) I r Q := me_gr mc_66 dX5_ahead_45 (by decide +kernel) rfl
theorem e66_48 : mm_E 66 48 [l0, some (.int x), l2, l3] st I r Q ↔ mm_E 66 49 [l0, some (.int x), l2, l3] (.int x :: st) I r Q := me_il mc_66 dX5_ahead_48 rfl
theorem e66_49 : mm_E 66 49 ls (.int x :: .ref a :: st) I r Q ↔ mm_ix r a 2 x ∧ mm_E 66 50 ls (.int (mm_rd I a x.toNatClampNeg) :: st) I r Q := me_ia mc_66 dX5_ahead_49
theorem e66_50 : mm_E 66 50 ls st I r Q ↔ mm_E 66 62 ls st I r Q := me_goto mc_66 dX5_ahead_50 (by decide)
theorem e66_53 : mm_E 66 53 [some (.ref a), l1, l2, l3] st I r Q ↔ mm_E 66 54 [some (.ref a), l1, l2, l3] (.ref a :: st) I r Q := me_al mc_66 dX5_ahead_53 rfl
theorem e66_54 : mm_E 66 54 ls (.ref a :: st) I r Q ↔ mm_S r a = (1, 5) ∧ mm_E 66 57 ls (va_rf (mm_P r a 1) :: st) I r Q := me_gr mc_66 dX5_ahead_54 (by decide +kernel) rfl
theorem e66_57 : mm_E 66 57 ls (.ref a :: st) I r Q ↔ mm_S r a = (1, 0) ∧ mm_E 66 60 ls (va_rf (mm_P r a 8) :: st) I r Q := me_gr mc_66 dX5_ahead_57 (by decide +kernel) rfl
theorem e66_60 : mm_E 66 60 [l0, some (.int x), l2, l3] st I r Q ↔ mm_E 66 61 [l0, some (.int x), l2, l3] (.int x :: st) I r Q := me_il mc_66 dX5_ahead_60 rfl
theorem e66_61 : mm_E 66 61 ls (.int x :: .ref a :: st) I r Q ↔ mm_ix r a 2 x ∧ mm_E 66 62 ls (.int (mm_rd I a x.toNatClampNeg) :: st) I r Q := me_ia mc_66 dX5_ahead_61
theorem e66_62 : mm_E 66 62 ls [.int x] I r Q ↔ Q (some (.int x)) I r := me_ri mc_66 dX5_ahead_62 rfl
theorem mc_67 : mm_c 67 = cX5_where := rfl
theorem e67_0 : mm_E 67 0 [some (.ref a), l1, l2] st I r Q ↔ mm_E 67 1 [some (.ref a), l1, l2] (.ref a :: st) I r Q := me_al mc_67 dX5_where_0 rfl
theorem e67_1 : mm_E 67 1 ls (.ref a :: st) I r Q ↔ mm_S r a = (1, 5) ∧ mm_E 67 4 ls (va_rf (mm_P r a 0) :: st) I r Q := me_gr mc_67 dX5_where_1 (by decide +kernel) rfl
theorem e67_4 : mm_E 67 4 [l0, some (.int x), l2] st I r Q ↔ mm_E 67 5 [l0, some (.int x), l2] (.int x :: st) I r Q := me_il mc_67 dX5_where_4 rfl
theorem e67_5 : ∀ (x0 : Int32), (mm_E 67 5 ls (.int x0 :: .ref a :: st) I r Q ↔ (mm_w8 st = true ∧ mm_S r a = (1, 0)) ∧ mm_E 4 0 [some (.ref a), some (.int x0)] [] I r (fun v I2 r2 => mm_E 67 8 ls (mm_pu v st) I2 r2 Q)) := fun x0 => me_vc (n := 1) (As := [.int x0]) (xs := [.int x0]) (a := a) mc_67 dX5_where_5 (by decide +kernel) (by decide +kernel) rfl rfl (Nat.le_of_ble_eq_true rfl) rfl
theorem e67_8 : mm_E 67 8 ls (.int x :: st) I r Q ↔ if x = 0 then mm_E 67 21 ls st I r Q else mm_E 67 11 ls st I r Q := me_zeq mc_67 dX5_where_8 (by decide)
theorem e67_11 : mm_E 67 11 [l0, l1, some (.int x)] st I r Q ↔ mm_E 67 12 [l0, l1, some (.int x)] (.int x :: st) I r Q := me_il mc_67 dX5_where_11 rfl
theorem e67_12 : mm_E 67 12 ls st I r Q ↔ mm_E 67 13 ls (.int 0 :: st) I r Q := me_ic mc_67 dX5_where_12 (by decide)
theorem e67_13 : mm_E 67 13 ls st I r Q ↔ mm_E 67 15 ls (.int 60 :: st) I r Q := me_bi mc_67 dX5_where_13 (by decide)
theorem e67_15 : ∀ (x0 : Int32) (x1 : Int32) (x2 : Int32), (mm_E 67 15 ls (.int x2 :: .int x1 :: .int x0 :: st) I r Q ↔ mm_w8 st = true ∧ mm_E 85 0 [some (.int x0), some (.int x1), some (.int x2)] [] I r (fun v I2 r2 => mm_E 67 18 ls (mm_pu v st) I2 r2 Q)) := fun x0 x1 x2 => me_sc (n := 3) (As := [.int x0, .int x1, .int x2]) (xs := [.int x2, .int x1, .int x0]) mc_67 dX5_where_15 (by decide +kernel) (by decide +kernel) rfl rfl (Nat.le_of_ble_eq_true rfl) rfl
theorem e67_18 : mm_E 67 18 ls (.int x :: st) I r Q ↔ if ¬ x = 0 then mm_E 67 23 ls st I r Q else mm_E 67 21 ls st I r Q := me_zne mc_67 dX5_where_18 (by decide)
theorem e67_21 : mm_E 67 21 ls st I r Q ↔ mm_E 67 22 ls (.int (-1) :: st) I r Q := me_ic mc_67 dX5_where_21 (by decide)
theorem e67_22 : mm_E 67 22 ls [.int x] I r Q ↔ Q (some (.int x)) I r := me_ri mc_67 dX5_where_22 rfl
theorem e67_23 : mm_E 67 23 [some (.ref a), l1, l2] st I r Q ↔ mm_E 67 24 [some (.ref a), l1, l2] (.ref a :: st) I r Q := me_al mc_67 dX5_where_23 rfl
theorem e67_24 : mm_E 67 24 [l0, l1, some (.int x)] st I r Q ↔ mm_E 67 25 [l0, l1, some (.int x)] (.int x :: st) I r Q := me_il mc_67 dX5_where_24 rfl
theorem e67_25 : ∀ (x0 : Int32), (mm_E 67 25 ls (.int x0 :: .ref a :: st) I r Q ↔ (mm_w8 st = true ∧ mm_S r a = (1, 5)) ∧ mm_E 86 0 [some (.ref a), some (.int x0)] [] I r (fun v I2 r2 => mm_E 67 28 ls (mm_pu v st) I2 r2 Q)) := fun x0 => me_vc (n := 1) (As := [.int x0]) (xs := [.int x0]) (a := a) mc_67 dX5_where_25 (by decide +kernel) (by decide +kernel) rfl rfl (Nat.le_of_ble_eq_true rfl) rfl
theorem e67_28 : mm_E 67 28 [some (.ref a), l1, l2] st I r Q ↔ mm_E 67 29 [some (.ref a), l1, l2] (.ref a :: st) I r Q := me_al mc_67 dX5_where_28 rfl
theorem e67_29 : mm_E 67 29 ls (.ref a :: st) I r Q ↔ mm_S r a = (1, 5) ∧ mm_E 67 32 ls (va_rf (mm_P r a 1) :: st) I r Q := me_gr mc_67 dX5_where_29 (by decide +kernel) rfl
theorem e67_32 : mm_E 67 32 ls (.ref a :: st) I r Q ↔ mm_S r a = (1, 0) ∧ mm_E 67 35 ls (va_rf (mm_P r a 11) :: st) I r Q := me_gr mc_67 dX5_where_32 (by decide +kernel) rfl
theorem e67_35 : mm_E 67 35 [l0, some (.int x), l2] st I r Q ↔ mm_E 67 36 [l0, some (.int x), l2] (.int x :: st) I r Q := me_il mc_67 dX5_where_35 rfl
theorem e67_36 : mm_E 67 36 ls (.int x :: .ref a :: st) I r Q ↔ mm_ix r a 2 x ∧ mm_E 67 37 ls (.int (mm_rd I a x.toNatClampNeg) :: st) I r Q := me_ia mc_67 dX5_where_36
theorem e67_37 : mm_E 67 37 ls [.int x] I r Q ↔ Q (some (.int x)) I r := me_ri mc_67 dX5_where_37 rfl
theorem mc_68 : mm_c 68 = cX5_then := rfl
theorem e68_0 : mm_E 68 0 [l0, some (.int x), l2] st I r Q ↔ mm_E 68 1 [l0, some (.int x), l2] (.int x :: st) I r Q := me_il mc_68 dX5_then_0 rfl
theorem e68_1 : mm_E 68 1 ls st I r Q ↔ mm_E 68 2 ls (.int 0 :: st) I r Q := me_ic mc_68 dX5_then_1 (by decide)
theorem e68_2 : mm_E 68 2 ls st I r Q ↔ mm_E 68 4 ls (.int 60 :: st) I r Q := me_bi mc_68 dX5_then_2 (by decide)
theorem e68_4 : ∀ (x0 : Int32) (x1 : Int32) (x2 : Int32), (mm_E 68 4 ls (.int x2 :: .int x1 :: .int x0 :: st) I r Q ↔ mm_w8 st = true ∧ mm_E 85 0 [some (.int x0), some (.int x1), some (.int x2)] [] I r (fun v I2 r2 => mm_E 68 7 ls (mm_pu v st) I2 r2 Q)) := fun x0 x1 x2 => me_sc (n := 3) (As := [.int x0, .int x1, .int x2]) (xs := [.int x2, .int x1, .int x0]) mc_68 dX5_then_4 (by decide +kernel) (by decide +kernel) rfl rfl (Nat.le_of_ble_eq_true rfl) rfl
theorem e68_7 : mm_E 68 7 ls (.int x :: st) I r Q ↔ if x = 0 then mm_E 68 19 ls st I r Q else mm_E 68 10 ls st I r Q := me_zeq mc_68 dX5_then_7 (by decide)
theorem e68_10 : mm_E 68 10 [l0, l1, some (.int x)] st I r Q ↔ mm_E 68 11 [l0, l1, some (.int x)] (.int x :: st) I r Q := me_il mc_68 dX5_then_10 rfl
theorem e68_11 : mm_E 68 11 ls st I r Q ↔ mm_E 68 12 ls (.int 0 :: st) I r Q := me_ic mc_68 dX5_then_11 (by decide)
theorem e68_12 : mm_E 68 12 ls st I r Q ↔ mm_E 68 13 ls (.int 1 :: st) I r Q := me_ic mc_68 dX5_then_12 (by decide)
theorem e68_13 : ∀ (x0 : Int32) (x1 : Int32) (x2 : Int32), (mm_E 68 13 ls (.int x2 :: .int x1 :: .int x0 :: st) I r Q ↔ mm_w8 st = true ∧ mm_E 85 0 [some (.int x0), some (.int x1), some (.int x2)] [] I r (fun v I2 r2 => mm_E 68 16 ls (mm_pu v st) I2 r2 Q)) := fun x0 x1 x2 => me_sc (n := 3) (As := [.int x0, .int x1, .int x2]) (xs := [.int x2, .int x1, .int x0]) mc_68 dX5_then_13 (by decide +kernel) (by decide +kernel) rfl rfl (Nat.le_of_ble_eq_true rfl) rfl
theorem e68_16 : mm_E 68 16 ls (.int x :: st) I r Q ↔ if ¬ x = 0 then mm_E 68 21 ls st I r Q else mm_E 68 19 ls st I r Q := me_zne mc_68 dX5_then_16 (by decide)
theorem e68_19 : mm_E 68 19 ls st I r Q ↔ mm_E 68 20 ls (.int (-1) :: st) I r Q := me_ic mc_68 dX5_then_19 (by decide)
theorem e68_20 : mm_E 68 20 ls [.int x] I r Q ↔ Q (some (.int x)) I r := me_ri mc_68 dX5_then_20 rfl
theorem e68_21 : mm_E 68 21 [some (.ref a), l1, l2] st I r Q ↔ mm_E 68 22 [some (.ref a), l1, l2] (.ref a :: st) I r Q := me_al mc_68 dX5_then_21 rfl
theorem e68_22 : mm_E 68 22 [l0, some (.int x), l2] st I r Q ↔ mm_E 68 23 [l0, some (.int x), l2] (.int x :: st) I r Q := me_il mc_68 dX5_then_22 rfl
theorem e68_23 : ∀ (x0 : Int32), (mm_E 68 23 ls (.int x0 :: .ref a :: st) I r Q ↔ (mm_w8 st = true ∧ mm_S r a = (1, 5)) ∧ mm_E 86 0 [some (.ref a), some (.int x0)] [] I r (fun v I2 r2 => mm_E 68 26 ls (mm_pu v st) I2 r2 Q)) := fun x0 => me_vc (n := 1) (As := [.int x0]) (xs := [.int x0]) (a := a) mc_68 dX5_then_23 (by decide +kernel) (by decide +kernel) rfl rfl (Nat.le_of_ble_eq_true rfl) rfl
theorem e68_26 : mm_E 68 26 [l0, l1, some (.int x)] st I r Q ↔ mm_E 68 27 [l0, l1, some (.int x)] (.int x :: st) I r Q := me_il mc_68 dX5_then_26 rfl
theorem e68_27 : mm_E 68 27 ls (.int x :: st) I r Q ↔ if ¬ x = 0 then mm_E 68 40 ls st I r Q else mm_E 68 30 ls st I r Q := me_zne mc_68 dX5_then_27 (by decide)
theorem e68_30 : mm_E 68 30 [some (.ref a), l1, l2] st I r Q ↔ mm_E 68 31 [some (.ref a), l1, l2] (.ref a :: st) I r Q := me_al mc_68 dX5_then_30 rfl
theorem e68_31 : mm_E 68 31 ls (.ref a :: st) I r Q ↔ mm_S r a = (1, 5) ∧ mm_E 68 34 ls (va_rf (mm_P r a 1) :: st) I r Q := me_gr mc_68 dX5_then_31 (by decide +kernel) rfl
theorem e68_34 : (mm_E 68 34 ls (.ref a :: st) I r Q ↔ (mm_w8 st = true ∧ mm_S r a = (1, 0)) ∧ mm_E 9 0 [some (.ref a), none, none] [] I r (fun v I2 r2 => mm_E 68 37 ls (mm_pu v st) I2 r2 Q)) := me_vc (n := 0) (As := []) (xs := []) (a := a) mc_68 dX5_then_34 (by decide +kernel) (by decide +kernel) rfl rfl (Nat.le_of_ble_eq_true rfl) rfl
theorem e68_37 : mm_E 68 37 ls st I r Q ↔ mm_E 68 47 ls st I r Q := me_goto mc_68 dX5_then_37 (by decide)
theorem e68_40 : mm_E 68 40 [some (.ref a), l1, l2] st I r Q ↔ mm_E 68 41 [some (.ref a), l1, l2] (.ref a :: st) I r Q := me_al mc_68 dX5_then_40 rfl
theorem e68_41 : mm_E 68 41 ls (.ref a :: st) I r Q ↔ mm_S r a = (1, 5) ∧ mm_E 68 44 ls (va_rf (mm_P r a 1) :: st) I r Q := me_gr mc_68 dX5_then_41 (by decide +kernel) rfl
theorem e68_44 : mm_E 68 44 ls (.ref a :: st) I r Q ↔ mm_S r a = (1, 0) ∧ mm_E 68 47 ls (.int (mm_rd I a 4) :: st) I r Q := me_gi mc_68 dX5_then_44 (by decide +kernel) rfl
theorem e68_47 : mm_E 68 47 ls [.int x] I r Q ↔ Q (some (.int x)) I r := me_ri mc_68 dX5_then_47 rfl
theorem mc_69 : mm_c 69 = cX5_lost := rfl
theorem e69_0 : mm_E 69 0 [some (.ref a), l1, l2] st I r Q ↔ mm_E 69 1 [some (.ref a), l1, l2] (.ref a :: st) I r Q := me_al mc_69 dX5_lost_0 rfl
theorem e69_1 : mm_E 69 1 ls (.ref a :: st) I r Q ↔ mm_S r a = (1, 5) ∧ mm_E 69 4 ls (va_rf (mm_P r a 0) :: st) I r Q := me_gr mc_69 dX5_lost_1 (by decide +kernel) rfl
theorem e69_4 : mm_E 69 4 [l0, some (.int x), l2] st I r Q ↔ mm_E 69 5 [l0, some (.int x), l2] (.int x :: st) I r Q := me_il mc_69 dX5_lost_4 rfl
theorem e69_5 : ∀ (x0 : Int32), (mm_E 69 5 ls (.int x0 :: .ref a :: st) I r Q ↔ (mm_w8 st = true ∧ mm_S r a = (1, 0)) ∧ mm_E 3 0 [some (.ref a), some (.int x0)] [] I r (fun v I2 r2 => mm_E 69 8 ls (mm_pu v st) I2 r2 Q)) := fun x0 => me_vc (n := 1) (As := [.int x0]) (xs := [.int x0]) (a := a) mc_69 dX5_lost_5 (by decide +kernel) (by decide +kernel) rfl rfl (Nat.le_of_ble_eq_true rfl) rfl
theorem e69_8 : mm_E 69 8 ls (.int x :: st) I r Q ↔ if ¬ x = 0 then mm_E 69 13 ls st I r Q else mm_E 69 11 ls st I r Q := me_zne mc_69 dX5_lost_8 (by decide)
theorem e69_11 : mm_E 69 11 ls st I r Q ↔ mm_E 69 12 ls (.int (-1) :: st) I r Q := me_ic mc_69 dX5_lost_11 (by decide)
theorem e69_12 : mm_E 69 12 ls [.int x] I r Q ↔ Q (some (.int x)) I r := me_ri mc_69 dX5_lost_12 rfl
theorem e69_13 : mm_E 69 13 [some (.ref a), l1, l2] st I r Q ↔ mm_E 69 14 [some (.ref a), l1, l2] (.ref a :: st) I r Q := me_al mc_69 dX5_lost_13 rfl
theorem e69_14 : mm_E 69 14 ls (.ref a :: st) I r Q ↔ mm_S r a = (1, 5) ∧ mm_E 69 17 ls (va_rf (mm_P r a 1) :: st) I r Q := me_gr mc_69 dX5_lost_14 (by decide +kernel) rfl
theorem e69_17 : mm_E 69 17 [some (.ref a), l1, l2] st I r Q ↔ mm_E 69 18 [some (.ref a), l1, l2] (.ref a :: st) I r Q := me_al mc_69 dX5_lost_17 rfl
theorem e69_18 : mm_E 69 18 ls (.ref a :: st) I r Q ↔ mm_S r a = (1, 5) ∧ mm_E 69 21 ls (va_rf (mm_P r a 0) :: st) I r Q := me_gr mc_69 dX5_lost_18 (by decide +kernel) rfl
theorem e69_21 : ∀ (x0 : Nat), (mm_E 69 21 ls (.ref x0 :: .ref a :: st) I r Q ↔ (mm_w8 st = true ∧ mm_S r a = (1, 0)) ∧ mm_E 1 0 [some (.ref a), some (.ref x0), none] [] I r (fun v I2 r2 => mm_E 69 24 ls (mm_pu v st) I2 r2 Q)) := fun x0 => me_vc (n := 1) (As := [.ref x0]) (xs := [.ref x0]) (a := a) mc_69 dX5_lost_21 (by decide +kernel) (by decide +kernel) rfl rfl (Nat.le_of_ble_eq_true rfl) rfl
theorem e69_24 : mm_E 69 24 ls st I r Q ↔ mm_E 69 25 ls (.int 0 :: st) I r Q := me_ic mc_69 dX5_lost_24 (by decide)
theorem e69_25 : mm_E 69 25 [l0, l1, l2] (.int x :: st) I r Q ↔ mm_c1 l1 ∧ mm_E 69 26 [l0, l1, some (.int x)] st I r Q := me_st (k := 2) (v := .int x) mc_69 dX5_lost_25 rfl rfl (Nat.le_of_ble_eq_true rfl) rfl ⟨Or.inr, fun h => h.resolve_left (by decide)⟩
theorem e69_26 : mm_E 69 26 [l0, l1, some (.int x)] st I r Q ↔ mm_E 69 27 [l0, l1, some (.int x)] (.int x :: st) I r Q := me_il mc_69 dX5_lost_26 rfl
theorem e69_27 : mm_E 69 27 ls st I r Q ↔ mm_E 69 29 ls (.int 60 :: st) I r Q := me_bi mc_69 dX5_lost_27 (by decide)
theorem e69_29 : mm_E 69 29 ls (.int y :: .int x :: st) I r Q ↔ if y < x then mm_E 69 59 ls st I r Q else mm_E 69 32 ls st I r Q := me_cgt mc_69 dX5_lost_29 (by decide)
theorem e69_32 : mm_E 69 32 [some (.ref a), l1, l2] st I r Q ↔ mm_E 69 33 [some (.ref a), l1, l2] (.ref a :: st) I r Q := me_al mc_69 dX5_lost_32 rfl
theorem e69_33 : mm_E 69 33 ls (.ref a :: st) I r Q ↔ mm_S r a = (1, 5) ∧ mm_E 69 36 ls (va_rf (mm_P r a 1) :: st) I r Q := me_gr mc_69 dX5_lost_33 (by decide +kernel) rfl
theorem e69_36 : mm_E 69 36 [l0, some (.int x), l2] st I r Q ↔ mm_E 69 37 [l0, some (.int x), l2] (.int x :: st) I r Q := me_il mc_69 dX5_lost_36 rfl
theorem e69_37 : ∀ (x0 : Int32), (mm_E 69 37 ls (.int x0 :: .ref a :: st) I r Q ↔ (mm_w8 st = true ∧ mm_S r a = (1, 0)) ∧ mm_E 7 0 [some (.ref a), some (.int x0)] [] I r (fun v I2 r2 => mm_E 69 40 ls (mm_pu v st) I2 r2 Q)) := fun x0 => me_vc (n := 1) (As := [.int x0]) (xs := [.int x0]) (a := a) mc_69 dX5_lost_37 (by decide +kernel) (by decide +kernel) rfl rfl (Nat.le_of_ble_eq_true rfl) rfl
theorem e69_40 : mm_E 69 40 ls (.int x :: st) I r Q ↔ if x = 0 then mm_E 69 45 ls st I r Q else mm_E 69 43 ls st I r Q := me_zeq mc_69 dX5_lost_40 (by decide)
theorem e69_43 : mm_E 69 43 [l0, l1, some (.int x)] st I r Q ↔ mm_E 69 44 [l0, l1, some (.int x)] (.int x :: st) I r Q := me_il mc_69 dX5_lost_43 rfl
theorem e69_44 : mm_E 69 44 ls [.int x] I r Q ↔ Q (some (.int x)) I r := me_ri mc_69 dX5_lost_44 rfl
theorem e69_45 : mm_E 69 45 [some (.ref a), l1, l2] st I r Q ↔ mm_E 69 46 [some (.ref a), l1, l2] (.ref a :: st) I r Q := me_al mc_69 dX5_lost_45 rfl
theorem e69_46 : mm_E 69 46 ls (.ref a :: st) I r Q ↔ mm_S r a = (1, 5) ∧ mm_E 69 49 ls (va_rf (mm_P r a 1) :: st) I r Q := me_gr mc_69 dX5_lost_46 (by decide +kernel) rfl
theorem e69_49 : mm_E 69 49 ls st I r Q ↔ mm_E 69 50 ls (.int 0 :: st) I r Q := me_ic mc_69 dX5_lost_49 (by decide)
theorem e69_50 : ∀ (x0 : Int32), (mm_E 69 50 ls (.int x0 :: .ref a :: st) I r Q ↔ (mm_w8 st = true ∧ mm_S r a = (1, 0)) ∧ mm_E 16 0 [some (.ref a), some (.int x0), none, none] [] I r (fun v I2 r2 => mm_E 69 53 ls (mm_pu v st) I2 r2 Q)) := fun x0 => me_vc (n := 1) (As := [.int x0]) (xs := [.int x0]) (a := a) mc_69 dX5_lost_50 (by decide +kernel) (by decide +kernel) rfl rfl (Nat.le_of_ble_eq_true rfl) rfl
theorem e69_53 : mm_E 69 53 [l0, l1, some (.int x)] st I r Q ↔ mm_c1 l1 ∧ mm_E 69 56 [l0, l1, some (.int (x + 1))] st I r Q := me_st (k := 2) (v := .int (x + 1)) mc_69 dX5_lost_53 rfl rfl (Nat.le_of_ble_eq_true rfl) rfl ⟨Or.inr, fun h => h.resolve_left (by decide)⟩
theorem e69_56 : mm_E 69 56 ls st I r Q ↔ mm_E 69 26 ls st I r Q := me_goto mc_69 dX5_lost_56 (by decide)
theorem e69_59 : mm_E 69 59 ls st I r Q ↔ mm_E 69 61 ls (.int (-4) :: st) I r Q := me_bi mc_69 dX5_lost_59 (by decide)
theorem e69_61 : mm_E 69 61 ls [.int x] I r Q ↔ Q (some (.int x)) I r := me_ri mc_69 dX5_lost_61 rfl
theorem mc_70 : mm_c 70 = cX5_free := rfl
theorem e70_0 : mm_E 70 0 [some (.ref a), l1, l2] st I r Q ↔ mm_E 70 1 [some (.ref a), l1, l2] (.ref a :: st) I r Q := me_al mc_70 dX5_free_0 rfl
theorem e70_1 : mm_E 70 1 ls (.ref a :: st) I r Q ↔ mm_S r a = (1, 5) ∧ mm_E 70 4 ls (va_rf (mm_P r a 0) :: st) I r Q := me_gr mc_70 dX5_free_1 (by decide +kernel) rfl
theorem e70_4 : mm_E 70 4 [l0, some (.int x), l2] st I r Q ↔ mm_E 70 5 [l0, some (.int x), l2] (.int x :: st) I r Q := me_il mc_70 dX5_free_4 rfl
theorem e70_5 : ∀ (x0 : Int32), (mm_E 70 5 ls (.int x0 :: .ref a :: st) I r Q ↔ (mm_w8 st = true ∧ mm_S r a = (1, 0)) ∧ mm_E 3 0 [some (.ref a), some (.int x0)] [] I r (fun v I2 r2 => mm_E 70 8 ls (mm_pu v st) I2 r2 Q)) := fun x0 => me_vc (n := 1) (As := [.int x0]) (xs := [.int x0]) (a := a) mc_70 dX5_free_5 (by decide +kernel) (by decide +kernel) rfl rfl (Nat.le_of_ble_eq_true rfl) rfl
theorem e70_8 : mm_E 70 8 ls (.int x :: st) I r Q ↔ if ¬ x = 0 then mm_E 70 13 ls st I r Q else mm_E 70 11 ls st I r Q := me_zne mc_70 dX5_free_8 (by decide)
theorem e70_11 : mm_E 70 11 ls st I r Q ↔ mm_E 70 12 ls (.int (-1) :: st) I r Q := me_ic mc_70 dX5_free_11 (by decide)
theorem e70_12 : mm_E 70 12 ls [.int x] I r Q ↔ Q (some (.int x)) I r := me_ri mc_70 dX5_free_12 rfl
theorem e70_13 : mm_E 70 13 [some (.ref a), l1, l2] st I r Q ↔ mm_E 70 14 [some (.ref a), l1, l2] (.ref a :: st) I r Q := me_al mc_70 dX5_free_13 rfl
theorem e70_14 : mm_E 70 14 ls (.ref a :: st) I r Q ↔ mm_S r a = (1, 5) ∧ mm_E 70 17 ls (va_rf (mm_P r a 1) :: st) I r Q := me_gr mc_70 dX5_free_14 (by decide +kernel) rfl
theorem e70_17 : mm_E 70 17 [some (.ref a), l1, l2] st I r Q ↔ mm_E 70 18 [some (.ref a), l1, l2] (.ref a :: st) I r Q := me_al mc_70 dX5_free_17 rfl
theorem e70_18 : mm_E 70 18 ls (.ref a :: st) I r Q ↔ mm_S r a = (1, 5) ∧ mm_E 70 21 ls (va_rf (mm_P r a 0) :: st) I r Q := me_gr mc_70 dX5_free_18 (by decide +kernel) rfl
theorem e70_21 : ∀ (x0 : Nat), (mm_E 70 21 ls (.ref x0 :: .ref a :: st) I r Q ↔ (mm_w8 st = true ∧ mm_S r a = (1, 0)) ∧ mm_E 1 0 [some (.ref a), some (.ref x0), none] [] I r (fun v I2 r2 => mm_E 70 24 ls (mm_pu v st) I2 r2 Q)) := fun x0 => me_vc (n := 1) (As := [.ref x0]) (xs := [.ref x0]) (a := a) mc_70 dX5_free_21 (by decide +kernel) (by decide +kernel) rfl rfl (Nat.le_of_ble_eq_true rfl) rfl
theorem e70_24 : mm_E 70 24 ls st I r Q ↔ mm_E 70 25 ls (.int 0 :: st) I r Q := me_ic mc_70 dX5_free_24 (by decide)
theorem e70_25 : mm_E 70 25 [l0, l1, l2] (.int x :: st) I r Q ↔ mm_c1 l1 ∧ mm_E 70 26 [l0, l1, some (.int x)] st I r Q := me_st (k := 2) (v := .int x) mc_70 dX5_free_25 rfl rfl (Nat.le_of_ble_eq_true rfl) rfl ⟨Or.inr, fun h => h.resolve_left (by decide)⟩
theorem e70_26 : mm_E 70 26 [l0, l1, some (.int x)] st I r Q ↔ mm_E 70 27 [l0, l1, some (.int x)] (.int x :: st) I r Q := me_il mc_70 dX5_free_26 rfl
theorem e70_27 : mm_E 70 27 ls st I r Q ↔ mm_E 70 29 ls (.int 60 :: st) I r Q := me_bi mc_70 dX5_free_27 (by decide)
theorem e70_29 : mm_E 70 29 ls (.int y :: .int x :: st) I r Q ↔ if y < x then mm_E 70 60 ls st I r Q else mm_E 70 32 ls st I r Q := me_cgt mc_70 dX5_free_29 (by decide)
theorem e70_32 : mm_E 70 32 [some (.ref a), l1, l2] st I r Q ↔ mm_E 70 33 [some (.ref a), l1, l2] (.ref a :: st) I r Q := me_al mc_70 dX5_free_32 rfl
theorem e70_33 : mm_E 70 33 ls (.ref a :: st) I r Q ↔ mm_S r a = (1, 5) ∧ mm_E 70 36 ls (va_rf (mm_P r a 1) :: st) I r Q := me_gr mc_70 dX5_free_33 (by decide +kernel) rfl
theorem e70_36 : mm_E 70 36 ls (.ref a :: st) I r Q ↔ mm_S r a = (1, 0) ∧ mm_E 70 39 ls (va_rf (mm_P r a 6) :: st) I r Q := me_gr mc_70 dX5_free_36 (by decide +kernel) rfl
theorem e70_39 : mm_E 70 39 [l0, some (.int x), l2] st I r Q ↔ mm_E 70 40 [l0, some (.int x), l2] (.int x :: st) I r Q := me_il mc_70 dX5_free_39 rfl
theorem e70_40 : mm_E 70 40 ls (.int x :: .ref a :: st) I r Q ↔ mm_ix r a 2 x ∧ mm_E 70 41 ls (.int (mm_rd I a x.toNatClampNeg) :: st) I r Q := me_ia mc_70 dX5_free_40
theorem e70_41 : mm_E 70 41 ls (.int x :: st) I r Q ↔ if ¬ x = 0 then mm_E 70 46 ls st I r Q else mm_E 70 44 ls st I r Q := me_zne mc_70 dX5_free_41 (by decide)
theorem e70_44 : mm_E 70 44 [l0, l1, some (.int x)] st I r Q ↔ mm_E 70 45 [l0, l1, some (.int x)] (.int x :: st) I r Q := me_il mc_70 dX5_free_44 rfl
theorem e70_45 : mm_E 70 45 ls [.int x] I r Q ↔ Q (some (.int x)) I r := me_ri mc_70 dX5_free_45 rfl
theorem e70_46 : mm_E 70 46 [some (.ref a), l1, l2] st I r Q ↔ mm_E 70 47 [some (.ref a), l1, l2] (.ref a :: st) I r Q := me_al mc_70 dX5_free_46 rfl
theorem e70_47 : mm_E 70 47 ls (.ref a :: st) I r Q ↔ mm_S r a = (1, 5) ∧ mm_E 70 50 ls (va_rf (mm_P r a 1) :: st) I r Q := me_gr mc_70 dX5_free_47 (by decide +kernel) rfl
theorem e70_50 : mm_E 70 50 ls st I r Q ↔ mm_E 70 51 ls (.int 0 :: st) I r Q := me_ic mc_70 dX5_free_50 (by decide)
theorem e70_51 : ∀ (x0 : Int32), (mm_E 70 51 ls (.int x0 :: .ref a :: st) I r Q ↔ (mm_w8 st = true ∧ mm_S r a = (1, 0)) ∧ mm_E 16 0 [some (.ref a), some (.int x0), none, none] [] I r (fun v I2 r2 => mm_E 70 54 ls (mm_pu v st) I2 r2 Q)) := fun x0 => me_vc (n := 1) (As := [.int x0]) (xs := [.int x0]) (a := a) mc_70 dX5_free_51 (by decide +kernel) (by decide +kernel) rfl rfl (Nat.le_of_ble_eq_true rfl) rfl
theorem e70_54 : mm_E 70 54 [l0, l1, some (.int x)] st I r Q ↔ mm_c1 l1 ∧ mm_E 70 57 [l0, l1, some (.int (x + 1))] st I r Q := me_st (k := 2) (v := .int (x + 1)) mc_70 dX5_free_54 rfl rfl (Nat.le_of_ble_eq_true rfl) rfl ⟨Or.inr, fun h => h.resolve_left (by decide)⟩
theorem e70_57 : mm_E 70 57 ls st I r Q ↔ mm_E 70 26 ls st I r Q := me_goto mc_70 dX5_free_57 (by decide)
theorem e70_60 : mm_E 70 60 ls st I r Q ↔ mm_E 70 62 ls (.int (-4) :: st) I r Q := me_bi mc_70 dX5_free_60 (by decide)
theorem e70_62 : mm_E 70 62 ls [.int x] I r Q ↔ Q (some (.int x)) I r := me_ri mc_70 dX5_free_62 rfl
theorem mc_71 : mm_c 71 = cX5_keep := rfl
theorem e71_0 : mm_E 71 0 [some (.ref a), l1, l2, l3] st I r Q ↔ mm_E 71 1 [some (.ref a), l1, l2, l3] (.ref a :: st) I r Q := me_al mc_71 dX5_keep_0 rfl
theorem e71_1 : mm_E 71 1 ls (.ref a :: st) I r Q ↔ mm_S r a = (1, 5) ∧ mm_E 71 4 ls (va_rf (mm_P r a 0) :: st) I r Q := me_gr mc_71 dX5_keep_1 (by decide +kernel) rfl
theorem e71_4 : mm_E 71 4 [l0, some (.int x), l2, l3] st I r Q ↔ mm_E 71 5 [l0, some (.int x), l2, l3] (.int x :: st) I r Q := me_il mc_71 dX5_keep_4 rfl
theorem e71_5 : ∀ (x0 : Int32), (mm_E 71 5 ls (.int x0 :: .ref a :: st) I r Q ↔ (mm_w8 st = true ∧ mm_S r a = (1, 0)) ∧ mm_E 3 0 [some (.ref a), some (.int x0)] [] I r (fun v I2 r2 => mm_E 71 8 ls (mm_pu v st) I2 r2 Q)) := fun x0 => me_vc (n := 1) (As := [.int x0]) (xs := [.int x0]) (a := a) mc_71 dX5_keep_5 (by decide +kernel) (by decide +kernel) rfl rfl (Nat.le_of_ble_eq_true rfl) rfl
theorem e71_8 : mm_E 71 8 ls (.int x :: st) I r Q ↔ if x = 0 then mm_E 71 21 ls st I r Q else mm_E 71 11 ls st I r Q := me_zeq mc_71 dX5_keep_8 (by decide)
theorem e71_11 : mm_E 71 11 [l0, l1, some (.int x), l3] st I r Q ↔ mm_E 71 12 [l0, l1, some (.int x), l3] (.int x :: st) I r Q := me_il mc_71 dX5_keep_11 rfl
theorem e71_12 : mm_E 71 12 ls st I r Q ↔ mm_E 71 13 ls (.int 1 :: st) I r Q := me_ic mc_71 dX5_keep_12 (by decide)
theorem e71_13 : mm_E 71 13 ls st I r Q ↔ mm_E 71 15 ls (.int 40 :: st) I r Q := me_bi mc_71 dX5_keep_13 (by decide)
theorem e71_15 : ∀ (x0 : Int32) (x1 : Int32) (x2 : Int32), (mm_E 71 15 ls (.int x2 :: .int x1 :: .int x0 :: st) I r Q ↔ mm_w8 st = true ∧ mm_E 85 0 [some (.int x0), some (.int x1), some (.int x2)] [] I r (fun v I2 r2 => mm_E 71 18 ls (mm_pu v st) I2 r2 Q)) := fun x0 x1 x2 => me_sc (n := 3) (As := [.int x0, .int x1, .int x2]) (xs := [.int x2, .int x1, .int x0]) mc_71 dX5_keep_15 (by decide +kernel) (by decide +kernel) rfl rfl (Nat.le_of_ble_eq_true rfl) rfl
theorem e71_18 : mm_E 71 18 ls (.int x :: st) I r Q ↔ if ¬ x = 0 then mm_E 71 23 ls st I r Q else mm_E 71 21 ls st I r Q := me_zne mc_71 dX5_keep_18 (by decide)
theorem e71_21 : mm_E 71 21 ls st I r Q ↔ mm_E 71 22 ls (.int (-1) :: st) I r Q := me_ic mc_71 dX5_keep_21 (by decide)
theorem e71_22 : mm_E 71 22 ls [.int x] I r Q ↔ Q (some (.int x)) I r := me_ri mc_71 dX5_keep_22 rfl
theorem e71_23 : mm_E 71 23 ls st I r Q ↔ mm_E 71 24 ls (.int 0 :: st) I r Q := me_ic mc_71 dX5_keep_23 (by decide)
theorem e71_24 : mm_E 71 24 [l0, l1, l2, l3] (.int x :: st) I r Q ↔ mm_c1 l2 ∧ mm_E 71 25 [l0, l1, l2, some (.int x)] st I r Q := me_st (k := 3) (v := .int x) mc_71 dX5_keep_24 rfl rfl (Nat.le_of_ble_eq_true rfl) rfl ⟨Or.inr, fun h => h.resolve_left (by decide)⟩
theorem e71_25 : mm_E 71 25 [l0, l1, l2, some (.int x)] st I r Q ↔ mm_E 71 26 [l0, l1, l2, some (.int x)] (.int x :: st) I r Q := me_il mc_71 dX5_keep_25 rfl
theorem e71_26 : mm_E 71 26 ls st I r Q ↔ mm_E 71 28 ls (.int 20 :: st) I r Q := me_bi mc_71 dX5_keep_26 (by decide)
theorem e71_28 : mm_E 71 28 ls (.int y :: .int x :: st) I r Q ↔ if y < x then mm_E 71 79 ls st I r Q else mm_E 71 31 ls st I r Q := me_cgt mc_71 dX5_keep_28 (by decide)
theorem e71_31 : mm_E 71 31 [some (.ref a), l1, l2, l3] st I r Q ↔ mm_E 71 32 [some (.ref a), l1, l2, l3] (.ref a :: st) I r Q := me_al mc_71 dX5_keep_31 rfl
theorem e71_32 : mm_E 71 32 ls (.ref a :: st) I r Q ↔ mm_S r a = (1, 5) ∧ mm_E 71 35 ls (va_rf (mm_P r a 1) :: st) I r Q := me_gr mc_71 dX5_keep_32 (by decide +kernel) rfl
theorem e71_35 : mm_E 71 35 [some (.ref a), l1, l2, l3] st I r Q ↔ mm_E 71 36 [some (.ref a), l1, l2, l3] (.ref a :: st) I r Q := me_al mc_71 dX5_keep_35 rfl
theorem e71_36 : mm_E 71 36 ls (.ref a :: st) I r Q ↔ mm_S r a = (1, 5) ∧ mm_E 71 39 ls (va_rf (mm_P r a 0) :: st) I r Q := me_gr mc_71 dX5_keep_36 (by decide +kernel) rfl
theorem e71_39 : ∀ (x0 : Nat), (mm_E 71 39 ls (.ref x0 :: .ref a :: st) I r Q ↔ (mm_w8 st = true ∧ mm_S r a = (1, 0)) ∧ mm_E 1 0 [some (.ref a), some (.ref x0), none] [] I r (fun v I2 r2 => mm_E 71 42 ls (mm_pu v st) I2 r2 Q)) := fun x0 => me_vc (n := 1) (As := [.ref x0]) (xs := [.ref x0]) (a := a) mc_71 dX5_keep_39 (by decide +kernel) (by decide +kernel) rfl rfl (Nat.le_of_ble_eq_true rfl) rfl
theorem e71_42 : mm_E 71 42 [some (.ref a), l1, l2, l3] st I r Q ↔ mm_E 71 43 [some (.ref a), l1, l2, l3] (.ref a :: st) I r Q := me_al mc_71 dX5_keep_42 rfl
theorem e71_43 : mm_E 71 43 ls (.ref a :: st) I r Q ↔ mm_S r a = (1, 5) ∧ mm_E 71 46 ls (va_rf (mm_P r a 1) :: st) I r Q := me_gr mc_71 dX5_keep_43 (by decide +kernel) rfl
theorem e71_46 : mm_E 71 46 ls (.ref a :: st) I r Q ↔ mm_S r a = (1, 0) ∧ mm_E 71 49 ls (va_rf (mm_P r a 7) :: st) I r Q := me_gr mc_71 dX5_keep_46 (by decide +kernel) rfl
theorem e71_49 : mm_E 71 49 [l0, some (.int x), l2, l3] st I r Q ↔ mm_E 71 50 [l0, some (.int x), l2, l3] (.int x :: st) I r Q := me_il mc_71 dX5_keep_49 rfl
theorem e71_50 : mm_E 71 50 [l0, l1, l2, some (.int x)] st I r Q ↔ mm_E 71 51 [l0, l1, l2, some (.int x)] (.int x :: st) I r Q := me_il mc_71 dX5_keep_50 rfl
theorem e71_51 : mm_E 71 51 ls (.int y :: .int x :: .ref a :: st) I r Q ↔ mm_ix r a 2 x ∧ mm_E 71 52 ls st (mm_uI I a x.toNatClampNeg y) r Q := me_is mc_71 dX5_keep_51
theorem e71_52 : mm_E 71 52 [some (.ref a), l1, l2, l3] st I r Q ↔ mm_E 71 53 [some (.ref a), l1, l2, l3] (.ref a :: st) I r Q := me_al mc_71 dX5_keep_52 rfl
theorem e71_53 : mm_E 71 53 ls (.ref a :: st) I r Q ↔ mm_S r a = (1, 5) ∧ mm_E 71 56 ls (va_rf (mm_P r a 1) :: st) I r Q := me_gr mc_71 dX5_keep_53 (by decide +kernel) rfl
theorem e71_56 : mm_E 71 56 [l0, l1, some (.int x), l3] st I r Q ↔ mm_E 71 57 [l0, l1, some (.int x), l3] (.int x :: st) I r Q := me_il mc_71 dX5_keep_56 rfl
theorem e71_57 : ∀ (x0 : Int32), (mm_E 71 57 ls (.int x0 :: .ref a :: st) I r Q ↔ (mm_w8 st = true ∧ mm_S r a = (1, 0)) ∧ mm_E 15 0 [some (.ref a), some (.int x0), none] [] I r (fun v I2 r2 => mm_E 71 60 ls (mm_pu v st) I2 r2 Q)) := fun x0 => me_vc (n := 1) (As := [.int x0]) (xs := [.int x0]) (a := a) mc_71 dX5_keep_57 (by decide +kernel) (by decide +kernel) rfl rfl (Nat.le_of_ble_eq_true rfl) rfl
theorem e71_60 : mm_E 71 60 [some (.ref a), l1, l2, l3] st I r Q ↔ mm_E 71 61 [some (.ref a), l1, l2, l3] (.ref a :: st) I r Q := me_al mc_71 dX5_keep_60 rfl
theorem e71_61 : mm_E 71 61 ls (.ref a :: st) I r Q ↔ mm_S r a = (1, 5) ∧ mm_E 71 64 ls (va_rf (mm_P r a 1) :: st) I r Q := me_gr mc_71 dX5_keep_61 (by decide +kernel) rfl
theorem e71_64 : mm_E 71 64 [l0, some (.int x), l2, l3] st I r Q ↔ mm_E 71 65 [l0, some (.int x), l2, l3] (.int x :: st) I r Q := me_il mc_71 dX5_keep_64 rfl
theorem e71_65 : ∀ (x0 : Int32), (mm_E 71 65 ls (.int x0 :: .ref a :: st) I r Q ↔ (mm_w8 st = true ∧ mm_S r a = (1, 0)) ∧ mm_E 7 0 [some (.ref a), some (.int x0)] [] I r (fun v I2 r2 => mm_E 71 68 ls (mm_pu v st) I2 r2 Q)) := fun x0 => me_vc (n := 1) (As := [.int x0]) (xs := [.int x0]) (a := a) mc_71 dX5_keep_65 (by decide +kernel) (by decide +kernel) rfl rfl (Nat.le_of_ble_eq_true rfl) rfl
theorem e71_68 : mm_E 71 68 ls (.int x :: st) I r Q ↔ if ¬ x = 0 then mm_E 71 73 ls st I r Q else mm_E 71 71 ls st I r Q := me_zne mc_71 dX5_keep_68 (by decide)
theorem e71_71 : mm_E 71 71 [l0, l1, l2, some (.int x)] st I r Q ↔ mm_E 71 72 [l0, l1, l2, some (.int x)] (.int x :: st) I r Q := me_il mc_71 dX5_keep_71 rfl
theorem e71_72 : mm_E 71 72 ls [.int x] I r Q ↔ Q (some (.int x)) I r := me_ri mc_71 dX5_keep_72 rfl
theorem e71_73 : mm_E 71 73 [l0, l1, l2, some (.int x)] st I r Q ↔ mm_c1 l2 ∧ mm_E 71 76 [l0, l1, l2, some (.int (x + 1))] st I r Q := me_st (k := 3) (v := .int (x + 1)) mc_71 dX5_keep_73 rfl rfl (Nat.le_of_ble_eq_true rfl) rfl ⟨Or.inr, fun h => h.resolve_left (by decide)⟩
theorem e71_76 : mm_E 71 76 ls st I r Q ↔ mm_E 71 25 ls st I r Q := me_goto mc_71 dX5_keep_76 (by decide)
theorem e71_79 : mm_E 71 79 ls st I r Q ↔ mm_E 71 81 ls (.int (-4) :: st) I r Q := me_bi mc_71 dX5_keep_79 (by decide)
theorem e71_81 : mm_E 71 81 ls [.int x] I r Q ↔ Q (some (.int x)) I r := me_ri mc_71 dX5_keep_81 rfl
theorem mc_72 : mm_c 72 = cX5_part := rfl
theorem e72_0 : mm_E 72 0 [l0, some (.int x), l2, l3] st I r Q ↔ mm_E 72 1 [l0, some (.int x), l2, l3] (.int x :: st) I r Q := me_il mc_72 dX5_part_0 rfl
theorem e72_1 : mm_E 72 1 ls st I r Q ↔ mm_E 72 2 ls (.int 0 :: st) I r Q := me_ic mc_72 dX5_part_1 (by decide)
theorem e72_2 : mm_E 72 2 ls st I r Q ↔ mm_E 72 4 ls (.int 12 :: st) I r Q := me_bi mc_72 dX5_part_2 (by decide)
theorem e72_4 : ∀ (x0 : Int32) (x1 : Int32) (x2 : Int32), (mm_E 72 4 ls (.int x2 :: .int x1 :: .int x0 :: st) I r Q ↔ mm_w8 st = true ∧ mm_E 85 0 [some (.int x0), some (.int x1), some (.int x2)] [] I r (fun v I2 r2 => mm_E 72 7 ls (mm_pu v st) I2 r2 Q)) := fun x0 x1 x2 => me_sc (n := 3) (As := [.int x0, .int x1, .int x2]) (xs := [.int x2, .int x1, .int x0]) mc_72 dX5_part_4 (by decide +kernel) (by decide +kernel) rfl rfl (Nat.le_of_ble_eq_true rfl) rfl
theorem e72_7 : mm_E 72 7 ls (.int x :: st) I r Q ↔ if x = 0 then mm_E 72 26 ls st I r Q else mm_E 72 10 ls st I r Q := me_zeq mc_72 dX5_part_7 (by decide)
theorem e72_10 : mm_E 72 10 [l0, l1, some (.int x), l3] st I r Q ↔ mm_E 72 11 [l0, l1, some (.int x), l3] (.int x :: st) I r Q := me_il mc_72 dX5_part_10 rfl
theorem e72_11 : mm_E 72 11 ls st I r Q ↔ mm_E 72 12 ls (.int 1 :: st) I r Q := me_ic mc_72 dX5_part_11 (by decide)
theorem e72_12 : mm_E 72 12 ls st I r Q ↔ mm_E 72 14 ls (.int 30 :: st) I r Q := me_bi mc_72 dX5_part_12 (by decide)
theorem e72_14 : ∀ (x0 : Int32) (x1 : Int32) (x2 : Int32), (mm_E 72 14 ls (.int x2 :: .int x1 :: .int x0 :: st) I r Q ↔ mm_w8 st = true ∧ mm_E 85 0 [some (.int x0), some (.int x1), some (.int x2)] [] I r (fun v I2 r2 => mm_E 72 17 ls (mm_pu v st) I2 r2 Q)) := fun x0 x1 x2 => me_sc (n := 3) (As := [.int x0, .int x1, .int x2]) (xs := [.int x2, .int x1, .int x0]) mc_72 dX5_part_14 (by decide +kernel) (by decide +kernel) rfl rfl (Nat.le_of_ble_eq_true rfl) rfl
theorem e72_17 : mm_E 72 17 ls (.int x :: st) I r Q ↔ if x = 0 then mm_E 72 26 ls st I r Q else mm_E 72 20 ls st I r Q := me_zeq mc_72 dX5_part_17 (by decide)
theorem e72_20 : mm_E 72 20 [l0, l1, l2, some (.int x)] st I r Q ↔ mm_E 72 21 [l0, l1, l2, some (.int x)] (.int x :: st) I r Q := me_il mc_72 dX5_part_20 rfl
theorem e72_21 : mm_E 72 21 ls st I r Q ↔ mm_E 72 23 ls (.int (-2) :: st) I r Q := me_bi mc_72 dX5_part_21 (by decide)
theorem e72_23 : mm_E 72 23 ls (.int y :: .int x :: st) I r Q ↔ if y ≤ x then mm_E 72 28 ls st I r Q else mm_E 72 26 ls st I r Q := me_cge mc_72 dX5_part_23 (by decide)
theorem e72_26 : mm_E 72 26 ls st I r Q ↔ mm_E 72 27 ls (.int (-1) :: st) I r Q := me_ic mc_72 dX5_part_26 (by decide)
theorem e72_27 : mm_E 72 27 ls [.int x] I r Q ↔ Q (some (.int x)) I r := me_ri mc_72 dX5_part_27 rfl
theorem e72_28 : mm_E 72 28 [l0, l1, l2, some (.int x)] st I r Q ↔ mm_E 72 29 [l0, l1, l2, some (.int x)] (.int x :: st) I r Q := me_il mc_72 dX5_part_28 rfl
theorem e72_29 : mm_E 72 29 [some (.ref a), l1, l2, l3] st I r Q ↔ mm_E 72 30 [some (.ref a), l1, l2, l3] (.ref a :: st) I r Q := me_al mc_72 dX5_part_29 rfl
theorem e72_30 : mm_E 72 30 ls (.ref a :: st) I r Q ↔ mm_S r a = (1, 5) ∧ mm_E 72 33 ls (va_rf (mm_P r a 0) :: st) I r Q := me_gr mc_72 dX5_part_30 (by decide +kernel) rfl
theorem e72_33 : mm_E 72 33 ls (.ref a :: st) I r Q ↔ mm_S r a = (1, 0) ∧ mm_E 72 36 ls (.int (mm_rd I a 0) :: st) I r Q := me_gi mc_72 dX5_part_33 (by decide +kernel) rfl
theorem e72_36 : mm_E 72 36 ls (.int y :: .int x :: st) I r Q ↔ if y ≤ x then mm_E 72 49 ls st I r Q else mm_E 72 39 ls st I r Q := me_cge mc_72 dX5_part_36 (by decide)
theorem e72_39 : mm_E 72 39 [some (.ref a), l1, l2, l3] st I r Q ↔ mm_E 72 40 [some (.ref a), l1, l2, l3] (.ref a :: st) I r Q := me_al mc_72 dX5_part_39 rfl
theorem e72_40 : mm_E 72 40 ls (.ref a :: st) I r Q ↔ mm_S r a = (1, 5) ∧ mm_E 72 43 ls (va_rf (mm_P r a 0) :: st) I r Q := me_gr mc_72 dX5_part_40 (by decide +kernel) rfl
theorem e72_43 : mm_E 72 43 ls (.ref a :: st) I r Q ↔ mm_S r a = (1, 0) ∧ mm_E 72 46 ls (.int (mm_rd I a 0) :: st) I r Q := me_gi mc_72 dX5_part_43 (by decide +kernel) rfl
theorem e72_46 : mm_E 72 46 ls (.int x :: st) I r Q ↔ if ¬ x = 0 then mm_E 72 52 ls st I r Q else mm_E 72 49 ls st I r Q := me_zne mc_72 dX5_part_46 (by decide)
theorem e72_49 : mm_E 72 49 ls st I r Q ↔ mm_E 72 51 ls (.int (-4) :: st) I r Q := me_bi mc_72 dX5_part_49 (by decide)
theorem e72_51 : mm_E 72 51 ls [.int x] I r Q ↔ Q (some (.int x)) I r := me_ri mc_72 dX5_part_51 rfl
theorem e72_52 : mm_E 72 52 [some (.ref a), l1, l2, l3] st I r Q ↔ mm_E 72 53 [some (.ref a), l1, l2, l3] (.ref a :: st) I r Q := me_al mc_72 dX5_part_52 rfl
theorem e72_53 : mm_E 72 53 ls (.ref a :: st) I r Q ↔ mm_S r a = (1, 5) ∧ mm_E 72 56 ls (va_rf (mm_P r a 3) :: st) I r Q := me_gr mc_72 dX5_part_53 (by decide +kernel) rfl
theorem e72_56 : mm_E 72 56 [some (.ref a), l1, l2, l3] st I r Q ↔ mm_E 72 57 [some (.ref a), l1, l2, l3] (.ref a :: st) I r Q := me_al mc_72 dX5_part_56 rfl
theorem e72_57 : mm_E 72 57 ls (.ref a :: st) I r Q ↔ mm_S r a = (1, 5) ∧ mm_E 72 60 ls (va_rf (mm_P r a 0) :: st) I r Q := me_gr mc_72 dX5_part_57 (by decide +kernel) rfl
theorem e72_60 : mm_E 72 60 [some (.ref a), l1, l2, l3] st I r Q ↔ mm_E 72 61 [some (.ref a), l1, l2, l3] (.ref a :: st) I r Q := me_al mc_72 dX5_part_60 rfl
theorem e72_61 : mm_E 72 61 ls (.ref a :: st) I r Q ↔ mm_S r a = (1, 5) ∧ mm_E 72 64 ls (va_rf (mm_P r a 1) :: st) I r Q := me_gr mc_72 dX5_part_61 (by decide +kernel) rfl
theorem e72_64 : mm_E 72 64 [l0, some (.int x), l2, l3] st I r Q ↔ mm_E 72 65 [l0, some (.int x), l2, l3] (.int x :: st) I r Q := me_il mc_72 dX5_part_64 rfl
theorem e72_65 : mm_E 72 65 [l0, l1, some (.int x), l3] st I r Q ↔ mm_E 72 66 [l0, l1, some (.int x), l3] (.int x :: st) I r Q := me_il mc_72 dX5_part_65 rfl
theorem e72_66 : ∀ (x0 : Nat) (x1 : Nat) (x2 : Int32) (x3 : Int32), (mm_E 72 66 ls (.int x3 :: .int x2 :: .ref x1 :: .ref x0 :: .ref a :: st) I r Q ↔ (mm_w8 st = true ∧ mm_S r a = (1, 1)) ∧ mm_E 22 0 [some (.ref a), some (.ref x0), some (.ref x1), some (.int x2), some (.int x3), none, none, none] [] I r (fun v I2 r2 => mm_E 72 69 ls (mm_pu v st) I2 r2 Q)) := fun x0 x1 x2 x3 => me_vc (n := 4) (As := [.ref x0, .ref x1, .int x2, .int x3]) (xs := [.int x3, .int x2, .ref x1, .ref x0]) (a := a) mc_72 dX5_part_66 (by decide +kernel) (by decide +kernel) rfl rfl (Nat.le_of_ble_eq_true rfl) rfl
theorem e72_69 : mm_E 72 69 [l0, l1, l2, some (.int x)] st I r Q ↔ mm_E 72 70 [l0, l1, l2, some (.int x)] (.int x :: st) I r Q := me_il mc_72 dX5_part_69 rfl
theorem e72_70 : mm_E 72 70 ls st I r Q ↔ mm_E 72 71 ls (.int (-1) :: st) I r Q := me_ic mc_72 dX5_part_70 (by decide)
theorem e72_71 : mm_E 72 71 ls (.int y :: .int x :: st) I r Q ↔ if ¬ x = y then mm_E 72 82 ls st I r Q else mm_E 72 74 ls st I r Q := me_cne mc_72 dX5_part_71 (by decide)
theorem e72_74 : mm_E 72 74 [some (.ref a), l1, l2, l3] st I r Q ↔ mm_E 72 75 [some (.ref a), l1, l2, l3] (.ref a :: st) I r Q := me_al mc_72 dX5_part_74 rfl
theorem e72_75 : mm_E 72 75 ls (.ref a :: st) I r Q ↔ mm_S r a = (1, 5) ∧ mm_E 72 78 ls (va_rf (mm_P r a 3) :: st) I r Q := me_gr mc_72 dX5_part_75 (by decide +kernel) rfl
theorem e72_78 : mm_E 72 78 ls (.ref a :: st) I r Q ↔ mm_S r a = (1, 1) ∧ mm_E 72 81 ls (.int (mm_rd I a 0) :: st) I r Q := me_gi mc_72 dX5_part_78 (by decide +kernel) rfl
theorem e72_81 : mm_E 72 81 ls [.int x] I r Q ↔ Q (some (.int x)) I r := me_ri mc_72 dX5_part_81 rfl
theorem e72_82 : mm_E 72 82 [l0, l1, l2, some (.int x)] st I r Q ↔ mm_E 72 83 [l0, l1, l2, some (.int x)] (.int x :: st) I r Q := me_il mc_72 dX5_part_82 rfl
theorem e72_83 : mm_E 72 83 ls st I r Q ↔ mm_E 72 85 ls (.int (-2) :: st) I r Q := me_bi mc_72 dX5_part_83 (by decide)
theorem e72_85 : mm_E 72 85 ls (.int y :: .int x :: st) I r Q ↔ if ¬ x = y then mm_E 72 98 ls st I r Q else mm_E 72 88 ls st I r Q := me_cne mc_72 dX5_part_85 (by decide)
theorem e72_88 : mm_E 72 88 [some (.ref a), l1, l2, l3] st I r Q ↔ mm_E 72 89 [some (.ref a), l1, l2, l3] (.ref a :: st) I r Q := me_al mc_72 dX5_part_88 rfl
theorem e72_89 : mm_E 72 89 ls (.ref a :: st) I r Q ↔ mm_S r a = (1, 5) ∧ mm_E 72 92 ls (va_rf (mm_P r a 3) :: st) I r Q := me_gr mc_72 dX5_part_89 (by decide +kernel) rfl
theorem e72_92 : mm_E 72 92 ls (.ref a :: st) I r Q ↔ mm_S r a = (1, 1) ∧ mm_E 72 95 ls (.int (mm_rd I a 1) :: st) I r Q := me_gi mc_72 dX5_part_92 (by decide +kernel) rfl
theorem e72_95 : mm_E 72 95 ls st I r Q ↔ mm_E 72 107 ls st I r Q := me_goto mc_72 dX5_part_95 (by decide)
theorem e72_98 : mm_E 72 98 [some (.ref a), l1, l2, l3] st I r Q ↔ mm_E 72 99 [some (.ref a), l1, l2, l3] (.ref a :: st) I r Q := me_al mc_72 dX5_part_98 rfl
theorem e72_99 : mm_E 72 99 ls (.ref a :: st) I r Q ↔ mm_S r a = (1, 5) ∧ mm_E 72 102 ls (va_rf (mm_P r a 3) :: st) I r Q := me_gr mc_72 dX5_part_99 (by decide +kernel) rfl
theorem e72_102 : mm_E 72 102 ls (.ref a :: st) I r Q ↔ mm_S r a = (1, 1) ∧ mm_E 72 105 ls (va_rf (mm_P r a 2) :: st) I r Q := me_gr mc_72 dX5_part_102 (by decide +kernel) rfl
theorem e72_105 : mm_E 72 105 [l0, l1, l2, some (.int x)] st I r Q ↔ mm_E 72 106 [l0, l1, l2, some (.int x)] (.int x :: st) I r Q := me_il mc_72 dX5_part_105 rfl
theorem e72_106 : mm_E 72 106 ls (.int x :: .ref a :: st) I r Q ↔ mm_ix r a 2 x ∧ mm_E 72 107 ls (.int (mm_rd I a x.toNatClampNeg) :: st) I r Q := me_ia mc_72 dX5_part_106
theorem e72_107 : mm_E 72 107 ls [.int x] I r Q ↔ Q (some (.int x)) I r := me_ri mc_72 dX5_part_107 rfl
theorem mc_73 : mm_c 73 = cX5_drives := rfl
theorem e73_0 : mm_E 73 0 [some (.ref a), l1, l2, l3, l4, l5, l6, l7, l8, l9, l10] st I r Q ↔ mm_E 73 1 [some (.ref a), l1, l2, l3, l4, l5, l6, l7, l8, l9, l10] (.ref a :: st) I r Q := me_al mc_73 dX5_drives_0 rfl
theorem e73_1 : mm_E 73 1 ls (.ref a :: st) I r Q ↔ mm_S r a = (1, 5) ∧ mm_E 73 4 ls (va_rf (mm_P r a 0) :: st) I r Q := me_gr mc_73 dX5_drives_1 (by decide +kernel) rfl
theorem e73_4 : mm_E 73 4 [l0, some (.int x), l2, l3, l4, l5, l6, l7, l8, l9, l10] st I r Q ↔ mm_E 73 5 [l0, some (.int x), l2, l3, l4, l5, l6, l7, l8, l9, l10] (.int x :: st) I r Q := me_il mc_73 dX5_drives_4 rfl
theorem e73_5 : ∀ (x0 : Int32), (mm_E 73 5 ls (.int x0 :: .ref a :: st) I r Q ↔ (mm_w8 st = true ∧ mm_S r a = (1, 0)) ∧ mm_E 3 0 [some (.ref a), some (.int x0)] [] I r (fun v I2 r2 => mm_E 73 8 ls (mm_pu v st) I2 r2 Q)) := fun x0 => me_vc (n := 1) (As := [.int x0]) (xs := [.int x0]) (a := a) mc_73 dX5_drives_5 (by decide +kernel) (by decide +kernel) rfl rfl (Nat.le_of_ble_eq_true rfl) rfl
theorem e73_8 : mm_E 73 8 ls (.int x :: st) I r Q ↔ if x = 0 then mm_E 73 30 ls st I r Q else mm_E 73 11 ls st I r Q := me_zeq mc_73 dX5_drives_8 (by decide)
theorem e73_11 : mm_E 73 11 [l0, l1, some (.int x), l3, l4, l5, l6, l7, l8, l9, l10] st I r Q ↔ mm_E 73 12 [l0, l1, some (.int x), l3, l4, l5, l6, l7, l8, l9, l10] (.int x :: st) I r Q := me_il mc_73 dX5_drives_11 rfl
theorem e73_12 : mm_E 73 12 ls st I r Q ↔ mm_E 73 13 ls (.int 1 :: st) I r Q := me_ic mc_73 dX5_drives_12 (by decide)
theorem e73_13 : mm_E 73 13 ls st I r Q ↔ mm_E 73 15 ls (.int 40 :: st) I r Q := me_bi mc_73 dX5_drives_13 (by decide)
theorem e73_15 : ∀ (x0 : Int32) (x1 : Int32) (x2 : Int32), (mm_E 73 15 ls (.int x2 :: .int x1 :: .int x0 :: st) I r Q ↔ mm_w8 st = true ∧ mm_E 85 0 [some (.int x0), some (.int x1), some (.int x2)] [] I r (fun v I2 r2 => mm_E 73 18 ls (mm_pu v st) I2 r2 Q)) := fun x0 x1 x2 => me_sc (n := 3) (As := [.int x0, .int x1, .int x2]) (xs := [.int x2, .int x1, .int x0]) mc_73 dX5_drives_15 (by decide +kernel) (by decide +kernel) rfl rfl (Nat.le_of_ble_eq_true rfl) rfl
theorem e73_18 : mm_E 73 18 ls (.int x :: st) I r Q ↔ if x = 0 then mm_E 73 30 ls st I r Q else mm_E 73 21 ls st I r Q := me_zeq mc_73 dX5_drives_18 (by decide)
theorem e73_21 : mm_E 73 21 [l0, l1, l2, some (.int x), l4, l5, l6, l7, l8, l9, l10] st I r Q ↔ mm_E 73 22 [l0, l1, l2, some (.int x), l4, l5, l6, l7, l8, l9, l10] (.int x :: st) I r Q := me_il mc_73 dX5_drives_21 rfl
theorem e73_22 : mm_E 73 22 ls st I r Q ↔ mm_E 73 23 ls (.int 0 :: st) I r Q := me_ic mc_73 dX5_drives_22 (by decide)
theorem e73_23 : mm_E 73 23 ls st I r Q ↔ mm_E 73 24 ls (.int 1 :: st) I r Q := me_ic mc_73 dX5_drives_23 (by decide)
theorem e73_24 : ∀ (x0 : Int32) (x1 : Int32) (x2 : Int32), (mm_E 73 24 ls (.int x2 :: .int x1 :: .int x0 :: st) I r Q ↔ mm_w8 st = true ∧ mm_E 85 0 [some (.int x0), some (.int x1), some (.int x2)] [] I r (fun v I2 r2 => mm_E 73 27 ls (mm_pu v st) I2 r2 Q)) := fun x0 x1 x2 => me_sc (n := 3) (As := [.int x0, .int x1, .int x2]) (xs := [.int x2, .int x1, .int x0]) mc_73 dX5_drives_24 (by decide +kernel) (by decide +kernel) rfl rfl (Nat.le_of_ble_eq_true rfl) rfl
theorem e73_27 : mm_E 73 27 ls (.int x :: st) I r Q ↔ if ¬ x = 0 then mm_E 73 32 ls st I r Q else mm_E 73 30 ls st I r Q := me_zne mc_73 dX5_drives_27 (by decide)
theorem e73_30 : mm_E 73 30 ls st I r Q ↔ mm_E 73 31 ls (.int (-1) :: st) I r Q := me_ic mc_73 dX5_drives_30 (by decide)
theorem e73_31 : mm_E 73 31 ls [.int x] I r Q ↔ Q (some (.int x)) I r := me_ri mc_73 dX5_drives_31 rfl
theorem e73_32 : mm_E 73 32 ls st I r Q ↔ mm_E 73 34 ls (.int (-4) :: st) I r Q := me_bi mc_73 dX5_drives_32 (by decide)
theorem e73_34 : mm_E 73 34 [l0, l1, l2, l3, l4, l5, l6, l7, l8, l9, l10] (.int x :: st) I r Q ↔ mm_c1 l3 ∧ mm_E 73 36 [l0, l1, l2, l3, some (.int x), l5, l6, l7, l8, l9, l10] st I r Q := me_st (k := 4) (v := .int x) mc_73 dX5_drives_34 rfl rfl (Nat.le_of_ble_eq_true rfl) rfl ⟨Or.inr, fun h => h.resolve_left (by decide)⟩
theorem e73_36 : mm_E 73 36 ls st I r Q ↔ mm_E 73 37 ls (.int 0 :: st) I r Q := me_ic mc_73 dX5_drives_36 (by decide)
theorem e73_37 : mm_E 73 37 [l0, l1, l2, l3, l4, l5, l6, l7, l8, l9, l10] (.int x :: st) I r Q ↔ mm_c1 l4 ∧ mm_E 73 39 [l0, l1, l2, l3, l4, some (.int x), l6, l7, l8, l9, l10] st I r Q := me_st (k := 5) (v := .int x) mc_73 dX5_drives_37 rfl rfl (Nat.le_of_ble_eq_true rfl) rfl ⟨Or.inr, fun h => h.resolve_left (by decide)⟩
theorem e73_39 : mm_E 73 39 ls st I r Q ↔ mm_E 73 40 ls (.int 0 :: st) I r Q := me_ic mc_73 dX5_drives_39 (by decide)
theorem e73_40 : mm_E 73 40 [l0, l1, l2, l3, l4, l5, l6, l7, l8, l9, l10] (.int x :: st) I r Q ↔ mm_c1 l5 ∧ mm_E 73 42 [l0, l1, l2, l3, l4, l5, some (.int x), l7, l8, l9, l10] st I r Q := me_st (k := 6) (v := .int x) mc_73 dX5_drives_40 rfl rfl (Nat.le_of_ble_eq_true rfl) rfl ⟨Or.inr, fun h => h.resolve_left (by decide)⟩
theorem e73_42 : mm_E 73 42 ls st I r Q ↔ mm_E 73 43 ls (.int 0 :: st) I r Q := me_ic mc_73 dX5_drives_42 (by decide)
theorem e73_43 : mm_E 73 43 [l0, l1, l2, l3, l4, l5, l6, l7, l8, l9, l10] (.int x :: st) I r Q ↔ mm_c1 l6 ∧ mm_E 73 45 [l0, l1, l2, l3, l4, l5, l6, some (.int x), l8, l9, l10] st I r Q := me_st (k := 7) (v := .int x) mc_73 dX5_drives_43 rfl rfl (Nat.le_of_ble_eq_true rfl) rfl ⟨Or.inr, fun h => h.resolve_left (by decide)⟩
theorem e73_45 : mm_E 73 45 [l0, l1, l2, l3, l4, l5, l6, some (.int x), l8, l9, l10] st I r Q ↔ mm_E 73 47 [l0, l1, l2, l3, l4, l5, l6, some (.int x), l8, l9, l10] (.int x :: st) I r Q := me_il2 mc_73 dX5_drives_45 rfl
theorem e73_47 : mm_E 73 47 [some (.ref a), l1, l2, l3, l4, l5, l6, l7, l8, l9, l10] st I r Q ↔ mm_E 73 48 [some (.ref a), l1, l2, l3, l4, l5, l6, l7, l8, l9, l10] (.ref a :: st) I r Q := me_al mc_73 dX5_drives_47 rfl
theorem e73_48 : mm_E 73 48 ls (.ref a :: st) I r Q ↔ mm_S r a = (1, 5) ∧ mm_E 73 51 ls (va_rf (mm_P r a 0) :: st) I r Q := me_gr mc_73 dX5_drives_48 (by decide +kernel) rfl
theorem e73_51 : mm_E 73 51 ls (.ref a :: st) I r Q ↔ mm_S r a = (1, 0) ∧ mm_E 73 54 ls (.int (mm_rd I a 1) :: st) I r Q := me_gi mc_73 dX5_drives_51 (by decide +kernel) rfl
theorem e73_54 : mm_E 73 54 ls (.int y :: .int x :: st) I r Q ↔ if y ≤ x then mm_E 73 179 ls st I r Q else mm_E 73 57 ls st I r Q := me_cge mc_73 dX5_drives_54 (by decide)
theorem e73_57 : mm_E 73 57 ls st I r Q ↔ mm_E 73 58 ls (.int 0 :: st) I r Q := me_ic mc_73 dX5_drives_57 (by decide)
theorem e73_58 : mm_E 73 58 [l0, l1, l2, l3, l4, l5, l6, l7, l8, l9, l10] (.int x :: st) I r Q ↔ mm_c1 l7 ∧ mm_E 73 60 [l0, l1, l2, l3, l4, l5, l6, l7, some (.int x), l9, l10] st I r Q := me_st (k := 8) (v := .int x) mc_73 dX5_drives_58 rfl rfl (Nat.le_of_ble_eq_true rfl) rfl ⟨Or.inr, fun h => h.resolve_left (by decide)⟩
theorem e73_60 : mm_E 73 60 [l0, l1, l2, l3, l4, l5, l6, l7, some (.int x), l9, l10] st I r Q ↔ mm_E 73 62 [l0, l1, l2, l3, l4, l5, l6, l7, some (.int x), l9, l10] (.int x :: st) I r Q := me_il2 mc_73 dX5_drives_60 rfl
theorem e73_62 : mm_E 73 62 [some (.ref a), l1, l2, l3, l4, l5, l6, l7, l8, l9, l10] st I r Q ↔ mm_E 73 63 [some (.ref a), l1, l2, l3, l4, l5, l6, l7, l8, l9, l10] (.ref a :: st) I r Q := me_al mc_73 dX5_drives_62 rfl
theorem e73_63 : mm_E 73 63 ls (.ref a :: st) I r Q ↔ mm_S r a = (1, 5) ∧ mm_E 73 66 ls (va_rf (mm_P r a 0) :: st) I r Q := me_gr mc_73 dX5_drives_63 (by decide +kernel) rfl
theorem e73_66 : mm_E 73 66 ls (.ref a :: st) I r Q ↔ mm_S r a = (1, 0) ∧ mm_E 73 69 ls (.int (mm_rd I a 0) :: st) I r Q := me_gi mc_73 dX5_drives_66 (by decide +kernel) rfl
theorem e73_69 : mm_E 73 69 ls (.int y :: .int x :: st) I r Q ↔ if y ≤ x then mm_E 73 173 ls st I r Q else mm_E 73 72 ls st I r Q := me_cge mc_73 dX5_drives_69 (by decide)
theorem e73_72 : mm_E 73 72 [some (.ref a), l1, l2, l3, l4, l5, l6, l7, l8, l9, l10] st I r Q ↔ mm_E 73 73 [some (.ref a), l1, l2, l3, l4, l5, l6, l7, l8, l9, l10] (.ref a :: st) I r Q := me_al mc_73 dX5_drives_72 rfl
theorem e73_73 : mm_E 73 73 ls (.ref a :: st) I r Q ↔ mm_S r a = (1, 5) ∧ mm_E 73 76 ls (va_rf (mm_P r a 0) :: st) I r Q := me_gr mc_73 dX5_drives_73 (by decide +kernel) rfl
theorem e73_76 : mm_E 73 76 ls (.ref a :: st) I r Q ↔ mm_S r a = (1, 0) ∧ mm_E 73 79 ls (va_rf (mm_P r a 11) :: st) I r Q := me_gr mc_73 dX5_drives_76 (by decide +kernel) rfl
theorem e73_79 : mm_E 73 79 [l0, l1, l2, l3, l4, l5, l6, some (.int x), l8, l9, l10] st I r Q ↔ mm_E 73 81 [l0, l1, l2, l3, l4, l5, l6, some (.int x), l8, l9, l10] (.int x :: st) I r Q := me_il2 mc_73 dX5_drives_79 rfl
theorem e73_81 : mm_E 73 81 ls (.int x :: .ref a :: st) I r Q ↔ mm_ix r a 2 x ∧ mm_E 73 82 ls (.int (mm_rd I a x.toNatClampNeg) :: st) I r Q := me_ia mc_73 dX5_drives_81
theorem e73_82 : mm_E 73 82 [l0, l1, l2, l3, l4, l5, l6, l7, some (.int x), l9, l10] st I r Q ↔ mm_E 73 84 [l0, l1, l2, l3, l4, l5, l6, l7, some (.int x), l9, l10] (.int x :: st) I r Q := me_il2 mc_73 dX5_drives_82 rfl
theorem e73_84 : mm_E 73 84 ls (.int y :: .int x :: st) I r Q ↔ if ¬ x = y then mm_E 73 90 ls st I r Q else mm_E 73 87 ls st I r Q := me_cne mc_73 dX5_drives_84 (by decide)
theorem e73_87 : mm_E 73 87 ls st I r Q ↔ mm_E 73 167 ls st I r Q := me_goto mc_73 dX5_drives_87 (by decide)
theorem e73_90 : mm_E 73 90 [some (.ref a), l1, l2, l3, l4, l5, l6, l7, l8, l9, l10] st I r Q ↔ mm_E 73 91 [some (.ref a), l1, l2, l3, l4, l5, l6, l7, l8, l9, l10] (.ref a :: st) I r Q := me_al mc_73 dX5_drives_90 rfl
theorem e73_91 : mm_E 73 91 [l0, l1, l2, l3, l4, l5, l6, some (.int x), l8, l9, l10] st I r Q ↔ mm_E 73 93 [l0, l1, l2, l3, l4, l5, l6, some (.int x), l8, l9, l10] (.int x :: st) I r Q := me_il2 mc_73 dX5_drives_91 rfl
theorem e73_93 : mm_E 73 93 [l0, l1, l2, l3, l4, l5, l6, l7, some (.int x), l9, l10] st I r Q ↔ mm_E 73 95 [l0, l1, l2, l3, l4, l5, l6, l7, some (.int x), l9, l10] (.int x :: st) I r Q := me_il2 mc_73 dX5_drives_93 rfl
theorem e73_95 : mm_E 73 95 [l0, l1, some (.int x), l3, l4, l5, l6, l7, l8, l9, l10] st I r Q ↔ mm_E 73 96 [l0, l1, some (.int x), l3, l4, l5, l6, l7, l8, l9, l10] (.int x :: st) I r Q := me_il mc_73 dX5_drives_95 rfl
theorem e73_96 : ∀ (x0 : Int32) (x1 : Int32) (x2 : Int32), (mm_E 73 96 ls (.int x2 :: .int x1 :: .int x0 :: .ref a :: st) I r Q ↔ (mm_w8 st = true ∧ mm_S r a = (1, 5)) ∧ mm_E 87 0 [some (.ref a), some (.int x0), some (.int x1), some (.int x2)] [] I r (fun v I2 r2 => mm_E 73 99 ls (mm_pu v st) I2 r2 Q)) := fun x0 x1 x2 => me_vc (n := 3) (As := [.int x0, .int x1, .int x2]) (xs := [.int x2, .int x1, .int x0]) (a := a) mc_73 dX5_drives_96 (by decide +kernel) (by decide +kernel) rfl rfl (Nat.le_of_ble_eq_true rfl) rfl
theorem e73_99 : mm_E 73 99 [some (.ref a), l1, l2, l3, l4, l5, l6, l7, l8, l9, l10] st I r Q ↔ mm_E 73 100 [some (.ref a), l1, l2, l3, l4, l5, l6, l7, l8, l9, l10] (.ref a :: st) I r Q := me_al mc_73 dX5_drives_99 rfl
theorem e73_100 : mm_E 73 100 ls (.ref a :: st) I r Q ↔ mm_S r a = (1, 5) ∧ mm_E 73 103 ls (va_rf (mm_P r a 1) :: st) I r Q := me_gr mc_73 dX5_drives_100 (by decide +kernel) rfl
theorem e73_103 : mm_E 73 103 ls (.ref a :: st) I r Q ↔ mm_S r a = (1, 0) ∧ mm_E 73 106 ls (va_rf (mm_P r a 8) :: st) I r Q := me_gr mc_73 dX5_drives_103 (by decide +kernel) rfl
theorem e73_106 : mm_E 73 106 [l0, some (.int x), l2, l3, l4, l5, l6, l7, l8, l9, l10] st I r Q ↔ mm_E 73 107 [l0, some (.int x), l2, l3, l4, l5, l6, l7, l8, l9, l10] (.int x :: st) I r Q := me_il mc_73 dX5_drives_106 rfl
theorem e73_107 : mm_E 73 107 ls (.int x :: .ref a :: st) I r Q ↔ mm_ix r a 2 x ∧ mm_E 73 108 ls (.int (mm_rd I a x.toNatClampNeg) :: st) I r Q := me_ia mc_73 dX5_drives_107
theorem e73_108 : mm_E 73 108 [l0, l1, l2, l3, l4, l5, l6, l7, l8, l9, l10] (.int x :: st) I r Q ↔ mm_c1 l8 ∧ mm_E 73 110 [l0, l1, l2, l3, l4, l5, l6, l7, l8, some (.int x), l10] st I r Q := me_st (k := 9) (v := .int x) mc_73 dX5_drives_108 rfl rfl (Nat.le_of_ble_eq_true rfl) rfl ⟨Or.inr, fun h => h.resolve_left (by decide)⟩
theorem e73_110 : mm_E 73 110 [some (.ref a), l1, l2, l3, l4, l5, l6, l7, l8, l9, l10] st I r Q ↔ mm_E 73 111 [some (.ref a), l1, l2, l3, l4, l5, l6, l7, l8, l9, l10] (.ref a :: st) I r Q := me_al mc_73 dX5_drives_110 rfl
theorem e73_111 : mm_E 73 111 ls (.ref a :: st) I r Q ↔ mm_S r a = (1, 5) ∧ mm_E 73 114 ls (va_rf (mm_P r a 1) :: st) I r Q := me_gr mc_73 dX5_drives_111 (by decide +kernel) rfl
theorem e73_114 : mm_E 73 114 ls (.ref a :: st) I r Q ↔ mm_S r a = (1, 0) ∧ mm_E 73 117 ls (va_rf (mm_P r a 6) :: st) I r Q := me_gr mc_73 dX5_drives_114 (by decide +kernel) rfl
theorem e73_117 : mm_E 73 117 [l0, some (.int x), l2, l3, l4, l5, l6, l7, l8, l9, l10] st I r Q ↔ mm_E 73 118 [l0, some (.int x), l2, l3, l4, l5, l6, l7, l8, l9, l10] (.int x :: st) I r Q := me_il mc_73 dX5_drives_117 rfl
theorem e73_118 : mm_E 73 118 ls (.int x :: .ref a :: st) I r Q ↔ mm_ix r a 2 x ∧ mm_E 73 119 ls (.int (mm_rd I a x.toNatClampNeg) :: st) I r Q := me_ia mc_73 dX5_drives_118
theorem e73_119 : mm_E 73 119 [l0, l1, l2, l3, l4, l5, l6, l7, l8, l9, l10] (.int x :: st) I r Q ↔ mm_c1 l9 ∧ mm_E 73 121 [l0, l1, l2, l3, l4, l5, l6, l7, l8, l9, some (.int x)] st I r Q := me_st (k := 10) (v := .int x) mc_73 dX5_drives_119 rfl rfl (Nat.le_of_ble_eq_true rfl) rfl ⟨Or.inr, fun h => h.resolve_left (by decide)⟩
theorem e73_121 : mm_E 73 121 [l0, l1, l2, l3, some (.int x), l5, l6, l7, l8, l9, l10] st I r Q ↔ mm_E 73 123 [l0, l1, l2, l3, some (.int x), l5, l6, l7, l8, l9, l10] (.int x :: st) I r Q := me_il2 mc_73 dX5_drives_121 rfl
theorem e73_123 : mm_E 73 123 ls st I r Q ↔ mm_E 73 125 ls (.int (-4) :: st) I r Q := me_bi mc_73 dX5_drives_123 (by decide)
theorem e73_125 : mm_E 73 125 ls (.int y :: .int x :: st) I r Q ↔ if x = y then mm_E 73 149 ls st I r Q else mm_E 73 128 ls st I r Q := me_ceq mc_73 dX5_drives_125 (by decide)
theorem e73_128 : mm_E 73 128 [l0, l1, l2, l3, l4, l5, l6, l7, l8, some (.int x), l10] st I r Q ↔ mm_E 73 130 [l0, l1, l2, l3, l4, l5, l6, l7, l8, some (.int x), l10] (.int x :: st) I r Q := me_il2 mc_73 dX5_drives_128 rfl
theorem e73_130 : mm_E 73 130 [l0, l1, l2, l3, l4, some (.int x), l6, l7, l8, l9, l10] st I r Q ↔ mm_E 73 132 [l0, l1, l2, l3, l4, some (.int x), l6, l7, l8, l9, l10] (.int x :: st) I r Q := me_il2 mc_73 dX5_drives_130 rfl
theorem e73_132 : mm_E 73 132 ls (.int y :: .int x :: st) I r Q ↔ if x < y then mm_E 73 149 ls st I r Q else mm_E 73 135 ls st I r Q := me_clt mc_73 dX5_drives_132 (by decide)
theorem e73_135 : mm_E 73 135 [l0, l1, l2, l3, l4, l5, l6, l7, l8, some (.int x), l10] st I r Q ↔ mm_E 73 137 [l0, l1, l2, l3, l4, l5, l6, l7, l8, some (.int x), l10] (.int x :: st) I r Q := me_il2 mc_73 dX5_drives_135 rfl
theorem e73_137 : mm_E 73 137 [l0, l1, l2, l3, l4, some (.int x), l6, l7, l8, l9, l10] st I r Q ↔ mm_E 73 139 [l0, l1, l2, l3, l4, some (.int x), l6, l7, l8, l9, l10] (.int x :: st) I r Q := me_il2 mc_73 dX5_drives_137 rfl
theorem e73_139 : mm_E 73 139 ls (.int y :: .int x :: st) I r Q ↔ if ¬ x = y then mm_E 73 167 ls st I r Q else mm_E 73 142 ls st I r Q := me_cne mc_73 dX5_drives_139 (by decide)
theorem e73_142 : mm_E 73 142 [l0, l1, l2, l3, l4, l5, l6, l7, l8, l9, some (.int x)] st I r Q ↔ mm_E 73 144 [l0, l1, l2, l3, l4, l5, l6, l7, l8, l9, some (.int x)] (.int x :: st) I r Q := me_il2 mc_73 dX5_drives_142 rfl
theorem e73_144 : mm_E 73 144 [l0, l1, l2, l3, l4, l5, some (.int x), l7, l8, l9, l10] st I r Q ↔ mm_E 73 146 [l0, l1, l2, l3, l4, l5, some (.int x), l7, l8, l9, l10] (.int x :: st) I r Q := me_il2 mc_73 dX5_drives_144 rfl
theorem e73_146 : mm_E 73 146 ls (.int y :: .int x :: st) I r Q ↔ if y ≤ x then mm_E 73 167 ls st I r Q else mm_E 73 149 ls st I r Q := me_cge mc_73 dX5_drives_146 (by decide)
theorem e73_149 : mm_E 73 149 ls st I r Q ↔ mm_E 73 151 ls (.int 10 :: st) I r Q := me_bi mc_73 dX5_drives_149 (by decide)
theorem e73_151 : mm_E 73 151 [l0, l1, l2, l3, l4, l5, l6, some (.int x), l8, l9, l10] st I r Q ↔ mm_E 73 153 [l0, l1, l2, l3, l4, l5, l6, some (.int x), l8, l9, l10] (.int x :: st) I r Q := me_il2 mc_73 dX5_drives_151 rfl
theorem e73_153 : mm_E 73 153 ls (.int y :: .int x :: st) I r Q ↔ mm_E 73 154 ls (.int (x * y) :: st) I r Q := me_imul mc_73 dX5_drives_153
theorem e73_154 : mm_E 73 154 [l0, l1, l2, l3, l4, l5, l6, l7, some (.int x), l9, l10] st I r Q ↔ mm_E 73 156 [l0, l1, l2, l3, l4, l5, l6, l7, some (.int x), l9, l10] (.int x :: st) I r Q := me_il2 mc_73 dX5_drives_154 rfl
theorem e73_156 : mm_E 73 156 ls (.int y :: .int x :: st) I r Q ↔ mm_E 73 157 ls (.int (x + y) :: st) I r Q := me_iadd mc_73 dX5_drives_156
theorem e73_157 : mm_E 73 157 [l0, l1, l2, l3, l4, l5, l6, l7, l8, l9, l10] (.int x :: st) I r Q ↔ mm_c1 l3 ∧ mm_E 73 159 [l0, l1, l2, l3, some (.int x), l5, l6, l7, l8, l9, l10] st I r Q := me_st (k := 4) (v := .int x) mc_73 dX5_drives_157 rfl rfl (Nat.le_of_ble_eq_true rfl) rfl ⟨Or.inr, fun h => h.resolve_left (by decide)⟩
theorem e73_159 : mm_E 73 159 [l0, l1, l2, l3, l4, l5, l6, l7, l8, some (.int x), l10] st I r Q ↔ mm_E 73 161 [l0, l1, l2, l3, l4, l5, l6, l7, l8, some (.int x), l10] (.int x :: st) I r Q := me_il2 mc_73 dX5_drives_159 rfl
theorem e73_161 : mm_E 73 161 [l0, l1, l2, l3, l4, l5, l6, l7, l8, l9, l10] (.int x :: st) I r Q ↔ mm_c1 l4 ∧ mm_E 73 163 [l0, l1, l2, l3, l4, some (.int x), l6, l7, l8, l9, l10] st I r Q := me_st (k := 5) (v := .int x) mc_73 dX5_drives_161 rfl rfl (Nat.le_of_ble_eq_true rfl) rfl ⟨Or.inr, fun h => h.resolve_left (by decide)⟩
theorem e73_163 : mm_E 73 163 [l0, l1, l2, l3, l4, l5, l6, l7, l8, l9, some (.int x)] st I r Q ↔ mm_E 73 165 [l0, l1, l2, l3, l4, l5, l6, l7, l8, l9, some (.int x)] (.int x :: st) I r Q := me_il2 mc_73 dX5_drives_163 rfl
theorem e73_165 : mm_E 73 165 [l0, l1, l2, l3, l4, l5, l6, l7, l8, l9, l10] (.int x :: st) I r Q ↔ mm_c1 l5 ∧ mm_E 73 167 [l0, l1, l2, l3, l4, l5, some (.int x), l7, l8, l9, l10] st I r Q := me_st (k := 6) (v := .int x) mc_73 dX5_drives_165 rfl rfl (Nat.le_of_ble_eq_true rfl) rfl ⟨Or.inr, fun h => h.resolve_left (by decide)⟩
theorem e73_167 : mm_E 73 167 [l0, l1, l2, l3, l4, l5, l6, l7, some (.int x), l9, l10] st I r Q ↔ mm_c1 l7 ∧ mm_E 73 170 [l0, l1, l2, l3, l4, l5, l6, l7, some (.int (x + 1)), l9, l10] st I r Q := me_st (k := 8) (v := .int (x + 1)) mc_73 dX5_drives_167 rfl rfl (Nat.le_of_ble_eq_true rfl) rfl ⟨Or.inr, fun h => h.resolve_left (by decide)⟩
theorem e73_170 : mm_E 73 170 ls st I r Q ↔ mm_E 73 60 ls st I r Q := me_goto mc_73 dX5_drives_170 (by decide)
theorem e73_173 : mm_E 73 173 [l0, l1, l2, l3, l4, l5, l6, some (.int x), l8, l9, l10] st I r Q ↔ mm_c1 l6 ∧ mm_E 73 176 [l0, l1, l2, l3, l4, l5, l6, some (.int (x + 1)), l8, l9, l10] st I r Q := me_st (k := 7) (v := .int (x + 1)) mc_73 dX5_drives_173 rfl rfl (Nat.le_of_ble_eq_true rfl) rfl ⟨Or.inr, fun h => h.resolve_left (by decide)⟩
theorem e73_176 : mm_E 73 176 ls st I r Q ↔ mm_E 73 45 ls st I r Q := me_goto mc_73 dX5_drives_176 (by decide)
theorem e73_179 : mm_E 73 179 [l0, l1, l2, some (.int x), l4, l5, l6, l7, l8, l9, l10] st I r Q ↔ mm_E 73 180 [l0, l1, l2, some (.int x), l4, l5, l6, l7, l8, l9, l10] (.int x :: st) I r Q := me_il mc_73 dX5_drives_179 rfl
theorem e73_180 : mm_E 73 180 ls (.int x :: st) I r Q ↔ if x = 0 then mm_E 73 190 ls st I r Q else mm_E 73 183 ls st I r Q := me_zeq mc_73 dX5_drives_180 (by decide)
theorem e73_183 : mm_E 73 183 [l0, l1, l2, l3, some (.int x), l5, l6, l7, l8, l9, l10] st I r Q ↔ mm_E 73 185 [l0, l1, l2, l3, some (.int x), l5, l6, l7, l8, l9, l10] (.int x :: st) I r Q := me_il2 mc_73 dX5_drives_183 rfl
theorem e73_185 : mm_E 73 185 ls st I r Q ↔ mm_E 73 187 ls (.int (-4) :: st) I r Q := me_bi mc_73 dX5_drives_185 (by decide)
theorem e73_187 : mm_E 73 187 ls (.int y :: .int x :: st) I r Q ↔ if ¬ x = y then mm_E 73 195 ls st I r Q else mm_E 73 190 ls st I r Q := me_cne mc_73 dX5_drives_187 (by decide)
theorem e73_190 : mm_E 73 190 [l0, l1, l2, l3, some (.int x), l5, l6, l7, l8, l9, l10] st I r Q ↔ mm_E 73 192 [l0, l1, l2, l3, some (.int x), l5, l6, l7, l8, l9, l10] (.int x :: st) I r Q := me_il2 mc_73 dX5_drives_190 rfl
theorem e73_192 : mm_E 73 192 ls st I r Q ↔ mm_E 73 197 ls st I r Q := me_goto mc_73 dX5_drives_192 (by decide)
theorem e73_195 : mm_E 73 195 [l0, l1, l2, l3, l4, some (.int x), l6, l7, l8, l9, l10] st I r Q ↔ mm_E 73 197 [l0, l1, l2, l3, l4, some (.int x), l6, l7, l8, l9, l10] (.int x :: st) I r Q := me_il2 mc_73 dX5_drives_195 rfl
theorem e73_197 : mm_E 73 197 ls [.int x] I r Q ↔ Q (some (.int x)) I r := me_ri mc_73 dX5_drives_197 rfl
theorem mc_74 : mm_c 74 = cX5_visits := rfl
theorem e74_0 : mm_E 74 0 [l0, some (.int x), l2, l3, l4] st I r Q ↔ mm_E 74 1 [l0, some (.int x), l2, l3, l4] (.int x :: st) I r Q := me_il mc_74 dX5_visits_0 rfl
theorem e74_1 : mm_E 74 1 ls st I r Q ↔ mm_E 74 2 ls (.int 1 :: st) I r Q := me_ic mc_74 dX5_visits_1 (by decide)
theorem e74_2 : mm_E 74 2 ls st I r Q ↔ mm_E 74 4 ls (.int 40 :: st) I r Q := me_bi mc_74 dX5_visits_2 (by decide)
theorem e74_4 : ∀ (x0 : Int32) (x1 : Int32) (x2 : Int32), (mm_E 74 4 ls (.int x2 :: .int x1 :: .int x0 :: st) I r Q ↔ mm_w8 st = true ∧ mm_E 85 0 [some (.int x0), some (.int x1), some (.int x2)] [] I r (fun v I2 r2 => mm_E 74 7 ls (mm_pu v st) I2 r2 Q)) := fun x0 x1 x2 => me_sc (n := 3) (As := [.int x0, .int x1, .int x2]) (xs := [.int x2, .int x1, .int x0]) mc_74 dX5_visits_4 (by decide +kernel) (by decide +kernel) rfl rfl (Nat.le_of_ble_eq_true rfl) rfl
theorem e74_7 : mm_E 74 7 ls (.int x :: st) I r Q ↔ if x = 0 then mm_E 74 19 ls st I r Q else mm_E 74 10 ls st I r Q := me_zeq mc_74 dX5_visits_7 (by decide)
theorem e74_10 : mm_E 74 10 [l0, l1, some (.int x), l3, l4] st I r Q ↔ mm_E 74 11 [l0, l1, some (.int x), l3, l4] (.int x :: st) I r Q := me_il mc_74 dX5_visits_10 rfl
theorem e74_11 : mm_E 74 11 ls st I r Q ↔ mm_E 74 12 ls (.int 0 :: st) I r Q := me_ic mc_74 dX5_visits_11 (by decide)
theorem e74_12 : mm_E 74 12 ls st I r Q ↔ mm_E 74 13 ls (.int 1 :: st) I r Q := me_ic mc_74 dX5_visits_12 (by decide)
theorem e74_13 : ∀ (x0 : Int32) (x1 : Int32) (x2 : Int32), (mm_E 74 13 ls (.int x2 :: .int x1 :: .int x0 :: st) I r Q ↔ mm_w8 st = true ∧ mm_E 85 0 [some (.int x0), some (.int x1), some (.int x2)] [] I r (fun v I2 r2 => mm_E 74 16 ls (mm_pu v st) I2 r2 Q)) := fun x0 x1 x2 => me_sc (n := 3) (As := [.int x0, .int x1, .int x2]) (xs := [.int x2, .int x1, .int x0]) mc_74 dX5_visits_13 (by decide +kernel) (by decide +kernel) rfl rfl (Nat.le_of_ble_eq_true rfl) rfl
theorem e74_16 : mm_E 74 16 ls (.int x :: st) I r Q ↔ if ¬ x = 0 then mm_E 74 21 ls st I r Q else mm_E 74 19 ls st I r Q := me_zne mc_74 dX5_visits_16 (by decide)
theorem e74_19 : mm_E 74 19 ls st I r Q ↔ mm_E 74 20 ls (.int (-1) :: st) I r Q := me_ic mc_74 dX5_visits_19 (by decide)
theorem e74_20 : mm_E 74 20 ls [.int x] I r Q ↔ Q (some (.int x)) I r := me_ri mc_74 dX5_visits_20 rfl
theorem e74_21 : mm_E 74 21 [some (.ref a), l1, l2, l3, l4] st I r Q ↔ mm_E 74 22 [some (.ref a), l1, l2, l3, l4] (.ref a :: st) I r Q := me_al mc_74 dX5_visits_21 rfl
theorem e74_22 : mm_E 74 22 ls (.ref a :: st) I r Q ↔ mm_S r a = (1, 5) ∧ mm_E 74 25 ls (va_rf (mm_P r a 0) :: st) I r Q := me_gr mc_74 dX5_visits_22 (by decide +kernel) rfl
theorem e74_25 : mm_E 74 25 ls (.ref a :: st) I r Q ↔ mm_S r a = (1, 0) ∧ mm_E 74 28 ls (.int (mm_rd I a 0) :: st) I r Q := me_gi mc_74 dX5_visits_25 (by decide +kernel) rfl
theorem e74_28 : mm_E 74 28 ls (.int x :: st) I r Q ↔ if ¬ x = 0 then mm_E 74 34 ls st I r Q else mm_E 74 31 ls st I r Q := me_zne mc_74 dX5_visits_28 (by decide)
theorem e74_31 : mm_E 74 31 ls st I r Q ↔ mm_E 74 33 ls (.int (-4) :: st) I r Q := me_bi mc_74 dX5_visits_31 (by decide)
theorem e74_33 : mm_E 74 33 ls [.int x] I r Q ↔ Q (some (.int x)) I r := me_ri mc_74 dX5_visits_33 rfl
theorem e74_34 : mm_E 74 34 [some (.ref a), l1, l2, l3, l4] st I r Q ↔ mm_E 74 35 [some (.ref a), l1, l2, l3, l4] (.ref a :: st) I r Q := me_al mc_74 dX5_visits_34 rfl
theorem e74_35 : mm_E 74 35 [l0, some (.int x), l2, l3, l4] st I r Q ↔ mm_E 74 36 [l0, some (.int x), l2, l3, l4] (.int x :: st) I r Q := me_il mc_74 dX5_visits_35 rfl
theorem e74_36 : ∀ (x0 : Int32), (mm_E 74 36 ls (.int x0 :: .ref a :: st) I r Q ↔ (mm_w8 st = true ∧ mm_S r a = (1, 5)) ∧ mm_E 86 0 [some (.ref a), some (.int x0)] [] I r (fun v I2 r2 => mm_E 74 39 ls (mm_pu v st) I2 r2 Q)) := fun x0 => me_vc (n := 1) (As := [.int x0]) (xs := [.int x0]) (a := a) mc_74 dX5_visits_36 (by decide +kernel) (by decide +kernel) rfl rfl (Nat.le_of_ble_eq_true rfl) rfl
theorem e74_39 : mm_E 74 39 ls st I r Q ↔ mm_E 74 40 ls (.int 0 :: st) I r Q := me_ic mc_74 dX5_visits_39 (by decide)
theorem e74_40 : mm_E 74 40 [l0, l1, l2, l3, l4] (.int x :: st) I r Q ↔ mm_c1 l2 ∧ mm_E 74 41 [l0, l1, l2, some (.int x), l4] st I r Q := me_st (k := 3) (v := .int x) mc_74 dX5_visits_40 rfl rfl (Nat.le_of_ble_eq_true rfl) rfl ⟨Or.inr, fun h => h.resolve_left (by decide)⟩
theorem e74_41 : mm_E 74 41 ls st I r Q ↔ mm_E 74 42 ls (.int 1 :: st) I r Q := me_ic mc_74 dX5_visits_41 (by decide)
theorem e74_42 : mm_E 74 42 [l0, l1, l2, l3, l4] (.int x :: st) I r Q ↔ mm_c1 l3 ∧ mm_E 74 44 [l0, l1, l2, l3, some (.int x)] st I r Q := me_st (k := 4) (v := .int x) mc_74 dX5_visits_42 rfl rfl (Nat.le_of_ble_eq_true rfl) rfl ⟨Or.inr, fun h => h.resolve_left (by decide)⟩
theorem e74_44 : mm_E 74 44 [l0, l1, l2, l3, some (.int x)] st I r Q ↔ mm_E 74 46 [l0, l1, l2, l3, some (.int x)] (.int x :: st) I r Q := me_il2 mc_74 dX5_visits_44 rfl
theorem e74_46 : mm_E 74 46 [some (.ref a), l1, l2, l3, l4] st I r Q ↔ mm_E 74 47 [some (.ref a), l1, l2, l3, l4] (.ref a :: st) I r Q := me_al mc_74 dX5_visits_46 rfl
theorem e74_47 : mm_E 74 47 ls (.ref a :: st) I r Q ↔ mm_S r a = (1, 5) ∧ mm_E 74 50 ls (va_rf (mm_P r a 1) :: st) I r Q := me_gr mc_74 dX5_visits_47 (by decide +kernel) rfl
theorem e74_50 : mm_E 74 50 ls (.ref a :: st) I r Q ↔ mm_S r a = (1, 0) ∧ mm_E 74 53 ls (.int (mm_rd I a 0) :: st) I r Q := me_gi mc_74 dX5_visits_50 (by decide +kernel) rfl
theorem e74_53 : mm_E 74 53 ls (.int y :: .int x :: st) I r Q ↔ if y ≤ x then mm_E 74 87 ls st I r Q else mm_E 74 56 ls st I r Q := me_cge mc_74 dX5_visits_53 (by decide)
theorem e74_56 : mm_E 74 56 [some (.ref a), l1, l2, l3, l4] st I r Q ↔ mm_E 74 57 [some (.ref a), l1, l2, l3, l4] (.ref a :: st) I r Q := me_al mc_74 dX5_visits_56 rfl
theorem e74_57 : mm_E 74 57 ls (.ref a :: st) I r Q ↔ mm_S r a = (1, 5) ∧ mm_E 74 60 ls (va_rf (mm_P r a 1) :: st) I r Q := me_gr mc_74 dX5_visits_57 (by decide +kernel) rfl
theorem e74_60 : mm_E 74 60 ls (.ref a :: st) I r Q ↔ mm_S r a = (1, 0) ∧ mm_E 74 63 ls (va_rf (mm_P r a 13) :: st) I r Q := me_gr mc_74 dX5_visits_60 (by decide +kernel) rfl
theorem e74_63 : mm_E 74 63 [l0, l1, l2, l3, some (.int x)] st I r Q ↔ mm_E 74 65 [l0, l1, l2, l3, some (.int x)] (.int x :: st) I r Q := me_il2 mc_74 dX5_visits_63 rfl
theorem e74_65 : mm_E 74 65 ls (.int x :: .ref a :: st) I r Q ↔ mm_ix r a 2 x ∧ mm_E 74 66 ls (.int (mm_rd I a x.toNatClampNeg) :: st) I r Q := me_ia mc_74 dX5_visits_65
theorem e74_66 : mm_E 74 66 [some (.ref a), l1, l2, l3, l4] st I r Q ↔ mm_E 74 67 [some (.ref a), l1, l2, l3, l4] (.ref a :: st) I r Q := me_al mc_74 dX5_visits_66 rfl
theorem e74_67 : mm_E 74 67 ls (.ref a :: st) I r Q ↔ mm_S r a = (1, 5) ∧ mm_E 74 70 ls (va_rf (mm_P r a 1) :: st) I r Q := me_gr mc_74 dX5_visits_67 (by decide +kernel) rfl
theorem e74_70 : mm_E 74 70 ls (.ref a :: st) I r Q ↔ mm_S r a = (1, 0) ∧ mm_E 74 73 ls (va_rf (mm_P r a 13) :: st) I r Q := me_gr mc_74 dX5_visits_70 (by decide +kernel) rfl
theorem e74_73 : mm_E 74 73 [l0, l1, l2, some (.int x), l4] st I r Q ↔ mm_E 74 74 [l0, l1, l2, some (.int x), l4] (.int x :: st) I r Q := me_il mc_74 dX5_visits_73 rfl
theorem e74_74 : mm_E 74 74 ls (.int x :: .ref a :: st) I r Q ↔ mm_ix r a 2 x ∧ mm_E 74 75 ls (.int (mm_rd I a x.toNatClampNeg) :: st) I r Q := me_ia mc_74 dX5_visits_74
theorem e74_75 : mm_E 74 75 ls (.int y :: .int x :: st) I r Q ↔ if x ≤ y then mm_E 74 81 ls st I r Q else mm_E 74 78 ls st I r Q := me_cle mc_74 dX5_visits_75 (by decide)
theorem e74_78 : mm_E 74 78 [l0, l1, l2, l3, some (.int x)] st I r Q ↔ mm_E 74 80 [l0, l1, l2, l3, some (.int x)] (.int x :: st) I r Q := me_il2 mc_74 dX5_visits_78 rfl
theorem e74_80 : mm_E 74 80 [l0, l1, l2, l3, l4] (.int x :: st) I r Q ↔ mm_c1 l2 ∧ mm_E 74 81 [l0, l1, l2, some (.int x), l4] st I r Q := me_st (k := 3) (v := .int x) mc_74 dX5_visits_80 rfl rfl (Nat.le_of_ble_eq_true rfl) rfl ⟨Or.inr, fun h => h.resolve_left (by decide)⟩
theorem e74_81 : mm_E 74 81 [l0, l1, l2, l3, some (.int x)] st I r Q ↔ mm_c1 l3 ∧ mm_E 74 84 [l0, l1, l2, l3, some (.int (x + 1))] st I r Q := me_st (k := 4) (v := .int (x + 1)) mc_74 dX5_visits_81 rfl rfl (Nat.le_of_ble_eq_true rfl) rfl ⟨Or.inr, fun h => h.resolve_left (by decide)⟩
theorem e74_84 : mm_E 74 84 ls st I r Q ↔ mm_E 74 44 ls st I r Q := me_goto mc_74 dX5_visits_84 (by decide)
theorem e74_87 : mm_E 74 87 [l0, l1, some (.int x), l3, l4] st I r Q ↔ mm_E 74 88 [l0, l1, some (.int x), l3, l4] (.int x :: st) I r Q := me_il mc_74 dX5_visits_87 rfl
theorem e74_88 : mm_E 74 88 ls (.int x :: st) I r Q ↔ if ¬ x = 0 then mm_E 74 95 ls st I r Q else mm_E 74 91 ls st I r Q := me_zne mc_74 dX5_visits_88 (by decide)
theorem e74_91 : mm_E 74 91 [l0, l1, l2, some (.int x), l4] st I r Q ↔ mm_E 74 92 [l0, l1, l2, some (.int x), l4] (.int x :: st) I r Q := me_il mc_74 dX5_visits_91 rfl
theorem e74_92 : mm_E 74 92 ls st I r Q ↔ mm_E 74 104 ls st I r Q := me_goto mc_74 dX5_visits_92 (by decide)
theorem e74_95 : mm_E 74 95 [some (.ref a), l1, l2, l3, l4] st I r Q ↔ mm_E 74 96 [some (.ref a), l1, l2, l3, l4] (.ref a :: st) I r Q := me_al mc_74 dX5_visits_95 rfl
theorem e74_96 : mm_E 74 96 ls (.ref a :: st) I r Q ↔ mm_S r a = (1, 5) ∧ mm_E 74 99 ls (va_rf (mm_P r a 1) :: st) I r Q := me_gr mc_74 dX5_visits_96 (by decide +kernel) rfl
theorem e74_99 : mm_E 74 99 ls (.ref a :: st) I r Q ↔ mm_S r a = (1, 0) ∧ mm_E 74 102 ls (va_rf (mm_P r a 13) :: st) I r Q := me_gr mc_74 dX5_visits_99 (by decide +kernel) rfl
theorem e74_102 : mm_E 74 102 [l0, l1, l2, some (.int x), l4] st I r Q ↔ mm_E 74 103 [l0, l1, l2, some (.int x), l4] (.int x :: st) I r Q := me_il mc_74 dX5_visits_102 rfl
theorem e74_103 : mm_E 74 103 ls (.int x :: .ref a :: st) I r Q ↔ mm_ix r a 2 x ∧ mm_E 74 104 ls (.int (mm_rd I a x.toNatClampNeg) :: st) I r Q := me_ia mc_74 dX5_visits_103
theorem e74_104 : mm_E 74 104 ls [.int x] I r Q ↔ Q (some (.int x)) I r := me_ri mc_74 dX5_visits_104 rfl
theorem mc_75 : mm_c 75 = cX5_solvent := rfl
theorem e75_0 : mm_E 75 0 [some (.ref a), l1, l2, l3] st I r Q ↔ mm_E 75 1 [some (.ref a), l1, l2, l3] (.ref a :: st) I r Q := me_al mc_75 dX5_solvent_0 rfl
theorem e75_1 : mm_E 75 1 ls (.ref a :: st) I r Q ↔ mm_S r a = (1, 5) ∧ mm_E 75 4 ls (va_rf (mm_P r a 0) :: st) I r Q := me_gr mc_75 dX5_solvent_1 (by decide +kernel) rfl
theorem e75_4 : mm_E 75 4 [l0, some (.int x), l2, l3] st I r Q ↔ mm_E 75 5 [l0, some (.int x), l2, l3] (.int x :: st) I r Q := me_il mc_75 dX5_solvent_4 rfl
theorem e75_5 : ∀ (x0 : Int32), (mm_E 75 5 ls (.int x0 :: .ref a :: st) I r Q ↔ (mm_w8 st = true ∧ mm_S r a = (1, 0)) ∧ mm_E 3 0 [some (.ref a), some (.int x0)] [] I r (fun v I2 r2 => mm_E 75 8 ls (mm_pu v st) I2 r2 Q)) := fun x0 => me_vc (n := 1) (As := [.int x0]) (xs := [.int x0]) (a := a) mc_75 dX5_solvent_5 (by decide +kernel) (by decide +kernel) rfl rfl (Nat.le_of_ble_eq_true rfl) rfl
theorem e75_8 : mm_E 75 8 ls (.int x :: st) I r Q ↔ if x = 0 then mm_E 75 21 ls st I r Q else mm_E 75 11 ls st I r Q := me_zeq mc_75 dX5_solvent_8 (by decide)
theorem e75_11 : mm_E 75 11 [l0, l1, some (.int x), l3] st I r Q ↔ mm_E 75 12 [l0, l1, some (.int x), l3] (.int x :: st) I r Q := me_il mc_75 dX5_solvent_11 rfl
theorem e75_12 : mm_E 75 12 ls st I r Q ↔ mm_E 75 13 ls (.int 1 :: st) I r Q := me_ic mc_75 dX5_solvent_12 (by decide)
theorem e75_13 : mm_E 75 13 ls st I r Q ↔ mm_E 75 15 ls (.int 40 :: st) I r Q := me_bi mc_75 dX5_solvent_13 (by decide)
theorem e75_15 : ∀ (x0 : Int32) (x1 : Int32) (x2 : Int32), (mm_E 75 15 ls (.int x2 :: .int x1 :: .int x0 :: st) I r Q ↔ mm_w8 st = true ∧ mm_E 85 0 [some (.int x0), some (.int x1), some (.int x2)] [] I r (fun v I2 r2 => mm_E 75 18 ls (mm_pu v st) I2 r2 Q)) := fun x0 x1 x2 => me_sc (n := 3) (As := [.int x0, .int x1, .int x2]) (xs := [.int x2, .int x1, .int x0]) mc_75 dX5_solvent_15 (by decide +kernel) (by decide +kernel) rfl rfl (Nat.le_of_ble_eq_true rfl) rfl
theorem e75_18 : mm_E 75 18 ls (.int x :: st) I r Q ↔ if ¬ x = 0 then mm_E 75 23 ls st I r Q else mm_E 75 21 ls st I r Q := me_zne mc_75 dX5_solvent_18 (by decide)
theorem e75_21 : mm_E 75 21 ls st I r Q ↔ mm_E 75 22 ls (.int (-1) :: st) I r Q := me_ic mc_75 dX5_solvent_21 (by decide)
theorem e75_22 : mm_E 75 22 ls [.int x] I r Q ↔ Q (some (.int x)) I r := me_ri mc_75 dX5_solvent_22 rfl
theorem e75_23 : mm_E 75 23 ls st I r Q ↔ mm_E 75 25 ls (.int 20 :: st) I r Q := me_bi mc_75 dX5_solvent_23 (by decide)
theorem e75_25 : mm_E 75 25 [l0, l1, l2, l3] (.int x :: st) I r Q ↔ mm_c1 l2 ∧ mm_E 75 26 [l0, l1, l2, some (.int x)] st I r Q := me_st (k := 3) (v := .int x) mc_75 dX5_solvent_25 rfl rfl (Nat.le_of_ble_eq_true rfl) rfl ⟨Or.inr, fun h => h.resolve_left (by decide)⟩
theorem e75_26 : mm_E 75 26 [l0, l1, l2, some (.int x)] st I r Q ↔ mm_E 75 27 [l0, l1, l2, some (.int x)] (.int x :: st) I r Q := me_il mc_75 dX5_solvent_26 rfl
theorem e75_27 : mm_E 75 27 ls (.int x :: st) I r Q ↔ if x < 0 then mm_E 75 86 ls st I r Q else mm_E 75 30 ls st I r Q := me_zlt mc_75 dX5_solvent_27 (by decide)
theorem e75_30 : mm_E 75 30 [some (.ref a), l1, l2, l3] st I r Q ↔ mm_E 75 31 [some (.ref a), l1, l2, l3] (.ref a :: st) I r Q := me_al mc_75 dX5_solvent_30 rfl
theorem e75_31 : mm_E 75 31 ls (.ref a :: st) I r Q ↔ mm_S r a = (1, 5) ∧ mm_E 75 34 ls (va_rf (mm_P r a 1) :: st) I r Q := me_gr mc_75 dX5_solvent_31 (by decide +kernel) rfl
theorem e75_34 : mm_E 75 34 [some (.ref a), l1, l2, l3] st I r Q ↔ mm_E 75 35 [some (.ref a), l1, l2, l3] (.ref a :: st) I r Q := me_al mc_75 dX5_solvent_34 rfl
theorem e75_35 : mm_E 75 35 ls (.ref a :: st) I r Q ↔ mm_S r a = (1, 5) ∧ mm_E 75 38 ls (va_rf (mm_P r a 0) :: st) I r Q := me_gr mc_75 dX5_solvent_35 (by decide +kernel) rfl
theorem e75_38 : ∀ (x0 : Nat), (mm_E 75 38 ls (.ref x0 :: .ref a :: st) I r Q ↔ (mm_w8 st = true ∧ mm_S r a = (1, 0)) ∧ mm_E 1 0 [some (.ref a), some (.ref x0), none] [] I r (fun v I2 r2 => mm_E 75 41 ls (mm_pu v st) I2 r2 Q)) := fun x0 => me_vc (n := 1) (As := [.ref x0]) (xs := [.ref x0]) (a := a) mc_75 dX5_solvent_38 (by decide +kernel) (by decide +kernel) rfl rfl (Nat.le_of_ble_eq_true rfl) rfl
theorem e75_41 : mm_E 75 41 [some (.ref a), l1, l2, l3] st I r Q ↔ mm_E 75 42 [some (.ref a), l1, l2, l3] (.ref a :: st) I r Q := me_al mc_75 dX5_solvent_41 rfl
theorem e75_42 : mm_E 75 42 ls (.ref a :: st) I r Q ↔ mm_S r a = (1, 5) ∧ mm_E 75 45 ls (va_rf (mm_P r a 1) :: st) I r Q := me_gr mc_75 dX5_solvent_42 (by decide +kernel) rfl
theorem e75_45 : mm_E 75 45 [l0, l1, l2, some (.int x)] st I r Q ↔ mm_E 75 46 [l0, l1, l2, some (.int x)] (.int x :: st) I r Q := me_il mc_75 dX5_solvent_45 rfl
theorem e75_46 : mm_E 75 46 ls (.int x :: .ref a :: st) I r Q ↔ mm_S r a = (1, 0) ∧ mm_E 75 49 ls st (mm_uI I a 2 x) r Q := me_pi mc_75 dX5_solvent_46 (by decide +kernel) (by decide +kernel)
theorem e75_49 : mm_E 75 49 [some (.ref a), l1, l2, l3] st I r Q ↔ mm_E 75 50 [some (.ref a), l1, l2, l3] (.ref a :: st) I r Q := me_al mc_75 dX5_solvent_49 rfl
theorem e75_50 : mm_E 75 50 ls (.ref a :: st) I r Q ↔ mm_S r a = (1, 5) ∧ mm_E 75 53 ls (va_rf (mm_P r a 1) :: st) I r Q := me_gr mc_75 dX5_solvent_50 (by decide +kernel) rfl
theorem e75_53 : mm_E 75 53 [l0, l1, some (.int x), l3] st I r Q ↔ mm_E 75 54 [l0, l1, some (.int x), l3] (.int x :: st) I r Q := me_il mc_75 dX5_solvent_53 rfl
theorem e75_54 : ∀ (x0 : Int32), (mm_E 75 54 ls (.int x0 :: .ref a :: st) I r Q ↔ (mm_w8 st = true ∧ mm_S r a = (1, 0)) ∧ mm_E 15 0 [some (.ref a), some (.int x0), none] [] I r (fun v I2 r2 => mm_E 75 57 ls (mm_pu v st) I2 r2 Q)) := fun x0 => me_vc (n := 1) (As := [.int x0]) (xs := [.int x0]) (a := a) mc_75 dX5_solvent_54 (by decide +kernel) (by decide +kernel) rfl rfl (Nat.le_of_ble_eq_true rfl) rfl
theorem e75_57 : mm_E 75 57 [some (.ref a), l1, l2, l3] st I r Q ↔ mm_E 75 58 [some (.ref a), l1, l2, l3] (.ref a :: st) I r Q := me_al mc_75 dX5_solvent_57 rfl
theorem e75_58 : mm_E 75 58 ls (.ref a :: st) I r Q ↔ mm_S r a = (1, 5) ∧ mm_E 75 61 ls (va_rf (mm_P r a 1) :: st) I r Q := me_gr mc_75 dX5_solvent_58 (by decide +kernel) rfl
theorem e75_61 : mm_E 75 61 ls (.ref a :: st) I r Q ↔ mm_S r a = (1, 0) ∧ mm_E 75 64 ls (va_rf (mm_P r a 6) :: st) I r Q := me_gr mc_75 dX5_solvent_61 (by decide +kernel) rfl
theorem e75_64 : mm_E 75 64 [l0, some (.int x), l2, l3] st I r Q ↔ mm_E 75 65 [l0, some (.int x), l2, l3] (.int x :: st) I r Q := me_il mc_75 dX5_solvent_64 rfl
theorem e75_65 : mm_E 75 65 ls (.int x :: .ref a :: st) I r Q ↔ mm_ix r a 2 x ∧ mm_E 75 66 ls (.int (mm_rd I a x.toNatClampNeg) :: st) I r Q := me_ia mc_75 dX5_solvent_65
theorem e75_66 : mm_E 75 66 [some (.ref a), l1, l2, l3] st I r Q ↔ mm_E 75 67 [some (.ref a), l1, l2, l3] (.ref a :: st) I r Q := me_al mc_75 dX5_solvent_66 rfl
theorem e75_67 : mm_E 75 67 ls (.ref a :: st) I r Q ↔ mm_S r a = (1, 5) ∧ mm_E 75 70 ls (va_rf (mm_P r a 0) :: st) I r Q := me_gr mc_75 dX5_solvent_67 (by decide +kernel) rfl
theorem e75_70 : mm_E 75 70 ls (.ref a :: st) I r Q ↔ mm_S r a = (1, 0) ∧ mm_E 75 73 ls (va_rf (mm_P r a 6) :: st) I r Q := me_gr mc_75 dX5_solvent_70 (by decide +kernel) rfl
theorem e75_73 : mm_E 75 73 [l0, some (.int x), l2, l3] st I r Q ↔ mm_E 75 74 [l0, some (.int x), l2, l3] (.int x :: st) I r Q := me_il mc_75 dX5_solvent_73 rfl
theorem e75_74 : mm_E 75 74 ls (.int x :: .ref a :: st) I r Q ↔ mm_ix r a 2 x ∧ mm_E 75 75 ls (.int (mm_rd I a x.toNatClampNeg) :: st) I r Q := me_ia mc_75 dX5_solvent_74
theorem e75_75 : mm_E 75 75 ls (.int y :: .int x :: st) I r Q ↔ if y < x then mm_E 75 80 ls st I r Q else mm_E 75 78 ls st I r Q := me_cgt mc_75 dX5_solvent_75 (by decide)
theorem e75_78 : mm_E 75 78 [l0, l1, l2, some (.int x)] st I r Q ↔ mm_E 75 79 [l0, l1, l2, some (.int x)] (.int x :: st) I r Q := me_il mc_75 dX5_solvent_78 rfl
theorem e75_79 : mm_E 75 79 ls [.int x] I r Q ↔ Q (some (.int x)) I r := me_ri mc_75 dX5_solvent_79 rfl
theorem e75_80 : mm_E 75 80 [l0, l1, l2, some (.int x)] st I r Q ↔ mm_c1 l2 ∧ mm_E 75 83 [l0, l1, l2, some (.int (x + (-1)))] st I r Q := me_st (k := 3) (v := .int (x + (-1))) mc_75 dX5_solvent_80 rfl rfl (Nat.le_of_ble_eq_true rfl) rfl ⟨Or.inr, fun h => h.resolve_left (by decide)⟩
theorem e75_83 : mm_E 75 83 ls st I r Q ↔ mm_E 75 26 ls st I r Q := me_goto mc_75 dX5_solvent_83 (by decide)
theorem e75_86 : mm_E 75 86 ls st I r Q ↔ mm_E 75 88 ls (.int (-4) :: st) I r Q := me_bi mc_75 dX5_solvent_86 (by decide)
theorem e75_88 : mm_E 75 88 ls [.int x] I r Q ↔ Q (some (.int x)) I r := me_ri mc_75 dX5_solvent_88 rfl
theorem mc_76 : mm_c 76 = cX5_sleep := rfl
theorem e76_0 : mm_E 76 0 [some (.ref a), l1, l2, l3, l4, l5, l6, l7] st I r Q ↔ mm_E 76 1 [some (.ref a), l1, l2, l3, l4, l5, l6, l7] (.ref a :: st) I r Q := me_al mc_76 dX5_sleep_0 rfl
theorem e76_1 : mm_E 76 1 ls (.ref a :: st) I r Q ↔ mm_S r a = (1, 5) ∧ mm_E 76 4 ls (va_rf (mm_P r a 0) :: st) I r Q := me_gr mc_76 dX5_sleep_1 (by decide +kernel) rfl
theorem e76_4 : mm_E 76 4 [l0, some (.int x), l2, l3, l4, l5, l6, l7] st I r Q ↔ mm_E 76 5 [l0, some (.int x), l2, l3, l4, l5, l6, l7] (.int x :: st) I r Q := me_il mc_76 dX5_sleep_4 rfl
theorem e76_5 : ∀ (x0 : Int32), (mm_E 76 5 ls (.int x0 :: .ref a :: st) I r Q ↔ (mm_w8 st = true ∧ mm_S r a = (1, 0)) ∧ mm_E 3 0 [some (.ref a), some (.int x0)] [] I r (fun v I2 r2 => mm_E 76 8 ls (mm_pu v st) I2 r2 Q)) := fun x0 => me_vc (n := 1) (As := [.int x0]) (xs := [.int x0]) (a := a) mc_76 dX5_sleep_5 (by decide +kernel) (by decide +kernel) rfl rfl (Nat.le_of_ble_eq_true rfl) rfl
theorem e76_8 : mm_E 76 8 ls (.int x :: st) I r Q ↔ if x = 0 then mm_E 76 30 ls st I r Q else mm_E 76 11 ls st I r Q := me_zeq mc_76 dX5_sleep_8 (by decide)
theorem e76_11 : mm_E 76 11 [l0, l1, some (.int x), l3, l4, l5, l6, l7] st I r Q ↔ mm_E 76 12 [l0, l1, some (.int x), l3, l4, l5, l6, l7] (.int x :: st) I r Q := me_il mc_76 dX5_sleep_11 rfl
theorem e76_12 : mm_E 76 12 ls st I r Q ↔ mm_E 76 13 ls (.int 0 :: st) I r Q := me_ic mc_76 dX5_sleep_12 (by decide)
theorem e76_13 : mm_E 76 13 ls st I r Q ↔ mm_E 76 15 ls (.int 10 :: st) I r Q := me_bi mc_76 dX5_sleep_13 (by decide)
theorem e76_15 : ∀ (x0 : Int32) (x1 : Int32) (x2 : Int32), (mm_E 76 15 ls (.int x2 :: .int x1 :: .int x0 :: st) I r Q ↔ mm_w8 st = true ∧ mm_E 85 0 [some (.int x0), some (.int x1), some (.int x2)] [] I r (fun v I2 r2 => mm_E 76 18 ls (mm_pu v st) I2 r2 Q)) := fun x0 x1 x2 => me_sc (n := 3) (As := [.int x0, .int x1, .int x2]) (xs := [.int x2, .int x1, .int x0]) mc_76 dX5_sleep_15 (by decide +kernel) (by decide +kernel) rfl rfl (Nat.le_of_ble_eq_true rfl) rfl
theorem e76_18 : mm_E 76 18 ls (.int x :: st) I r Q ↔ if x = 0 then mm_E 76 30 ls st I r Q else mm_E 76 21 ls st I r Q := me_zeq mc_76 dX5_sleep_18 (by decide)
theorem e76_21 : mm_E 76 21 [l0, l1, l2, some (.int x), l4, l5, l6, l7] st I r Q ↔ mm_E 76 22 [l0, l1, l2, some (.int x), l4, l5, l6, l7] (.int x :: st) I r Q := me_il mc_76 dX5_sleep_21 rfl
theorem e76_22 : mm_E 76 22 ls st I r Q ↔ mm_E 76 23 ls (.int 0 :: st) I r Q := me_ic mc_76 dX5_sleep_22 (by decide)
theorem e76_23 : mm_E 76 23 ls st I r Q ↔ mm_E 76 24 ls (.int 1 :: st) I r Q := me_ic mc_76 dX5_sleep_23 (by decide)
theorem e76_24 : ∀ (x0 : Int32) (x1 : Int32) (x2 : Int32), (mm_E 76 24 ls (.int x2 :: .int x1 :: .int x0 :: st) I r Q ↔ mm_w8 st = true ∧ mm_E 85 0 [some (.int x0), some (.int x1), some (.int x2)] [] I r (fun v I2 r2 => mm_E 76 27 ls (mm_pu v st) I2 r2 Q)) := fun x0 x1 x2 => me_sc (n := 3) (As := [.int x0, .int x1, .int x2]) (xs := [.int x2, .int x1, .int x0]) mc_76 dX5_sleep_24 (by decide +kernel) (by decide +kernel) rfl rfl (Nat.le_of_ble_eq_true rfl) rfl
theorem e76_27 : mm_E 76 27 ls (.int x :: st) I r Q ↔ if ¬ x = 0 then mm_E 76 32 ls st I r Q else mm_E 76 30 ls st I r Q := me_zne mc_76 dX5_sleep_27 (by decide)
theorem e76_30 : mm_E 76 30 ls st I r Q ↔ mm_E 76 31 ls (.int (-1) :: st) I r Q := me_ic mc_76 dX5_sleep_30 (by decide)
theorem e76_31 : mm_E 76 31 ls [.int x] I r Q ↔ Q (some (.int x)) I r := me_ri mc_76 dX5_sleep_31 rfl
theorem e76_32 : mm_E 76 32 ls st I r Q ↔ mm_E 76 33 ls (.int 0 :: st) I r Q := me_ic mc_76 dX5_sleep_32 (by decide)
theorem e76_33 : mm_E 76 33 [l0, l1, l2, l3, l4, l5, l6, l7] (.int x :: st) I r Q ↔ mm_c1 l3 ∧ mm_E 76 35 [l0, l1, l2, l3, some (.int x), l5, l6, l7] st I r Q := me_st (k := 4) (v := .int x) mc_76 dX5_sleep_33 rfl rfl (Nat.le_of_ble_eq_true rfl) rfl ⟨Or.inr, fun h => h.resolve_left (by decide)⟩
theorem e76_35 : mm_E 76 35 ls st I r Q ↔ mm_E 76 36 ls (.int 0 :: st) I r Q := me_ic mc_76 dX5_sleep_35 (by decide)
theorem e76_36 : mm_E 76 36 [l0, l1, l2, l3, l4, l5, l6, l7] (.int x :: st) I r Q ↔ mm_c1 l4 ∧ mm_E 76 38 [l0, l1, l2, l3, l4, some (.int x), l6, l7] st I r Q := me_st (k := 5) (v := .int x) mc_76 dX5_sleep_36 rfl rfl (Nat.le_of_ble_eq_true rfl) rfl ⟨Or.inr, fun h => h.resolve_left (by decide)⟩
theorem e76_38 : mm_E 76 38 ls st I r Q ↔ mm_E 76 39 ls (.int 0 :: st) I r Q := me_ic mc_76 dX5_sleep_38 (by decide)
theorem e76_39 : mm_E 76 39 [l0, l1, l2, l3, l4, l5, l6, l7] (.int x :: st) I r Q ↔ mm_c1 l5 ∧ mm_E 76 41 [l0, l1, l2, l3, l4, l5, some (.int x), l7] st I r Q := me_st (k := 6) (v := .int x) mc_76 dX5_sleep_39 rfl rfl (Nat.le_of_ble_eq_true rfl) rfl ⟨Or.inr, fun h => h.resolve_left (by decide)⟩
theorem e76_41 : mm_E 76 41 [l0, l1, l2, l3, l4, l5, some (.int x), l7] st I r Q ↔ mm_E 76 43 [l0, l1, l2, l3, l4, l5, some (.int x), l7] (.int x :: st) I r Q := me_il2 mc_76 dX5_sleep_41 rfl
theorem e76_43 : mm_E 76 43 ls st I r Q ↔ mm_E 76 44 ls (.int 1 :: st) I r Q := me_ic mc_76 dX5_sleep_43 (by decide)
theorem e76_44 : mm_E 76 44 [some (.ref a), l1, l2, l3, l4, l5, l6, l7] st I r Q ↔ mm_E 76 45 [some (.ref a), l1, l2, l3, l4, l5, l6, l7] (.ref a :: st) I r Q := me_al mc_76 dX5_sleep_44 rfl
theorem e76_45 : mm_E 76 45 ls (.ref a :: st) I r Q ↔ mm_S r a = (1, 5) ∧ mm_E 76 48 ls (va_rf (mm_P r a 0) :: st) I r Q := me_gr mc_76 dX5_sleep_45 (by decide +kernel) rfl
theorem e76_48 : mm_E 76 48 ls (.ref a :: st) I r Q ↔ mm_S r a = (1, 0) ∧ mm_E 76 51 ls (.int (mm_rd I a 1) :: st) I r Q := me_gi mc_76 dX5_sleep_48 (by decide +kernel) rfl
theorem e76_51 : mm_E 76 51 ls (.int y :: .int x :: st) I r Q ↔ mm_E 76 52 ls (.int (x <<< (y &&& 31)) :: st) I r Q := me_ishl mc_76 dX5_sleep_51
theorem e76_52 : mm_E 76 52 ls (.int y :: .int x :: st) I r Q ↔ if y ≤ x then mm_E 76 99 ls st I r Q else mm_E 76 55 ls st I r Q := me_cge mc_76 dX5_sleep_52 (by decide)
theorem e76_55 : mm_E 76 55 [some (.ref a), l1, l2, l3, l4, l5, l6, l7] st I r Q ↔ mm_E 76 56 [some (.ref a), l1, l2, l3, l4, l5, l6, l7] (.ref a :: st) I r Q := me_al mc_76 dX5_sleep_55 rfl
theorem e76_56 : mm_E 76 56 [l0, l1, l2, l3, l4, l5, some (.int x), l7] st I r Q ↔ mm_E 76 58 [l0, l1, l2, l3, l4, l5, some (.int x), l7] (.int x :: st) I r Q := me_il2 mc_76 dX5_sleep_56 rfl
theorem e76_58 : mm_E 76 58 [l0, l1, some (.int x), l3, l4, l5, l6, l7] st I r Q ↔ mm_E 76 59 [l0, l1, some (.int x), l3, l4, l5, l6, l7] (.int x :: st) I r Q := me_il mc_76 dX5_sleep_58 rfl
theorem e76_59 : ∀ (x0 : Int32) (x1 : Int32), (mm_E 76 59 ls (.int x1 :: .int x0 :: .ref a :: st) I r Q ↔ (mm_w8 st = true ∧ mm_S r a = (1, 5)) ∧ mm_E 88 0 [some (.ref a), some (.int x0), some (.int x1), none, none] [] I r (fun v I2 r2 => mm_E 76 62 ls (mm_pu v st) I2 r2 Q)) := fun x0 x1 => me_vc (n := 2) (As := [.int x0, .int x1]) (xs := [.int x1, .int x0]) (a := a) mc_76 dX5_sleep_59 (by decide +kernel) (by decide +kernel) rfl rfl (Nat.le_of_ble_eq_true rfl) rfl
theorem e76_62 : mm_E 76 62 [l0, l1, l2, l3, l4, l5, l6, l7] (.int x :: st) I r Q ↔ mm_c1 l6 ∧ mm_E 76 64 [l0, l1, l2, l3, l4, l5, l6, some (.int x)] st I r Q := me_st (k := 7) (v := .int x) mc_76 dX5_sleep_62 rfl rfl (Nat.le_of_ble_eq_true rfl) rfl ⟨Or.inr, fun h => h.resolve_left (by decide)⟩
theorem e76_64 : mm_E 76 64 [l0, l1, l2, l3, l4, some (.int x), l6, l7] st I r Q ↔ mm_E 76 66 [l0, l1, l2, l3, l4, some (.int x), l6, l7] (.int x :: st) I r Q := me_il2 mc_76 dX5_sleep_64 rfl
theorem e76_66 : mm_E 76 66 [l0, l1, l2, l3, l4, l5, l6, some (.int x)] st I r Q ↔ mm_E 76 68 [l0, l1, l2, l3, l4, l5, l6, some (.int x)] (.int x :: st) I r Q := me_il2 mc_76 dX5_sleep_66 rfl
theorem e76_68 : mm_E 76 68 ls (.int y :: .int x :: st) I r Q ↔ mm_E 76 69 ls (.int (x + y) :: st) I r Q := me_iadd mc_76 dX5_sleep_68
theorem e76_69 : mm_E 76 69 [l0, l1, l2, l3, l4, l5, l6, l7] (.int x :: st) I r Q ↔ mm_c1 l4 ∧ mm_E 76 71 [l0, l1, l2, l3, l4, some (.int x), l6, l7] st I r Q := me_st (k := 5) (v := .int x) mc_76 dX5_sleep_69 rfl rfl (Nat.le_of_ble_eq_true rfl) rfl ⟨Or.inr, fun h => h.resolve_left (by decide)⟩
theorem e76_71 : mm_E 76 71 [l0, l1, l2, l3, l4, l5, l6, some (.int x)] st I r Q ↔ mm_E 76 73 [l0, l1, l2, l3, l4, l5, l6, some (.int x)] (.int x :: st) I r Q := me_il2 mc_76 dX5_sleep_71 rfl
theorem e76_73 : mm_E 76 73 ls (.int x :: st) I r Q ↔ if x ≤ 0 then mm_E 76 93 ls st I r Q else mm_E 76 76 ls st I r Q := me_zle mc_76 dX5_sleep_73 (by decide)
theorem e76_76 : mm_E 76 76 [some (.ref a), l1, l2, l3, l4, l5, l6, l7] st I r Q ↔ mm_E 76 77 [some (.ref a), l1, l2, l3, l4, l5, l6, l7] (.ref a :: st) I r Q := me_al mc_76 dX5_sleep_76 rfl
theorem e76_77 : mm_E 76 77 [l0, some (.int x), l2, l3, l4, l5, l6, l7] st I r Q ↔ mm_E 76 78 [l0, some (.int x), l2, l3, l4, l5, l6, l7] (.int x :: st) I r Q := me_il mc_76 dX5_sleep_77 rfl
theorem e76_78 : mm_E 76 78 [l0, l1, l2, l3, l4, l5, some (.int x), l7] st I r Q ↔ mm_E 76 80 [l0, l1, l2, l3, l4, l5, some (.int x), l7] (.int x :: st) I r Q := me_il2 mc_76 dX5_sleep_78 rfl
theorem e76_80 : ∀ (x0 : Int32) (x1 : Int32), (mm_E 76 80 ls (.int x1 :: .int x0 :: .ref a :: st) I r Q ↔ (mm_w8 st = true ∧ mm_S r a = (1, 5)) ∧ mm_E 89 0 [some (.ref a), some (.int x0), some (.int x1)] [] I r (fun v I2 r2 => mm_E 76 83 ls (mm_pu v st) I2 r2 Q)) := fun x0 x1 => me_vc (n := 2) (As := [.int x0, .int x1]) (xs := [.int x1, .int x0]) (a := a) mc_76 dX5_sleep_80 (by decide +kernel) (by decide +kernel) rfl rfl (Nat.le_of_ble_eq_true rfl) rfl
theorem e76_83 : mm_E 76 83 ls (.int x :: st) I r Q ↔ if x = 0 then mm_E 76 93 ls st I r Q else mm_E 76 86 ls st I r Q := me_zeq mc_76 dX5_sleep_83 (by decide)
theorem e76_86 : mm_E 76 86 [l0, l1, l2, l3, some (.int x), l5, l6, l7] st I r Q ↔ mm_E 76 88 [l0, l1, l2, l3, some (.int x), l5, l6, l7] (.int x :: st) I r Q := me_il2 mc_76 dX5_sleep_86 rfl
theorem e76_88 : mm_E 76 88 [l0, l1, l2, l3, l4, l5, l6, some (.int x)] st I r Q ↔ mm_E 76 90 [l0, l1, l2, l3, l4, l5, l6, some (.int x)] (.int x :: st) I r Q := me_il2 mc_76 dX5_sleep_88 rfl
theorem e76_90 : mm_E 76 90 ls (.int y :: .int x :: st) I r Q ↔ mm_E 76 91 ls (.int (x + y) :: st) I r Q := me_iadd mc_76 dX5_sleep_90
theorem e76_91 : mm_E 76 91 [l0, l1, l2, l3, l4, l5, l6, l7] (.int x :: st) I r Q ↔ mm_c1 l3 ∧ mm_E 76 93 [l0, l1, l2, l3, some (.int x), l5, l6, l7] st I r Q := me_st (k := 4) (v := .int x) mc_76 dX5_sleep_91 rfl rfl (Nat.le_of_ble_eq_true rfl) rfl ⟨Or.inr, fun h => h.resolve_left (by decide)⟩
theorem e76_93 : mm_E 76 93 [l0, l1, l2, l3, l4, l5, some (.int x), l7] st I r Q ↔ mm_c1 l5 ∧ mm_E 76 96 [l0, l1, l2, l3, l4, l5, some (.int (x + 1)), l7] st I r Q := me_st (k := 6) (v := .int (x + 1)) mc_76 dX5_sleep_93 rfl rfl (Nat.le_of_ble_eq_true rfl) rfl ⟨Or.inr, fun h => h.resolve_left (by decide)⟩
theorem e76_96 : mm_E 76 96 ls st I r Q ↔ mm_E 76 41 ls st I r Q := me_goto mc_76 dX5_sleep_96 (by decide)
theorem e76_99 : mm_E 76 99 [l0, l1, l2, l3, some (.int x), l5, l6, l7] st I r Q ↔ mm_E 76 101 [l0, l1, l2, l3, some (.int x), l5, l6, l7] (.int x :: st) I r Q := me_il2 mc_76 dX5_sleep_99 rfl
theorem e76_101 : mm_E 76 101 [l0, l1, l2, l3, l4, some (.int x), l6, l7] st I r Q ↔ mm_E 76 103 [l0, l1, l2, l3, l4, some (.int x), l6, l7] (.int x :: st) I r Q := me_il2 mc_76 dX5_sleep_101 rfl
theorem e76_103 : ∀ (x0 : Int32) (x1 : Int32), (mm_E 76 103 ls (.int x1 :: .int x0 :: st) I r Q ↔ mm_w8 st = true ∧ mm_E 90 0 [some (.int x0), some (.int x1), none, none, none, none] [] I r (fun v I2 r2 => mm_E 76 106 ls (mm_pu v st) I2 r2 Q)) := fun x0 x1 => me_sc (n := 2) (As := [.int x0, .int x1]) (xs := [.int x1, .int x0]) mc_76 dX5_sleep_103 (by decide +kernel) (by decide +kernel) rfl rfl (Nat.le_of_ble_eq_true rfl) rfl
theorem e76_106 : mm_E 76 106 [l0, l1, l2, l3, l4, l5, l6, l7] (.int x :: st) I r Q ↔ mm_c1 l5 ∧ mm_E 76 108 [l0, l1, l2, l3, l4, l5, some (.int x), l7] st I r Q := me_st (k := 6) (v := .int x) mc_76 dX5_sleep_106 rfl rfl (Nat.le_of_ble_eq_true rfl) rfl ⟨Or.inr, fun h => h.resolve_left (by decide)⟩
theorem e76_108 : mm_E 76 108 [l0, l1, l2, l3, l4, l5, some (.int x), l7] st I r Q ↔ mm_E 76 110 [l0, l1, l2, l3, l4, l5, some (.int x), l7] (.int x :: st) I r Q := me_il2 mc_76 dX5_sleep_108 rfl
theorem e76_110 : mm_E 76 110 ls st I r Q ↔ mm_E 76 111 ls (.int 1 :: st) I r Q := me_ic mc_76 dX5_sleep_110 (by decide)
theorem e76_111 : mm_E 76 111 ls (.int y :: .int x :: st) I r Q ↔ if y ≤ x then mm_E 76 116 ls st I r Q else mm_E 76 114 ls st I r Q := me_cge mc_76 dX5_sleep_111 (by decide)
theorem e76_114 : mm_E 76 114 ls st I r Q ↔ mm_E 76 115 ls (.int (-1) :: st) I r Q := me_ic mc_76 dX5_sleep_114 (by decide)
theorem e76_115 : mm_E 76 115 ls [.int x] I r Q ↔ Q (some (.int x)) I r := me_ri mc_76 dX5_sleep_115 rfl
theorem e76_116 : mm_E 76 116 [l0, l1, l2, some (.int x), l4, l5, l6, l7] st I r Q ↔ mm_E 76 117 [l0, l1, l2, some (.int x), l4, l5, l6, l7] (.int x :: st) I r Q := me_il mc_76 dX5_sleep_116 rfl
theorem e76_117 : mm_E 76 117 ls (.int x :: st) I r Q ↔ if ¬ x = 0 then mm_E 76 125 ls st I r Q else mm_E 76 120 ls st I r Q := me_zne mc_76 dX5_sleep_117 (by decide)
theorem e76_120 : mm_E 76 120 [l0, l1, l2, l3, some (.int x), l5, l6, l7] st I r Q ↔ mm_E 76 122 [l0, l1, l2, l3, some (.int x), l5, l6, l7] (.int x :: st) I r Q := me_il2 mc_76 dX5_sleep_120 rfl
theorem e76_122 : mm_E 76 122 ls st I r Q ↔ mm_E 76 127 ls st I r Q := me_goto mc_76 dX5_sleep_122 (by decide)
theorem e76_125 : mm_E 76 125 [l0, l1, l2, l3, l4, some (.int x), l6, l7] st I r Q ↔ mm_E 76 127 [l0, l1, l2, l3, l4, some (.int x), l6, l7] (.int x :: st) I r Q := me_il2 mc_76 dX5_sleep_125 rfl
theorem e76_127 : mm_E 76 127 [l0, l1, l2, l3, l4, l5, some (.int x), l7] st I r Q ↔ mm_E 76 129 [l0, l1, l2, l3, l4, l5, some (.int x), l7] (.int x :: st) I r Q := me_il2 mc_76 dX5_sleep_127 rfl
theorem e76_129 : mm_E 76 129 ls (.int y :: .int x :: st) I r Q ↔ ¬ y = 0 ∧ mm_E 76 130 ls (.int (x / y) :: st) I r Q := me_idiv mc_76 dX5_sleep_129
theorem e76_130 : mm_E 76 130 ls [.int x] I r Q ↔ Q (some (.int x)) I r := me_ri mc_76 dX5_sleep_130 rfl
theorem mc_77 : mm_c 77 = cX5_image := rfl
theorem e77_0 : mm_E 77 0 [some (.ref a)] st I r Q ↔ mm_E 77 1 [some (.ref a)] (.ref a :: st) I r Q := me_al mc_77 dX5_image_0 rfl
theorem e77_1 : mm_E 77 1 ls (.ref a :: st) I r Q ↔ mm_S r a = (1, 5) ∧ mm_E 77 4 ls (va_rf (mm_P r a 6) :: st) I r Q := me_gr mc_77 dX5_image_1 (by decide +kernel) rfl
theorem e77_4 : mm_E 77 4 [some (.ref a)] st I r Q ↔ mm_E 77 5 [some (.ref a)] (.ref a :: st) I r Q := me_al mc_77 dX5_image_4 rfl
theorem e77_5 : mm_E 77 5 ls (.ref a :: st) I r Q ↔ mm_S r a = (1, 5) ∧ mm_E 77 8 ls (va_rf (mm_P r a 0) :: st) I r Q := me_gr mc_77 dX5_image_5 (by decide +kernel) rfl
theorem e77_8 : ∀ (x0 : Nat), (mm_E 77 8 ls (.ref x0 :: .ref a :: st) I r Q ↔ (mm_w8 st = true ∧ mm_S r a = (1, 0)) ∧ mm_E 1 0 [some (.ref a), some (.ref x0), none] [] I r (fun v I2 r2 => mm_E 77 11 ls (mm_pu v st) I2 r2 Q)) := fun x0 => me_vc (n := 1) (As := [.ref x0]) (xs := [.ref x0]) (a := a) mc_77 dX5_image_8 (by decide +kernel) (by decide +kernel) rfl rfl (Nat.le_of_ble_eq_true rfl) rfl
theorem e77_11 : mm_E 77 11 [some (.ref a)] st I r Q ↔ mm_E 77 12 [some (.ref a)] (.ref a :: st) I r Q := me_al mc_77 dX5_image_11 rfl
theorem e77_12 : mm_E 77 12 ls (.ref a :: st) I r Q ↔ mm_S r a = (1, 5) ∧ mm_E 77 15 ls (va_rf (mm_P r a 7) :: st) I r Q := me_gr mc_77 dX5_image_12 (by decide +kernel) rfl
theorem e77_15 : mm_E 77 15 [some (.ref a)] st I r Q ↔ mm_E 77 16 [some (.ref a)] (.ref a :: st) I r Q := me_al mc_77 dX5_image_15 rfl
theorem e77_16 : mm_E 77 16 ls (.ref a :: st) I r Q ↔ mm_S r a = (1, 5) ∧ mm_E 77 19 ls (va_rf (mm_P r a 2) :: st) I r Q := me_gr mc_77 dX5_image_16 (by decide +kernel) rfl
theorem e77_19 : ∀ (x0 : Nat), (mm_E 77 19 ls (.ref x0 :: .ref a :: st) I r Q ↔ (mm_w8 st = true ∧ mm_S r a = (1, 2)) ∧ mm_E 30 0 [some (.ref a), some (.ref x0), none] [] I r (fun v I2 r2 => mm_E 77 22 ls (mm_pu v st) I2 r2 Q)) := fun x0 => me_vc (n := 1) (As := [.ref x0]) (xs := [.ref x0]) (a := a) mc_77 dX5_image_19 (by decide +kernel) (by decide +kernel) rfl rfl (Nat.le_of_ble_eq_true rfl) rfl
theorem e77_22 : mm_E 77 22 [some (.ref a)] st I r Q ↔ mm_E 77 23 [some (.ref a)] (.ref a :: st) I r Q := me_al mc_77 dX5_image_22 rfl
theorem e77_23 : mm_E 77 23 ls st I r Q ↔ mm_E 77 24 ls (.int 1 :: st) I r Q := me_ic mc_77 dX5_image_23 (by decide)
theorem e77_24 : mm_E 77 24 ls (.int x :: .ref a :: st) I r Q ↔ (mm_S r a = (1, 5) ∧ (x = 0 ∨ x = 1)) ∧ mm_E 77 27 ls st (mm_uI I a 8 x) r Q := me_pb mc_77 dX5_image_24 (by decide +kernel) (by decide +kernel)
theorem e77_27 : mm_E 77 27 ls st I r Q ↔ mm_E 77 28 ls (.int 1 :: st) I r Q := me_ic mc_77 dX5_image_27 (by decide)
theorem e77_28 : mm_E 77 28 ls [.int x] I r Q ↔ Q (some (.int x)) I r := me_ri mc_77 dX5_image_28 rfl
theorem mc_78 : mm_c 78 = cX5_restore := rfl
theorem e78_0 : mm_E 78 0 [some (.ref a)] st I r Q ↔ mm_E 78 1 [some (.ref a)] (.ref a :: st) I r Q := me_al mc_78 dX5_restore_0 rfl
theorem e78_1 : mm_E 78 1 ls (.ref a :: st) I r Q ↔ mm_S r a = (1, 5) ∧ mm_E 78 4 ls (.int (mm_rd I a 8) :: st) I r Q := me_gi mc_78 dX5_restore_1 (by decide +kernel) rfl
theorem e78_4 : mm_E 78 4 ls (.int x :: st) I r Q ↔ if ¬ x = 0 then mm_E 78 10 ls st I r Q else mm_E 78 7 ls st I r Q := me_zne mc_78 dX5_restore_4 (by decide)
theorem e78_7 : mm_E 78 7 ls st I r Q ↔ mm_E 78 9 ls (.int (-4) :: st) I r Q := me_bi mc_78 dX5_restore_7 (by decide)
theorem e78_9 : mm_E 78 9 ls [.int x] I r Q ↔ Q (some (.int x)) I r := me_ri mc_78 dX5_restore_9 rfl
theorem e78_10 : mm_E 78 10 [some (.ref a)] st I r Q ↔ mm_E 78 11 [some (.ref a)] (.ref a :: st) I r Q := me_al mc_78 dX5_restore_10 rfl
theorem e78_11 : mm_E 78 11 ls (.ref a :: st) I r Q ↔ mm_S r a = (1, 5) ∧ mm_E 78 14 ls (va_rf (mm_P r a 0) :: st) I r Q := me_gr mc_78 dX5_restore_11 (by decide +kernel) rfl
theorem e78_14 : mm_E 78 14 [some (.ref a)] st I r Q ↔ mm_E 78 15 [some (.ref a)] (.ref a :: st) I r Q := me_al mc_78 dX5_restore_14 rfl
theorem e78_15 : mm_E 78 15 ls (.ref a :: st) I r Q ↔ mm_S r a = (1, 5) ∧ mm_E 78 18 ls (va_rf (mm_P r a 6) :: st) I r Q := me_gr mc_78 dX5_restore_15 (by decide +kernel) rfl
theorem e78_18 : ∀ (x0 : Nat), (mm_E 78 18 ls (.ref x0 :: .ref a :: st) I r Q ↔ (mm_w8 st = true ∧ mm_S r a = (1, 0)) ∧ mm_E 1 0 [some (.ref a), some (.ref x0), none] [] I r (fun v I2 r2 => mm_E 78 21 ls (mm_pu v st) I2 r2 Q)) := fun x0 => me_vc (n := 1) (As := [.ref x0]) (xs := [.ref x0]) (a := a) mc_78 dX5_restore_18 (by decide +kernel) (by decide +kernel) rfl rfl (Nat.le_of_ble_eq_true rfl) rfl
theorem e78_21 : mm_E 78 21 [some (.ref a)] st I r Q ↔ mm_E 78 22 [some (.ref a)] (.ref a :: st) I r Q := me_al mc_78 dX5_restore_21 rfl
theorem e78_22 : mm_E 78 22 ls (.ref a :: st) I r Q ↔ mm_S r a = (1, 5) ∧ mm_E 78 25 ls (va_rf (mm_P r a 2) :: st) I r Q := me_gr mc_78 dX5_restore_22 (by decide +kernel) rfl
theorem e78_25 : mm_E 78 25 [some (.ref a)] st I r Q ↔ mm_E 78 26 [some (.ref a)] (.ref a :: st) I r Q := me_al mc_78 dX5_restore_25 rfl
theorem e78_26 : mm_E 78 26 ls (.ref a :: st) I r Q ↔ mm_S r a = (1, 5) ∧ mm_E 78 29 ls (va_rf (mm_P r a 7) :: st) I r Q := me_gr mc_78 dX5_restore_26 (by decide +kernel) rfl
theorem e78_29 : ∀ (x0 : Nat), (mm_E 78 29 ls (.ref x0 :: .ref a :: st) I r Q ↔ (mm_w8 st = true ∧ mm_S r a = (1, 2)) ∧ mm_E 30 0 [some (.ref a), some (.ref x0), none] [] I r (fun v I2 r2 => mm_E 78 32 ls (mm_pu v st) I2 r2 Q)) := fun x0 => me_vc (n := 1) (As := [.ref x0]) (xs := [.ref x0]) (a := a) mc_78 dX5_restore_29 (by decide +kernel) (by decide +kernel) rfl rfl (Nat.le_of_ble_eq_true rfl) rfl
theorem e78_32 : mm_E 78 32 ls st I r Q ↔ mm_E 78 33 ls (.int 1 :: st) I r Q := me_ic mc_78 dX5_restore_32 (by decide)
theorem e78_33 : mm_E 78 33 ls [.int x] I r Q ↔ Q (some (.int x)) I r := me_ri mc_78 dX5_restore_33 rfl
theorem mc_79 : mm_c 79 = cX5_dawns := rfl
theorem e79_0 : mm_E 79 0 [some (.ref a), l1, l2, l3, l4, l5, l6, l7, l8, l9, l10, l11, l12, l13] st I r Q ↔ mm_E 79 1 [some (.ref a), l1, l2, l3, l4, l5, l6, l7, l8, l9, l10, l11, l12, l13] (.ref a :: st) I r Q := me_al mc_79 dX5_dawns_0 rfl
theorem e79_1 : mm_E 79 1 ls (.ref a :: st) I r Q ↔ mm_S r a = (1, 5) ∧ mm_E 79 4 ls (va_rf (mm_P r a 0) :: st) I r Q := me_gr mc_79 dX5_dawns_1 (by decide +kernel) rfl
theorem e79_4 : mm_E 79 4 [l0, some (.int x), l2, l3, l4, l5, l6, l7, l8, l9, l10, l11, l12, l13] st I r Q ↔ mm_E 79 5 [l0, some (.int x), l2, l3, l4, l5, l6, l7, l8, l9, l10, l11, l12, l13] (.int x :: st) I r Q := me_il mc_79 dX5_dawns_4 rfl
theorem e79_5 : ∀ (x0 : Int32), (mm_E 79 5 ls (.int x0 :: .ref a :: st) I r Q ↔ (mm_w8 st = true ∧ mm_S r a = (1, 0)) ∧ mm_E 4 0 [some (.ref a), some (.int x0)] [] I r (fun v I2 r2 => mm_E 79 8 ls (mm_pu v st) I2 r2 Q)) := fun x0 => me_vc (n := 1) (As := [.int x0]) (xs := [.int x0]) (a := a) mc_79 dX5_dawns_5 (by decide +kernel) (by decide +kernel) rfl rfl (Nat.le_of_ble_eq_true rfl) rfl
theorem e79_8 : mm_E 79 8 ls (.int x :: st) I r Q ↔ if x = 0 then mm_E 79 62 ls st I r Q else mm_E 79 11 ls st I r Q := me_zeq mc_79 dX5_dawns_8 (by decide)
theorem e79_11 : mm_E 79 11 [some (.ref a), l1, l2, l3, l4, l5, l6, l7, l8, l9, l10, l11, l12, l13] st I r Q ↔ mm_E 79 12 [some (.ref a), l1, l2, l3, l4, l5, l6, l7, l8, l9, l10, l11, l12, l13] (.ref a :: st) I r Q := me_al mc_79 dX5_dawns_11 rfl
theorem e79_12 : mm_E 79 12 ls (.ref a :: st) I r Q ↔ mm_S r a = (1, 5) ∧ mm_E 79 15 ls (va_rf (mm_P r a 0) :: st) I r Q := me_gr mc_79 dX5_dawns_12 (by decide +kernel) rfl
theorem e79_15 : mm_E 79 15 [l0, l1, some (.int x), l3, l4, l5, l6, l7, l8, l9, l10, l11, l12, l13] st I r Q ↔ mm_E 79 16 [l0, l1, some (.int x), l3, l4, l5, l6, l7, l8, l9, l10, l11, l12, l13] (.int x :: st) I r Q := me_il mc_79 dX5_dawns_15 rfl
theorem e79_16 : ∀ (x0 : Int32), (mm_E 79 16 ls (.int x0 :: .ref a :: st) I r Q ↔ (mm_w8 st = true ∧ mm_S r a = (1, 0)) ∧ mm_E 3 0 [some (.ref a), some (.int x0)] [] I r (fun v I2 r2 => mm_E 79 19 ls (mm_pu v st) I2 r2 Q)) := fun x0 => me_vc (n := 1) (As := [.int x0]) (xs := [.int x0]) (a := a) mc_79 dX5_dawns_16 (by decide +kernel) (by decide +kernel) rfl rfl (Nat.le_of_ble_eq_true rfl) rfl
theorem e79_19 : mm_E 79 19 ls (.int x :: st) I r Q ↔ if x = 0 then mm_E 79 62 ls st I r Q else mm_E 79 22 ls st I r Q := me_zeq mc_79 dX5_dawns_19 (by decide)
theorem e79_22 : mm_E 79 22 [l0, l1, l2, some (.int x), l4, l5, l6, l7, l8, l9, l10, l11, l12, l13] st I r Q ↔ mm_E 79 23 [l0, l1, l2, some (.int x), l4, l5, l6, l7, l8, l9, l10, l11, l12, l13] (.int x :: st) I r Q := me_il mc_79 dX5_dawns_22 rfl
theorem e79_23 : mm_E 79 23 ls st I r Q ↔ mm_E 79 24 ls (.int 0 :: st) I r Q := me_ic mc_79 dX5_dawns_23 (by decide)
theorem e79_24 : mm_E 79 24 ls st I r Q ↔ mm_E 79 25 ls (.int 3 :: st) I r Q := me_ic mc_79 dX5_dawns_24 (by decide)
theorem e79_25 : ∀ (x0 : Int32) (x1 : Int32) (x2 : Int32), (mm_E 79 25 ls (.int x2 :: .int x1 :: .int x0 :: st) I r Q ↔ mm_w8 st = true ∧ mm_E 85 0 [some (.int x0), some (.int x1), some (.int x2)] [] I r (fun v I2 r2 => mm_E 79 28 ls (mm_pu v st) I2 r2 Q)) := fun x0 x1 x2 => me_sc (n := 3) (As := [.int x0, .int x1, .int x2]) (xs := [.int x2, .int x1, .int x0]) mc_79 dX5_dawns_25 (by decide +kernel) (by decide +kernel) rfl rfl (Nat.le_of_ble_eq_true rfl) rfl
theorem e79_28 : mm_E 79 28 ls (.int x :: st) I r Q ↔ if x = 0 then mm_E 79 62 ls st I r Q else mm_E 79 31 ls st I r Q := me_zeq mc_79 dX5_dawns_28 (by decide)
theorem e79_31 : mm_E 79 31 [l0, l1, l2, l3, some (.int x), l5, l6, l7, l8, l9, l10, l11, l12, l13] st I r Q ↔ mm_E 79 33 [l0, l1, l2, l3, some (.int x), l5, l6, l7, l8, l9, l10, l11, l12, l13] (.int x :: st) I r Q := me_il2 mc_79 dX5_dawns_31 rfl
theorem e79_33 : mm_E 79 33 ls st I r Q ↔ mm_E 79 34 ls (.int 0 :: st) I r Q := me_ic mc_79 dX5_dawns_33 (by decide)
theorem e79_34 : mm_E 79 34 ls st I r Q ↔ mm_E 79 35 ls (.int 3 :: st) I r Q := me_ic mc_79 dX5_dawns_34 (by decide)
theorem e79_35 : ∀ (x0 : Int32) (x1 : Int32) (x2 : Int32), (mm_E 79 35 ls (.int x2 :: .int x1 :: .int x0 :: st) I r Q ↔ mm_w8 st = true ∧ mm_E 85 0 [some (.int x0), some (.int x1), some (.int x2)] [] I r (fun v I2 r2 => mm_E 79 38 ls (mm_pu v st) I2 r2 Q)) := fun x0 x1 x2 => me_sc (n := 3) (As := [.int x0, .int x1, .int x2]) (xs := [.int x2, .int x1, .int x0]) mc_79 dX5_dawns_35 (by decide +kernel) (by decide +kernel) rfl rfl (Nat.le_of_ble_eq_true rfl) rfl
theorem e79_38 : mm_E 79 38 ls (.int x :: st) I r Q ↔ if x = 0 then mm_E 79 62 ls st I r Q else mm_E 79 41 ls st I r Q := me_zeq mc_79 dX5_dawns_38 (by decide)
theorem e79_41 : mm_E 79 41 [l0, l1, l2, l3, l4, l5, some (.int x), l7, l8, l9, l10, l11, l12, l13] st I r Q ↔ mm_E 79 43 [l0, l1, l2, l3, l4, l5, some (.int x), l7, l8, l9, l10, l11, l12, l13] (.int x :: st) I r Q := me_il2 mc_79 dX5_dawns_41 rfl
theorem e79_43 : mm_E 79 43 ls st I r Q ↔ mm_E 79 44 ls (.int 1 :: st) I r Q := me_ic mc_79 dX5_dawns_43 (by decide)
theorem e79_44 : mm_E 79 44 ls st I r Q ↔ mm_E 79 46 ls (.int 8 :: st) I r Q := me_bi mc_79 dX5_dawns_44 (by decide)
theorem e79_46 : ∀ (x0 : Int32) (x1 : Int32) (x2 : Int32), (mm_E 79 46 ls (.int x2 :: .int x1 :: .int x0 :: st) I r Q ↔ mm_w8 st = true ∧ mm_E 85 0 [some (.int x0), some (.int x1), some (.int x2)] [] I r (fun v I2 r2 => mm_E 79 49 ls (mm_pu v st) I2 r2 Q)) := fun x0 x1 x2 => me_sc (n := 3) (As := [.int x0, .int x1, .int x2]) (xs := [.int x2, .int x1, .int x0]) mc_79 dX5_dawns_46 (by decide +kernel) (by decide +kernel) rfl rfl (Nat.le_of_ble_eq_true rfl) rfl
theorem e79_49 : mm_E 79 49 ls (.int x :: st) I r Q ↔ if x = 0 then mm_E 79 62 ls st I r Q else mm_E 79 52 ls st I r Q := me_zeq mc_79 dX5_dawns_49 (by decide)
theorem e79_52 : mm_E 79 52 [l0, l1, l2, l3, l4, l5, l6, some (.int x), l8, l9, l10, l11, l12, l13] st I r Q ↔ mm_E 79 54 [l0, l1, l2, l3, l4, l5, l6, some (.int x), l8, l9, l10, l11, l12, l13] (.int x :: st) I r Q := me_il2 mc_79 dX5_dawns_52 rfl
theorem e79_54 : mm_E 79 54 ls st I r Q ↔ mm_E 79 55 ls (.int 0 :: st) I r Q := me_ic mc_79 dX5_dawns_54 (by decide)
theorem e79_55 : mm_E 79 55 ls st I r Q ↔ mm_E 79 56 ls (.int 1 :: st) I r Q := me_ic mc_79 dX5_dawns_55 (by decide)
theorem e79_56 : ∀ (x0 : Int32) (x1 : Int32) (x2 : Int32), (mm_E 79 56 ls (.int x2 :: .int x1 :: .int x0 :: st) I r Q ↔ mm_w8 st = true ∧ mm_E 85 0 [some (.int x0), some (.int x1), some (.int x2)] [] I r (fun v I2 r2 => mm_E 79 59 ls (mm_pu v st) I2 r2 Q)) := fun x0 x1 x2 => me_sc (n := 3) (As := [.int x0, .int x1, .int x2]) (xs := [.int x2, .int x1, .int x0]) mc_79 dX5_dawns_56 (by decide +kernel) (by decide +kernel) rfl rfl (Nat.le_of_ble_eq_true rfl) rfl
theorem e79_59 : mm_E 79 59 ls (.int x :: st) I r Q ↔ if ¬ x = 0 then mm_E 79 64 ls st I r Q else mm_E 79 62 ls st I r Q := me_zne mc_79 dX5_dawns_59 (by decide)
theorem e79_62 : mm_E 79 62 ls st I r Q ↔ mm_E 79 63 ls (.int (-1) :: st) I r Q := me_ic mc_79 dX5_dawns_62 (by decide)
theorem e79_63 : mm_E 79 63 ls [.int x] I r Q ↔ Q (some (.int x)) I r := me_ri mc_79 dX5_dawns_63 rfl
theorem e79_64 : mm_E 79 64 [some (.ref a), l1, l2, l3, l4, l5, l6, l7, l8, l9, l10, l11, l12, l13] st I r Q ↔ mm_E 79 65 [some (.ref a), l1, l2, l3, l4, l5, l6, l7, l8, l9, l10, l11, l12, l13] (.ref a :: st) I r Q := me_al mc_79 dX5_dawns_64 rfl
theorem e79_65 : mm_E 79 65 ls (.ref a :: st) I r Q ↔ mm_S r a = (1, 5) ∧ mm_E 79 68 ls (va_rf (mm_P r a 5) :: st) I r Q := me_gr mc_79 dX5_dawns_65 (by decide +kernel) rfl
theorem e79_68 : mm_E 79 68 [l0, l1, l2, some (.int x), l4, l5, l6, l7, l8, l9, l10, l11, l12, l13] st I r Q ↔ mm_E 79 69 [l0, l1, l2, some (.int x), l4, l5, l6, l7, l8, l9, l10, l11, l12, l13] (.int x :: st) I r Q := me_il mc_79 dX5_dawns_68 rfl
theorem e79_69 : mm_E 79 69 ls (.int x :: .ref a :: st) I r Q ↔ (((mm_S r a).1 = 4 ∨ (mm_S r a).1 = 5) ∧ vp_in x (mm_S r a).2) ∧ mm_E 79 70 ls (va_rf (mm_P r a x.toNatClampNeg) :: st) I r Q := me_aa mc_79 dX5_dawns_69
theorem e79_70 : mm_E 79 70 [l0, l1, l2, l3, l4, l5, l6, l7, l8, l9, l10, l11, l12, l13] (.ref a :: st) I r Q ↔ mm_c1 l7 ∧ mm_E 79 72 [l0, l1, l2, l3, l4, l5, l6, l7, some (.ref a), l9, l10, l11, l12, l13] st I r Q := me_st (k := 8) (v := .ref a) mc_79 dX5_dawns_70 rfl rfl (Nat.le_of_ble_eq_true rfl) rfl ⟨Or.inr, fun h => h.resolve_left (by decide)⟩
theorem e79_72 : mm_E 79 72 [l0, l1, l2, l3, l4, l5, l6, l7, some (.ref a), l9, l10, l11, l12, l13] st I r Q ↔ mm_E 79 74 [l0, l1, l2, l3, l4, l5, l6, l7, some (.ref a), l9, l10, l11, l12, l13] (.ref a :: st) I r Q := me_al2 mc_79 dX5_dawns_72 rfl
theorem e79_74 : mm_E 79 74 [l0, l1, l2, l3, some (.int x), l5, l6, l7, l8, l9, l10, l11, l12, l13] st I r Q ↔ mm_E 79 76 [l0, l1, l2, l3, some (.int x), l5, l6, l7, l8, l9, l10, l11, l12, l13] (.int x :: st) I r Q := me_il2 mc_79 dX5_dawns_74 rfl
theorem e79_76 : mm_E 79 76 [l0, l1, l2, l3, l4, some (.int x), l6, l7, l8, l9, l10, l11, l12, l13] st I r Q ↔ mm_E 79 78 [l0, l1, l2, l3, l4, some (.int x), l6, l7, l8, l9, l10, l11, l12, l13] (.int x :: st) I r Q := me_il2 mc_79 dX5_dawns_76 rfl
theorem e79_78 : mm_E 79 78 [l0, l1, l2, l3, l4, l5, some (.int x), l7, l8, l9, l10, l11, l12, l13] st I r Q ↔ mm_E 79 80 [l0, l1, l2, l3, l4, l5, some (.int x), l7, l8, l9, l10, l11, l12, l13] (.int x :: st) I r Q := me_il2 mc_79 dX5_dawns_78 rfl
theorem e79_80 : ∀ (x0 : Int32) (x1 : Int32) (x2 : Int32), (mm_E 79 80 ls (.int x2 :: .int x1 :: .int x0 :: .ref a :: st) I r Q ↔ (mm_w8 st = true ∧ mm_S r a = (1, 3)) ∧ mm_E 34 0 [some (.ref a), some (.int x0), some (.int x1), some (.int x2)] [] I r (fun v I2 r2 => mm_E 79 83 ls (mm_pu v st) I2 r2 Q)) := fun x0 x1 x2 => me_vc (n := 3) (As := [.int x0, .int x1, .int x2]) (xs := [.int x2, .int x1, .int x0]) (a := a) mc_79 dX5_dawns_80 (by decide +kernel) (by decide +kernel) rfl rfl (Nat.le_of_ble_eq_true rfl) rfl
theorem e79_83 : mm_E 79 83 [l0, l1, l2, l3, l4, l5, l6, l7, l8, l9, l10, l11, l12, l13] (.int x :: st) I r Q ↔ mm_c1 l8 ∧ mm_E 79 85 [l0, l1, l2, l3, l4, l5, l6, l7, l8, some (.int x), l10, l11, l12, l13] st I r Q := me_st (k := 9) (v := .int x) mc_79 dX5_dawns_83 rfl rfl (Nat.le_of_ble_eq_true rfl) rfl ⟨Or.inr, fun h => h.resolve_left (by decide)⟩
theorem e79_85 : mm_E 79 85 [l0, l1, l2, l3, l4, l5, l6, l7, l8, some (.int x), l10, l11, l12, l13] st I r Q ↔ mm_E 79 87 [l0, l1, l2, l3, l4, l5, l6, l7, l8, some (.int x), l10, l11, l12, l13] (.int x :: st) I r Q := me_il2 mc_79 dX5_dawns_85 rfl
theorem e79_87 : mm_E 79 87 ls (.int x :: st) I r Q ↔ if x = 0 then mm_E 79 93 ls st I r Q else mm_E 79 90 ls st I r Q := me_zeq mc_79 dX5_dawns_87 (by decide)
theorem e79_90 : mm_E 79 90 [l0, l1, l2, l3, l4, l5, l6, l7, l8, some (.int x), l10, l11, l12, l13] st I r Q ↔ mm_E 79 92 [l0, l1, l2, l3, l4, l5, l6, l7, l8, some (.int x), l10, l11, l12, l13] (.int x :: st) I r Q := me_il2 mc_79 dX5_dawns_90 rfl
theorem e79_92 : mm_E 79 92 ls [.int x] I r Q ↔ Q (some (.int x)) I r := me_ri mc_79 dX5_dawns_92 rfl
theorem e79_93 : mm_E 79 93 ls st I r Q ↔ mm_E 79 94 ls (.int 0 :: st) I r Q := me_ic mc_79 dX5_dawns_93 (by decide)
theorem e79_94 : mm_E 79 94 [l0, l1, l2, l3, l4, l5, l6, l7, l8, l9, l10, l11, l12, l13] (.int x :: st) I r Q ↔ mm_c1 l9 ∧ mm_E 79 96 [l0, l1, l2, l3, l4, l5, l6, l7, l8, l9, some (.int x), l11, l12, l13] st I r Q := me_st (k := 10) (v := .int x) mc_79 dX5_dawns_94 rfl rfl (Nat.le_of_ble_eq_true rfl) rfl ⟨Or.inr, fun h => h.resolve_left (by decide)⟩
theorem e79_96 : mm_E 79 96 [l0, l1, l2, l3, l4, l5, l6, some (.int x), l8, l9, l10, l11, l12, l13] st I r Q ↔ mm_E 79 98 [l0, l1, l2, l3, l4, l5, l6, some (.int x), l8, l9, l10, l11, l12, l13] (.int x :: st) I r Q := me_il2 mc_79 dX5_dawns_96 rfl
theorem e79_98 : mm_E 79 98 ls (.int x :: st) I r Q ↔ if ¬ x = 0 then mm_E 79 105 ls st I r Q else mm_E 79 101 ls st I r Q := me_zne mc_79 dX5_dawns_98 (by decide)
theorem e79_101 : mm_E 79 101 ls st I r Q ↔ mm_E 79 102 ls (.int 0 :: st) I r Q := me_ic mc_79 dX5_dawns_101 (by decide)
theorem e79_102 : mm_E 79 102 ls st I r Q ↔ mm_E 79 106 ls st I r Q := me_goto mc_79 dX5_dawns_102 (by decide)
theorem e79_105 : mm_E 79 105 ls st I r Q ↔ mm_E 79 106 ls (.int 1 :: st) I r Q := me_ic mc_79 dX5_dawns_105 (by decide)
theorem e79_106 : mm_E 79 106 [l0, l1, l2, l3, l4, l5, l6, l7, l8, l9, l10, l11, l12, l13] (.int x :: st) I r Q ↔ mm_c1 l10 ∧ mm_E 79 108 [l0, l1, l2, l3, l4, l5, l6, l7, l8, l9, l10, some (.int x), l12, l13] st I r Q := me_st (k := 11) (v := .int x) mc_79 dX5_dawns_106 rfl rfl (Nat.le_of_ble_eq_true rfl) rfl ⟨Or.inr, fun h => h.resolve_left (by decide)⟩
theorem e79_108 : mm_E 79 108 [l0, l1, l2, l3, l4, l5, l6, some (.int x), l8, l9, l10, l11, l12, l13] st I r Q ↔ mm_E 79 110 [l0, l1, l2, l3, l4, l5, l6, some (.int x), l8, l9, l10, l11, l12, l13] (.int x :: st) I r Q := me_il2 mc_79 dX5_dawns_108 rfl
theorem e79_110 : mm_E 79 110 ls (.int x :: st) I r Q ↔ if ¬ x = 0 then mm_E 79 117 ls st I r Q else mm_E 79 113 ls st I r Q := me_zne mc_79 dX5_dawns_110 (by decide)
theorem e79_113 : mm_E 79 113 ls st I r Q ↔ mm_E 79 114 ls (.int 4 :: st) I r Q := me_ic mc_79 dX5_dawns_113 (by decide)
theorem e79_114 : mm_E 79 114 ls st I r Q ↔ mm_E 79 119 ls st I r Q := me_goto mc_79 dX5_dawns_114 (by decide)
theorem e79_117 : mm_E 79 117 ls st I r Q ↔ mm_E 79 119 ls (.int 9 :: st) I r Q := me_bi mc_79 dX5_dawns_117 (by decide)
theorem e79_119 : mm_E 79 119 [l0, l1, l2, l3, l4, l5, l6, l7, l8, l9, l10, l11, l12, l13] (.int x :: st) I r Q ↔ mm_c1 l11 ∧ mm_E 79 121 [l0, l1, l2, l3, l4, l5, l6, l7, l8, l9, l10, l11, some (.int x), l13] st I r Q := me_st (k := 12) (v := .int x) mc_79 dX5_dawns_119 rfl rfl (Nat.le_of_ble_eq_true rfl) rfl ⟨Or.inr, fun h => h.resolve_left (by decide)⟩
theorem e79_121 : mm_E 79 121 [l0, l1, l2, l3, l4, l5, l6, l7, l8, l9, l10, some (.int x), l12, l13] st I r Q ↔ mm_E 79 123 [l0, l1, l2, l3, l4, l5, l6, l7, l8, l9, l10, some (.int x), l12, l13] (.int x :: st) I r Q := me_il2 mc_79 dX5_dawns_121 rfl
theorem e79_123 : mm_E 79 123 [l0, l1, l2, l3, l4, l5, l6, l7, l8, l9, l10, l11, l12, l13] (.int x :: st) I r Q ↔ mm_c1 l12 ∧ mm_E 79 125 [l0, l1, l2, l3, l4, l5, l6, l7, l8, l9, l10, l11, l12, some (.int x)] st I r Q := me_st (k := 13) (v := .int x) mc_79 dX5_dawns_123 rfl rfl (Nat.le_of_ble_eq_true rfl) rfl ⟨Or.inr, fun h => h.resolve_left (by decide)⟩
theorem e79_125 : mm_E 79 125 [l0, l1, l2, l3, l4, l5, l6, l7, l8, l9, l10, l11, l12, some (.int x)] st I r Q ↔ mm_E 79 127 [l0, l1, l2, l3, l4, l5, l6, l7, l8, l9, l10, l11, l12, some (.int x)] (.int x :: st) I r Q := me_il2 mc_79 dX5_dawns_125 rfl
theorem e79_127 : mm_E 79 127 [l0, l1, l2, l3, l4, l5, l6, l7, l8, l9, l10, l11, some (.int x), l13] st I r Q ↔ mm_E 79 129 [l0, l1, l2, l3, l4, l5, l6, l7, l8, l9, l10, l11, some (.int x), l13] (.int x :: st) I r Q := me_il2 mc_79 dX5_dawns_127 rfl
theorem e79_129 : mm_E 79 129 ls (.int y :: .int x :: st) I r Q ↔ if y < x then mm_E 79 202 ls st I r Q else mm_E 79 132 ls st I r Q := me_cgt mc_79 dX5_dawns_129 (by decide)
theorem e79_132 : mm_E 79 132 [some (.ref a), l1, l2, l3, l4, l5, l6, l7, l8, l9, l10, l11, l12, l13] st I r Q ↔ mm_E 79 133 [some (.ref a), l1, l2, l3, l4, l5, l6, l7, l8, l9, l10, l11, l12, l13] (.ref a :: st) I r Q := me_al mc_79 dX5_dawns_132 rfl
theorem e79_133 : mm_E 79 133 ls (.ref a :: st) I r Q ↔ mm_S r a = (1, 5) ∧ mm_E 79 136 ls (va_rf (mm_P r a 1) :: st) I r Q := me_gr mc_79 dX5_dawns_133 (by decide +kernel) rfl
theorem e79_136 : mm_E 79 136 [some (.ref a), l1, l2, l3, l4, l5, l6, l7, l8, l9, l10, l11, l12, l13] st I r Q ↔ mm_E 79 137 [some (.ref a), l1, l2, l3, l4, l5, l6, l7, l8, l9, l10, l11, l12, l13] (.ref a :: st) I r Q := me_al mc_79 dX5_dawns_136 rfl
theorem e79_137 : mm_E 79 137 ls (.ref a :: st) I r Q ↔ mm_S r a = (1, 5) ∧ mm_E 79 140 ls (va_rf (mm_P r a 0) :: st) I r Q := me_gr mc_79 dX5_dawns_137 (by decide +kernel) rfl
theorem e79_140 : ∀ (x0 : Nat), (mm_E 79 140 ls (.ref x0 :: .ref a :: st) I r Q ↔ (mm_w8 st = true ∧ mm_S r a = (1, 0)) ∧ mm_E 1 0 [some (.ref a), some (.ref x0), none] [] I r (fun v I2 r2 => mm_E 79 143 ls (mm_pu v st) I2 r2 Q)) := fun x0 => me_vc (n := 1) (As := [.ref x0]) (xs := [.ref x0]) (a := a) mc_79 dX5_dawns_140 (by decide +kernel) (by decide +kernel) rfl rfl (Nat.le_of_ble_eq_true rfl) rfl
theorem e79_143 : mm_E 79 143 [l0, l1, l2, l3, l4, l5, l6, some (.int x), l8, l9, l10, l11, l12, l13] st I r Q ↔ mm_E 79 145 [l0, l1, l2, l3, l4, l5, l6, some (.int x), l8, l9, l10, l11, l12, l13] (.int x :: st) I r Q := me_il2 mc_79 dX5_dawns_143 rfl
theorem e79_145 : mm_E 79 145 ls (.int x :: st) I r Q ↔ if ¬ x = 0 then mm_E 79 162 ls st I r Q else mm_E 79 148 ls st I r Q := me_zne mc_79 dX5_dawns_145 (by decide)
theorem e79_148 : mm_E 79 148 [some (.ref a), l1, l2, l3, l4, l5, l6, l7, l8, l9, l10, l11, l12, l13] st I r Q ↔ mm_E 79 149 [some (.ref a), l1, l2, l3, l4, l5, l6, l7, l8, l9, l10, l11, l12, l13] (.ref a :: st) I r Q := me_al mc_79 dX5_dawns_148 rfl
theorem e79_149 : mm_E 79 149 ls (.ref a :: st) I r Q ↔ mm_S r a = (1, 5) ∧ mm_E 79 152 ls (va_rf (mm_P r a 1) :: st) I r Q := me_gr mc_79 dX5_dawns_149 (by decide +kernel) rfl
theorem e79_152 : mm_E 79 152 ls (.ref a :: st) I r Q ↔ mm_S r a = (1, 0) ∧ mm_E 79 155 ls (va_rf (mm_P r a 9) :: st) I r Q := me_gr mc_79 dX5_dawns_152 (by decide +kernel) rfl
theorem e79_155 : mm_E 79 155 [l0, some (.int x), l2, l3, l4, l5, l6, l7, l8, l9, l10, l11, l12, l13] st I r Q ↔ mm_E 79 156 [l0, some (.int x), l2, l3, l4, l5, l6, l7, l8, l9, l10, l11, l12, l13] (.int x :: st) I r Q := me_il mc_79 dX5_dawns_155 rfl
theorem e79_156 : mm_E 79 156 [l0, l1, l2, l3, l4, l5, l6, l7, l8, l9, l10, l11, l12, some (.int x)] st I r Q ↔ mm_E 79 158 [l0, l1, l2, l3, l4, l5, l6, l7, l8, l9, l10, l11, l12, some (.int x)] (.int x :: st) I r Q := me_il2 mc_79 dX5_dawns_156 rfl
theorem e79_158 : mm_E 79 158 ls (.int y :: .int x :: .ref a :: st) I r Q ↔ mm_ix r a 2 x ∧ mm_E 79 159 ls st (mm_uI I a x.toNatClampNeg y) r Q := me_is mc_79 dX5_dawns_158
theorem e79_159 : mm_E 79 159 ls st I r Q ↔ mm_E 79 173 ls st I r Q := me_goto mc_79 dX5_dawns_159 (by decide)
theorem e79_162 : mm_E 79 162 [some (.ref a), l1, l2, l3, l4, l5, l6, l7, l8, l9, l10, l11, l12, l13] st I r Q ↔ mm_E 79 163 [some (.ref a), l1, l2, l3, l4, l5, l6, l7, l8, l9, l10, l11, l12, l13] (.ref a :: st) I r Q := me_al mc_79 dX5_dawns_162 rfl
theorem e79_163 : mm_E 79 163 ls (.ref a :: st) I r Q ↔ mm_S r a = (1, 5) ∧ mm_E 79 166 ls (va_rf (mm_P r a 1) :: st) I r Q := me_gr mc_79 dX5_dawns_163 (by decide +kernel) rfl
theorem e79_166 : mm_E 79 166 ls (.ref a :: st) I r Q ↔ mm_S r a = (1, 0) ∧ mm_E 79 169 ls (va_rf (mm_P r a 10) :: st) I r Q := me_gr mc_79 dX5_dawns_166 (by decide +kernel) rfl
theorem e79_169 : mm_E 79 169 [l0, some (.int x), l2, l3, l4, l5, l6, l7, l8, l9, l10, l11, l12, l13] st I r Q ↔ mm_E 79 170 [l0, some (.int x), l2, l3, l4, l5, l6, l7, l8, l9, l10, l11, l12, l13] (.int x :: st) I r Q := me_il mc_79 dX5_dawns_169 rfl
theorem e79_170 : mm_E 79 170 [l0, l1, l2, l3, l4, l5, l6, l7, l8, l9, l10, l11, l12, some (.int x)] st I r Q ↔ mm_E 79 172 [l0, l1, l2, l3, l4, l5, l6, l7, l8, l9, l10, l11, l12, some (.int x)] (.int x :: st) I r Q := me_il2 mc_79 dX5_dawns_170 rfl
theorem e79_172 : mm_E 79 172 ls (.int y :: .int x :: .ref a :: st) I r Q ↔ mm_ix r a 2 x ∧ mm_E 79 173 ls st (mm_uI I a x.toNatClampNeg y) r Q := me_is mc_79 dX5_dawns_172
theorem e79_173 : mm_E 79 173 [some (.ref a), l1, l2, l3, l4, l5, l6, l7, l8, l9, l10, l11, l12, l13] st I r Q ↔ mm_E 79 174 [some (.ref a), l1, l2, l3, l4, l5, l6, l7, l8, l9, l10, l11, l12, l13] (.ref a :: st) I r Q := me_al mc_79 dX5_dawns_173 rfl
theorem e79_174 : mm_E 79 174 [l0, l1, some (.int x), l3, l4, l5, l6, l7, l8, l9, l10, l11, l12, l13] st I r Q ↔ mm_E 79 175 [l0, l1, some (.int x), l3, l4, l5, l6, l7, l8, l9, l10, l11, l12, l13] (.int x :: st) I r Q := me_il mc_79 dX5_dawns_174 rfl
theorem e79_175 : mm_E 79 175 [l0, l1, l2, l3, l4, l5, l6, l7, some (.ref a), l9, l10, l11, l12, l13] st I r Q ↔ mm_E 79 177 [l0, l1, l2, l3, l4, l5, l6, l7, some (.ref a), l9, l10, l11, l12, l13] (.ref a :: st) I r Q := me_al2 mc_79 dX5_dawns_175 rfl
theorem e79_177 : mm_E 79 177 [l0, l1, l2, l3, l4, some (.int x), l6, l7, l8, l9, l10, l11, l12, l13] st I r Q ↔ mm_E 79 179 [l0, l1, l2, l3, l4, some (.int x), l6, l7, l8, l9, l10, l11, l12, l13] (.int x :: st) I r Q := me_il2 mc_79 dX5_dawns_177 rfl
theorem e79_179 : mm_E 79 179 [l0, l1, l2, l3, l4, l5, some (.int x), l7, l8, l9, l10, l11, l12, l13] st I r Q ↔ mm_E 79 181 [l0, l1, l2, l3, l4, l5, some (.int x), l7, l8, l9, l10, l11, l12, l13] (.int x :: st) I r Q := me_il2 mc_79 dX5_dawns_179 rfl
theorem e79_181 : ∀ (x0 : Int32) (x1 : Nat) (x2 : Int32) (x3 : Int32), (mm_E 79 181 ls (.int x3 :: .int x2 :: .ref x1 :: .int x0 :: .ref a :: st) I r Q ↔ (mm_w8 st = true ∧ mm_S r a = (1, 5)) ∧ mm_E 91 0 [some (.ref a), some (.int x0), some (.ref x1), some (.int x2), some (.int x3), none] [] I r (fun v I2 r2 => mm_E 79 184 ls (mm_pu v st) I2 r2 Q)) := fun x0 x1 x2 x3 => me_vc (n := 4) (As := [.int x0, .ref x1, .int x2, .int x3]) (xs := [.int x3, .int x2, .ref x1, .int x0]) (a := a) mc_79 dX5_dawns_181 (by decide +kernel) (by decide +kernel) rfl rfl (Nat.le_of_ble_eq_true rfl) rfl
theorem e79_184 : mm_E 79 184 ls (.int x :: st) I r Q ↔ if x = 0 then mm_E 79 196 ls st I r Q else mm_E 79 187 ls st I r Q := me_zeq mc_79 dX5_dawns_184 (by decide)
theorem e79_187 : mm_E 79 187 [l0, l1, l2, l3, l4, l5, l6, l7, l8, l9, some (.int x), l11, l12, l13] st I r Q ↔ mm_E 79 189 [l0, l1, l2, l3, l4, l5, l6, l7, l8, l9, some (.int x), l11, l12, l13] (.int x :: st) I r Q := me_il2 mc_79 dX5_dawns_187 rfl
theorem e79_189 : mm_E 79 189 ls st I r Q ↔ mm_E 79 190 ls (.int 1 :: st) I r Q := me_ic mc_79 dX5_dawns_189 (by decide)
theorem e79_190 : mm_E 79 190 [l0, l1, l2, l3, l4, l5, l6, l7, l8, l9, l10, l11, l12, some (.int x)] st I r Q ↔ mm_E 79 192 [l0, l1, l2, l3, l4, l5, l6, l7, l8, l9, l10, l11, l12, some (.int x)] (.int x :: st) I r Q := me_il2 mc_79 dX5_dawns_190 rfl
theorem e79_192 : mm_E 79 192 ls (.int y :: .int x :: st) I r Q ↔ mm_E 79 193 ls (.int (x <<< (y &&& 31)) :: st) I r Q := me_ishl mc_79 dX5_dawns_192
theorem e79_193 : mm_E 79 193 ls (.int y :: .int x :: st) I r Q ↔ mm_E 79 194 ls (.int (x ||| y) :: st) I r Q := me_ior mc_79 dX5_dawns_193
theorem e79_194 : mm_E 79 194 [l0, l1, l2, l3, l4, l5, l6, l7, l8, l9, l10, l11, l12, l13] (.int x :: st) I r Q ↔ mm_c1 l9 ∧ mm_E 79 196 [l0, l1, l2, l3, l4, l5, l6, l7, l8, l9, some (.int x), l11, l12, l13] st I r Q := me_st (k := 10) (v := .int x) mc_79 dX5_dawns_194 rfl rfl (Nat.le_of_ble_eq_true rfl) rfl ⟨Or.inr, fun h => h.resolve_left (by decide)⟩
theorem e79_196 : mm_E 79 196 [l0, l1, l2, l3, l4, l5, l6, l7, l8, l9, l10, l11, l12, some (.int x)] st I r Q ↔ mm_c1 l12 ∧ mm_E 79 199 [l0, l1, l2, l3, l4, l5, l6, l7, l8, l9, l10, l11, l12, some (.int (x + 1))] st I r Q := me_st (k := 13) (v := .int (x + 1)) mc_79 dX5_dawns_196 rfl rfl (Nat.le_of_ble_eq_true rfl) rfl ⟨Or.inr, fun h => h.resolve_left (by decide)⟩
theorem e79_199 : mm_E 79 199 ls st I r Q ↔ mm_E 79 125 ls st I r Q := me_goto mc_79 dX5_dawns_199 (by decide)
theorem e79_202 : mm_E 79 202 [l0, l1, l2, l3, l4, l5, l6, l7, l8, l9, some (.int x), l11, l12, l13] st I r Q ↔ mm_E 79 204 [l0, l1, l2, l3, l4, l5, l6, l7, l8, l9, some (.int x), l11, l12, l13] (.int x :: st) I r Q := me_il2 mc_79 dX5_dawns_202 rfl
theorem e79_204 : mm_E 79 204 ls [.int x] I r Q ↔ Q (some (.int x)) I r := me_ri mc_79 dX5_dawns_204 rfl
theorem mc_80 : mm_c 80 = cX5_film := rfl
theorem e80_0 : mm_E 80 0 [some (.ref a), l1, l2, l3, l4, l5, l6, l7, l8] st I r Q ↔ mm_E 80 1 [some (.ref a), l1, l2, l3, l4, l5, l6, l7, l8] (.ref a :: st) I r Q := me_al mc_80 dX5_film_0 rfl
theorem e80_1 : mm_E 80 1 ls (.ref a :: st) I r Q ↔ mm_S r a = (1, 5) ∧ mm_E 80 4 ls (va_rf (mm_P r a 0) :: st) I r Q := me_gr mc_80 dX5_film_1 (by decide +kernel) rfl
theorem e80_4 : mm_E 80 4 [l0, some (.int x), l2, l3, l4, l5, l6, l7, l8] st I r Q ↔ mm_E 80 5 [l0, some (.int x), l2, l3, l4, l5, l6, l7, l8] (.int x :: st) I r Q := me_il mc_80 dX5_film_4 rfl
theorem e80_5 : ∀ (x0 : Int32), (mm_E 80 5 ls (.int x0 :: .ref a :: st) I r Q ↔ (mm_w8 st = true ∧ mm_S r a = (1, 0)) ∧ mm_E 3 0 [some (.ref a), some (.int x0)] [] I r (fun v I2 r2 => mm_E 80 8 ls (mm_pu v st) I2 r2 Q)) := fun x0 => me_vc (n := 1) (As := [.int x0]) (xs := [.int x0]) (a := a) mc_80 dX5_film_5 (by decide +kernel) (by decide +kernel) rfl rfl (Nat.le_of_ble_eq_true rfl) rfl
theorem e80_8 : mm_E 80 8 ls (.int x :: st) I r Q ↔ if x = 0 then mm_E 80 40 ls st I r Q else mm_E 80 11 ls st I r Q := me_zeq mc_80 dX5_film_8 (by decide)
theorem e80_11 : mm_E 80 11 [l0, l1, some (.int x), l3, l4, l5, l6, l7, l8] st I r Q ↔ mm_E 80 12 [l0, l1, some (.int x), l3, l4, l5, l6, l7, l8] (.int x :: st) I r Q := me_il mc_80 dX5_film_11 rfl
theorem e80_12 : mm_E 80 12 ls st I r Q ↔ mm_E 80 13 ls (.int 1 :: st) I r Q := me_ic mc_80 dX5_film_12 (by decide)
theorem e80_13 : mm_E 80 13 ls st I r Q ↔ mm_E 80 15 ls (.int 24 :: st) I r Q := me_bi mc_80 dX5_film_13 (by decide)
theorem e80_15 : ∀ (x0 : Int32) (x1 : Int32) (x2 : Int32), (mm_E 80 15 ls (.int x2 :: .int x1 :: .int x0 :: st) I r Q ↔ mm_w8 st = true ∧ mm_E 85 0 [some (.int x0), some (.int x1), some (.int x2)] [] I r (fun v I2 r2 => mm_E 80 18 ls (mm_pu v st) I2 r2 Q)) := fun x0 x1 x2 => me_sc (n := 3) (As := [.int x0, .int x1, .int x2]) (xs := [.int x2, .int x1, .int x0]) mc_80 dX5_film_15 (by decide +kernel) (by decide +kernel) rfl rfl (Nat.le_of_ble_eq_true rfl) rfl
theorem e80_18 : mm_E 80 18 ls (.int x :: st) I r Q ↔ if x = 0 then mm_E 80 40 ls st I r Q else mm_E 80 21 ls st I r Q := me_zeq mc_80 dX5_film_18 (by decide)
theorem e80_21 : mm_E 80 21 [l0, l1, l2, some (.int x), l4, l5, l6, l7, l8] st I r Q ↔ mm_E 80 22 [l0, l1, l2, some (.int x), l4, l5, l6, l7, l8] (.int x :: st) I r Q := me_il mc_80 dX5_film_21 rfl
theorem e80_22 : mm_E 80 22 ls st I r Q ↔ mm_E 80 23 ls (.int 0 :: st) I r Q := me_ic mc_80 dX5_film_22 (by decide)
theorem e80_23 : mm_E 80 23 ls st I r Q ↔ mm_E 80 24 ls (.int 3 :: st) I r Q := me_ic mc_80 dX5_film_23 (by decide)
theorem e80_24 : ∀ (x0 : Int32) (x1 : Int32) (x2 : Int32), (mm_E 80 24 ls (.int x2 :: .int x1 :: .int x0 :: st) I r Q ↔ mm_w8 st = true ∧ mm_E 85 0 [some (.int x0), some (.int x1), some (.int x2)] [] I r (fun v I2 r2 => mm_E 80 27 ls (mm_pu v st) I2 r2 Q)) := fun x0 x1 x2 => me_sc (n := 3) (As := [.int x0, .int x1, .int x2]) (xs := [.int x2, .int x1, .int x0]) mc_80 dX5_film_24 (by decide +kernel) (by decide +kernel) rfl rfl (Nat.le_of_ble_eq_true rfl) rfl
theorem e80_27 : mm_E 80 27 ls (.int x :: st) I r Q ↔ if x = 0 then mm_E 80 40 ls st I r Q else mm_E 80 30 ls st I r Q := me_zeq mc_80 dX5_film_27 (by decide)
theorem e80_30 : mm_E 80 30 [l0, l1, l2, l3, some (.int x), l5, l6, l7, l8] st I r Q ↔ mm_E 80 32 [l0, l1, l2, l3, some (.int x), l5, l6, l7, l8] (.int x :: st) I r Q := me_il2 mc_80 dX5_film_30 rfl
theorem e80_32 : mm_E 80 32 ls st I r Q ↔ mm_E 80 33 ls (.int 0 :: st) I r Q := me_ic mc_80 dX5_film_32 (by decide)
theorem e80_33 : mm_E 80 33 ls st I r Q ↔ mm_E 80 34 ls (.int 3 :: st) I r Q := me_ic mc_80 dX5_film_33 (by decide)
theorem e80_34 : ∀ (x0 : Int32) (x1 : Int32) (x2 : Int32), (mm_E 80 34 ls (.int x2 :: .int x1 :: .int x0 :: st) I r Q ↔ mm_w8 st = true ∧ mm_E 85 0 [some (.int x0), some (.int x1), some (.int x2)] [] I r (fun v I2 r2 => mm_E 80 37 ls (mm_pu v st) I2 r2 Q)) := fun x0 x1 x2 => me_sc (n := 3) (As := [.int x0, .int x1, .int x2]) (xs := [.int x2, .int x1, .int x0]) mc_80 dX5_film_34 (by decide +kernel) (by decide +kernel) rfl rfl (Nat.le_of_ble_eq_true rfl) rfl
theorem e80_37 : mm_E 80 37 ls (.int x :: st) I r Q ↔ if ¬ x = 0 then mm_E 80 42 ls st I r Q else mm_E 80 40 ls st I r Q := me_zne mc_80 dX5_film_37 (by decide)
theorem e80_40 : mm_E 80 40 ls st I r Q ↔ mm_E 80 41 ls (.int (-1) :: st) I r Q := me_ic mc_80 dX5_film_40 (by decide)
theorem e80_41 : mm_E 80 41 ls [.int x] I r Q ↔ Q (some (.int x)) I r := me_ri mc_80 dX5_film_41 rfl
theorem e80_42 : mm_E 80 42 [some (.ref a), l1, l2, l3, l4, l5, l6, l7, l8] st I r Q ↔ mm_E 80 43 [some (.ref a), l1, l2, l3, l4, l5, l6, l7, l8] (.ref a :: st) I r Q := me_al mc_80 dX5_film_42 rfl
theorem e80_43 : mm_E 80 43 ls (.ref a :: st) I r Q ↔ mm_S r a = (1, 5) ∧ mm_E 80 46 ls (va_rf (mm_P r a 5) :: st) I r Q := me_gr mc_80 dX5_film_43 (by decide +kernel) rfl
theorem e80_46 : mm_E 80 46 [l0, l1, l2, some (.int x), l4, l5, l6, l7, l8] st I r Q ↔ mm_E 80 47 [l0, l1, l2, some (.int x), l4, l5, l6, l7, l8] (.int x :: st) I r Q := me_il mc_80 dX5_film_46 rfl
theorem e80_47 : mm_E 80 47 ls (.int x :: .ref a :: st) I r Q ↔ (((mm_S r a).1 = 4 ∨ (mm_S r a).1 = 5) ∧ vp_in x (mm_S r a).2) ∧ mm_E 80 48 ls (va_rf (mm_P r a x.toNatClampNeg) :: st) I r Q := me_aa mc_80 dX5_film_47
theorem e80_48 : mm_E 80 48 [l0, l1, l2, l3, l4, l5, l6, l7, l8] (.ref a :: st) I r Q ↔ mm_c1 l5 ∧ mm_E 80 50 [l0, l1, l2, l3, l4, l5, some (.ref a), l7, l8] st I r Q := me_st (k := 6) (v := .ref a) mc_80 dX5_film_48 rfl rfl (Nat.le_of_ble_eq_true rfl) rfl ⟨Or.inr, fun h => h.resolve_left (by decide)⟩
theorem e80_50 : mm_E 80 50 [l0, l1, l2, l3, l4, l5, some (.ref a), l7, l8] st I r Q ↔ mm_E 80 52 [l0, l1, l2, l3, l4, l5, some (.ref a), l7, l8] (.ref a :: st) I r Q := me_al2 mc_80 dX5_film_50 rfl
theorem e80_52 : mm_E 80 52 [l0, l1, l2, l3, some (.int x), l5, l6, l7, l8] st I r Q ↔ mm_E 80 54 [l0, l1, l2, l3, some (.int x), l5, l6, l7, l8] (.int x :: st) I r Q := me_il2 mc_80 dX5_film_52 rfl
theorem e80_54 : mm_E 80 54 [l0, l1, l2, l3, l4, some (.int x), l6, l7, l8] st I r Q ↔ mm_E 80 56 [l0, l1, l2, l3, l4, some (.int x), l6, l7, l8] (.int x :: st) I r Q := me_il2 mc_80 dX5_film_54 rfl
theorem e80_56 : mm_E 80 56 [l0, l1, some (.int x), l3, l4, l5, l6, l7, l8] st I r Q ↔ mm_E 80 57 [l0, l1, some (.int x), l3, l4, l5, l6, l7, l8] (.int x :: st) I r Q := me_il mc_80 dX5_film_56 rfl
theorem e80_57 : ∀ (x0 : Int32) (x1 : Int32) (x2 : Int32), (mm_E 80 57 ls (.int x2 :: .int x1 :: .int x0 :: .ref a :: st) I r Q ↔ (mm_w8 st = true ∧ mm_S r a = (1, 3)) ∧ mm_E 34 0 [some (.ref a), some (.int x0), some (.int x1), some (.int x2)] [] I r (fun v I2 r2 => mm_E 80 60 ls (mm_pu v st) I2 r2 Q)) := fun x0 x1 x2 => me_vc (n := 3) (As := [.int x0, .int x1, .int x2]) (xs := [.int x2, .int x1, .int x0]) (a := a) mc_80 dX5_film_57 (by decide +kernel) (by decide +kernel) rfl rfl (Nat.le_of_ble_eq_true rfl) rfl
theorem e80_60 : mm_E 80 60 [l0, l1, l2, l3, l4, l5, l6, l7, l8] (.int x :: st) I r Q ↔ mm_c1 l6 ∧ mm_E 80 62 [l0, l1, l2, l3, l4, l5, l6, some (.int x), l8] st I r Q := me_st (k := 7) (v := .int x) mc_80 dX5_film_60 rfl rfl (Nat.le_of_ble_eq_true rfl) rfl ⟨Or.inr, fun h => h.resolve_left (by decide)⟩
theorem e80_62 : mm_E 80 62 [l0, l1, l2, l3, l4, l5, l6, some (.int x), l8] st I r Q ↔ mm_E 80 64 [l0, l1, l2, l3, l4, l5, l6, some (.int x), l8] (.int x :: st) I r Q := me_il2 mc_80 dX5_film_62 rfl
theorem e80_64 : mm_E 80 64 ls (.int x :: st) I r Q ↔ if x = 0 then mm_E 80 70 ls st I r Q else mm_E 80 67 ls st I r Q := me_zeq mc_80 dX5_film_64 (by decide)
theorem e80_67 : mm_E 80 67 [l0, l1, l2, l3, l4, l5, l6, some (.int x), l8] st I r Q ↔ mm_E 80 69 [l0, l1, l2, l3, l4, l5, l6, some (.int x), l8] (.int x :: st) I r Q := me_il2 mc_80 dX5_film_67 rfl
theorem e80_69 : mm_E 80 69 ls [.int x] I r Q ↔ Q (some (.int x)) I r := me_ri mc_80 dX5_film_69 rfl
theorem e80_70 : mm_E 80 70 [some (.ref a), l1, l2, l3, l4, l5, l6, l7, l8] st I r Q ↔ mm_E 80 71 [some (.ref a), l1, l2, l3, l4, l5, l6, l7, l8] (.ref a :: st) I r Q := me_al mc_80 dX5_film_70 rfl
theorem e80_71 : mm_E 80 71 ls (.ref a :: st) I r Q ↔ mm_S r a = (1, 5) ∧ mm_E 80 74 ls (va_rf (mm_P r a 1) :: st) I r Q := me_gr mc_80 dX5_film_71 (by decide +kernel) rfl
theorem e80_74 : mm_E 80 74 [some (.ref a), l1, l2, l3, l4, l5, l6, l7, l8] st I r Q ↔ mm_E 80 75 [some (.ref a), l1, l2, l3, l4, l5, l6, l7, l8] (.ref a :: st) I r Q := me_al mc_80 dX5_film_74 rfl
theorem e80_75 : mm_E 80 75 ls (.ref a :: st) I r Q ↔ mm_S r a = (1, 5) ∧ mm_E 80 78 ls (va_rf (mm_P r a 0) :: st) I r Q := me_gr mc_80 dX5_film_75 (by decide +kernel) rfl
theorem e80_78 : ∀ (x0 : Nat), (mm_E 80 78 ls (.ref x0 :: .ref a :: st) I r Q ↔ (mm_w8 st = true ∧ mm_S r a = (1, 0)) ∧ mm_E 1 0 [some (.ref a), some (.ref x0), none] [] I r (fun v I2 r2 => mm_E 80 81 ls (mm_pu v st) I2 r2 Q)) := fun x0 => me_vc (n := 1) (As := [.ref x0]) (xs := [.ref x0]) (a := a) mc_80 dX5_film_78 (by decide +kernel) (by decide +kernel) rfl rfl (Nat.le_of_ble_eq_true rfl) rfl
theorem e80_81 : mm_E 80 81 ls st I r Q ↔ mm_E 80 82 ls (.int 0 :: st) I r Q := me_ic mc_80 dX5_film_81 (by decide)
theorem e80_82 : mm_E 80 82 [l0, l1, l2, l3, l4, l5, l6, l7, l8] (.int x :: st) I r Q ↔ mm_c1 l7 ∧ mm_E 80 84 [l0, l1, l2, l3, l4, l5, l6, l7, some (.int x)] st I r Q := me_st (k := 8) (v := .int x) mc_80 dX5_film_82 rfl rfl (Nat.le_of_ble_eq_true rfl) rfl ⟨Or.inr, fun h => h.resolve_left (by decide)⟩
theorem e80_84 : mm_E 80 84 [l0, l1, l2, l3, l4, l5, l6, l7, some (.int x)] st I r Q ↔ mm_E 80 86 [l0, l1, l2, l3, l4, l5, l6, l7, some (.int x)] (.int x :: st) I r Q := me_il2 mc_80 dX5_film_84 rfl
theorem e80_86 : mm_E 80 86 [l0, l1, some (.int x), l3, l4, l5, l6, l7, l8] st I r Q ↔ mm_E 80 87 [l0, l1, some (.int x), l3, l4, l5, l6, l7, l8] (.int x :: st) I r Q := me_il mc_80 dX5_film_86 rfl
theorem e80_87 : mm_E 80 87 ls (.int y :: .int x :: st) I r Q ↔ if y ≤ x then mm_E 80 124 ls st I r Q else mm_E 80 90 ls st I r Q := me_cge mc_80 dX5_film_87 (by decide)
theorem e80_90 : mm_E 80 90 [some (.ref a), l1, l2, l3, l4, l5, l6, l7, l8] st I r Q ↔ mm_E 80 91 [some (.ref a), l1, l2, l3, l4, l5, l6, l7, l8] (.ref a :: st) I r Q := me_al mc_80 dX5_film_90 rfl
theorem e80_91 : mm_E 80 91 ls (.ref a :: st) I r Q ↔ mm_S r a = (1, 5) ∧ mm_E 80 94 ls (va_rf (mm_P r a 1) :: st) I r Q := me_gr mc_80 dX5_film_91 (by decide +kernel) rfl
theorem e80_94 : mm_E 80 94 ls st I r Q ↔ mm_E 80 95 ls (.int 0 :: st) I r Q := me_ic mc_80 dX5_film_94 (by decide)
theorem e80_95 : ∀ (x0 : Int32), (mm_E 80 95 ls (.int x0 :: .ref a :: st) I r Q ↔ (mm_w8 st = true ∧ mm_S r a = (1, 0)) ∧ mm_E 16 0 [some (.ref a), some (.int x0), none, none] [] I r (fun v I2 r2 => mm_E 80 98 ls (mm_pu v st) I2 r2 Q)) := fun x0 => me_vc (n := 1) (As := [.int x0]) (xs := [.int x0]) (a := a) mc_80 dX5_film_95 (by decide +kernel) (by decide +kernel) rfl rfl (Nat.le_of_ble_eq_true rfl) rfl
theorem e80_98 : mm_E 80 98 [l0, l1, l2, l3, l4, l5, some (.ref a), l7, l8] st I r Q ↔ mm_E 80 100 [l0, l1, l2, l3, l4, l5, some (.ref a), l7, l8] (.ref a :: st) I r Q := me_al2 mc_80 dX5_film_98 rfl
theorem e80_100 : mm_E 80 100 [l0, l1, l2, l3, l4, some (.int x), l6, l7, l8] st I r Q ↔ mm_E 80 102 [l0, l1, l2, l3, l4, some (.int x), l6, l7, l8] (.int x :: st) I r Q := me_il2 mc_80 dX5_film_100 rfl
theorem e80_102 : mm_E 80 102 [l0, l1, l2, l3, l4, l5, l6, l7, some (.int x)] st I r Q ↔ mm_E 80 104 [l0, l1, l2, l3, l4, l5, l6, l7, some (.int x)] (.int x :: st) I r Q := me_il2 mc_80 dX5_film_102 rfl
theorem e80_104 : mm_E 80 104 ls (.int y :: .int x :: st) I r Q ↔ mm_E 80 105 ls (.int (x + y) :: st) I r Q := me_iadd mc_80 dX5_film_104
theorem e80_105 : mm_E 80 105 [some (.ref a), l1, l2, l3, l4, l5, l6, l7, l8] st I r Q ↔ mm_E 80 106 [some (.ref a), l1, l2, l3, l4, l5, l6, l7, l8] (.ref a :: st) I r Q := me_al mc_80 dX5_film_105 rfl
theorem e80_106 : mm_E 80 106 ls (.ref a :: st) I r Q ↔ mm_S r a = (1, 5) ∧ mm_E 80 109 ls (va_rf (mm_P r a 1) :: st) I r Q := me_gr mc_80 dX5_film_106 (by decide +kernel) rfl
theorem e80_109 : mm_E 80 109 ls (.ref a :: st) I r Q ↔ mm_S r a = (1, 0) ∧ mm_E 80 112 ls (va_rf (mm_P r a 6) :: st) I r Q := me_gr mc_80 dX5_film_109 (by decide +kernel) rfl
theorem e80_112 : mm_E 80 112 [l0, some (.int x), l2, l3, l4, l5, l6, l7, l8] st I r Q ↔ mm_E 80 113 [l0, some (.int x), l2, l3, l4, l5, l6, l7, l8] (.int x :: st) I r Q := me_il mc_80 dX5_film_112 rfl
theorem e80_113 : mm_E 80 113 ls (.int x :: .ref a :: st) I r Q ↔ mm_ix r a 2 x ∧ mm_E 80 114 ls (.int (mm_rd I a x.toNatClampNeg) :: st) I r Q := me_ia mc_80 dX5_film_113
theorem e80_114 : mm_E 80 114 ls (.int x :: st) I r Q ↔ mm_E 80 115 ls (.long x.toInt64 :: st) I r Q := me_i2l mc_80 dX5_film_114
theorem e80_115 : ∀ (x0 : Int32) (x1 : Int64), (mm_E 80 115 ls (.long x1 :: .int x0 :: .ref a :: st) I r Q ↔ (mm_w8 st = true ∧ mm_S r a = (1, 3)) ∧ mm_E 35 0 [some (.ref a), some (.int x0), some (.long x1), none] [] I r (fun v I2 r2 => mm_E 80 118 ls (mm_pu v st) I2 r2 Q)) := fun x0 x1 => me_vc (n := 2) (As := [.int x0, .long x1]) (xs := [.long x1, .int x0]) (a := a) mc_80 dX5_film_115 (by decide +kernel) (by decide +kernel) rfl rfl (Nat.le_of_ble_eq_true rfl) rfl
theorem e80_118 : mm_E 80 118 [l0, l1, l2, l3, l4, l5, l6, l7, some (.int x)] st I r Q ↔ mm_c1 l7 ∧ mm_E 80 121 [l0, l1, l2, l3, l4, l5, l6, l7, some (.int (x + 1))] st I r Q := me_st (k := 8) (v := .int (x + 1)) mc_80 dX5_film_118 rfl rfl (Nat.le_of_ble_eq_true rfl) rfl ⟨Or.inr, fun h => h.resolve_left (by decide)⟩
theorem e80_121 : mm_E 80 121 ls st I r Q ↔ mm_E 80 84 ls st I r Q := me_goto mc_80 dX5_film_121 (by decide)
theorem e80_124 : mm_E 80 124 [l0, l1, some (.int x), l3, l4, l5, l6, l7, l8] st I r Q ↔ mm_E 80 125 [l0, l1, some (.int x), l3, l4, l5, l6, l7, l8] (.int x :: st) I r Q := me_il mc_80 dX5_film_124 rfl
theorem e80_125 : mm_E 80 125 ls [.int x] I r Q ↔ Q (some (.int x)) I r := me_ri mc_80 dX5_film_125 rfl
theorem mc_81 : mm_c 81 = cX5_sheet := rfl
theorem e81_0 : mm_E 81 0 [l0, some (.int x), l2, l3] st I r Q ↔ mm_E 81 1 [l0, some (.int x), l2, l3] (.int x :: st) I r Q := me_il mc_81 dX5_sheet_0 rfl
theorem e81_1 : mm_E 81 1 ls st I r Q ↔ mm_E 81 2 ls (.int 0 :: st) I r Q := me_ic mc_81 dX5_sheet_1 (by decide)
theorem e81_2 : mm_E 81 2 ls st I r Q ↔ mm_E 81 3 ls (.int 3 :: st) I r Q := me_ic mc_81 dX5_sheet_2 (by decide)
theorem e81_3 : ∀ (x0 : Int32) (x1 : Int32) (x2 : Int32), (mm_E 81 3 ls (.int x2 :: .int x1 :: .int x0 :: st) I r Q ↔ mm_w8 st = true ∧ mm_E 85 0 [some (.int x0), some (.int x1), some (.int x2)] [] I r (fun v I2 r2 => mm_E 81 6 ls (mm_pu v st) I2 r2 Q)) := fun x0 x1 x2 => me_sc (n := 3) (As := [.int x0, .int x1, .int x2]) (xs := [.int x2, .int x1, .int x0]) mc_81 dX5_sheet_3 (by decide +kernel) (by decide +kernel) rfl rfl (Nat.le_of_ble_eq_true rfl) rfl
theorem e81_6 : mm_E 81 6 ls (.int x :: st) I r Q ↔ if x = 0 then mm_E 81 24 ls st I r Q else mm_E 81 9 ls st I r Q := me_zeq mc_81 dX5_sheet_6 (by decide)
theorem e81_9 : mm_E 81 9 [l0, l1, some (.int x), l3] st I r Q ↔ mm_E 81 10 [l0, l1, some (.int x), l3] (.int x :: st) I r Q := me_il mc_81 dX5_sheet_9 rfl
theorem e81_10 : mm_E 81 10 ls st I r Q ↔ mm_E 81 11 ls (.int 0 :: st) I r Q := me_ic mc_81 dX5_sheet_10 (by decide)
theorem e81_11 : mm_E 81 11 ls st I r Q ↔ mm_E 81 12 ls (.int 3 :: st) I r Q := me_ic mc_81 dX5_sheet_11 (by decide)
theorem e81_12 : ∀ (x0 : Int32) (x1 : Int32) (x2 : Int32), (mm_E 81 12 ls (.int x2 :: .int x1 :: .int x0 :: st) I r Q ↔ mm_w8 st = true ∧ mm_E 85 0 [some (.int x0), some (.int x1), some (.int x2)] [] I r (fun v I2 r2 => mm_E 81 15 ls (mm_pu v st) I2 r2 Q)) := fun x0 x1 x2 => me_sc (n := 3) (As := [.int x0, .int x1, .int x2]) (xs := [.int x2, .int x1, .int x0]) mc_81 dX5_sheet_12 (by decide +kernel) (by decide +kernel) rfl rfl (Nat.le_of_ble_eq_true rfl) rfl
theorem e81_15 : mm_E 81 15 ls (.int x :: st) I r Q ↔ if x = 0 then mm_E 81 24 ls st I r Q else mm_E 81 18 ls st I r Q := me_zeq mc_81 dX5_sheet_15 (by decide)
theorem e81_18 : mm_E 81 18 [l0, l1, l2, some (.int x)] st I r Q ↔ mm_E 81 19 [l0, l1, l2, some (.int x)] (.int x :: st) I r Q := me_il mc_81 dX5_sheet_18 rfl
theorem e81_19 : mm_E 81 19 ls st I r Q ↔ mm_E 81 21 ls (.int 24 :: st) I r Q := me_bi mc_81 dX5_sheet_19 (by decide)
theorem e81_21 : mm_E 81 21 ls (.int y :: .int x :: st) I r Q ↔ if x ≤ y then mm_E 81 26 ls st I r Q else mm_E 81 24 ls st I r Q := me_cle mc_81 dX5_sheet_21 (by decide)
theorem e81_24 : mm_E 81 24 ls st I r Q ↔ mm_E 81 25 ls (.int (-1) :: st) I r Q := me_ic mc_81 dX5_sheet_24 (by decide)
theorem e81_25 : mm_E 81 25 ls [.int x] I r Q ↔ Q (some (.int x)) I r := me_ri mc_81 dX5_sheet_25 rfl
theorem e81_26 : mm_E 81 26 [l0, l1, l2, some (.int x)] st I r Q ↔ mm_E 81 27 [l0, l1, l2, some (.int x)] (.int x :: st) I r Q := me_il mc_81 dX5_sheet_26 rfl
theorem e81_27 : mm_E 81 27 ls (.int x :: st) I r Q ↔ if 0 ≤ x then mm_E 81 33 ls st I r Q else mm_E 81 30 ls st I r Q := me_zge mc_81 dX5_sheet_27 (by decide)
theorem e81_30 : mm_E 81 30 ls st I r Q ↔ mm_E 81 32 ls (.int (-14) :: st) I r Q := me_bi mc_81 dX5_sheet_30 (by decide)
theorem e81_32 : mm_E 81 32 ls [.int x] I r Q ↔ Q (some (.int x)) I r := me_ri mc_81 dX5_sheet_32 rfl
theorem e81_33 : mm_E 81 33 [some (.ref a), l1, l2, l3] st I r Q ↔ mm_E 81 34 [some (.ref a), l1, l2, l3] (.ref a :: st) I r Q := me_al mc_81 dX5_sheet_33 rfl
theorem e81_34 : mm_E 81 34 ls (.ref a :: st) I r Q ↔ mm_S r a = (1, 5) ∧ mm_E 81 37 ls (va_rf (mm_P r a 5) :: st) I r Q := me_gr mc_81 dX5_sheet_34 (by decide +kernel) rfl
theorem e81_37 : mm_E 81 37 [l0, some (.int x), l2, l3] st I r Q ↔ mm_E 81 38 [l0, some (.int x), l2, l3] (.int x :: st) I r Q := me_il mc_81 dX5_sheet_37 rfl
theorem e81_38 : mm_E 81 38 ls (.int x :: .ref a :: st) I r Q ↔ (((mm_S r a).1 = 4 ∨ (mm_S r a).1 = 5) ∧ vp_in x (mm_S r a).2) ∧ mm_E 81 39 ls (va_rf (mm_P r a x.toNatClampNeg) :: st) I r Q := me_aa mc_81 dX5_sheet_38
theorem e81_39 : mm_E 81 39 [l0, l1, some (.int x), l3] st I r Q ↔ mm_E 81 40 [l0, l1, some (.int x), l3] (.int x :: st) I r Q := me_il mc_81 dX5_sheet_39 rfl
theorem e81_40 : mm_E 81 40 [l0, l1, l2, some (.int x)] st I r Q ↔ mm_E 81 41 [l0, l1, l2, some (.int x)] (.int x :: st) I r Q := me_il mc_81 dX5_sheet_40 rfl
theorem e81_41 : ∀ (x0 : Int32) (x1 : Int32), (mm_E 81 41 ls (.int x1 :: .int x0 :: .ref a :: st) I r Q ↔ (mm_w8 st = true ∧ mm_S r a = (1, 3)) ∧ mm_E 32 0 [some (.ref a), some (.int x0), some (.int x1), none] [] I r (fun v I2 r2 => mm_E 81 44 ls (mm_pu v st) I2 r2 Q)) := fun x0 x1 => me_vc (n := 2) (As := [.int x0, .int x1]) (xs := [.int x1, .int x0]) (a := a) mc_81 dX5_sheet_41 (by decide +kernel) (by decide +kernel) rfl rfl (Nat.le_of_ble_eq_true rfl) rfl
theorem e81_44 : mm_E 81 44 [l0, l1, l2, some (.int x)] st I r Q ↔ mm_E 81 45 [l0, l1, l2, some (.int x)] (.int x :: st) I r Q := me_il mc_81 dX5_sheet_44 rfl
theorem e81_45 : mm_E 81 45 ls [.int x] I r Q ↔ Q (some (.int x)) I r := me_ri mc_81 dX5_sheet_45 rfl
theorem mc_82 : mm_c 82 = cX5_drop := rfl
theorem e82_0 : mm_E 82 0 [l0, some (.int x), l2] st I r Q ↔ mm_E 82 1 [l0, some (.int x), l2] (.int x :: st) I r Q := me_il mc_82 dX5_drop_0 rfl
theorem e82_1 : mm_E 82 1 ls st I r Q ↔ mm_E 82 2 ls (.int 0 :: st) I r Q := me_ic mc_82 dX5_drop_1 (by decide)
theorem e82_2 : mm_E 82 2 ls st I r Q ↔ mm_E 82 3 ls (.int 3 :: st) I r Q := me_ic mc_82 dX5_drop_2 (by decide)
theorem e82_3 : ∀ (x0 : Int32) (x1 : Int32) (x2 : Int32), (mm_E 82 3 ls (.int x2 :: .int x1 :: .int x0 :: st) I r Q ↔ mm_w8 st = true ∧ mm_E 85 0 [some (.int x0), some (.int x1), some (.int x2)] [] I r (fun v I2 r2 => mm_E 82 6 ls (mm_pu v st) I2 r2 Q)) := fun x0 x1 x2 => me_sc (n := 3) (As := [.int x0, .int x1, .int x2]) (xs := [.int x2, .int x1, .int x0]) mc_82 dX5_drop_3 (by decide +kernel) (by decide +kernel) rfl rfl (Nat.le_of_ble_eq_true rfl) rfl
theorem e82_6 : mm_E 82 6 ls (.int x :: st) I r Q ↔ if ¬ x = 0 then mm_E 82 11 ls st I r Q else mm_E 82 9 ls st I r Q := me_zne mc_82 dX5_drop_6 (by decide)
theorem e82_9 : mm_E 82 9 ls st I r Q ↔ mm_E 82 10 ls (.int (-1) :: st) I r Q := me_ic mc_82 dX5_drop_9 (by decide)
theorem e82_10 : mm_E 82 10 ls [.int x] I r Q ↔ Q (some (.int x)) I r := me_ri mc_82 dX5_drop_10 rfl
theorem e82_11 : mm_E 82 11 [some (.ref a), l1, l2] st I r Q ↔ mm_E 82 12 [some (.ref a), l1, l2] (.ref a :: st) I r Q := me_al mc_82 dX5_drop_11 rfl
theorem e82_12 : mm_E 82 12 ls (.ref a :: st) I r Q ↔ mm_S r a = (1, 5) ∧ mm_E 82 15 ls (va_rf (mm_P r a 5) :: st) I r Q := me_gr mc_82 dX5_drop_12 (by decide +kernel) rfl
theorem e82_15 : mm_E 82 15 [l0, some (.int x), l2] st I r Q ↔ mm_E 82 16 [l0, some (.int x), l2] (.int x :: st) I r Q := me_il mc_82 dX5_drop_15 rfl
theorem e82_16 : mm_E 82 16 ls (.int x :: .ref a :: st) I r Q ↔ (((mm_S r a).1 = 4 ∨ (mm_S r a).1 = 5) ∧ vp_in x (mm_S r a).2) ∧ mm_E 82 17 ls (va_rf (mm_P r a x.toNatClampNeg) :: st) I r Q := me_aa mc_82 dX5_drop_16
theorem e82_17 : mm_E 82 17 [l0, l1, l2] (.ref a :: st) I r Q ↔ mm_c1 l1 ∧ mm_E 82 18 [l0, l1, some (.ref a)] st I r Q := me_st (k := 2) (v := .ref a) mc_82 dX5_drop_17 rfl rfl (Nat.le_of_ble_eq_true rfl) rfl ⟨Or.inr, fun h => h.resolve_left (by decide)⟩
theorem e82_18 : mm_E 82 18 [l0, l1, some (.ref a)] st I r Q ↔ mm_E 82 19 [l0, l1, some (.ref a)] (.ref a :: st) I r Q := me_al mc_82 dX5_drop_18 rfl
theorem e82_19 : mm_E 82 19 ls (.ref a :: st) I r Q ↔ mm_S r a = (1, 3) ∧ mm_E 82 22 ls (.int (mm_rd I a 0) :: st) I r Q := me_gi mc_82 dX5_drop_19 (by decide +kernel) rfl
theorem e82_22 : mm_E 82 22 ls (.int x :: st) I r Q ↔ if ¬ x = 0 then mm_E 82 28 ls st I r Q else mm_E 82 25 ls st I r Q := me_zne mc_82 dX5_drop_22 (by decide)
theorem e82_25 : mm_E 82 25 ls st I r Q ↔ mm_E 82 27 ls (.int (-11) :: st) I r Q := me_bi mc_82 dX5_drop_25 (by decide)
theorem e82_27 : mm_E 82 27 ls [.int x] I r Q ↔ Q (some (.int x)) I r := me_ri mc_82 dX5_drop_27 rfl
theorem e82_28 : mm_E 82 28 [l0, l1, some (.ref a)] st I r Q ↔ mm_E 82 29 [l0, l1, some (.ref a)] (.ref a :: st) I r Q := me_al mc_82 dX5_drop_28 rfl
theorem e82_29 : mm_E 82 29 ls st I r Q ↔ mm_E 82 30 ls (.int 0 :: st) I r Q := me_ic mc_82 dX5_drop_29 (by decide)
theorem e82_30 : mm_E 82 30 ls (.int x :: .ref a :: st) I r Q ↔ (mm_S r a = (1, 3) ∧ (x = 0 ∨ x = 1)) ∧ mm_E 82 33 ls st (mm_uI I a 0 x) r Q := me_pb mc_82 dX5_drop_30 (by decide +kernel) (by decide +kernel)
theorem e82_33 : mm_E 82 33 [l0, l1, some (.ref a)] st I r Q ↔ mm_E 82 34 [l0, l1, some (.ref a)] (.ref a :: st) I r Q := me_al mc_82 dX5_drop_33 rfl
theorem e82_34 : mm_E 82 34 ls (.ref a :: st) I r Q ↔ mm_S r a = (1, 3) ∧ mm_E 82 37 ls (.int (mm_rd I a 2) :: st) I r Q := me_gi mc_82 dX5_drop_34 (by decide +kernel) rfl
theorem e82_37 : mm_E 82 37 ls [.int x] I r Q ↔ Q (some (.int x)) I r := me_ri mc_82 dX5_drop_37 rfl
theorem mc_83 : mm_c 83 = cX5_item := rfl
theorem e83_0 : mm_E 83 0 [l0, some (.int x), l2, l3, l4, l5, l6, l7] st I r Q ↔ mm_E 83 1 [l0, some (.int x), l2, l3, l4, l5, l6, l7] (.int x :: st) I r Q := me_il mc_83 dX5_item_0 rfl
theorem e83_1 : mm_E 83 1 ls st I r Q ↔ mm_E 83 2 ls (.int 0 :: st) I r Q := me_ic mc_83 dX5_item_1 (by decide)
theorem e83_2 : mm_E 83 2 ls st I r Q ↔ mm_E 83 3 ls (.int 3 :: st) I r Q := me_ic mc_83 dX5_item_2 (by decide)
theorem e83_3 : ∀ (x0 : Int32) (x1 : Int32) (x2 : Int32), (mm_E 83 3 ls (.int x2 :: .int x1 :: .int x0 :: st) I r Q ↔ mm_w8 st = true ∧ mm_E 85 0 [some (.int x0), some (.int x1), some (.int x2)] [] I r (fun v I2 r2 => mm_E 83 6 ls (mm_pu v st) I2 r2 Q)) := fun x0 x1 x2 => me_sc (n := 3) (As := [.int x0, .int x1, .int x2]) (xs := [.int x2, .int x1, .int x0]) mc_83 dX5_item_3 (by decide +kernel) (by decide +kernel) rfl rfl (Nat.le_of_ble_eq_true rfl) rfl
theorem e83_6 : mm_E 83 6 ls (.int x :: st) I r Q ↔ if x = 0 then mm_E 83 18 ls st I r Q else mm_E 83 9 ls st I r Q := me_zeq mc_83 dX5_item_6 (by decide)
theorem e83_9 : mm_E 83 9 [l0, l1, some (.int x), l3, l4, l5, l6, l7] st I r Q ↔ mm_E 83 10 [l0, l1, some (.int x), l3, l4, l5, l6, l7] (.int x :: st) I r Q := me_il mc_83 dX5_item_9 rfl
theorem e83_10 : mm_E 83 10 ls st I r Q ↔ mm_E 83 11 ls (.int 0 :: st) I r Q := me_ic mc_83 dX5_item_10 (by decide)
theorem e83_11 : mm_E 83 11 ls st I r Q ↔ mm_E 83 12 ls (.int 3 :: st) I r Q := me_ic mc_83 dX5_item_11 (by decide)
theorem e83_12 : ∀ (x0 : Int32) (x1 : Int32) (x2 : Int32), (mm_E 83 12 ls (.int x2 :: .int x1 :: .int x0 :: st) I r Q ↔ mm_w8 st = true ∧ mm_E 85 0 [some (.int x0), some (.int x1), some (.int x2)] [] I r (fun v I2 r2 => mm_E 83 15 ls (mm_pu v st) I2 r2 Q)) := fun x0 x1 x2 => me_sc (n := 3) (As := [.int x0, .int x1, .int x2]) (xs := [.int x2, .int x1, .int x0]) mc_83 dX5_item_12 (by decide +kernel) (by decide +kernel) rfl rfl (Nat.le_of_ble_eq_true rfl) rfl
theorem e83_15 : mm_E 83 15 ls (.int x :: st) I r Q ↔ if ¬ x = 0 then mm_E 83 20 ls st I r Q else mm_E 83 18 ls st I r Q := me_zne mc_83 dX5_item_15 (by decide)
theorem e83_18 : mm_E 83 18 ls st I r Q ↔ mm_E 83 19 ls (.int (-1) :: st) I r Q := me_ic mc_83 dX5_item_18 (by decide)
theorem e83_19 : mm_E 83 19 ls [.int x] I r Q ↔ Q (some (.int x)) I r := me_ri mc_83 dX5_item_19 rfl
theorem e83_20 : mm_E 83 20 [some (.ref a), l1, l2, l3, l4, l5, l6, l7] st I r Q ↔ mm_E 83 21 [some (.ref a), l1, l2, l3, l4, l5, l6, l7] (.ref a :: st) I r Q := me_al mc_83 dX5_item_20 rfl
theorem e83_21 : mm_E 83 21 ls (.ref a :: st) I r Q ↔ mm_S r a = (1, 5) ∧ mm_E 83 24 ls (va_rf (mm_P r a 5) :: st) I r Q := me_gr mc_83 dX5_item_21 (by decide +kernel) rfl
theorem e83_24 : mm_E 83 24 [l0, some (.int x), l2, l3, l4, l5, l6, l7] st I r Q ↔ mm_E 83 25 [l0, some (.int x), l2, l3, l4, l5, l6, l7] (.int x :: st) I r Q := me_il mc_83 dX5_item_24 rfl
theorem e83_25 : mm_E 83 25 ls (.int x :: .ref a :: st) I r Q ↔ (((mm_S r a).1 = 4 ∨ (mm_S r a).1 = 5) ∧ vp_in x (mm_S r a).2) ∧ mm_E 83 26 ls (va_rf (mm_P r a x.toNatClampNeg) :: st) I r Q := me_aa mc_83 dX5_item_25
theorem e83_26 : mm_E 83 26 [l0, l1, l2, l3, l4, l5, l6, l7] (.ref a :: st) I r Q ↔ mm_c1 l5 ∧ mm_E 83 28 [l0, l1, l2, l3, l4, l5, some (.ref a), l7] st I r Q := me_st (k := 6) (v := .ref a) mc_83 dX5_item_26 rfl rfl (Nat.le_of_ble_eq_true rfl) rfl ⟨Or.inr, fun h => h.resolve_left (by decide)⟩
theorem e83_28 : mm_E 83 28 [l0, l1, l2, l3, l4, l5, some (.ref a), l7] st I r Q ↔ mm_E 83 30 [l0, l1, l2, l3, l4, l5, some (.ref a), l7] (.ref a :: st) I r Q := me_al2 mc_83 dX5_item_28 rfl
theorem e83_30 : mm_E 83 30 [l0, l1, some (.int x), l3, l4, l5, l6, l7] st I r Q ↔ mm_E 83 31 [l0, l1, some (.int x), l3, l4, l5, l6, l7] (.int x :: st) I r Q := me_il mc_83 dX5_item_30 rfl
theorem e83_31 : mm_E 83 31 [l0, l1, l2, some (.int x), l4, l5, l6, l7] st I r Q ↔ mm_E 83 32 [l0, l1, l2, some (.int x), l4, l5, l6, l7] (.int x :: st) I r Q := me_il mc_83 dX5_item_31 rfl
theorem e83_32 : mm_E 83 32 ls st I r Q ↔ mm_E 83 33 ls (.int 1 :: st) I r Q := me_ic mc_83 dX5_item_32 (by decide)
theorem e83_33 : ∀ (x0 : Int32) (x1 : Int32) (x2 : Int32), (mm_E 83 33 ls (.int x2 :: .int x1 :: .int x0 :: .ref a :: st) I r Q ↔ (mm_w8 st = true ∧ mm_S r a = (1, 3)) ∧ mm_E 34 0 [some (.ref a), some (.int x0), some (.int x1), some (.int x2)] [] I r (fun v I2 r2 => mm_E 83 36 ls (mm_pu v st) I2 r2 Q)) := fun x0 x1 x2 => me_vc (n := 3) (As := [.int x0, .int x1, .int x2]) (xs := [.int x2, .int x1, .int x0]) (a := a) mc_83 dX5_item_33 (by decide +kernel) (by decide +kernel) rfl rfl (Nat.le_of_ble_eq_true rfl) rfl
theorem e83_36 : mm_E 83 36 [l0, l1, l2, l3, l4, l5, l6, l7] (.int x :: st) I r Q ↔ mm_c1 l6 ∧ mm_E 83 38 [l0, l1, l2, l3, l4, l5, l6, some (.int x)] st I r Q := me_st (k := 7) (v := .int x) mc_83 dX5_item_36 rfl rfl (Nat.le_of_ble_eq_true rfl) rfl ⟨Or.inr, fun h => h.resolve_left (by decide)⟩
theorem e83_38 : mm_E 83 38 [l0, l1, l2, l3, l4, l5, l6, some (.int x)] st I r Q ↔ mm_E 83 40 [l0, l1, l2, l3, l4, l5, l6, some (.int x)] (.int x :: st) I r Q := me_il2 mc_83 dX5_item_38 rfl
theorem e83_40 : mm_E 83 40 ls (.int x :: st) I r Q ↔ if x = 0 then mm_E 83 46 ls st I r Q else mm_E 83 43 ls st I r Q := me_zeq mc_83 dX5_item_40 (by decide)
theorem e83_43 : mm_E 83 43 [l0, l1, l2, l3, l4, l5, l6, some (.int x)] st I r Q ↔ mm_E 83 45 [l0, l1, l2, l3, l4, l5, l6, some (.int x)] (.int x :: st) I r Q := me_il2 mc_83 dX5_item_43 rfl
theorem e83_45 : mm_E 83 45 ls [.int x] I r Q ↔ Q (some (.int x)) I r := me_ri mc_83 dX5_item_45 rfl
theorem e83_46 : mm_E 83 46 [l0, l1, l2, l3, l4, l5, some (.ref a), l7] st I r Q ↔ mm_E 83 48 [l0, l1, l2, l3, l4, l5, some (.ref a), l7] (.ref a :: st) I r Q := me_al2 mc_83 dX5_item_46 rfl
theorem e83_48 : mm_E 83 48 [l0, l1, l2, some (.int x), l4, l5, l6, l7] st I r Q ↔ mm_E 83 49 [l0, l1, l2, some (.int x), l4, l5, l6, l7] (.int x :: st) I r Q := me_il mc_83 dX5_item_48 rfl
theorem e83_49 : mm_E 83 49 [l0, l1, l2, l3, some (.long z), l5, l6, l7] st I r Q ↔ mm_E 83 51 [l0, l1, l2, l3, some (.long z), l5, l6, l7] (.long z :: st) I r Q := me_ll2 mc_83 dX5_item_49 rfl
theorem e83_51 : ∀ (x0 : Int32) (x1 : Int64), (mm_E 83 51 ls (.long x1 :: .int x0 :: .ref a :: st) I r Q ↔ (mm_w8 st = true ∧ mm_S r a = (1, 3)) ∧ mm_E 35 0 [some (.ref a), some (.int x0), some (.long x1), none] [] I r (fun v I2 r2 => mm_E 83 54 ls (mm_pu v st) I2 r2 Q)) := fun x0 x1 => me_vc (n := 2) (As := [.int x0, .long x1]) (xs := [.long x1, .int x0]) (a := a) mc_83 dX5_item_51 (by decide +kernel) (by decide +kernel) rfl rfl (Nat.le_of_ble_eq_true rfl) rfl
theorem e83_54 : mm_E 83 54 ls st I r Q ↔ mm_E 83 55 ls (.int 1 :: st) I r Q := me_ic mc_83 dX5_item_54 (by decide)
theorem e83_55 : mm_E 83 55 ls [.int x] I r Q ↔ Q (some (.int x)) I r := me_ri mc_83 dX5_item_55 rfl
theorem mc_84 : mm_c 84 = cX5_copy := rfl
theorem e84_0 : mm_E 84 0 [l0, some (.int x), l2, l3, l4, l5, l6, l7] st I r Q ↔ mm_E 84 1 [l0, some (.int x), l2, l3, l4, l5, l6, l7] (.int x :: st) I r Q := me_il mc_84 dX5_copy_0 rfl
theorem e84_1 : mm_E 84 1 ls st I r Q ↔ mm_E 84 2 ls (.int 0 :: st) I r Q := me_ic mc_84 dX5_copy_1 (by decide)
theorem e84_2 : mm_E 84 2 ls st I r Q ↔ mm_E 84 3 ls (.int 3 :: st) I r Q := me_ic mc_84 dX5_copy_2 (by decide)
theorem e84_3 : ∀ (x0 : Int32) (x1 : Int32) (x2 : Int32), (mm_E 84 3 ls (.int x2 :: .int x1 :: .int x0 :: st) I r Q ↔ mm_w8 st = true ∧ mm_E 85 0 [some (.int x0), some (.int x1), some (.int x2)] [] I r (fun v I2 r2 => mm_E 84 6 ls (mm_pu v st) I2 r2 Q)) := fun x0 x1 x2 => me_sc (n := 3) (As := [.int x0, .int x1, .int x2]) (xs := [.int x2, .int x1, .int x0]) mc_84 dX5_copy_3 (by decide +kernel) (by decide +kernel) rfl rfl (Nat.le_of_ble_eq_true rfl) rfl
theorem e84_6 : mm_E 84 6 ls (.int x :: st) I r Q ↔ if x = 0 then mm_E 84 18 ls st I r Q else mm_E 84 9 ls st I r Q := me_zeq mc_84 dX5_copy_6 (by decide)
theorem e84_9 : mm_E 84 9 [l0, l1, l2, some (.int x), l4, l5, l6, l7] st I r Q ↔ mm_E 84 10 [l0, l1, l2, some (.int x), l4, l5, l6, l7] (.int x :: st) I r Q := me_il mc_84 dX5_copy_9 rfl
theorem e84_10 : mm_E 84 10 ls st I r Q ↔ mm_E 84 11 ls (.int 0 :: st) I r Q := me_ic mc_84 dX5_copy_10 (by decide)
theorem e84_11 : mm_E 84 11 ls st I r Q ↔ mm_E 84 12 ls (.int 3 :: st) I r Q := me_ic mc_84 dX5_copy_11 (by decide)
theorem e84_12 : ∀ (x0 : Int32) (x1 : Int32) (x2 : Int32), (mm_E 84 12 ls (.int x2 :: .int x1 :: .int x0 :: st) I r Q ↔ mm_w8 st = true ∧ mm_E 85 0 [some (.int x0), some (.int x1), some (.int x2)] [] I r (fun v I2 r2 => mm_E 84 15 ls (mm_pu v st) I2 r2 Q)) := fun x0 x1 x2 => me_sc (n := 3) (As := [.int x0, .int x1, .int x2]) (xs := [.int x2, .int x1, .int x0]) mc_84 dX5_copy_12 (by decide +kernel) (by decide +kernel) rfl rfl (Nat.le_of_ble_eq_true rfl) rfl
theorem e84_15 : mm_E 84 15 ls (.int x :: st) I r Q ↔ if ¬ x = 0 then mm_E 84 20 ls st I r Q else mm_E 84 18 ls st I r Q := me_zne mc_84 dX5_copy_15 (by decide)
theorem e84_18 : mm_E 84 18 ls st I r Q ↔ mm_E 84 19 ls (.int (-1) :: st) I r Q := me_ic mc_84 dX5_copy_18 (by decide)
theorem e84_19 : mm_E 84 19 ls [.int x] I r Q ↔ Q (some (.int x)) I r := me_ri mc_84 dX5_copy_19 rfl
theorem e84_20 : mm_E 84 20 [some (.ref a), l1, l2, l3, l4, l5, l6, l7] st I r Q ↔ mm_E 84 21 [some (.ref a), l1, l2, l3, l4, l5, l6, l7] (.ref a :: st) I r Q := me_al mc_84 dX5_copy_20 rfl
theorem e84_21 : mm_E 84 21 ls (.ref a :: st) I r Q ↔ mm_S r a = (1, 5) ∧ mm_E 84 24 ls (va_rf (mm_P r a 5) :: st) I r Q := me_gr mc_84 dX5_copy_21 (by decide +kernel) rfl
theorem e84_24 : mm_E 84 24 [l0, some (.int x), l2, l3, l4, l5, l6, l7] st I r Q ↔ mm_E 84 25 [l0, some (.int x), l2, l3, l4, l5, l6, l7] (.int x :: st) I r Q := me_il mc_84 dX5_copy_24 rfl
theorem e84_25 : mm_E 84 25 ls (.int x :: .ref a :: st) I r Q ↔ (((mm_S r a).1 = 4 ∨ (mm_S r a).1 = 5) ∧ vp_in x (mm_S r a).2) ∧ mm_E 84 26 ls (va_rf (mm_P r a x.toNatClampNeg) :: st) I r Q := me_aa mc_84 dX5_copy_25
theorem e84_26 : mm_E 84 26 [l0, l1, l2, l3, l4, l5, l6, l7] (.ref a :: st) I r Q ↔ mm_c1 l5 ∧ mm_E 84 28 [l0, l1, l2, l3, l4, l5, some (.ref a), l7] st I r Q := me_st (k := 6) (v := .ref a) mc_84 dX5_copy_26 rfl rfl (Nat.le_of_ble_eq_true rfl) rfl ⟨Or.inr, fun h => h.resolve_left (by decide)⟩
theorem e84_28 : mm_E 84 28 [some (.ref a), l1, l2, l3, l4, l5, l6, l7] st I r Q ↔ mm_E 84 29 [some (.ref a), l1, l2, l3, l4, l5, l6, l7] (.ref a :: st) I r Q := me_al mc_84 dX5_copy_28 rfl
theorem e84_29 : mm_E 84 29 ls (.ref a :: st) I r Q ↔ mm_S r a = (1, 5) ∧ mm_E 84 32 ls (va_rf (mm_P r a 5) :: st) I r Q := me_gr mc_84 dX5_copy_29 (by decide +kernel) rfl
theorem e84_32 : mm_E 84 32 [l0, l1, l2, some (.int x), l4, l5, l6, l7] st I r Q ↔ mm_E 84 33 [l0, l1, l2, some (.int x), l4, l5, l6, l7] (.int x :: st) I r Q := me_il mc_84 dX5_copy_32 rfl
theorem e84_33 : mm_E 84 33 ls (.int x :: .ref a :: st) I r Q ↔ (((mm_S r a).1 = 4 ∨ (mm_S r a).1 = 5) ∧ vp_in x (mm_S r a).2) ∧ mm_E 84 34 ls (va_rf (mm_P r a x.toNatClampNeg) :: st) I r Q := me_aa mc_84 dX5_copy_33
theorem e84_34 : mm_E 84 34 [l0, l1, l2, l3, l4, l5, l6, l7] (.ref a :: st) I r Q ↔ mm_c1 l6 ∧ mm_E 84 36 [l0, l1, l2, l3, l4, l5, l6, some (.ref a)] st I r Q := me_st (k := 7) (v := .ref a) mc_84 dX5_copy_34 rfl rfl (Nat.le_of_ble_eq_true rfl) rfl ⟨Or.inr, fun h => h.resolve_left (by decide)⟩
theorem e84_36 : mm_E 84 36 [l0, l1, l2, l3, l4, l5, some (.ref a), l7] st I r Q ↔ mm_E 84 38 [l0, l1, l2, l3, l4, l5, some (.ref a), l7] (.ref a :: st) I r Q := me_al2 mc_84 dX5_copy_36 rfl
theorem e84_38 : mm_E 84 38 ls (.ref a :: st) I r Q ↔ mm_S r a = (1, 3) ∧ mm_E 84 41 ls (.int (mm_rd I a 0) :: st) I r Q := me_gi mc_84 dX5_copy_38 (by decide +kernel) rfl
theorem e84_41 : mm_E 84 41 ls (.int x :: st) I r Q ↔ if x = 0 then mm_E 84 52 ls st I r Q else mm_E 84 44 ls st I r Q := me_zeq mc_84 dX5_copy_41 (by decide)
theorem e84_44 : mm_E 84 44 [l0, l1, l2, l3, l4, l5, l6, some (.ref a)] st I r Q ↔ mm_E 84 46 [l0, l1, l2, l3, l4, l5, l6, some (.ref a)] (.ref a :: st) I r Q := me_al2 mc_84 dX5_copy_44 rfl
theorem e84_46 : mm_E 84 46 ls (.ref a :: st) I r Q ↔ mm_S r a = (1, 3) ∧ mm_E 84 49 ls (.int (mm_rd I a 0) :: st) I r Q := me_gi mc_84 dX5_copy_46 (by decide +kernel) rfl
theorem e84_49 : mm_E 84 49 ls (.int x :: st) I r Q ↔ if ¬ x = 0 then mm_E 84 55 ls st I r Q else mm_E 84 52 ls st I r Q := me_zne mc_84 dX5_copy_49 (by decide)
theorem e84_52 : mm_E 84 52 ls st I r Q ↔ mm_E 84 54 ls (.int (-11) :: st) I r Q := me_bi mc_84 dX5_copy_52 (by decide)
theorem e84_54 : mm_E 84 54 ls [.int x] I r Q ↔ Q (some (.int x)) I r := me_ri mc_84 dX5_copy_54 rfl
theorem e84_55 : mm_E 84 55 [l0, l1, l2, l3, l4, l5, some (.ref a), l7] st I r Q ↔ mm_E 84 57 [l0, l1, l2, l3, l4, l5, some (.ref a), l7] (.ref a :: st) I r Q := me_al2 mc_84 dX5_copy_55 rfl
theorem e84_57 : mm_E 84 57 ls (.ref a :: st) I r Q ↔ mm_S r a = (1, 3) ∧ mm_E 84 60 ls (.int (mm_rd I a 1) :: st) I r Q := me_gi mc_84 dX5_copy_57 (by decide +kernel) rfl
theorem e84_60 : mm_E 84 60 [l0, l1, l2, l3, l4, l5, l6, some (.ref a)] st I r Q ↔ mm_E 84 62 [l0, l1, l2, l3, l4, l5, l6, some (.ref a)] (.ref a :: st) I r Q := me_al2 mc_84 dX5_copy_60 rfl
theorem e84_62 : mm_E 84 62 ls (.ref a :: st) I r Q ↔ mm_S r a = (1, 3) ∧ mm_E 84 65 ls (.int (mm_rd I a 1) :: st) I r Q := me_gi mc_84 dX5_copy_62 (by decide +kernel) rfl
theorem e84_65 : mm_E 84 65 ls (.int y :: .int x :: st) I r Q ↔ if x = y then mm_E 84 71 ls st I r Q else mm_E 84 68 ls st I r Q := me_ceq mc_84 dX5_copy_65 (by decide)
theorem e84_68 : mm_E 84 68 ls st I r Q ↔ mm_E 84 70 ls (.int (-12) :: st) I r Q := me_bi mc_84 dX5_copy_68 (by decide)
theorem e84_70 : mm_E 84 70 ls [.int x] I r Q ↔ Q (some (.int x)) I r := me_ri mc_84 dX5_copy_70 rfl
theorem e84_71 : mm_E 84 71 [l0, l1, l2, l3, l4, l5, some (.ref a), l7] st I r Q ↔ mm_E 84 73 [l0, l1, l2, l3, l4, l5, some (.ref a), l7] (.ref a :: st) I r Q := me_al2 mc_84 dX5_copy_71 rfl
theorem e84_73 : mm_E 84 73 [l0, l1, some (.int x), l3, l4, l5, l6, l7] st I r Q ↔ mm_E 84 74 [l0, l1, some (.int x), l3, l4, l5, l6, l7] (.int x :: st) I r Q := me_il mc_84 dX5_copy_73 rfl
theorem e84_74 : mm_E 84 74 [l0, l1, l2, l3, l4, some (.int x), l6, l7] st I r Q ↔ mm_E 84 76 [l0, l1, l2, l3, l4, some (.int x), l6, l7] (.int x :: st) I r Q := me_il2 mc_84 dX5_copy_74 rfl
theorem e84_76 : ∀ (x0 : Int32) (x1 : Int32), (mm_E 84 76 ls (.int x1 :: .int x0 :: .ref a :: st) I r Q ↔ (mm_w8 st = true ∧ mm_S r a = (1, 3)) ∧ mm_E 33 0 [some (.ref a), some (.int x0), some (.int x1)] [] I r (fun v I2 r2 => mm_E 84 79 ls (mm_pu v st) I2 r2 Q)) := fun x0 x1 => me_vc (n := 2) (As := [.int x0, .int x1]) (xs := [.int x1, .int x0]) (a := a) mc_84 dX5_copy_76 (by decide +kernel) (by decide +kernel) rfl rfl (Nat.le_of_ble_eq_true rfl) rfl
theorem e84_79 : mm_E 84 79 ls (.int x :: st) I r Q ↔ if x = 0 then mm_E 84 94 ls st I r Q else mm_E 84 82 ls st I r Q := me_zeq mc_84 dX5_copy_79 (by decide)
theorem e84_82 : mm_E 84 82 [l0, l1, l2, l3, l4, l5, l6, some (.ref a)] st I r Q ↔ mm_E 84 84 [l0, l1, l2, l3, l4, l5, l6, some (.ref a)] (.ref a :: st) I r Q := me_al2 mc_84 dX5_copy_82 rfl
theorem e84_84 : mm_E 84 84 [l0, l1, l2, l3, some (.int x), l5, l6, l7] st I r Q ↔ mm_E 84 86 [l0, l1, l2, l3, some (.int x), l5, l6, l7] (.int x :: st) I r Q := me_il2 mc_84 dX5_copy_84 rfl
theorem e84_86 : mm_E 84 86 [l0, l1, l2, l3, l4, some (.int x), l6, l7] st I r Q ↔ mm_E 84 88 [l0, l1, l2, l3, l4, some (.int x), l6, l7] (.int x :: st) I r Q := me_il2 mc_84 dX5_copy_86 rfl
theorem e84_88 : ∀ (x0 : Int32) (x1 : Int32), (mm_E 84 88 ls (.int x1 :: .int x0 :: .ref a :: st) I r Q ↔ (mm_w8 st = true ∧ mm_S r a = (1, 3)) ∧ mm_E 33 0 [some (.ref a), some (.int x0), some (.int x1)] [] I r (fun v I2 r2 => mm_E 84 91 ls (mm_pu v st) I2 r2 Q)) := fun x0 x1 => me_vc (n := 2) (As := [.int x0, .int x1]) (xs := [.int x1, .int x0]) (a := a) mc_84 dX5_copy_88 (by decide +kernel) (by decide +kernel) rfl rfl (Nat.le_of_ble_eq_true rfl) rfl
theorem e84_91 : mm_E 84 91 ls (.int x :: st) I r Q ↔ if ¬ x = 0 then mm_E 84 97 ls st I r Q else mm_E 84 94 ls st I r Q := me_zne mc_84 dX5_copy_91 (by decide)
theorem e84_94 : mm_E 84 94 ls st I r Q ↔ mm_E 84 96 ls (.int (-13) :: st) I r Q := me_bi mc_84 dX5_copy_94 (by decide)
theorem e84_96 : mm_E 84 96 ls [.int x] I r Q ↔ Q (some (.int x)) I r := me_ri mc_84 dX5_copy_96 rfl
theorem e84_97 : mm_E 84 97 [l0, l1, l2, l3, l4, l5, some (.ref a), l7] st I r Q ↔ mm_E 84 99 [l0, l1, l2, l3, l4, l5, some (.ref a), l7] (.ref a :: st) I r Q := me_al2 mc_84 dX5_copy_97 rfl
theorem e84_99 : mm_E 84 99 ls (.ref a :: st) I r Q ↔ mm_S r a = (1, 3) ∧ mm_E 84 102 ls (va_rf (mm_P r a 3) :: st) I r Q := me_gr mc_84 dX5_copy_99 (by decide +kernel) rfl
theorem e84_102 : mm_E 84 102 [l0, l1, some (.int x), l3, l4, l5, l6, l7] st I r Q ↔ mm_E 84 103 [l0, l1, some (.int x), l3, l4, l5, l6, l7] (.int x :: st) I r Q := me_il mc_84 dX5_copy_102 rfl
theorem e84_103 : mm_E 84 103 [l0, l1, l2, l3, l4, l5, l6, some (.ref a)] st I r Q ↔ mm_E 84 105 [l0, l1, l2, l3, l4, l5, l6, some (.ref a)] (.ref a :: st) I r Q := me_al2 mc_84 dX5_copy_103 rfl
theorem e84_105 : mm_E 84 105 ls (.ref a :: st) I r Q ↔ mm_S r a = (1, 3) ∧ mm_E 84 108 ls (va_rf (mm_P r a 3) :: st) I r Q := me_gr mc_84 dX5_copy_105 (by decide +kernel) rfl
theorem e84_108 : mm_E 84 108 [l0, l1, l2, l3, some (.int x), l5, l6, l7] st I r Q ↔ mm_E 84 110 [l0, l1, l2, l3, some (.int x), l5, l6, l7] (.int x :: st) I r Q := me_il2 mc_84 dX5_copy_108 rfl
theorem e84_110 : mm_E 84 110 [l0, l1, l2, l3, l4, some (.int x), l6, l7] st I r Q ↔ mm_E 84 112 [l0, l1, l2, l3, l4, some (.int x), l6, l7] (.int x :: st) I r Q := me_il2 mc_84 dX5_copy_110 rfl
theorem e84_112 : ∀ (sp dp n : Int32), (mm_E 84 112 ls (.int n :: .int dp :: .ref a :: .int sp :: .ref b :: st) I r Q ↔ (mm_w8 st = true ∧ (mm_S r b).1 = 3 ∧ (mm_S r a).1 = 3 ∧ ¬ sp < 0 ∧ ¬ dp < 0 ∧ ¬ n < 0 ∧ sp.toNatClampNeg + n.toNatClampNeg ≤ (mm_S r b).2 ∧ dp.toNatClampNeg + n.toNatClampNeg ≤ (mm_S r a).2) ∧ mm_E 84 115 ls st I (mm_cG r a b sp.toNatClampNeg dp.toNatClampNeg n.toNatClampNeg) Q) := fun _ _ _ => me_cp mc_84 dX5_copy_112 (by decide +kernel)
theorem e84_115 : mm_E 84 115 [l0, l1, l2, l3, l4, some (.int x), l6, l7] st I r Q ↔ mm_E 84 117 [l0, l1, l2, l3, l4, some (.int x), l6, l7] (.int x :: st) I r Q := me_il2 mc_84 dX5_copy_115 rfl
theorem e84_117 : mm_E 84 117 ls [.int x] I r Q ↔ Q (some (.int x)) I r := me_ri mc_84 dX5_copy_117 rfl
theorem mc_85 : mm_c 85 = cX5_within := rfl
theorem e85_0 : mm_E 85 0 [some (.int x), l1, l2] st I r Q ↔ mm_E 85 1 [some (.int x), l1, l2] (.int x :: st) I r Q := me_il mc_85 dX5_within_0 rfl
theorem e85_1 : mm_E 85 1 [l0, some (.int x), l2] st I r Q ↔ mm_E 85 2 [l0, some (.int x), l2] (.int x :: st) I r Q := me_il mc_85 dX5_within_1 rfl
theorem e85_2 : mm_E 85 2 ls (.int y :: .int x :: st) I r Q ↔ if x < y then mm_E 85 14 ls st I r Q else mm_E 85 5 ls st I r Q := me_clt mc_85 dX5_within_2 (by decide)
theorem e85_5 : mm_E 85 5 [some (.int x), l1, l2] st I r Q ↔ mm_E 85 6 [some (.int x), l1, l2] (.int x :: st) I r Q := me_il mc_85 dX5_within_5 rfl
theorem e85_6 : mm_E 85 6 [l0, l1, some (.int x)] st I r Q ↔ mm_E 85 7 [l0, l1, some (.int x)] (.int x :: st) I r Q := me_il mc_85 dX5_within_6 rfl
theorem e85_7 : mm_E 85 7 ls (.int y :: .int x :: st) I r Q ↔ if y < x then mm_E 85 14 ls st I r Q else mm_E 85 10 ls st I r Q := me_cgt mc_85 dX5_within_7 (by decide)
theorem e85_10 : mm_E 85 10 ls st I r Q ↔ mm_E 85 11 ls (.int 1 :: st) I r Q := me_ic mc_85 dX5_within_10 (by decide)
theorem e85_11 : mm_E 85 11 ls st I r Q ↔ mm_E 85 15 ls st I r Q := me_goto mc_85 dX5_within_11 (by decide)
theorem e85_14 : mm_E 85 14 ls st I r Q ↔ mm_E 85 15 ls (.int 0 :: st) I r Q := me_ic mc_85 dX5_within_14 (by decide)
theorem e85_15 : mm_E 85 15 ls [.int x] I r Q ↔ (x = 0 ∨ x = 1) ∧ Q (some (.int x)) I r := me_rz mc_85 dX5_within_15 rfl
theorem mc_86 : mm_c 86 = cX5_foretell := rfl
theorem e86_0 : mm_E 86 0 [some (.ref a), l1] st I r Q ↔ mm_E 86 1 [some (.ref a), l1] (.ref a :: st) I r Q := me_al mc_86 dX5_foretell_0 rfl
theorem e86_1 : mm_E 86 1 ls (.ref a :: st) I r Q ↔ mm_S r a = (1, 5) ∧ mm_E 86 4 ls (va_rf (mm_P r a 1) :: st) I r Q := me_gr mc_86 dX5_foretell_1 (by decide +kernel) rfl
theorem e86_4 : mm_E 86 4 [some (.ref a), l1] st I r Q ↔ mm_E 86 5 [some (.ref a), l1] (.ref a :: st) I r Q := me_al mc_86 dX5_foretell_4 rfl
theorem e86_5 : mm_E 86 5 ls (.ref a :: st) I r Q ↔ mm_S r a = (1, 5) ∧ mm_E 86 8 ls (va_rf (mm_P r a 0) :: st) I r Q := me_gr mc_86 dX5_foretell_5 (by decide +kernel) rfl
theorem e86_8 : ∀ (x0 : Nat), (mm_E 86 8 ls (.ref x0 :: .ref a :: st) I r Q ↔ (mm_w8 st = true ∧ mm_S r a = (1, 0)) ∧ mm_E 1 0 [some (.ref a), some (.ref x0), none] [] I r (fun v I2 r2 => mm_E 86 11 ls (mm_pu v st) I2 r2 Q)) := fun x0 => me_vc (n := 1) (As := [.ref x0]) (xs := [.ref x0]) (a := a) mc_86 dX5_foretell_8 (by decide +kernel) (by decide +kernel) rfl rfl (Nat.le_of_ble_eq_true rfl) rfl
theorem e86_11 : mm_E 86 11 [some (.ref a), l1] st I r Q ↔ mm_E 86 12 [some (.ref a), l1] (.ref a :: st) I r Q := me_al mc_86 dX5_foretell_11 rfl
theorem e86_12 : mm_E 86 12 ls (.ref a :: st) I r Q ↔ mm_S r a = (1, 5) ∧ mm_E 86 15 ls (va_rf (mm_P r a 1) :: st) I r Q := me_gr mc_86 dX5_foretell_12 (by decide +kernel) rfl
theorem e86_15 : mm_E 86 15 [l0, some (.int x)] st I r Q ↔ mm_E 86 16 [l0, some (.int x)] (.int x :: st) I r Q := me_il mc_86 dX5_foretell_15 rfl
theorem e86_16 : ∀ (x0 : Int32), (mm_E 86 16 ls (.int x0 :: .ref a :: st) I r Q ↔ (mm_w8 st = true ∧ mm_S r a = (1, 0)) ∧ mm_E 15 0 [some (.ref a), some (.int x0), none] [] I r (fun v I2 r2 => mm_E 86 19 ls (mm_pu v st) I2 r2 Q)) := fun x0 => me_vc (n := 1) (As := [.int x0]) (xs := [.int x0]) (a := a) mc_86 dX5_foretell_16 (by decide +kernel) (by decide +kernel) rfl rfl (Nat.le_of_ble_eq_true rfl) rfl
theorem e86_19 : mm_E 86 19 ls [] I r Q ↔ Q none I r := me_rv mc_86 dX5_foretell_19 rfl
theorem mc_87 : mm_c 87 = cX5_foretellDriven := rfl
theorem e87_0 : mm_E 87 0 [some (.ref a), l1, l2, l3] st I r Q ↔ mm_E 87 1 [some (.ref a), l1, l2, l3] (.ref a :: st) I r Q := me_al mc_87 dX5_foretellDriven_0 rfl
theorem e87_1 : mm_E 87 1 ls (.ref a :: st) I r Q ↔ mm_S r a = (1, 5) ∧ mm_E 87 4 ls (va_rf (mm_P r a 1) :: st) I r Q := me_gr mc_87 dX5_foretellDriven_1 (by decide +kernel) rfl
theorem e87_4 : mm_E 87 4 [some (.ref a), l1, l2, l3] st I r Q ↔ mm_E 87 5 [some (.ref a), l1, l2, l3] (.ref a :: st) I r Q := me_al mc_87 dX5_foretellDriven_4 rfl
theorem e87_5 : mm_E 87 5 ls (.ref a :: st) I r Q ↔ mm_S r a = (1, 5) ∧ mm_E 87 8 ls (va_rf (mm_P r a 0) :: st) I r Q := me_gr mc_87 dX5_foretellDriven_5 (by decide +kernel) rfl
theorem e87_8 : ∀ (x0 : Nat), (mm_E 87 8 ls (.ref x0 :: .ref a :: st) I r Q ↔ (mm_w8 st = true ∧ mm_S r a = (1, 0)) ∧ mm_E 1 0 [some (.ref a), some (.ref x0), none] [] I r (fun v I2 r2 => mm_E 87 11 ls (mm_pu v st) I2 r2 Q)) := fun x0 => me_vc (n := 1) (As := [.ref x0]) (xs := [.ref x0]) (a := a) mc_87 dX5_foretellDriven_8 (by decide +kernel) (by decide +kernel) rfl rfl (Nat.le_of_ble_eq_true rfl) rfl
theorem e87_11 : mm_E 87 11 [some (.ref a), l1, l2, l3] st I r Q ↔ mm_E 87 12 [some (.ref a), l1, l2, l3] (.ref a :: st) I r Q := me_al mc_87 dX5_foretellDriven_11 rfl
theorem e87_12 : mm_E 87 12 ls (.ref a :: st) I r Q ↔ mm_S r a = (1, 5) ∧ mm_E 87 15 ls (va_rf (mm_P r a 1) :: st) I r Q := me_gr mc_87 dX5_foretellDriven_12 (by decide +kernel) rfl
theorem e87_15 : mm_E 87 15 ls (.ref a :: st) I r Q ↔ mm_S r a = (1, 0) ∧ mm_E 87 18 ls (va_rf (mm_P r a 11) :: st) I r Q := me_gr mc_87 dX5_foretellDriven_15 (by decide +kernel) rfl
theorem e87_18 : mm_E 87 18 [l0, some (.int x), l2, l3] st I r Q ↔ mm_E 87 19 [l0, some (.int x), l2, l3] (.int x :: st) I r Q := me_il mc_87 dX5_foretellDriven_18 rfl
theorem e87_19 : mm_E 87 19 [l0, l1, some (.int x), l3] st I r Q ↔ mm_E 87 20 [l0, l1, some (.int x), l3] (.int x :: st) I r Q := me_il mc_87 dX5_foretellDriven_19 rfl
theorem e87_20 : mm_E 87 20 ls (.int y :: .int x :: .ref a :: st) I r Q ↔ mm_ix r a 2 x ∧ mm_E 87 21 ls st (mm_uI I a x.toNatClampNeg y) r Q := me_is mc_87 dX5_foretellDriven_20
theorem e87_21 : mm_E 87 21 [some (.ref a), l1, l2, l3] st I r Q ↔ mm_E 87 22 [some (.ref a), l1, l2, l3] (.ref a :: st) I r Q := me_al mc_87 dX5_foretellDriven_21 rfl
theorem e87_22 : mm_E 87 22 ls (.ref a :: st) I r Q ↔ mm_S r a = (1, 5) ∧ mm_E 87 25 ls (va_rf (mm_P r a 1) :: st) I r Q := me_gr mc_87 dX5_foretellDriven_22 (by decide +kernel) rfl
theorem e87_25 : mm_E 87 25 [l0, l1, l2, some (.int x)] st I r Q ↔ mm_E 87 26 [l0, l1, l2, some (.int x)] (.int x :: st) I r Q := me_il mc_87 dX5_foretellDriven_25 rfl
theorem e87_26 : ∀ (x0 : Int32), (mm_E 87 26 ls (.int x0 :: .ref a :: st) I r Q ↔ (mm_w8 st = true ∧ mm_S r a = (1, 0)) ∧ mm_E 15 0 [some (.ref a), some (.int x0), none] [] I r (fun v I2 r2 => mm_E 87 29 ls (mm_pu v st) I2 r2 Q)) := fun x0 => me_vc (n := 1) (As := [.int x0]) (xs := [.int x0]) (a := a) mc_87 dX5_foretellDriven_26 (by decide +kernel) (by decide +kernel) rfl rfl (Nat.le_of_ble_eq_true rfl) rfl
theorem e87_29 : mm_E 87 29 ls [] I r Q ↔ Q none I r := me_rv mc_87 dX5_foretellDriven_29 rfl
theorem mc_88 : mm_c 88 = cX5_chance := rfl
theorem e88_0 : mm_E 88 0 ls st I r Q ↔ mm_E 88 1 ls (.int 1 :: st) I r Q := me_ic mc_88 dX5_chance_0 (by decide)
theorem e88_1 : mm_E 88 1 [l0, l1, l2, l3, l4] (.int x :: st) I r Q ↔ mm_c1 l2 ∧ mm_E 88 2 [l0, l1, l2, some (.int x), l4] st I r Q := me_st (k := 3) (v := .int x) mc_88 dX5_chance_1 rfl rfl (Nat.le_of_ble_eq_true rfl) rfl ⟨Or.inr, fun h => h.resolve_left (by decide)⟩
theorem e88_2 : mm_E 88 2 ls st I r Q ↔ mm_E 88 3 ls (.int 0 :: st) I r Q := me_ic mc_88 dX5_chance_2 (by decide)
theorem e88_3 : mm_E 88 3 [l0, l1, l2, l3, l4] (.int x :: st) I r Q ↔ mm_c1 l3 ∧ mm_E 88 5 [l0, l1, l2, l3, some (.int x)] st I r Q := me_st (k := 4) (v := .int x) mc_88 dX5_chance_3 rfl rfl (Nat.le_of_ble_eq_true rfl) rfl ⟨Or.inr, fun h => h.resolve_left (by decide)⟩
theorem e88_5 : mm_E 88 5 [l0, l1, l2, l3, some (.int x)] st I r Q ↔ mm_E 88 7 [l0, l1, l2, l3, some (.int x)] (.int x :: st) I r Q := me_il2 mc_88 dX5_chance_5 rfl
theorem e88_7 : mm_E 88 7 [some (.ref a), l1, l2, l3, l4] st I r Q ↔ mm_E 88 8 [some (.ref a), l1, l2, l3, l4] (.ref a :: st) I r Q := me_al mc_88 dX5_chance_7 rfl
theorem e88_8 : mm_E 88 8 ls (.ref a :: st) I r Q ↔ mm_S r a = (1, 5) ∧ mm_E 88 11 ls (va_rf (mm_P r a 0) :: st) I r Q := me_gr mc_88 dX5_chance_8 (by decide +kernel) rfl
theorem e88_11 : mm_E 88 11 ls (.ref a :: st) I r Q ↔ mm_S r a = (1, 0) ∧ mm_E 88 14 ls (.int (mm_rd I a 1) :: st) I r Q := me_gi mc_88 dX5_chance_11 (by decide +kernel) rfl
theorem e88_14 : mm_E 88 14 ls (.int y :: .int x :: st) I r Q ↔ if y ≤ x then mm_E 88 44 ls st I r Q else mm_E 88 17 ls st I r Q := me_cge mc_88 dX5_chance_14 (by decide)
theorem e88_17 : mm_E 88 17 [l0, l1, l2, some (.int x), l4] st I r Q ↔ mm_E 88 18 [l0, l1, l2, some (.int x), l4] (.int x :: st) I r Q := me_il mc_88 dX5_chance_17 rfl
theorem e88_18 : mm_E 88 18 [l0, some (.int x), l2, l3, l4] st I r Q ↔ mm_E 88 19 [l0, some (.int x), l2, l3, l4] (.int x :: st) I r Q := me_il mc_88 dX5_chance_18 rfl
theorem e88_19 : mm_E 88 19 [l0, l1, l2, l3, some (.int x)] st I r Q ↔ mm_E 88 21 [l0, l1, l2, l3, some (.int x)] (.int x :: st) I r Q := me_il2 mc_88 dX5_chance_19 rfl
theorem e88_21 : mm_E 88 21 ls (.int y :: .int x :: st) I r Q ↔ mm_E 88 22 ls (.int (x >>> (y &&& 31)) :: st) I r Q := me_ishr mc_88 dX5_chance_21
theorem e88_22 : mm_E 88 22 ls st I r Q ↔ mm_E 88 23 ls (.int 1 :: st) I r Q := me_ic mc_88 dX5_chance_22 (by decide)
theorem e88_23 : mm_E 88 23 ls (.int y :: .int x :: st) I r Q ↔ mm_E 88 24 ls (.int (x &&& y) :: st) I r Q := me_iand mc_88 dX5_chance_23
theorem e88_24 : mm_E 88 24 ls st I r Q ↔ mm_E 88 25 ls (.int 1 :: st) I r Q := me_ic mc_88 dX5_chance_24 (by decide)
theorem e88_25 : mm_E 88 25 ls (.int y :: .int x :: st) I r Q ↔ if ¬ x = y then mm_E 88 32 ls st I r Q else mm_E 88 28 ls st I r Q := me_cne mc_88 dX5_chance_25 (by decide)
theorem e88_28 : mm_E 88 28 [l0, l1, some (.int x), l3, l4] st I r Q ↔ mm_E 88 29 [l0, l1, some (.int x), l3, l4] (.int x :: st) I r Q := me_il mc_88 dX5_chance_28 rfl
theorem e88_29 : mm_E 88 29 ls st I r Q ↔ mm_E 88 36 ls st I r Q := me_goto mc_88 dX5_chance_29 (by decide)
theorem e88_32 : mm_E 88 32 ls st I r Q ↔ mm_E 88 34 ls (.int 10 :: st) I r Q := me_bi mc_88 dX5_chance_32 (by decide)
theorem e88_34 : mm_E 88 34 [l0, l1, some (.int x), l3, l4] st I r Q ↔ mm_E 88 35 [l0, l1, some (.int x), l3, l4] (.int x :: st) I r Q := me_il mc_88 dX5_chance_34 rfl
theorem e88_35 : mm_E 88 35 ls (.int y :: .int x :: st) I r Q ↔ mm_E 88 36 ls (.int (x - y) :: st) I r Q := me_isub mc_88 dX5_chance_35
theorem e88_36 : mm_E 88 36 ls (.int y :: .int x :: st) I r Q ↔ mm_E 88 37 ls (.int (x * y) :: st) I r Q := me_imul mc_88 dX5_chance_36
theorem e88_37 : mm_E 88 37 [l0, l1, l2, l3, l4] (.int x :: st) I r Q ↔ mm_c1 l2 ∧ mm_E 88 38 [l0, l1, l2, some (.int x), l4] st I r Q := me_st (k := 3) (v := .int x) mc_88 dX5_chance_37 rfl rfl (Nat.le_of_ble_eq_true rfl) rfl ⟨Or.inr, fun h => h.resolve_left (by decide)⟩
theorem e88_38 : mm_E 88 38 [l0, l1, l2, l3, some (.int x)] st I r Q ↔ mm_c1 l3 ∧ mm_E 88 41 [l0, l1, l2, l3, some (.int (x + 1))] st I r Q := me_st (k := 4) (v := .int (x + 1)) mc_88 dX5_chance_38 rfl rfl (Nat.le_of_ble_eq_true rfl) rfl ⟨Or.inr, fun h => h.resolve_left (by decide)⟩
theorem e88_41 : mm_E 88 41 ls st I r Q ↔ mm_E 88 5 ls st I r Q := me_goto mc_88 dX5_chance_41 (by decide)
theorem e88_44 : mm_E 88 44 [l0, l1, l2, some (.int x), l4] st I r Q ↔ mm_E 88 45 [l0, l1, l2, some (.int x), l4] (.int x :: st) I r Q := me_il mc_88 dX5_chance_44 rfl
theorem e88_45 : mm_E 88 45 ls [.int x] I r Q ↔ Q (some (.int x)) I r := me_ri mc_88 dX5_chance_45 rfl
end
