section
variable (ls : mm_L) (st : List Value) (I : mm_I) (r : mm_R) (Q : Option Value → mm_I → mm_R → Prop) (l0 l1 l2 l3 l4 l5 l6 l7 l8 l9 l10 l11 l12 l13 l14 : Option Value) (x y : Int32) (z w : Int64) (a b : Nat) (v u : Value)
theorem mc_144 : mm_c 144 = cX6_layParts := rfl
theorem e144_0 : mm_E 144 0 [l0, some (.int x), l2, l3, l4, l5] st I r Q ↔ mm_E 144 1 [l0, some (.int x), l2, l3, l4, l5] (.int x :: st) I r Q := me_il mc_144 dX6_layParts_0 rfl
theorem e144_1 : mm_E 144 1 [l0, l1, l2, l3, l4, l5] (.int x :: st) I r Q ↔ mm_c1 l2 ∧ mm_E 144 2 [l0, l1, l2, some (.int x), l4, l5] st I r Q := me_st (k := 3) (v := .int x) mc_144 dX6_layParts_1 rfl rfl (Nat.le_of_ble_eq_true rfl) rfl ⟨Or.inr, fun h => h.resolve_left (by decide)⟩
theorem e144_2 : mm_E 144 2 ls st I r Q ↔ mm_E 144 3 ls (.int 0 :: st) I r Q := me_ic mc_144 dX6_layParts_2 (by decide)
theorem e144_3 : mm_E 144 3 [l0, l1, l2, l3, l4, l5] (.int x :: st) I r Q ↔ mm_c1 l3 ∧ mm_E 144 5 [l0, l1, l2, l3, some (.int x), l5] st I r Q := me_st (k := 4) (v := .int x) mc_144 dX6_layParts_3 rfl rfl (Nat.le_of_ble_eq_true rfl) rfl ⟨Or.inr, fun h => h.resolve_left (by decide)⟩
theorem e144_5 : mm_E 144 5 [some (.ref a), l1, l2, l3, l4, l5] st I r Q ↔ mm_E 144 6 [some (.ref a), l1, l2, l3, l4, l5] (.ref a :: st) I r Q := me_al mc_144 dX6_layParts_5 rfl
theorem e144_6 : mm_E 144 6 ls (.ref a :: st) I r Q ↔ mm_S r a = (1, 6) ∧ mm_E 144 9 ls (va_rf (mm_P r a 7) :: st) I r Q := me_gr mc_144 dX6_layParts_6 (by decide +kernel) rfl
theorem e144_9 : mm_E 144 9 ls st I r Q ↔ mm_E 144 11 ls (.int 27 :: st) I r Q := me_bi mc_144 dX6_layParts_9 (by decide)
theorem e144_11 : mm_E 144 11 ls (.int x :: .ref a :: st) I r Q ↔ mm_ix r a 2 x ∧ mm_E 144 12 ls (.int (mm_rd I a x.toNatClampNeg) :: st) I r Q := me_ia mc_144 dX6_layParts_11
theorem e144_12 : mm_E 144 12 ls st I r Q ↔ mm_E 144 13 ls (.int 2 :: st) I r Q := me_ic mc_144 dX6_layParts_12 (by decide)
theorem e144_13 : mm_E 144 13 ls (.int y :: .int x :: st) I r Q ↔ mm_E 144 14 ls (.int (x - y) :: st) I r Q := me_isub mc_144 dX6_layParts_13
theorem e144_14 : mm_E 144 14 [l0, l1, l2, l3, l4, l5] (.int x :: st) I r Q ↔ mm_c1 l4 ∧ mm_E 144 16 [l0, l1, l2, l3, l4, some (.int x)] st I r Q := me_st (k := 5) (v := .int x) mc_144 dX6_layParts_14 rfl rfl (Nat.le_of_ble_eq_true rfl) rfl ⟨Or.inr, fun h => h.resolve_left (by decide)⟩
theorem e144_16 : mm_E 144 16 [l0, l1, l2, l3, l4, some (.int x)] st I r Q ↔ mm_E 144 18 [l0, l1, l2, l3, l4, some (.int x)] (.int x :: st) I r Q := me_il2 mc_144 dX6_layParts_16 rfl
theorem e144_18 : mm_E 144 18 ls (.int x :: st) I r Q ↔ if x < 0 then mm_E 144 57 ls st I r Q else mm_E 144 21 ls st I r Q := me_zlt mc_144 dX6_layParts_18 (by decide)
theorem e144_21 : mm_E 144 21 [some (.ref a), l1, l2, l3, l4, l5] st I r Q ↔ mm_E 144 22 [some (.ref a), l1, l2, l3, l4, l5] (.ref a :: st) I r Q := me_al mc_144 dX6_layParts_21 rfl
theorem e144_22 : mm_E 144 22 ls (.ref a :: st) I r Q ↔ mm_S r a = (1, 6) ∧ mm_E 144 25 ls (va_rf (mm_P r a 14) :: st) I r Q := me_gr mc_144 dX6_layParts_22 (by decide +kernel) rfl
theorem e144_25 : mm_E 144 25 [l0, l1, l2, l3, l4, some (.int x)] st I r Q ↔ mm_E 144 27 [l0, l1, l2, l3, l4, some (.int x)] (.int x :: st) I r Q := me_il2 mc_144 dX6_layParts_25 rfl
theorem e144_27 : mm_E 144 27 [l0, l1, l2, some (.int x), l4, l5] st I r Q ↔ mm_E 144 28 [l0, l1, l2, some (.int x), l4, l5] (.int x :: st) I r Q := me_il mc_144 dX6_layParts_27 rfl
theorem e144_28 : mm_E 144 28 [l0, l1, some (.int x), l3, l4, l5] st I r Q ↔ mm_E 144 29 [l0, l1, some (.int x), l3, l4, l5] (.int x :: st) I r Q := me_il mc_144 dX6_layParts_28 rfl
theorem e144_29 : mm_E 144 29 ls st I r Q ↔ mm_E 144 30 ls (.int 1 :: st) I r Q := me_ic mc_144 dX6_layParts_29 (by decide)
theorem e144_30 : mm_E 144 30 ls (.int y :: .int x :: st) I r Q ↔ mm_E 144 31 ls (.int (x + y) :: st) I r Q := me_iadd mc_144 dX6_layParts_30
theorem e144_31 : mm_E 144 31 ls (.int y :: .int x :: st) I r Q ↔ ¬ y = 0 ∧ mm_E 144 32 ls (.int (x - x / y * y) :: st) I r Q := me_irem mc_144 dX6_layParts_31
theorem e144_32 : mm_E 144 32 ls (.int y :: .int x :: .ref a :: st) I r Q ↔ mm_ix r a 2 x ∧ mm_E 144 33 ls st (mm_uI I a x.toNatClampNeg y) r Q := me_is mc_144 dX6_layParts_32
theorem e144_33 : mm_E 144 33 [l0, l1, l2, some (.int x), l4, l5] st I r Q ↔ mm_E 144 34 [l0, l1, l2, some (.int x), l4, l5] (.int x :: st) I r Q := me_il mc_144 dX6_layParts_33 rfl
theorem e144_34 : mm_E 144 34 [l0, l1, some (.int x), l3, l4, l5] st I r Q ↔ mm_E 144 35 [l0, l1, some (.int x), l3, l4, l5] (.int x :: st) I r Q := me_il mc_144 dX6_layParts_34 rfl
theorem e144_35 : mm_E 144 35 ls st I r Q ↔ mm_E 144 36 ls (.int 1 :: st) I r Q := me_ic mc_144 dX6_layParts_35 (by decide)
theorem e144_36 : mm_E 144 36 ls (.int y :: .int x :: st) I r Q ↔ mm_E 144 37 ls (.int (x + y) :: st) I r Q := me_iadd mc_144 dX6_layParts_36
theorem e144_37 : mm_E 144 37 ls (.int y :: .int x :: st) I r Q ↔ ¬ y = 0 ∧ mm_E 144 38 ls (.int (x / y) :: st) I r Q := me_idiv mc_144 dX6_layParts_37
theorem e144_38 : mm_E 144 38 [l0, l1, l2, l3, l4, l5] (.int x :: st) I r Q ↔ mm_c1 l2 ∧ mm_E 144 39 [l0, l1, l2, some (.int x), l4, l5] st I r Q := me_st (k := 3) (v := .int x) mc_144 dX6_layParts_38 rfl rfl (Nat.le_of_ble_eq_true rfl) rfl ⟨Or.inr, fun h => h.resolve_left (by decide)⟩
theorem e144_39 : mm_E 144 39 [l0, l1, l2, l3, some (.int x), l5] st I r Q ↔ mm_E 144 41 [l0, l1, l2, l3, some (.int x), l5] (.int x :: st) I r Q := me_il2 mc_144 dX6_layParts_39 rfl
theorem e144_41 : mm_E 144 41 [some (.ref a), l1, l2, l3, l4, l5] st I r Q ↔ mm_E 144 42 [some (.ref a), l1, l2, l3, l4, l5] (.ref a :: st) I r Q := me_al mc_144 dX6_layParts_41 rfl
theorem e144_42 : mm_E 144 42 ls (.ref a :: st) I r Q ↔ mm_S r a = (1, 6) ∧ mm_E 144 45 ls (va_rf (mm_P r a 14) :: st) I r Q := me_gr mc_144 dX6_layParts_42 (by decide +kernel) rfl
theorem e144_45 : mm_E 144 45 [l0, l1, l2, l3, l4, some (.int x)] st I r Q ↔ mm_E 144 47 [l0, l1, l2, l3, l4, some (.int x)] (.int x :: st) I r Q := me_il2 mc_144 dX6_layParts_45 rfl
theorem e144_47 : mm_E 144 47 ls (.int x :: .ref a :: st) I r Q ↔ mm_ix r a 2 x ∧ mm_E 144 48 ls (.int (mm_rd I a x.toNatClampNeg) :: st) I r Q := me_ia mc_144 dX6_layParts_47
theorem e144_48 : mm_E 144 48 ls (.int y :: .int x :: st) I r Q ↔ mm_E 144 49 ls (.int (x + y) :: st) I r Q := me_iadd mc_144 dX6_layParts_48
theorem e144_49 : mm_E 144 49 [l0, l1, l2, l3, l4, l5] (.int x :: st) I r Q ↔ mm_c1 l3 ∧ mm_E 144 51 [l0, l1, l2, l3, some (.int x), l5] st I r Q := me_st (k := 4) (v := .int x) mc_144 dX6_layParts_49 rfl rfl (Nat.le_of_ble_eq_true rfl) rfl ⟨Or.inr, fun h => h.resolve_left (by decide)⟩
theorem e144_51 : mm_E 144 51 [l0, l1, l2, l3, l4, some (.int x)] st I r Q ↔ mm_c1 l4 ∧ mm_E 144 54 [l0, l1, l2, l3, l4, some (.int (x + (-1)))] st I r Q := me_st (k := 5) (v := .int (x + (-1))) mc_144 dX6_layParts_51 rfl rfl (Nat.le_of_ble_eq_true rfl) rfl ⟨Or.inr, fun h => h.resolve_left (by decide)⟩
theorem e144_54 : mm_E 144 54 ls st I r Q ↔ mm_E 144 16 ls st I r Q := me_goto mc_144 dX6_layParts_54 (by decide)
theorem e144_57 : mm_E 144 57 [some (.ref a), l1, l2, l3, l4, l5] st I r Q ↔ mm_E 144 58 [some (.ref a), l1, l2, l3, l4, l5] (.ref a :: st) I r Q := me_al mc_144 dX6_layParts_57 rfl
theorem e144_58 : mm_E 144 58 ls (.ref a :: st) I r Q ↔ mm_S r a = (1, 6) ∧ mm_E 144 61 ls (va_rf (mm_P r a 14) :: st) I r Q := me_gr mc_144 dX6_layParts_58 (by decide +kernel) rfl
theorem e144_61 : mm_E 144 61 [some (.ref a), l1, l2, l3, l4, l5] st I r Q ↔ mm_E 144 62 [some (.ref a), l1, l2, l3, l4, l5] (.ref a :: st) I r Q := me_al mc_144 dX6_layParts_61 rfl
theorem e144_62 : mm_E 144 62 ls (.ref a :: st) I r Q ↔ mm_S r a = (1, 6) ∧ mm_E 144 65 ls (va_rf (mm_P r a 7) :: st) I r Q := me_gr mc_144 dX6_layParts_62 (by decide +kernel) rfl
theorem e144_65 : mm_E 144 65 ls st I r Q ↔ mm_E 144 67 ls (.int 27 :: st) I r Q := me_bi mc_144 dX6_layParts_65 (by decide)
theorem e144_67 : mm_E 144 67 ls (.int x :: .ref a :: st) I r Q ↔ mm_ix r a 2 x ∧ mm_E 144 68 ls (.int (mm_rd I a x.toNatClampNeg) :: st) I r Q := me_ia mc_144 dX6_layParts_67
theorem e144_68 : mm_E 144 68 ls st I r Q ↔ mm_E 144 69 ls (.int 1 :: st) I r Q := me_ic mc_144 dX6_layParts_68 (by decide)
theorem e144_69 : mm_E 144 69 ls (.int y :: .int x :: st) I r Q ↔ mm_E 144 70 ls (.int (x - y) :: st) I r Q := me_isub mc_144 dX6_layParts_69
theorem e144_70 : mm_E 144 70 [l0, l1, some (.int x), l3, l4, l5] st I r Q ↔ mm_E 144 71 [l0, l1, some (.int x), l3, l4, l5] (.int x :: st) I r Q := me_il mc_144 dX6_layParts_70 rfl
theorem e144_71 : mm_E 144 71 [l0, l1, l2, l3, some (.int x), l5] st I r Q ↔ mm_E 144 73 [l0, l1, l2, l3, some (.int x), l5] (.int x :: st) I r Q := me_il2 mc_144 dX6_layParts_71 rfl
theorem e144_73 : mm_E 144 73 ls (.int y :: .int x :: st) I r Q ↔ mm_E 144 74 ls (.int (x - y) :: st) I r Q := me_isub mc_144 dX6_layParts_73
theorem e144_74 : mm_E 144 74 ls (.int y :: .int x :: .ref a :: st) I r Q ↔ mm_ix r a 2 x ∧ mm_E 144 75 ls st (mm_uI I a x.toNatClampNeg y) r Q := me_is mc_144 dX6_layParts_74
theorem e144_75 : mm_E 144 75 [l0, l1, l2, l3, some (.int x), l5] st I r Q ↔ mm_E 144 77 [l0, l1, l2, l3, some (.int x), l5] (.int x :: st) I r Q := me_il2 mc_144 dX6_layParts_75 rfl
theorem e144_77 : mm_E 144 77 [l0, l1, some (.int x), l3, l4, l5] st I r Q ↔ mm_E 144 78 [l0, l1, some (.int x), l3, l4, l5] (.int x :: st) I r Q := me_il mc_144 dX6_layParts_77 rfl
theorem e144_78 : mm_E 144 78 ls (.int y :: .int x :: st) I r Q ↔ if y < x then mm_E 144 85 ls st I r Q else mm_E 144 81 ls st I r Q := me_cgt mc_144 dX6_layParts_78 (by decide)
theorem e144_81 : mm_E 144 81 ls st I r Q ↔ mm_E 144 82 ls (.int 1 :: st) I r Q := me_ic mc_144 dX6_layParts_81 (by decide)
theorem e144_82 : mm_E 144 82 ls st I r Q ↔ mm_E 144 86 ls st I r Q := me_goto mc_144 dX6_layParts_82 (by decide)
theorem e144_85 : mm_E 144 85 ls st I r Q ↔ mm_E 144 86 ls (.int 0 :: st) I r Q := me_ic mc_144 dX6_layParts_85 (by decide)
theorem e144_86 : mm_E 144 86 ls [.int x] I r Q ↔ (x = 0 ∨ x = 1) ∧ Q (some (.int x)) I r := me_rz mc_144 dX6_layParts_86 rfl
theorem mc_145 : mm_c 145 = cX6_part := rfl
theorem e145_0 : mm_E 145 0 [l0, some (.int x), l2, l3, l4, l5, l6, l7, l8, l9] st I r Q ↔ mm_E 145 1 [l0, some (.int x), l2, l3, l4, l5, l6, l7, l8, l9] (.int x :: st) I r Q := me_il mc_145 dX6_part_0 rfl
theorem e145_1 : mm_E 145 1 ls st I r Q ↔ mm_E 145 2 ls (.int 0 :: st) I r Q := me_ic mc_145 dX6_part_1 (by decide)
theorem e145_2 : mm_E 145 2 ls st I r Q ↔ mm_E 145 4 ls (.int 12 :: st) I r Q := me_bi mc_145 dX6_part_2 (by decide)
theorem e145_4 : ∀ (x0 : Int32) (x1 : Int32) (x2 : Int32), (mm_E 145 4 ls (.int x2 :: .int x1 :: .int x0 :: st) I r Q ↔ mm_w8 st = true ∧ mm_E 93 0 [some (.int x0), some (.int x1), some (.int x2)] [] I r (fun v I2 r2 => mm_E 145 7 ls (mm_pu v st) I2 r2 Q)) := fun x0 x1 x2 => me_sc (n := 3) (As := [.int x0, .int x1, .int x2]) (xs := [.int x2, .int x1, .int x0]) mc_145 dX6_part_4 (by decide +kernel) (by decide +kernel) rfl rfl (Nat.le_of_ble_eq_true rfl) rfl
theorem e145_7 : mm_E 145 7 ls (.int x :: st) I r Q ↔ if x = 0 then mm_E 145 26 ls st I r Q else mm_E 145 10 ls st I r Q := me_zeq mc_145 dX6_part_7 (by decide)
theorem e145_10 : mm_E 145 10 [l0, l1, some (.int x), l3, l4, l5, l6, l7, l8, l9] st I r Q ↔ mm_E 145 11 [l0, l1, some (.int x), l3, l4, l5, l6, l7, l8, l9] (.int x :: st) I r Q := me_il mc_145 dX6_part_10 rfl
theorem e145_11 : mm_E 145 11 ls st I r Q ↔ mm_E 145 12 ls (.int 1 :: st) I r Q := me_ic mc_145 dX6_part_11 (by decide)
theorem e145_12 : mm_E 145 12 ls st I r Q ↔ mm_E 145 14 ls (.int 30 :: st) I r Q := me_bi mc_145 dX6_part_12 (by decide)
theorem e145_14 : ∀ (x0 : Int32) (x1 : Int32) (x2 : Int32), (mm_E 145 14 ls (.int x2 :: .int x1 :: .int x0 :: st) I r Q ↔ mm_w8 st = true ∧ mm_E 93 0 [some (.int x0), some (.int x1), some (.int x2)] [] I r (fun v I2 r2 => mm_E 145 17 ls (mm_pu v st) I2 r2 Q)) := fun x0 x1 x2 => me_sc (n := 3) (As := [.int x0, .int x1, .int x2]) (xs := [.int x2, .int x1, .int x0]) mc_145 dX6_part_14 (by decide +kernel) (by decide +kernel) rfl rfl (Nat.le_of_ble_eq_true rfl) rfl
theorem e145_17 : mm_E 145 17 ls (.int x :: st) I r Q ↔ if x = 0 then mm_E 145 26 ls st I r Q else mm_E 145 20 ls st I r Q := me_zeq mc_145 dX6_part_17 (by decide)
theorem e145_20 : mm_E 145 20 [l0, l1, l2, some (.int x), l4, l5, l6, l7, l8, l9] st I r Q ↔ mm_E 145 21 [l0, l1, l2, some (.int x), l4, l5, l6, l7, l8, l9] (.int x :: st) I r Q := me_il mc_145 dX6_part_20 rfl
theorem e145_21 : mm_E 145 21 ls st I r Q ↔ mm_E 145 23 ls (.int (-2) :: st) I r Q := me_bi mc_145 dX6_part_21 (by decide)
theorem e145_23 : mm_E 145 23 ls (.int y :: .int x :: st) I r Q ↔ if y ≤ x then mm_E 145 28 ls st I r Q else mm_E 145 26 ls st I r Q := me_cge mc_145 dX6_part_23 (by decide)
theorem e145_26 : mm_E 145 26 ls st I r Q ↔ mm_E 145 27 ls (.int (-1) :: st) I r Q := me_ic mc_145 dX6_part_26 (by decide)
theorem e145_27 : mm_E 145 27 ls [.int x] I r Q ↔ Q (some (.int x)) I r := me_ri mc_145 dX6_part_27 rfl
theorem e145_28 : mm_E 145 28 ls st I r Q ↔ mm_E 145 29 ls (.int 1 :: st) I r Q := me_ic mc_145 dX6_part_28 (by decide)
theorem e145_29 : mm_E 145 29 [l0, l1, l2, l3, l4, l5, l6, l7, l8, l9] (.int x :: st) I r Q ↔ mm_c1 l3 ∧ mm_E 145 31 [l0, l1, l2, l3, some (.int x), l5, l6, l7, l8, l9] st I r Q := me_st (k := 4) (v := .int x) mc_145 dX6_part_29 rfl rfl (Nat.le_of_ble_eq_true rfl) rfl ⟨Or.inr, fun h => h.resolve_left (by decide)⟩
theorem e145_31 : mm_E 145 31 ls st I r Q ↔ mm_E 145 32 ls (.int 1 :: st) I r Q := me_ic mc_145 dX6_part_31 (by decide)
theorem e145_32 : mm_E 145 32 [l0, l1, l2, l3, l4, l5, l6, l7, l8, l9] (.int x :: st) I r Q ↔ mm_c1 l4 ∧ mm_E 145 34 [l0, l1, l2, l3, l4, some (.int x), l6, l7, l8, l9] st I r Q := me_st (k := 5) (v := .int x) mc_145 dX6_part_32 rfl rfl (Nat.le_of_ble_eq_true rfl) rfl ⟨Or.inr, fun h => h.resolve_left (by decide)⟩
theorem e145_34 : mm_E 145 34 [l0, l1, l2, l3, l4, some (.int x), l6, l7, l8, l9] st I r Q ↔ mm_E 145 36 [l0, l1, l2, l3, l4, some (.int x), l6, l7, l8, l9] (.int x :: st) I r Q := me_il2 mc_145 dX6_part_34 rfl
theorem e145_36 : mm_E 145 36 [some (.ref a), l1, l2, l3, l4, l5, l6, l7, l8, l9] st I r Q ↔ mm_E 145 37 [some (.ref a), l1, l2, l3, l4, l5, l6, l7, l8, l9] (.ref a :: st) I r Q := me_al mc_145 dX6_part_36 rfl
theorem e145_37 : mm_E 145 37 ls (.ref a :: st) I r Q ↔ mm_S r a = (1, 6) ∧ mm_E 145 40 ls (va_rf (mm_P r a 7) :: st) I r Q := me_gr mc_145 dX6_part_37 (by decide +kernel) rfl
theorem e145_40 : mm_E 145 40 ls st I r Q ↔ mm_E 145 42 ls (.int 27 :: st) I r Q := me_bi mc_145 dX6_part_40 (by decide)
theorem e145_42 : mm_E 145 42 ls (.int x :: .ref a :: st) I r Q ↔ mm_ix r a 2 x ∧ mm_E 145 43 ls (.int (mm_rd I a x.toNatClampNeg) :: st) I r Q := me_ia mc_145 dX6_part_42
theorem e145_43 : mm_E 145 43 ls (.int y :: .int x :: st) I r Q ↔ if y ≤ x then mm_E 145 60 ls st I r Q else mm_E 145 46 ls st I r Q := me_cge mc_145 dX6_part_43 (by decide)
theorem e145_46 : mm_E 145 46 [l0, l1, l2, l3, some (.int x), l5, l6, l7, l8, l9] st I r Q ↔ mm_E 145 48 [l0, l1, l2, l3, some (.int x), l5, l6, l7, l8, l9] (.int x :: st) I r Q := me_il2 mc_145 dX6_part_46 rfl
theorem e145_48 : mm_E 145 48 [l0, some (.int x), l2, l3, l4, l5, l6, l7, l8, l9] st I r Q ↔ mm_E 145 49 [l0, some (.int x), l2, l3, l4, l5, l6, l7, l8, l9] (.int x :: st) I r Q := me_il mc_145 dX6_part_48 rfl
theorem e145_49 : mm_E 145 49 ls st I r Q ↔ mm_E 145 50 ls (.int 1 :: st) I r Q := me_ic mc_145 dX6_part_49 (by decide)
theorem e145_50 : mm_E 145 50 ls (.int y :: .int x :: st) I r Q ↔ mm_E 145 51 ls (.int (x + y) :: st) I r Q := me_iadd mc_145 dX6_part_50
theorem e145_51 : mm_E 145 51 ls (.int y :: .int x :: st) I r Q ↔ mm_E 145 52 ls (.int (x * y) :: st) I r Q := me_imul mc_145 dX6_part_51
theorem e145_52 : mm_E 145 52 [l0, l1, l2, l3, l4, l5, l6, l7, l8, l9] (.int x :: st) I r Q ↔ mm_c1 l3 ∧ mm_E 145 54 [l0, l1, l2, l3, some (.int x), l5, l6, l7, l8, l9] st I r Q := me_st (k := 4) (v := .int x) mc_145 dX6_part_52 rfl rfl (Nat.le_of_ble_eq_true rfl) rfl ⟨Or.inr, fun h => h.resolve_left (by decide)⟩
theorem e145_54 : mm_E 145 54 [l0, l1, l2, l3, l4, some (.int x), l6, l7, l8, l9] st I r Q ↔ mm_c1 l4 ∧ mm_E 145 57 [l0, l1, l2, l3, l4, some (.int (x + 1)), l6, l7, l8, l9] st I r Q := me_st (k := 5) (v := .int (x + 1)) mc_145 dX6_part_54 rfl rfl (Nat.le_of_ble_eq_true rfl) rfl ⟨Or.inr, fun h => h.resolve_left (by decide)⟩
theorem e145_57 : mm_E 145 57 ls st I r Q ↔ mm_E 145 34 ls st I r Q := me_goto mc_145 dX6_part_57 (by decide)
theorem e145_60 : mm_E 145 60 ls st I r Q ↔ mm_E 145 62 ls (.int (-4) :: st) I r Q := me_bi mc_145 dX6_part_60 (by decide)
theorem e145_62 : mm_E 145 62 [l0, l1, l2, l3, l4, l5, l6, l7, l8, l9] (.int x :: st) I r Q ↔ mm_c1 l4 ∧ mm_E 145 64 [l0, l1, l2, l3, l4, some (.int x), l6, l7, l8, l9] st I r Q := me_st (k := 5) (v := .int x) mc_145 dX6_part_62 rfl rfl (Nat.le_of_ble_eq_true rfl) rfl ⟨Or.inr, fun h => h.resolve_left (by decide)⟩
theorem e145_64 : mm_E 145 64 ls st I r Q ↔ mm_E 145 66 ls (.int (-4) :: st) I r Q := me_bi mc_145 dX6_part_64 (by decide)
theorem e145_66 : mm_E 145 66 [l0, l1, l2, l3, l4, l5, l6, l7, l8, l9] (.int x :: st) I r Q ↔ mm_c1 l5 ∧ mm_E 145 68 [l0, l1, l2, l3, l4, l5, some (.int x), l7, l8, l9] st I r Q := me_st (k := 6) (v := .int x) mc_145 dX6_part_66 rfl rfl (Nat.le_of_ble_eq_true rfl) rfl ⟨Or.inr, fun h => h.resolve_left (by decide)⟩
theorem e145_68 : mm_E 145 68 ls st I r Q ↔ mm_E 145 69 ls (.int 0 :: st) I r Q := me_ic mc_145 dX6_part_68 (by decide)
theorem e145_69 : mm_E 145 69 [l0, l1, l2, l3, l4, l5, l6, l7, l8, l9] (.int x :: st) I r Q ↔ mm_c1 l6 ∧ mm_E 145 71 [l0, l1, l2, l3, l4, l5, l6, some (.int x), l8, l9] st I r Q := me_st (k := 7) (v := .int x) mc_145 dX6_part_69 rfl rfl (Nat.le_of_ble_eq_true rfl) rfl ⟨Or.inr, fun h => h.resolve_left (by decide)⟩
theorem e145_71 : mm_E 145 71 [l0, l1, l2, l3, l4, l5, l6, some (.int x), l8, l9] st I r Q ↔ mm_E 145 73 [l0, l1, l2, l3, l4, l5, l6, some (.int x), l8, l9] (.int x :: st) I r Q := me_il2 mc_145 dX6_part_71 rfl
theorem e145_73 : mm_E 145 73 [l0, l1, l2, l3, some (.int x), l5, l6, l7, l8, l9] st I r Q ↔ mm_E 145 75 [l0, l1, l2, l3, some (.int x), l5, l6, l7, l8, l9] (.int x :: st) I r Q := me_il2 mc_145 dX6_part_73 rfl
theorem e145_75 : mm_E 145 75 ls (.int y :: .int x :: st) I r Q ↔ if y ≤ x then mm_E 145 207 ls st I r Q else mm_E 145 78 ls st I r Q := me_cge mc_145 dX6_part_75 (by decide)
theorem e145_78 : mm_E 145 78 [some (.ref a), l1, l2, l3, l4, l5, l6, l7, l8, l9] st I r Q ↔ mm_E 145 79 [some (.ref a), l1, l2, l3, l4, l5, l6, l7, l8, l9] (.ref a :: st) I r Q := me_al mc_145 dX6_part_78 rfl
theorem e145_79 : mm_E 145 79 ls (.ref a :: st) I r Q ↔ mm_S r a = (1, 6) ∧ mm_E 145 82 ls (va_rf (mm_P r a 7) :: st) I r Q := me_gr mc_145 dX6_part_79 (by decide +kernel) rfl
theorem e145_82 : mm_E 145 82 ls st I r Q ↔ mm_E 145 84 ls (.int 27 :: st) I r Q := me_bi mc_145 dX6_part_82 (by decide)
theorem e145_84 : mm_E 145 84 ls (.int x :: .ref a :: st) I r Q ↔ mm_ix r a 2 x ∧ mm_E 145 85 ls (.int (mm_rd I a x.toNatClampNeg) :: st) I r Q := me_ia mc_145 dX6_part_84
theorem e145_85 : mm_E 145 85 ls (.int x :: st) I r Q ↔ if x ≤ 0 then mm_E 145 207 ls st I r Q else mm_E 145 88 ls st I r Q := me_zle mc_145 dX6_part_85 (by decide)
theorem e145_88 : mm_E 145 88 [some (.ref a), l1, l2, l3, l4, l5, l6, l7, l8, l9] st I r Q ↔ mm_E 145 89 [some (.ref a), l1, l2, l3, l4, l5, l6, l7, l8, l9] (.ref a :: st) I r Q := me_al mc_145 dX6_part_88 rfl
theorem e145_89 : mm_E 145 89 [l0, l1, l2, l3, l4, l5, l6, some (.int x), l8, l9] st I r Q ↔ mm_E 145 91 [l0, l1, l2, l3, l4, l5, l6, some (.int x), l8, l9] (.int x :: st) I r Q := me_il2 mc_145 dX6_part_89 rfl
theorem e145_91 : mm_E 145 91 [l0, some (.int x), l2, l3, l4, l5, l6, l7, l8, l9] st I r Q ↔ mm_E 145 92 [l0, some (.int x), l2, l3, l4, l5, l6, l7, l8, l9] (.int x :: st) I r Q := me_il mc_145 dX6_part_91 rfl
theorem e145_92 : ∀ (x0 : Int32) (x1 : Int32), (mm_E 145 92 ls (.int x1 :: .int x0 :: .ref a :: st) I r Q ↔ (mm_w8 st = true ∧ mm_S r a = (1, 6)) ∧ mm_E 144 0 [some (.ref a), some (.int x0), some (.int x1), none, none, none] [] I r (fun v I2 r2 => mm_E 145 95 ls (mm_pu v st) I2 r2 Q)) := fun x0 x1 => me_vc (n := 2) (As := [.int x0, .int x1]) (xs := [.int x1, .int x0]) (a := a) mc_145 dX6_part_92 (by decide +kernel) (by decide +kernel) rfl rfl (Nat.le_of_ble_eq_true rfl) rfl
theorem e145_95 : mm_E 145 95 ls (.int x :: st) I r Q ↔ if x = 0 then mm_E 145 201 ls st I r Q else mm_E 145 98 ls st I r Q := me_zeq mc_145 dX6_part_95 (by decide)
theorem e145_98 : mm_E 145 98 [some (.ref a), l1, l2, l3, l4, l5, l6, l7, l8, l9] st I r Q ↔ mm_E 145 99 [some (.ref a), l1, l2, l3, l4, l5, l6, l7, l8, l9] (.ref a :: st) I r Q := me_al mc_145 dX6_part_98 rfl
theorem e145_99 : (mm_E 145 99 ls (.ref a :: st) I r Q ↔ (mm_w8 st = true ∧ mm_S r a = (1, 6)) ∧ mm_E 136 0 [some (.ref a), none] [] I r (fun v I2 r2 => mm_E 145 102 ls (mm_pu v st) I2 r2 Q)) := me_vc (n := 0) (As := []) (xs := []) (a := a) mc_145 dX6_part_99 (by decide +kernel) (by decide +kernel) rfl rfl (Nat.le_of_ble_eq_true rfl) rfl
theorem e145_102 : mm_E 145 102 [some (.ref a), l1, l2, l3, l4, l5, l6, l7, l8, l9] st I r Q ↔ mm_E 145 103 [some (.ref a), l1, l2, l3, l4, l5, l6, l7, l8, l9] (.ref a :: st) I r Q := me_al mc_145 dX6_part_102 rfl
theorem e145_103 : mm_E 145 103 ls (.ref a :: st) I r Q ↔ mm_S r a = (1, 6) ∧ mm_E 145 106 ls (va_rf (mm_P r a 14) :: st) I r Q := me_gr mc_145 dX6_part_103 (by decide +kernel) rfl
theorem e145_106 : mm_E 145 106 ls st I r Q ↔ mm_E 145 107 ls (.int 0 :: st) I r Q := me_ic mc_145 dX6_part_106 (by decide)
theorem e145_107 : mm_E 145 107 [some (.ref a), l1, l2, l3, l4, l5, l6, l7, l8, l9] st I r Q ↔ mm_E 145 108 [some (.ref a), l1, l2, l3, l4, l5, l6, l7, l8, l9] (.ref a :: st) I r Q := me_al mc_145 dX6_part_107 rfl
theorem e145_108 : mm_E 145 108 ls (.ref a :: st) I r Q ↔ mm_S r a = (1, 6) ∧ mm_E 145 111 ls (va_rf (mm_P r a 8) :: st) I r Q := me_gr mc_145 dX6_part_108 (by decide +kernel) rfl
theorem e145_111 : mm_E 145 111 ls st I r Q ↔ mm_E 145 113 ls (.int 9 :: st) I r Q := me_bi mc_145 dX6_part_111 (by decide)
theorem e145_113 : mm_E 145 113 [some (.ref a), l1, l2, l3, l4, l5, l6, l7, l8, l9] st I r Q ↔ mm_E 145 114 [some (.ref a), l1, l2, l3, l4, l5, l6, l7, l8, l9] (.ref a :: st) I r Q := me_al mc_145 dX6_part_113 rfl
theorem e145_114 : mm_E 145 114 ls (.ref a :: st) I r Q ↔ mm_S r a = (1, 6) ∧ mm_E 145 117 ls (va_rf (mm_P r a 7) :: st) I r Q := me_gr mc_145 dX6_part_114 (by decide +kernel) rfl
theorem e145_117 : mm_E 145 117 ls st I r Q ↔ mm_E 145 119 ls (.int 27 :: st) I r Q := me_bi mc_145 dX6_part_117 (by decide)
theorem e145_119 : mm_E 145 119 ls (.int x :: .ref a :: st) I r Q ↔ mm_ix r a 2 x ∧ mm_E 145 120 ls (.int (mm_rd I a x.toNatClampNeg) :: st) I r Q := me_ia mc_145 dX6_part_119
theorem e145_120 : ∀ (x0 : Nat) (x1 : Int32) (x2 : Nat) (x3 : Int32) (x4 : Int32), (mm_E 145 120 ls (.int x4 :: .int x3 :: .ref x2 :: .int x1 :: .ref x0 :: st) I r Q ↔ mm_w8 st = true ∧ mm_E 96 0 [some (.ref x0), some (.int x1), some (.ref x2), some (.int x3), some (.int x4), none] [] I r (fun v I2 r2 => mm_E 145 123 ls (mm_pu v st) I2 r2 Q)) := fun x0 x1 x2 x3 x4 => me_sc (n := 5) (As := [.ref x0, .int x1, .ref x2, .int x3, .int x4]) (xs := [.int x4, .int x3, .ref x2, .int x1, .ref x0]) mc_145 dX6_part_120 (by decide +kernel) (by decide +kernel) rfl rfl (Nat.le_of_ble_eq_true rfl) rfl
theorem e145_123 : mm_E 145 123 [some (.ref a), l1, l2, l3, l4, l5, l6, l7, l8, l9] st I r Q ↔ mm_E 145 124 [some (.ref a), l1, l2, l3, l4, l5, l6, l7, l8, l9] (.ref a :: st) I r Q := me_al mc_145 dX6_part_123 rfl
theorem e145_124 : mm_E 145 124 [l0, l1, some (.int x), l3, l4, l5, l6, l7, l8, l9] st I r Q ↔ mm_E 145 125 [l0, l1, some (.int x), l3, l4, l5, l6, l7, l8, l9] (.int x :: st) I r Q := me_il mc_145 dX6_part_124 rfl
theorem e145_125 : ∀ (x0 : Int32), (mm_E 145 125 ls (.int x0 :: .ref a :: st) I r Q ↔ (mm_w8 st = true ∧ mm_S r a = (1, 6)) ∧ mm_E 137 0 [some (.ref a), some (.int x0), none] [] I r (fun v I2 r2 => mm_E 145 128 ls (mm_pu v st) I2 r2 Q)) := fun x0 => me_vc (n := 1) (As := [.int x0]) (xs := [.int x0]) (a := a) mc_145 dX6_part_125 (by decide +kernel) (by decide +kernel) rfl rfl (Nat.le_of_ble_eq_true rfl) rfl
theorem e145_128 : mm_E 145 128 [some (.ref a), l1, l2, l3, l4, l5, l6, l7, l8, l9] st I r Q ↔ mm_E 145 129 [some (.ref a), l1, l2, l3, l4, l5, l6, l7, l8, l9] (.ref a :: st) I r Q := me_al mc_145 dX6_part_128 rfl
theorem e145_129 : mm_E 145 129 ls (.ref a :: st) I r Q ↔ mm_S r a = (1, 6) ∧ mm_E 145 132 ls (va_rf (mm_P r a 7) :: st) I r Q := me_gr mc_145 dX6_part_129 (by decide +kernel) rfl
theorem e145_132 : mm_E 145 132 ls st I r Q ↔ mm_E 145 134 ls (.int 27 :: st) I r Q := me_bi mc_145 dX6_part_132 (by decide)
theorem e145_134 : mm_E 145 134 ls (.int x :: .ref a :: st) I r Q ↔ mm_ix r a 2 x ∧ mm_E 145 135 ls (.int (mm_rd I a x.toNatClampNeg) :: st) I r Q := me_ia mc_145 dX6_part_134
theorem e145_135 : mm_E 145 135 [some (.ref a), l1, l2, l3, l4, l5, l6, l7, l8, l9] st I r Q ↔ mm_E 145 136 [some (.ref a), l1, l2, l3, l4, l5, l6, l7, l8, l9] (.ref a :: st) I r Q := me_al mc_145 dX6_part_135 rfl
theorem e145_136 : mm_E 145 136 ls (.ref a :: st) I r Q ↔ mm_S r a = (1, 6) ∧ mm_E 145 139 ls (va_rf (mm_P r a 8) :: st) I r Q := me_gr mc_145 dX6_part_136 (by decide +kernel) rfl
theorem e145_139 : ∀ (x0 : Nat), (mm_E 145 139 ls (.ref x0 :: st) I r Q ↔ mm_w8 st = true ∧ mm_E 119 0 [some (.ref x0), none, none] [] I r (fun v I2 r2 => mm_E 145 142 ls (mm_pu v st) I2 r2 Q)) := fun x0 => me_sc (n := 1) (As := [.ref x0]) (xs := [.ref x0]) mc_145 dX6_part_139 (by decide +kernel) (by decide +kernel) rfl rfl (Nat.le_of_ble_eq_true rfl) rfl
theorem e145_142 : ∀ (x0 : Int32), (mm_E 145 142 ls (.int x0 :: st) I r Q ↔ mm_w8 st = true ∧ mm_E 95 0 [some (.int x0), none, none] [] I r (fun v I2 r2 => mm_E 145 145 ls (mm_pu v st) I2 r2 Q)) := fun x0 => me_sc (n := 1) (As := [.int x0]) (xs := [.int x0]) mc_145 dX6_part_142 (by decide +kernel) (by decide +kernel) rfl rfl (Nat.le_of_ble_eq_true rfl) rfl
theorem e145_145 : mm_E 145 145 ls (.int y :: .int x :: st) I r Q ↔ mm_E 145 146 ls (.int (x - y) :: st) I r Q := me_isub mc_145 dX6_part_145
theorem e145_146 : mm_E 145 146 [l0, l1, l2, l3, l4, l5, l6, l7, l8, l9] (.int x :: st) I r Q ↔ mm_c1 l7 ∧ mm_E 145 148 [l0, l1, l2, l3, l4, l5, l6, l7, some (.int x), l9] st I r Q := me_st (k := 8) (v := .int x) mc_145 dX6_part_146 rfl rfl (Nat.le_of_ble_eq_true rfl) rfl ⟨Or.inr, fun h => h.resolve_left (by decide)⟩
theorem e145_148 : mm_E 145 148 [some (.ref a), l1, l2, l3, l4, l5, l6, l7, l8, l9] st I r Q ↔ mm_E 145 149 [some (.ref a), l1, l2, l3, l4, l5, l6, l7, l8, l9] (.ref a :: st) I r Q := me_al mc_145 dX6_part_148 rfl
theorem e145_149 : mm_E 145 149 ls (.ref a :: st) I r Q ↔ mm_S r a = (1, 6) ∧ mm_E 145 152 ls (va_rf (mm_P r a 8) :: st) I r Q := me_gr mc_145 dX6_part_149 (by decide +kernel) rfl
theorem e145_152 : ∀ (x0 : Nat), (mm_E 145 152 ls (.ref x0 :: st) I r Q ↔ mm_w8 st = true ∧ mm_E 120 0 [some (.ref x0), none, none] [] I r (fun v I2 r2 => mm_E 145 155 ls (mm_pu v st) I2 r2 Q)) := fun x0 => me_sc (n := 1) (As := [.ref x0]) (xs := [.ref x0]) mc_145 dX6_part_152 (by decide +kernel) (by decide +kernel) rfl rfl (Nat.le_of_ble_eq_true rfl) rfl
theorem e145_155 : mm_E 145 155 [l0, l1, l2, l3, l4, l5, l6, l7, l8, l9] (.int x :: st) I r Q ↔ mm_c1 l8 ∧ mm_E 145 157 [l0, l1, l2, l3, l4, l5, l6, l7, l8, some (.int x)] st I r Q := me_st (k := 9) (v := .int x) mc_145 dX6_part_155 rfl rfl (Nat.le_of_ble_eq_true rfl) rfl ⟨Or.inr, fun h => h.resolve_left (by decide)⟩
theorem e145_157 : mm_E 145 157 [l0, l1, l2, l3, l4, l5, l6, l7, some (.int x), l9] st I r Q ↔ mm_E 145 159 [l0, l1, l2, l3, l4, l5, l6, l7, some (.int x), l9] (.int x :: st) I r Q := me_il2 mc_145 dX6_part_157 rfl
theorem e145_159 : mm_E 145 159 [l0, l1, l2, l3, l4, some (.int x), l6, l7, l8, l9] st I r Q ↔ mm_E 145 161 [l0, l1, l2, l3, l4, some (.int x), l6, l7, l8, l9] (.int x :: st) I r Q := me_il2 mc_145 dX6_part_159 rfl
theorem e145_161 : mm_E 145 161 ls (.int y :: .int x :: st) I r Q ↔ if y < x then mm_E 145 178 ls st I r Q else mm_E 145 164 ls st I r Q := me_cgt mc_145 dX6_part_161 (by decide)
theorem e145_164 : mm_E 145 164 [l0, l1, l2, l3, l4, l5, l6, l7, some (.int x), l9] st I r Q ↔ mm_E 145 166 [l0, l1, l2, l3, l4, l5, l6, l7, some (.int x), l9] (.int x :: st) I r Q := me_il2 mc_145 dX6_part_164 rfl
theorem e145_166 : mm_E 145 166 [l0, l1, l2, l3, l4, some (.int x), l6, l7, l8, l9] st I r Q ↔ mm_E 145 168 [l0, l1, l2, l3, l4, some (.int x), l6, l7, l8, l9] (.int x :: st) I r Q := me_il2 mc_145 dX6_part_166 rfl
theorem e145_168 : mm_E 145 168 ls (.int y :: .int x :: st) I r Q ↔ if ¬ x = y then mm_E 145 201 ls st I r Q else mm_E 145 171 ls st I r Q := me_cne mc_145 dX6_part_168 (by decide)
theorem e145_171 : mm_E 145 171 [l0, l1, l2, l3, l4, l5, l6, l7, l8, some (.int x)] st I r Q ↔ mm_E 145 173 [l0, l1, l2, l3, l4, l5, l6, l7, l8, some (.int x)] (.int x :: st) I r Q := me_il2 mc_145 dX6_part_171 rfl
theorem e145_173 : mm_E 145 173 [l0, l1, l2, l3, l4, l5, some (.int x), l7, l8, l9] st I r Q ↔ mm_E 145 175 [l0, l1, l2, l3, l4, l5, some (.int x), l7, l8, l9] (.int x :: st) I r Q := me_il2 mc_145 dX6_part_173 rfl
theorem e145_175 : mm_E 145 175 ls (.int y :: .int x :: st) I r Q ↔ if y ≤ x then mm_E 145 201 ls st I r Q else mm_E 145 178 ls st I r Q := me_cge mc_145 dX6_part_175 (by decide)
theorem e145_178 : mm_E 145 178 [l0, l1, l2, l3, l4, l5, l6, l7, some (.int x), l9] st I r Q ↔ mm_E 145 180 [l0, l1, l2, l3, l4, l5, l6, l7, some (.int x), l9] (.int x :: st) I r Q := me_il2 mc_145 dX6_part_178 rfl
theorem e145_180 : mm_E 145 180 [l0, l1, l2, l3, l4, l5, l6, l7, l8, l9] (.int x :: st) I r Q ↔ mm_c1 l4 ∧ mm_E 145 182 [l0, l1, l2, l3, l4, some (.int x), l6, l7, l8, l9] st I r Q := me_st (k := 5) (v := .int x) mc_145 dX6_part_180 rfl rfl (Nat.le_of_ble_eq_true rfl) rfl ⟨Or.inr, fun h => h.resolve_left (by decide)⟩
theorem e145_182 : mm_E 145 182 [l0, l1, l2, l3, l4, l5, l6, l7, l8, some (.int x)] st I r Q ↔ mm_E 145 184 [l0, l1, l2, l3, l4, l5, l6, l7, l8, some (.int x)] (.int x :: st) I r Q := me_il2 mc_145 dX6_part_182 rfl
theorem e145_184 : mm_E 145 184 [l0, l1, l2, l3, l4, l5, l6, l7, l8, l9] (.int x :: st) I r Q ↔ mm_c1 l5 ∧ mm_E 145 186 [l0, l1, l2, l3, l4, l5, some (.int x), l7, l8, l9] st I r Q := me_st (k := 6) (v := .int x) mc_145 dX6_part_184 rfl rfl (Nat.le_of_ble_eq_true rfl) rfl ⟨Or.inr, fun h => h.resolve_left (by decide)⟩
theorem e145_186 : mm_E 145 186 [some (.ref a), l1, l2, l3, l4, l5, l6, l7, l8, l9] st I r Q ↔ mm_E 145 187 [some (.ref a), l1, l2, l3, l4, l5, l6, l7, l8, l9] (.ref a :: st) I r Q := me_al mc_145 dX6_part_186 rfl
theorem e145_187 : mm_E 145 187 ls (.ref a :: st) I r Q ↔ mm_S r a = (1, 6) ∧ mm_E 145 190 ls (va_rf (mm_P r a 14) :: st) I r Q := me_gr mc_145 dX6_part_187 (by decide +kernel) rfl
theorem e145_190 : mm_E 145 190 ls st I r Q ↔ mm_E 145 191 ls (.int 0 :: st) I r Q := me_ic mc_145 dX6_part_190 (by decide)
theorem e145_191 : mm_E 145 191 [some (.ref a), l1, l2, l3, l4, l5, l6, l7, l8, l9] st I r Q ↔ mm_E 145 192 [some (.ref a), l1, l2, l3, l4, l5, l6, l7, l8, l9] (.ref a :: st) I r Q := me_al mc_145 dX6_part_191 rfl
theorem e145_192 : mm_E 145 192 ls (.ref a :: st) I r Q ↔ mm_S r a = (1, 6) ∧ mm_E 145 195 ls (va_rf (mm_P r a 15) :: st) I r Q := me_gr mc_145 dX6_part_192 (by decide +kernel) rfl
theorem e145_195 : mm_E 145 195 ls st I r Q ↔ mm_E 145 196 ls (.int 0 :: st) I r Q := me_ic mc_145 dX6_part_195 (by decide)
theorem e145_196 : mm_E 145 196 ls st I r Q ↔ mm_E 145 198 ls (.int 6 :: st) I r Q := me_bi mc_145 dX6_part_196 (by decide)
theorem e145_198 : ∀ (x0 : Nat) (x1 : Int32) (x2 : Nat) (x3 : Int32) (x4 : Int32), (mm_E 145 198 ls (.int x4 :: .int x3 :: .ref x2 :: .int x1 :: .ref x0 :: st) I r Q ↔ mm_w8 st = true ∧ mm_E 96 0 [some (.ref x0), some (.int x1), some (.ref x2), some (.int x3), some (.int x4), none] [] I r (fun v I2 r2 => mm_E 145 201 ls (mm_pu v st) I2 r2 Q)) := fun x0 x1 x2 x3 x4 => me_sc (n := 5) (As := [.ref x0, .int x1, .ref x2, .int x3, .int x4]) (xs := [.int x4, .int x3, .ref x2, .int x1, .ref x0]) mc_145 dX6_part_198 (by decide +kernel) (by decide +kernel) rfl rfl (Nat.le_of_ble_eq_true rfl) rfl
theorem e145_201 : mm_E 145 201 [l0, l1, l2, l3, l4, l5, l6, some (.int x), l8, l9] st I r Q ↔ mm_c1 l6 ∧ mm_E 145 204 [l0, l1, l2, l3, l4, l5, l6, some (.int (x + 1)), l8, l9] st I r Q := me_st (k := 7) (v := .int (x + 1)) mc_145 dX6_part_201 rfl rfl (Nat.le_of_ble_eq_true rfl) rfl ⟨Or.inr, fun h => h.resolve_left (by decide)⟩
theorem e145_204 : mm_E 145 204 ls st I r Q ↔ mm_E 145 71 ls st I r Q := me_goto mc_145 dX6_part_204 (by decide)
theorem e145_207 : mm_E 145 207 [l0, l1, l2, some (.int x), l4, l5, l6, l7, l8, l9] st I r Q ↔ mm_E 145 208 [l0, l1, l2, some (.int x), l4, l5, l6, l7, l8, l9] (.int x :: st) I r Q := me_il mc_145 dX6_part_207 rfl
theorem e145_208 : mm_E 145 208 ls (.int x :: st) I r Q ↔ if 0 ≤ x then mm_E 145 224 ls st I r Q else mm_E 145 211 ls st I r Q := me_zge mc_145 dX6_part_208 (by decide)
theorem e145_211 : mm_E 145 211 [l0, l1, l2, some (.int x), l4, l5, l6, l7, l8, l9] st I r Q ↔ mm_E 145 212 [l0, l1, l2, some (.int x), l4, l5, l6, l7, l8, l9] (.int x :: st) I r Q := me_il mc_145 dX6_part_211 rfl
theorem e145_212 : mm_E 145 212 ls st I r Q ↔ mm_E 145 213 ls (.int (-1) :: st) I r Q := me_ic mc_145 dX6_part_212 (by decide)
theorem e145_213 : mm_E 145 213 ls (.int y :: .int x :: st) I r Q ↔ if ¬ x = y then mm_E 145 221 ls st I r Q else mm_E 145 216 ls st I r Q := me_cne mc_145 dX6_part_213 (by decide)
theorem e145_216 : mm_E 145 216 [l0, l1, l2, l3, l4, some (.int x), l6, l7, l8, l9] st I r Q ↔ mm_E 145 218 [l0, l1, l2, l3, l4, some (.int x), l6, l7, l8, l9] (.int x :: st) I r Q := me_il2 mc_145 dX6_part_216 rfl
theorem e145_218 : mm_E 145 218 ls st I r Q ↔ mm_E 145 223 ls st I r Q := me_goto mc_145 dX6_part_218 (by decide)
theorem e145_221 : mm_E 145 221 [l0, l1, l2, l3, l4, l5, some (.int x), l7, l8, l9] st I r Q ↔ mm_E 145 223 [l0, l1, l2, l3, l4, l5, some (.int x), l7, l8, l9] (.int x :: st) I r Q := me_il2 mc_145 dX6_part_221 rfl
theorem e145_223 : mm_E 145 223 ls [.int x] I r Q ↔ Q (some (.int x)) I r := me_ri mc_145 dX6_part_223 rfl
theorem e145_224 : mm_E 145 224 [some (.ref a), l1, l2, l3, l4, l5, l6, l7, l8, l9] st I r Q ↔ mm_E 145 225 [some (.ref a), l1, l2, l3, l4, l5, l6, l7, l8, l9] (.ref a :: st) I r Q := me_al mc_145 dX6_part_224 rfl
theorem e145_225 : mm_E 145 225 [l0, l1, l2, some (.int x), l4, l5, l6, l7, l8, l9] st I r Q ↔ mm_E 145 226 [l0, l1, l2, some (.int x), l4, l5, l6, l7, l8, l9] (.int x :: st) I r Q := me_il mc_145 dX6_part_225 rfl
theorem e145_226 : ∀ (x0 : Int32), (mm_E 145 226 ls (.int x0 :: .ref a :: st) I r Q ↔ (mm_w8 st = true ∧ mm_S r a = (1, 6)) ∧ mm_E 97 0 [some (.ref a), some (.int x0)] [] I r (fun v I2 r2 => mm_E 145 229 ls (mm_pu v st) I2 r2 Q)) := fun x0 => me_vc (n := 1) (As := [.int x0]) (xs := [.int x0]) (a := a) mc_145 dX6_part_226 (by decide +kernel) (by decide +kernel) rfl rfl (Nat.le_of_ble_eq_true rfl) rfl
theorem e145_229 : mm_E 145 229 ls (.int x :: st) I r Q ↔ if x = 0 then mm_E 145 241 ls st I r Q else mm_E 145 232 ls st I r Q := me_zeq mc_145 dX6_part_229 (by decide)
theorem e145_232 : mm_E 145 232 [some (.ref a), l1, l2, l3, l4, l5, l6, l7, l8, l9] st I r Q ↔ mm_E 145 233 [some (.ref a), l1, l2, l3, l4, l5, l6, l7, l8, l9] (.ref a :: st) I r Q := me_al mc_145 dX6_part_232 rfl
theorem e145_233 : mm_E 145 233 ls (.ref a :: st) I r Q ↔ mm_S r a = (1, 6) ∧ mm_E 145 236 ls (va_rf (mm_P r a 15) :: st) I r Q := me_gr mc_145 dX6_part_233 (by decide +kernel) rfl
theorem e145_236 : mm_E 145 236 [l0, l1, l2, some (.int x), l4, l5, l6, l7, l8, l9] st I r Q ↔ mm_E 145 237 [l0, l1, l2, some (.int x), l4, l5, l6, l7, l8, l9] (.int x :: st) I r Q := me_il mc_145 dX6_part_236 rfl
theorem e145_237 : mm_E 145 237 ls (.int x :: .ref a :: st) I r Q ↔ mm_ix r a 2 x ∧ mm_E 145 238 ls (.int (mm_rd I a x.toNatClampNeg) :: st) I r Q := me_ia mc_145 dX6_part_237
theorem e145_238 : mm_E 145 238 ls st I r Q ↔ mm_E 145 243 ls st I r Q := me_goto mc_145 dX6_part_238 (by decide)
theorem e145_241 : mm_E 145 241 ls st I r Q ↔ mm_E 145 243 ls (.int (-4) :: st) I r Q := me_bi mc_145 dX6_part_241 (by decide)
theorem e145_243 : mm_E 145 243 ls [.int x] I r Q ↔ Q (some (.int x)) I r := me_ri mc_145 dX6_part_243 rfl
theorem mc_146 : mm_c 146 = cX6_drives := rfl
theorem e146_0 : mm_E 146 0 [some (.ref a), l1, l2, l3, l4, l5, l6, l7, l8, l9] st I r Q ↔ mm_E 146 1 [some (.ref a), l1, l2, l3, l4, l5, l6, l7, l8, l9] (.ref a :: st) I r Q := me_al mc_146 dX6_drives_0 rfl
theorem e146_1 : mm_E 146 1 [l0, some (.int x), l2, l3, l4, l5, l6, l7, l8, l9] st I r Q ↔ mm_E 146 2 [l0, some (.int x), l2, l3, l4, l5, l6, l7, l8, l9] (.int x :: st) I r Q := me_il mc_146 dX6_drives_1 rfl
theorem e146_2 : ∀ (x0 : Int32), (mm_E 146 2 ls (.int x0 :: .ref a :: st) I r Q ↔ (mm_w8 st = true ∧ mm_S r a = (1, 6)) ∧ mm_E 97 0 [some (.ref a), some (.int x0)] [] I r (fun v I2 r2 => mm_E 146 5 ls (mm_pu v st) I2 r2 Q)) := fun x0 => me_vc (n := 1) (As := [.int x0]) (xs := [.int x0]) (a := a) mc_146 dX6_drives_2 (by decide +kernel) (by decide +kernel) rfl rfl (Nat.le_of_ble_eq_true rfl) rfl
theorem e146_5 : mm_E 146 5 ls (.int x :: st) I r Q ↔ if x = 0 then mm_E 146 27 ls st I r Q else mm_E 146 8 ls st I r Q := me_zeq mc_146 dX6_drives_5 (by decide)
theorem e146_8 : mm_E 146 8 [l0, l1, some (.int x), l3, l4, l5, l6, l7, l8, l9] st I r Q ↔ mm_E 146 9 [l0, l1, some (.int x), l3, l4, l5, l6, l7, l8, l9] (.int x :: st) I r Q := me_il mc_146 dX6_drives_8 rfl
theorem e146_9 : mm_E 146 9 ls st I r Q ↔ mm_E 146 10 ls (.int 1 :: st) I r Q := me_ic mc_146 dX6_drives_9 (by decide)
theorem e146_10 : mm_E 146 10 ls st I r Q ↔ mm_E 146 12 ls (.int 40 :: st) I r Q := me_bi mc_146 dX6_drives_10 (by decide)
theorem e146_12 : ∀ (x0 : Int32) (x1 : Int32) (x2 : Int32), (mm_E 146 12 ls (.int x2 :: .int x1 :: .int x0 :: st) I r Q ↔ mm_w8 st = true ∧ mm_E 93 0 [some (.int x0), some (.int x1), some (.int x2)] [] I r (fun v I2 r2 => mm_E 146 15 ls (mm_pu v st) I2 r2 Q)) := fun x0 x1 x2 => me_sc (n := 3) (As := [.int x0, .int x1, .int x2]) (xs := [.int x2, .int x1, .int x0]) mc_146 dX6_drives_12 (by decide +kernel) (by decide +kernel) rfl rfl (Nat.le_of_ble_eq_true rfl) rfl
theorem e146_15 : mm_E 146 15 ls (.int x :: st) I r Q ↔ if x = 0 then mm_E 146 27 ls st I r Q else mm_E 146 18 ls st I r Q := me_zeq mc_146 dX6_drives_15 (by decide)
theorem e146_18 : mm_E 146 18 [l0, l1, l2, some (.int x), l4, l5, l6, l7, l8, l9] st I r Q ↔ mm_E 146 19 [l0, l1, l2, some (.int x), l4, l5, l6, l7, l8, l9] (.int x :: st) I r Q := me_il mc_146 dX6_drives_18 rfl
theorem e146_19 : mm_E 146 19 ls st I r Q ↔ mm_E 146 20 ls (.int 0 :: st) I r Q := me_ic mc_146 dX6_drives_19 (by decide)
theorem e146_20 : mm_E 146 20 ls st I r Q ↔ mm_E 146 21 ls (.int 1 :: st) I r Q := me_ic mc_146 dX6_drives_20 (by decide)
theorem e146_21 : ∀ (x0 : Int32) (x1 : Int32) (x2 : Int32), (mm_E 146 21 ls (.int x2 :: .int x1 :: .int x0 :: st) I r Q ↔ mm_w8 st = true ∧ mm_E 93 0 [some (.int x0), some (.int x1), some (.int x2)] [] I r (fun v I2 r2 => mm_E 146 24 ls (mm_pu v st) I2 r2 Q)) := fun x0 x1 x2 => me_sc (n := 3) (As := [.int x0, .int x1, .int x2]) (xs := [.int x2, .int x1, .int x0]) mc_146 dX6_drives_21 (by decide +kernel) (by decide +kernel) rfl rfl (Nat.le_of_ble_eq_true rfl) rfl
theorem e146_24 : mm_E 146 24 ls (.int x :: st) I r Q ↔ if ¬ x = 0 then mm_E 146 29 ls st I r Q else mm_E 146 27 ls st I r Q := me_zne mc_146 dX6_drives_24 (by decide)
theorem e146_27 : mm_E 146 27 ls st I r Q ↔ mm_E 146 28 ls (.int (-1) :: st) I r Q := me_ic mc_146 dX6_drives_27 (by decide)
theorem e146_28 : mm_E 146 28 ls [.int x] I r Q ↔ Q (some (.int x)) I r := me_ri mc_146 dX6_drives_28 rfl
theorem e146_29 : mm_E 146 29 ls st I r Q ↔ mm_E 146 31 ls (.int (-4) :: st) I r Q := me_bi mc_146 dX6_drives_29 (by decide)
theorem e146_31 : mm_E 146 31 [l0, l1, l2, l3, l4, l5, l6, l7, l8, l9] (.int x :: st) I r Q ↔ mm_c1 l3 ∧ mm_E 146 33 [l0, l1, l2, l3, some (.int x), l5, l6, l7, l8, l9] st I r Q := me_st (k := 4) (v := .int x) mc_146 dX6_drives_31 rfl rfl (Nat.le_of_ble_eq_true rfl) rfl ⟨Or.inr, fun h => h.resolve_left (by decide)⟩
theorem e146_33 : mm_E 146 33 ls st I r Q ↔ mm_E 146 35 ls (.int (-4) :: st) I r Q := me_bi mc_146 dX6_drives_33 (by decide)
theorem e146_35 : mm_E 146 35 [l0, l1, l2, l3, l4, l5, l6, l7, l8, l9] (.int x :: st) I r Q ↔ mm_c1 l4 ∧ mm_E 146 37 [l0, l1, l2, l3, l4, some (.int x), l6, l7, l8, l9] st I r Q := me_st (k := 5) (v := .int x) mc_146 dX6_drives_35 rfl rfl (Nat.le_of_ble_eq_true rfl) rfl ⟨Or.inr, fun h => h.resolve_left (by decide)⟩
theorem e146_37 : mm_E 146 37 ls st I r Q ↔ mm_E 146 39 ls (.int (-4) :: st) I r Q := me_bi mc_146 dX6_drives_37 (by decide)
theorem e146_39 : mm_E 146 39 [l0, l1, l2, l3, l4, l5, l6, l7, l8, l9] (.int x :: st) I r Q ↔ mm_c1 l5 ∧ mm_E 146 41 [l0, l1, l2, l3, l4, l5, some (.int x), l7, l8, l9] st I r Q := me_st (k := 6) (v := .int x) mc_146 dX6_drives_39 rfl rfl (Nat.le_of_ble_eq_true rfl) rfl ⟨Or.inr, fun h => h.resolve_left (by decide)⟩
theorem e146_41 : mm_E 146 41 ls st I r Q ↔ mm_E 146 42 ls (.int 0 :: st) I r Q := me_ic mc_146 dX6_drives_41 (by decide)
theorem e146_42 : mm_E 146 42 [l0, l1, l2, l3, l4, l5, l6, l7, l8, l9] (.int x :: st) I r Q ↔ mm_c1 l6 ∧ mm_E 146 44 [l0, l1, l2, l3, l4, l5, l6, some (.int x), l8, l9] st I r Q := me_st (k := 7) (v := .int x) mc_146 dX6_drives_42 rfl rfl (Nat.le_of_ble_eq_true rfl) rfl ⟨Or.inr, fun h => h.resolve_left (by decide)⟩
theorem e146_44 : mm_E 146 44 [l0, l1, l2, l3, l4, l5, l6, some (.int x), l8, l9] st I r Q ↔ mm_E 146 46 [l0, l1, l2, l3, l4, l5, l6, some (.int x), l8, l9] (.int x :: st) I r Q := me_il2 mc_146 dX6_drives_44 rfl
theorem e146_46 : mm_E 146 46 [some (.ref a), l1, l2, l3, l4, l5, l6, l7, l8, l9] st I r Q ↔ mm_E 146 47 [some (.ref a), l1, l2, l3, l4, l5, l6, l7, l8, l9] (.ref a :: st) I r Q := me_al mc_146 dX6_drives_46 rfl
theorem e146_47 : mm_E 146 47 ls (.ref a :: st) I r Q ↔ mm_S r a = (1, 6) ∧ mm_E 146 50 ls (va_rf (mm_P r a 7) :: st) I r Q := me_gr mc_146 dX6_drives_47 (by decide +kernel) rfl
theorem e146_50 : mm_E 146 50 ls st I r Q ↔ mm_E 146 52 ls (.int 28 :: st) I r Q := me_bi mc_146 dX6_drives_50 (by decide)
theorem e146_52 : mm_E 146 52 ls (.int x :: .ref a :: st) I r Q ↔ mm_ix r a 2 x ∧ mm_E 146 53 ls (.int (mm_rd I a x.toNatClampNeg) :: st) I r Q := me_ia mc_146 dX6_drives_52
theorem e146_53 : mm_E 146 53 ls (.int y :: .int x :: st) I r Q ↔ if y ≤ x then mm_E 146 210 ls st I r Q else mm_E 146 56 ls st I r Q := me_cge mc_146 dX6_drives_53 (by decide)
theorem e146_56 : mm_E 146 56 ls st I r Q ↔ mm_E 146 57 ls (.int 0 :: st) I r Q := me_ic mc_146 dX6_drives_56 (by decide)
theorem e146_57 : mm_E 146 57 [l0, l1, l2, l3, l4, l5, l6, l7, l8, l9] (.int x :: st) I r Q ↔ mm_c1 l7 ∧ mm_E 146 59 [l0, l1, l2, l3, l4, l5, l6, l7, some (.int x), l9] st I r Q := me_st (k := 8) (v := .int x) mc_146 dX6_drives_57 rfl rfl (Nat.le_of_ble_eq_true rfl) rfl ⟨Or.inr, fun h => h.resolve_left (by decide)⟩
theorem e146_59 : mm_E 146 59 [l0, l1, l2, l3, l4, l5, l6, l7, some (.int x), l9] st I r Q ↔ mm_E 146 61 [l0, l1, l2, l3, l4, l5, l6, l7, some (.int x), l9] (.int x :: st) I r Q := me_il2 mc_146 dX6_drives_59 rfl
theorem e146_61 : mm_E 146 61 [some (.ref a), l1, l2, l3, l4, l5, l6, l7, l8, l9] st I r Q ↔ mm_E 146 62 [some (.ref a), l1, l2, l3, l4, l5, l6, l7, l8, l9] (.ref a :: st) I r Q := me_al mc_146 dX6_drives_61 rfl
theorem e146_62 : mm_E 146 62 ls (.ref a :: st) I r Q ↔ mm_S r a = (1, 6) ∧ mm_E 146 65 ls (va_rf (mm_P r a 7) :: st) I r Q := me_gr mc_146 dX6_drives_62 (by decide +kernel) rfl
theorem e146_65 : mm_E 146 65 ls st I r Q ↔ mm_E 146 67 ls (.int 27 :: st) I r Q := me_bi mc_146 dX6_drives_65 (by decide)
theorem e146_67 : mm_E 146 67 ls (.int x :: .ref a :: st) I r Q ↔ mm_ix r a 2 x ∧ mm_E 146 68 ls (.int (mm_rd I a x.toNatClampNeg) :: st) I r Q := me_ia mc_146 dX6_drives_67
theorem e146_68 : mm_E 146 68 ls (.int y :: .int x :: st) I r Q ↔ if y ≤ x then mm_E 146 204 ls st I r Q else mm_E 146 71 ls st I r Q := me_cge mc_146 dX6_drives_68 (by decide)
theorem e146_71 : mm_E 146 71 [l0, l1, l2, l3, l4, l5, l6, l7, some (.int x), l9] st I r Q ↔ mm_E 146 73 [l0, l1, l2, l3, l4, l5, l6, l7, some (.int x), l9] (.int x :: st) I r Q := me_il2 mc_146 dX6_drives_71 rfl
theorem e146_73 : mm_E 146 73 [some (.ref a), l1, l2, l3, l4, l5, l6, l7, l8, l9] st I r Q ↔ mm_E 146 74 [some (.ref a), l1, l2, l3, l4, l5, l6, l7, l8, l9] (.ref a :: st) I r Q := me_al mc_146 dX6_drives_73 rfl
theorem e146_74 : mm_E 146 74 ls (.ref a :: st) I r Q ↔ mm_S r a = (1, 6) ∧ mm_E 146 77 ls (va_rf (mm_P r a 7) :: st) I r Q := me_gr mc_146 dX6_drives_74 (by decide +kernel) rfl
theorem e146_77 : mm_E 146 77 ls st I r Q ↔ mm_E 146 79 ls (.int 21 :: st) I r Q := me_bi mc_146 dX6_drives_77 (by decide)
theorem e146_79 : mm_E 146 79 [l0, l1, l2, l3, l4, l5, l6, some (.int x), l8, l9] st I r Q ↔ mm_E 146 81 [l0, l1, l2, l3, l4, l5, l6, some (.int x), l8, l9] (.int x :: st) I r Q := me_il2 mc_146 dX6_drives_79 rfl
theorem e146_81 : mm_E 146 81 ls (.int y :: .int x :: st) I r Q ↔ mm_E 146 82 ls (.int (x + y) :: st) I r Q := me_iadd mc_146 dX6_drives_81
theorem e146_82 : mm_E 146 82 ls (.int x :: .ref a :: st) I r Q ↔ mm_ix r a 2 x ∧ mm_E 146 83 ls (.int (mm_rd I a x.toNatClampNeg) :: st) I r Q := me_ia mc_146 dX6_drives_82
theorem e146_83 : mm_E 146 83 ls (.int y :: .int x :: st) I r Q ↔ if x = y then mm_E 146 198 ls st I r Q else mm_E 146 86 ls st I r Q := me_ceq mc_146 dX6_drives_83 (by decide)
theorem e146_86 : mm_E 146 86 [some (.ref a), l1, l2, l3, l4, l5, l6, l7, l8, l9] st I r Q ↔ mm_E 146 87 [some (.ref a), l1, l2, l3, l4, l5, l6, l7, l8, l9] (.ref a :: st) I r Q := me_al mc_146 dX6_drives_86 rfl
theorem e146_87 : (mm_E 146 87 ls (.ref a :: st) I r Q ↔ (mm_w8 st = true ∧ mm_S r a = (1, 6)) ∧ mm_E 136 0 [some (.ref a), none] [] I r (fun v I2 r2 => mm_E 146 90 ls (mm_pu v st) I2 r2 Q)) := me_vc (n := 0) (As := []) (xs := []) (a := a) mc_146 dX6_drives_87 (by decide +kernel) (by decide +kernel) rfl rfl (Nat.le_of_ble_eq_true rfl) rfl
theorem e146_90 : mm_E 146 90 [some (.ref a), l1, l2, l3, l4, l5, l6, l7, l8, l9] st I r Q ↔ mm_E 146 91 [some (.ref a), l1, l2, l3, l4, l5, l6, l7, l8, l9] (.ref a :: st) I r Q := me_al mc_146 dX6_drives_90 rfl
theorem e146_91 : mm_E 146 91 ls (.ref a :: st) I r Q ↔ mm_S r a = (1, 6) ∧ mm_E 146 94 ls (va_rf (mm_P r a 8) :: st) I r Q := me_gr mc_146 dX6_drives_91 (by decide +kernel) rfl
theorem e146_94 : mm_E 146 94 ls st I r Q ↔ mm_E 146 96 ls (.int 21 :: st) I r Q := me_bi mc_146 dX6_drives_94 (by decide)
theorem e146_96 : mm_E 146 96 [l0, l1, l2, l3, l4, l5, l6, some (.int x), l8, l9] st I r Q ↔ mm_E 146 98 [l0, l1, l2, l3, l4, l5, l6, some (.int x), l8, l9] (.int x :: st) I r Q := me_il2 mc_146 dX6_drives_96 rfl
theorem e146_98 : mm_E 146 98 ls (.int y :: .int x :: st) I r Q ↔ mm_E 146 99 ls (.int (x + y) :: st) I r Q := me_iadd mc_146 dX6_drives_98
theorem e146_99 : mm_E 146 99 [l0, l1, l2, l3, l4, l5, l6, l7, some (.int x), l9] st I r Q ↔ mm_E 146 101 [l0, l1, l2, l3, l4, l5, l6, l7, some (.int x), l9] (.int x :: st) I r Q := me_il2 mc_146 dX6_drives_99 rfl
theorem e146_101 : mm_E 146 101 ls (.int y :: .int x :: .ref a :: st) I r Q ↔ mm_ix r a 2 x ∧ mm_E 146 102 ls st (mm_uI I a x.toNatClampNeg y) r Q := me_is mc_146 dX6_drives_101
theorem e146_102 : mm_E 146 102 [some (.ref a), l1, l2, l3, l4, l5, l6, l7, l8, l9] st I r Q ↔ mm_E 146 103 [some (.ref a), l1, l2, l3, l4, l5, l6, l7, l8, l9] (.ref a :: st) I r Q := me_al mc_146 dX6_drives_102 rfl
theorem e146_103 : mm_E 146 103 [l0, l1, some (.int x), l3, l4, l5, l6, l7, l8, l9] st I r Q ↔ mm_E 146 104 [l0, l1, some (.int x), l3, l4, l5, l6, l7, l8, l9] (.int x :: st) I r Q := me_il mc_146 dX6_drives_103 rfl
theorem e146_104 : ∀ (x0 : Int32), (mm_E 146 104 ls (.int x0 :: .ref a :: st) I r Q ↔ (mm_w8 st = true ∧ mm_S r a = (1, 6)) ∧ mm_E 137 0 [some (.ref a), some (.int x0), none] [] I r (fun v I2 r2 => mm_E 146 107 ls (mm_pu v st) I2 r2 Q)) := fun x0 => me_vc (n := 1) (As := [.int x0]) (xs := [.int x0]) (a := a) mc_146 dX6_drives_104 (by decide +kernel) (by decide +kernel) rfl rfl (Nat.le_of_ble_eq_true rfl) rfl
theorem e146_107 : mm_E 146 107 [some (.ref a), l1, l2, l3, l4, l5, l6, l7, l8, l9] st I r Q ↔ mm_E 146 108 [some (.ref a), l1, l2, l3, l4, l5, l6, l7, l8, l9] (.ref a :: st) I r Q := me_al mc_146 dX6_drives_107 rfl
theorem e146_108 : mm_E 146 108 ls (.ref a :: st) I r Q ↔ mm_S r a = (1, 6) ∧ mm_E 146 111 ls (va_rf (mm_P r a 8) :: st) I r Q := me_gr mc_146 dX6_drives_108 (by decide +kernel) rfl
theorem e146_111 : mm_E 146 111 ls st I r Q ↔ mm_E 146 113 ls (.int 15 :: st) I r Q := me_bi mc_146 dX6_drives_111 (by decide)
theorem e146_113 : mm_E 146 113 [l0, some (.int x), l2, l3, l4, l5, l6, l7, l8, l9] st I r Q ↔ mm_E 146 114 [l0, some (.int x), l2, l3, l4, l5, l6, l7, l8, l9] (.int x :: st) I r Q := me_il mc_146 dX6_drives_113 rfl
theorem e146_114 : mm_E 146 114 ls (.int y :: .int x :: st) I r Q ↔ mm_E 146 115 ls (.int (x + y) :: st) I r Q := me_iadd mc_146 dX6_drives_114
theorem e146_115 : mm_E 146 115 ls (.int x :: .ref a :: st) I r Q ↔ mm_ix r a 2 x ∧ mm_E 146 116 ls (.int (mm_rd I a x.toNatClampNeg) :: st) I r Q := me_ia mc_146 dX6_drives_115
theorem e146_116 : mm_E 146 116 [l0, l1, l2, l3, l4, some (.int x), l6, l7, l8, l9] st I r Q ↔ mm_E 146 118 [l0, l1, l2, l3, l4, some (.int x), l6, l7, l8, l9] (.int x :: st) I r Q := me_il2 mc_146 dX6_drives_116 rfl
theorem e146_118 : mm_E 146 118 ls (.int y :: .int x :: st) I r Q ↔ if x < y then mm_E 146 148 ls st I r Q else mm_E 146 121 ls st I r Q := me_clt mc_146 dX6_drives_118 (by decide)
theorem e146_121 : mm_E 146 121 [some (.ref a), l1, l2, l3, l4, l5, l6, l7, l8, l9] st I r Q ↔ mm_E 146 122 [some (.ref a), l1, l2, l3, l4, l5, l6, l7, l8, l9] (.ref a :: st) I r Q := me_al mc_146 dX6_drives_121 rfl
theorem e146_122 : mm_E 146 122 ls (.ref a :: st) I r Q ↔ mm_S r a = (1, 6) ∧ mm_E 146 125 ls (va_rf (mm_P r a 8) :: st) I r Q := me_gr mc_146 dX6_drives_122 (by decide +kernel) rfl
theorem e146_125 : mm_E 146 125 ls st I r Q ↔ mm_E 146 127 ls (.int 15 :: st) I r Q := me_bi mc_146 dX6_drives_125 (by decide)
theorem e146_127 : mm_E 146 127 [l0, some (.int x), l2, l3, l4, l5, l6, l7, l8, l9] st I r Q ↔ mm_E 146 128 [l0, some (.int x), l2, l3, l4, l5, l6, l7, l8, l9] (.int x :: st) I r Q := me_il mc_146 dX6_drives_127 rfl
theorem e146_128 : mm_E 146 128 ls (.int y :: .int x :: st) I r Q ↔ mm_E 146 129 ls (.int (x + y) :: st) I r Q := me_iadd mc_146 dX6_drives_128
theorem e146_129 : mm_E 146 129 ls (.int x :: .ref a :: st) I r Q ↔ mm_ix r a 2 x ∧ mm_E 146 130 ls (.int (mm_rd I a x.toNatClampNeg) :: st) I r Q := me_ia mc_146 dX6_drives_129
theorem e146_130 : mm_E 146 130 [l0, l1, l2, l3, l4, some (.int x), l6, l7, l8, l9] st I r Q ↔ mm_E 146 132 [l0, l1, l2, l3, l4, some (.int x), l6, l7, l8, l9] (.int x :: st) I r Q := me_il2 mc_146 dX6_drives_130 rfl
theorem e146_132 : mm_E 146 132 ls (.int y :: .int x :: st) I r Q ↔ if ¬ x = y then mm_E 146 152 ls st I r Q else mm_E 146 135 ls st I r Q := me_cne mc_146 dX6_drives_132 (by decide)
theorem e146_135 : mm_E 146 135 [some (.ref a), l1, l2, l3, l4, l5, l6, l7, l8, l9] st I r Q ↔ mm_E 146 136 [some (.ref a), l1, l2, l3, l4, l5, l6, l7, l8, l9] (.ref a :: st) I r Q := me_al mc_146 dX6_drives_135 rfl
theorem e146_136 : mm_E 146 136 ls (.ref a :: st) I r Q ↔ mm_S r a = (1, 6) ∧ mm_E 146 139 ls (va_rf (mm_P r a 8) :: st) I r Q := me_gr mc_146 dX6_drives_136 (by decide +kernel) rfl
theorem e146_139 : mm_E 146 139 ls st I r Q ↔ mm_E 146 140 ls (.int 3 :: st) I r Q := me_ic mc_146 dX6_drives_139 (by decide)
theorem e146_140 : mm_E 146 140 [l0, some (.int x), l2, l3, l4, l5, l6, l7, l8, l9] st I r Q ↔ mm_E 146 141 [l0, some (.int x), l2, l3, l4, l5, l6, l7, l8, l9] (.int x :: st) I r Q := me_il mc_146 dX6_drives_140 rfl
theorem e146_141 : mm_E 146 141 ls (.int y :: .int x :: st) I r Q ↔ mm_E 146 142 ls (.int (x + y) :: st) I r Q := me_iadd mc_146 dX6_drives_141
theorem e146_142 : mm_E 146 142 ls (.int x :: .ref a :: st) I r Q ↔ mm_ix r a 2 x ∧ mm_E 146 143 ls (.int (mm_rd I a x.toNatClampNeg) :: st) I r Q := me_ia mc_146 dX6_drives_142
theorem e146_143 : mm_E 146 143 [l0, l1, l2, l3, l4, l5, some (.int x), l7, l8, l9] st I r Q ↔ mm_E 146 145 [l0, l1, l2, l3, l4, l5, some (.int x), l7, l8, l9] (.int x :: st) I r Q := me_il2 mc_146 dX6_drives_143 rfl
theorem e146_145 : mm_E 146 145 ls (.int y :: .int x :: st) I r Q ↔ if y ≤ x then mm_E 146 152 ls st I r Q else mm_E 146 148 ls st I r Q := me_cge mc_146 dX6_drives_145 (by decide)
theorem e146_148 : mm_E 146 148 ls st I r Q ↔ mm_E 146 149 ls (.int 1 :: st) I r Q := me_ic mc_146 dX6_drives_148 (by decide)
theorem e146_149 : mm_E 146 149 ls st I r Q ↔ mm_E 146 153 ls st I r Q := me_goto mc_146 dX6_drives_149 (by decide)
theorem e146_152 : mm_E 146 152 ls st I r Q ↔ mm_E 146 153 ls (.int 0 :: st) I r Q := me_ic mc_146 dX6_drives_152 (by decide)
theorem e146_153 : mm_E 146 153 [l0, l1, l2, l3, l4, l5, l6, l7, l8, l9] (.int x :: st) I r Q ↔ mm_c1 l8 ∧ mm_E 146 155 [l0, l1, l2, l3, l4, l5, l6, l7, l8, some (.int x)] st I r Q := me_st (k := 9) (v := .int x) mc_146 dX6_drives_153 rfl rfl (Nat.le_of_ble_eq_true rfl) rfl ⟨Or.inr, fun h => h.resolve_left (by decide)⟩
theorem e146_155 : mm_E 146 155 [l0, l1, l2, l3, some (.int x), l5, l6, l7, l8, l9] st I r Q ↔ mm_E 146 157 [l0, l1, l2, l3, some (.int x), l5, l6, l7, l8, l9] (.int x :: st) I r Q := me_il2 mc_146 dX6_drives_155 rfl
theorem e146_157 : mm_E 146 157 ls st I r Q ↔ mm_E 146 159 ls (.int (-4) :: st) I r Q := me_bi mc_146 dX6_drives_157 (by decide)
theorem e146_159 : mm_E 146 159 ls (.int y :: .int x :: st) I r Q ↔ if x = y then mm_E 146 167 ls st I r Q else mm_E 146 162 ls st I r Q := me_ceq mc_146 dX6_drives_159 (by decide)
theorem e146_162 : mm_E 146 162 [l0, l1, l2, l3, l4, l5, l6, l7, l8, some (.int x)] st I r Q ↔ mm_E 146 164 [l0, l1, l2, l3, l4, l5, l6, l7, l8, some (.int x)] (.int x :: st) I r Q := me_il2 mc_146 dX6_drives_162 rfl
theorem e146_164 : mm_E 146 164 ls (.int x :: st) I r Q ↔ if x = 0 then mm_E 146 198 ls st I r Q else mm_E 146 167 ls st I r Q := me_zeq mc_146 dX6_drives_164 (by decide)
theorem e146_167 : mm_E 146 167 ls st I r Q ↔ mm_E 146 169 ls (.int 10 :: st) I r Q := me_bi mc_146 dX6_drives_167 (by decide)
theorem e146_169 : mm_E 146 169 [l0, l1, l2, l3, l4, l5, l6, some (.int x), l8, l9] st I r Q ↔ mm_E 146 171 [l0, l1, l2, l3, l4, l5, l6, some (.int x), l8, l9] (.int x :: st) I r Q := me_il2 mc_146 dX6_drives_169 rfl
theorem e146_171 : mm_E 146 171 ls (.int y :: .int x :: st) I r Q ↔ mm_E 146 172 ls (.int (x * y) :: st) I r Q := me_imul mc_146 dX6_drives_171
theorem e146_172 : mm_E 146 172 [l0, l1, l2, l3, l4, l5, l6, l7, some (.int x), l9] st I r Q ↔ mm_E 146 174 [l0, l1, l2, l3, l4, l5, l6, l7, some (.int x), l9] (.int x :: st) I r Q := me_il2 mc_146 dX6_drives_172 rfl
theorem e146_174 : mm_E 146 174 ls (.int y :: .int x :: st) I r Q ↔ mm_E 146 175 ls (.int (x + y) :: st) I r Q := me_iadd mc_146 dX6_drives_174
theorem e146_175 : mm_E 146 175 [l0, l1, l2, l3, l4, l5, l6, l7, l8, l9] (.int x :: st) I r Q ↔ mm_c1 l3 ∧ mm_E 146 177 [l0, l1, l2, l3, some (.int x), l5, l6, l7, l8, l9] st I r Q := me_st (k := 4) (v := .int x) mc_146 dX6_drives_175 rfl rfl (Nat.le_of_ble_eq_true rfl) rfl ⟨Or.inr, fun h => h.resolve_left (by decide)⟩
theorem e146_177 : mm_E 146 177 [some (.ref a), l1, l2, l3, l4, l5, l6, l7, l8, l9] st I r Q ↔ mm_E 146 178 [some (.ref a), l1, l2, l3, l4, l5, l6, l7, l8, l9] (.ref a :: st) I r Q := me_al mc_146 dX6_drives_177 rfl
theorem e146_178 : mm_E 146 178 ls (.ref a :: st) I r Q ↔ mm_S r a = (1, 6) ∧ mm_E 146 181 ls (va_rf (mm_P r a 8) :: st) I r Q := me_gr mc_146 dX6_drives_178 (by decide +kernel) rfl
theorem e146_181 : mm_E 146 181 ls st I r Q ↔ mm_E 146 183 ls (.int 15 :: st) I r Q := me_bi mc_146 dX6_drives_181 (by decide)
theorem e146_183 : mm_E 146 183 [l0, some (.int x), l2, l3, l4, l5, l6, l7, l8, l9] st I r Q ↔ mm_E 146 184 [l0, some (.int x), l2, l3, l4, l5, l6, l7, l8, l9] (.int x :: st) I r Q := me_il mc_146 dX6_drives_183 rfl
theorem e146_184 : mm_E 146 184 ls (.int y :: .int x :: st) I r Q ↔ mm_E 146 185 ls (.int (x + y) :: st) I r Q := me_iadd mc_146 dX6_drives_184
theorem e146_185 : mm_E 146 185 ls (.int x :: .ref a :: st) I r Q ↔ mm_ix r a 2 x ∧ mm_E 146 186 ls (.int (mm_rd I a x.toNatClampNeg) :: st) I r Q := me_ia mc_146 dX6_drives_185
theorem e146_186 : mm_E 146 186 [l0, l1, l2, l3, l4, l5, l6, l7, l8, l9] (.int x :: st) I r Q ↔ mm_c1 l4 ∧ mm_E 146 188 [l0, l1, l2, l3, l4, some (.int x), l6, l7, l8, l9] st I r Q := me_st (k := 5) (v := .int x) mc_146 dX6_drives_186 rfl rfl (Nat.le_of_ble_eq_true rfl) rfl ⟨Or.inr, fun h => h.resolve_left (by decide)⟩
theorem e146_188 : mm_E 146 188 [some (.ref a), l1, l2, l3, l4, l5, l6, l7, l8, l9] st I r Q ↔ mm_E 146 189 [some (.ref a), l1, l2, l3, l4, l5, l6, l7, l8, l9] (.ref a :: st) I r Q := me_al mc_146 dX6_drives_188 rfl
theorem e146_189 : mm_E 146 189 ls (.ref a :: st) I r Q ↔ mm_S r a = (1, 6) ∧ mm_E 146 192 ls (va_rf (mm_P r a 8) :: st) I r Q := me_gr mc_146 dX6_drives_189 (by decide +kernel) rfl
theorem e146_192 : mm_E 146 192 ls st I r Q ↔ mm_E 146 193 ls (.int 3 :: st) I r Q := me_ic mc_146 dX6_drives_192 (by decide)
theorem e146_193 : mm_E 146 193 [l0, some (.int x), l2, l3, l4, l5, l6, l7, l8, l9] st I r Q ↔ mm_E 146 194 [l0, some (.int x), l2, l3, l4, l5, l6, l7, l8, l9] (.int x :: st) I r Q := me_il mc_146 dX6_drives_193 rfl
theorem e146_194 : mm_E 146 194 ls (.int y :: .int x :: st) I r Q ↔ mm_E 146 195 ls (.int (x + y) :: st) I r Q := me_iadd mc_146 dX6_drives_194
theorem e146_195 : mm_E 146 195 ls (.int x :: .ref a :: st) I r Q ↔ mm_ix r a 2 x ∧ mm_E 146 196 ls (.int (mm_rd I a x.toNatClampNeg) :: st) I r Q := me_ia mc_146 dX6_drives_195
theorem e146_196 : mm_E 146 196 [l0, l1, l2, l3, l4, l5, l6, l7, l8, l9] (.int x :: st) I r Q ↔ mm_c1 l5 ∧ mm_E 146 198 [l0, l1, l2, l3, l4, l5, some (.int x), l7, l8, l9] st I r Q := me_st (k := 6) (v := .int x) mc_146 dX6_drives_196 rfl rfl (Nat.le_of_ble_eq_true rfl) rfl ⟨Or.inr, fun h => h.resolve_left (by decide)⟩
theorem e146_198 : mm_E 146 198 [l0, l1, l2, l3, l4, l5, l6, l7, some (.int x), l9] st I r Q ↔ mm_c1 l7 ∧ mm_E 146 201 [l0, l1, l2, l3, l4, l5, l6, l7, some (.int (x + 1)), l9] st I r Q := me_st (k := 8) (v := .int (x + 1)) mc_146 dX6_drives_198 rfl rfl (Nat.le_of_ble_eq_true rfl) rfl ⟨Or.inr, fun h => h.resolve_left (by decide)⟩
theorem e146_201 : mm_E 146 201 ls st I r Q ↔ mm_E 146 59 ls st I r Q := me_goto mc_146 dX6_drives_201 (by decide)
theorem e146_204 : mm_E 146 204 [l0, l1, l2, l3, l4, l5, l6, some (.int x), l8, l9] st I r Q ↔ mm_c1 l6 ∧ mm_E 146 207 [l0, l1, l2, l3, l4, l5, l6, some (.int (x + 1)), l8, l9] st I r Q := me_st (k := 7) (v := .int (x + 1)) mc_146 dX6_drives_204 rfl rfl (Nat.le_of_ble_eq_true rfl) rfl ⟨Or.inr, fun h => h.resolve_left (by decide)⟩
theorem e146_207 : mm_E 146 207 ls st I r Q ↔ mm_E 146 44 ls st I r Q := me_goto mc_146 dX6_drives_207 (by decide)
theorem e146_210 : mm_E 146 210 [l0, l1, l2, some (.int x), l4, l5, l6, l7, l8, l9] st I r Q ↔ mm_E 146 211 [l0, l1, l2, some (.int x), l4, l5, l6, l7, l8, l9] (.int x :: st) I r Q := me_il mc_146 dX6_drives_210 rfl
theorem e146_211 : mm_E 146 211 ls (.int x :: st) I r Q ↔ if ¬ x = 0 then mm_E 146 219 ls st I r Q else mm_E 146 214 ls st I r Q := me_zne mc_146 dX6_drives_211 (by decide)
theorem e146_214 : mm_E 146 214 [l0, l1, l2, l3, some (.int x), l5, l6, l7, l8, l9] st I r Q ↔ mm_E 146 216 [l0, l1, l2, l3, some (.int x), l5, l6, l7, l8, l9] (.int x :: st) I r Q := me_il2 mc_146 dX6_drives_214 rfl
theorem e146_216 : mm_E 146 216 ls st I r Q ↔ mm_E 146 221 ls st I r Q := me_goto mc_146 dX6_drives_216 (by decide)
theorem e146_219 : mm_E 146 219 [l0, l1, l2, l3, l4, some (.int x), l6, l7, l8, l9] st I r Q ↔ mm_E 146 221 [l0, l1, l2, l3, l4, some (.int x), l6, l7, l8, l9] (.int x :: st) I r Q := me_il2 mc_146 dX6_drives_219 rfl
theorem e146_221 : mm_E 146 221 ls [.int x] I r Q ↔ Q (some (.int x)) I r := me_ri mc_146 dX6_drives_221 rfl
theorem mc_147 : mm_c 147 = cX6_visits := rfl
theorem e147_0 : mm_E 147 0 [l0, some (.int x), l2, l3, l4] st I r Q ↔ mm_E 147 1 [l0, some (.int x), l2, l3, l4] (.int x :: st) I r Q := me_il mc_147 dX6_visits_0 rfl
theorem e147_1 : mm_E 147 1 ls st I r Q ↔ mm_E 147 2 ls (.int 1 :: st) I r Q := me_ic mc_147 dX6_visits_1 (by decide)
theorem e147_2 : mm_E 147 2 ls st I r Q ↔ mm_E 147 4 ls (.int 40 :: st) I r Q := me_bi mc_147 dX6_visits_2 (by decide)
theorem e147_4 : ∀ (x0 : Int32) (x1 : Int32) (x2 : Int32), (mm_E 147 4 ls (.int x2 :: .int x1 :: .int x0 :: st) I r Q ↔ mm_w8 st = true ∧ mm_E 93 0 [some (.int x0), some (.int x1), some (.int x2)] [] I r (fun v I2 r2 => mm_E 147 7 ls (mm_pu v st) I2 r2 Q)) := fun x0 x1 x2 => me_sc (n := 3) (As := [.int x0, .int x1, .int x2]) (xs := [.int x2, .int x1, .int x0]) mc_147 dX6_visits_4 (by decide +kernel) (by decide +kernel) rfl rfl (Nat.le_of_ble_eq_true rfl) rfl
theorem e147_7 : mm_E 147 7 ls (.int x :: st) I r Q ↔ if x = 0 then mm_E 147 19 ls st I r Q else mm_E 147 10 ls st I r Q := me_zeq mc_147 dX6_visits_7 (by decide)
theorem e147_10 : mm_E 147 10 [l0, l1, some (.int x), l3, l4] st I r Q ↔ mm_E 147 11 [l0, l1, some (.int x), l3, l4] (.int x :: st) I r Q := me_il mc_147 dX6_visits_10 rfl
theorem e147_11 : mm_E 147 11 ls st I r Q ↔ mm_E 147 12 ls (.int 0 :: st) I r Q := me_ic mc_147 dX6_visits_11 (by decide)
theorem e147_12 : mm_E 147 12 ls st I r Q ↔ mm_E 147 13 ls (.int 1 :: st) I r Q := me_ic mc_147 dX6_visits_12 (by decide)
theorem e147_13 : ∀ (x0 : Int32) (x1 : Int32) (x2 : Int32), (mm_E 147 13 ls (.int x2 :: .int x1 :: .int x0 :: st) I r Q ↔ mm_w8 st = true ∧ mm_E 93 0 [some (.int x0), some (.int x1), some (.int x2)] [] I r (fun v I2 r2 => mm_E 147 16 ls (mm_pu v st) I2 r2 Q)) := fun x0 x1 x2 => me_sc (n := 3) (As := [.int x0, .int x1, .int x2]) (xs := [.int x2, .int x1, .int x0]) mc_147 dX6_visits_13 (by decide +kernel) (by decide +kernel) rfl rfl (Nat.le_of_ble_eq_true rfl) rfl
theorem e147_16 : mm_E 147 16 ls (.int x :: st) I r Q ↔ if ¬ x = 0 then mm_E 147 21 ls st I r Q else mm_E 147 19 ls st I r Q := me_zne mc_147 dX6_visits_16 (by decide)
theorem e147_19 : mm_E 147 19 ls st I r Q ↔ mm_E 147 20 ls (.int (-1) :: st) I r Q := me_ic mc_147 dX6_visits_19 (by decide)
theorem e147_20 : mm_E 147 20 ls [.int x] I r Q ↔ Q (some (.int x)) I r := me_ri mc_147 dX6_visits_20 rfl
theorem e147_21 : mm_E 147 21 [some (.ref a), l1, l2, l3, l4] st I r Q ↔ mm_E 147 22 [some (.ref a), l1, l2, l3, l4] (.ref a :: st) I r Q := me_al mc_147 dX6_visits_21 rfl
theorem e147_22 : (mm_E 147 22 ls (.ref a :: st) I r Q ↔ (mm_w8 st = true ∧ mm_S r a = (1, 6)) ∧ mm_E 136 0 [some (.ref a), none] [] I r (fun v I2 r2 => mm_E 147 25 ls (mm_pu v st) I2 r2 Q)) := me_vc (n := 0) (As := []) (xs := []) (a := a) mc_147 dX6_visits_22 (by decide +kernel) (by decide +kernel) rfl rfl (Nat.le_of_ble_eq_true rfl) rfl
theorem e147_25 : mm_E 147 25 [some (.ref a), l1, l2, l3, l4] st I r Q ↔ mm_E 147 26 [some (.ref a), l1, l2, l3, l4] (.ref a :: st) I r Q := me_al mc_147 dX6_visits_25 rfl
theorem e147_26 : mm_E 147 26 [l0, some (.int x), l2, l3, l4] st I r Q ↔ mm_E 147 27 [l0, some (.int x), l2, l3, l4] (.int x :: st) I r Q := me_il mc_147 dX6_visits_26 rfl
theorem e147_27 : ∀ (x0 : Int32), (mm_E 147 27 ls (.int x0 :: .ref a :: st) I r Q ↔ (mm_w8 st = true ∧ mm_S r a = (1, 6)) ∧ mm_E 137 0 [some (.ref a), some (.int x0), none] [] I r (fun v I2 r2 => mm_E 147 30 ls (mm_pu v st) I2 r2 Q)) := fun x0 => me_vc (n := 1) (As := [.int x0]) (xs := [.int x0]) (a := a) mc_147 dX6_visits_27 (by decide +kernel) (by decide +kernel) rfl rfl (Nat.le_of_ble_eq_true rfl) rfl
theorem e147_30 : mm_E 147 30 ls st I r Q ↔ mm_E 147 32 ls (.int (-4) :: st) I r Q := me_bi mc_147 dX6_visits_30 (by decide)
theorem e147_32 : mm_E 147 32 [l0, l1, l2, l3, l4] (.int x :: st) I r Q ↔ mm_c1 l2 ∧ mm_E 147 33 [l0, l1, l2, some (.int x), l4] st I r Q := me_st (k := 3) (v := .int x) mc_147 dX6_visits_32 rfl rfl (Nat.le_of_ble_eq_true rfl) rfl ⟨Or.inr, fun h => h.resolve_left (by decide)⟩
theorem e147_33 : mm_E 147 33 ls st I r Q ↔ mm_E 147 34 ls (.int 0 :: st) I r Q := me_ic mc_147 dX6_visits_33 (by decide)
theorem e147_34 : mm_E 147 34 [l0, l1, l2, l3, l4] (.int x :: st) I r Q ↔ mm_c1 l3 ∧ mm_E 147 36 [l0, l1, l2, l3, some (.int x)] st I r Q := me_st (k := 4) (v := .int x) mc_147 dX6_visits_34 rfl rfl (Nat.le_of_ble_eq_true rfl) rfl ⟨Or.inr, fun h => h.resolve_left (by decide)⟩
theorem e147_36 : mm_E 147 36 [l0, l1, l2, l3, some (.int x)] st I r Q ↔ mm_E 147 38 [l0, l1, l2, l3, some (.int x)] (.int x :: st) I r Q := me_il2 mc_147 dX6_visits_36 rfl
theorem e147_38 : mm_E 147 38 [some (.ref a), l1, l2, l3, l4] st I r Q ↔ mm_E 147 39 [some (.ref a), l1, l2, l3, l4] (.ref a :: st) I r Q := me_al mc_147 dX6_visits_38 rfl
theorem e147_39 : mm_E 147 39 ls (.ref a :: st) I r Q ↔ mm_S r a = (1, 6) ∧ mm_E 147 42 ls (va_rf (mm_P r a 7) :: st) I r Q := me_gr mc_147 dX6_visits_39 (by decide +kernel) rfl
theorem e147_42 : mm_E 147 42 ls st I r Q ↔ mm_E 147 44 ls (.int 27 :: st) I r Q := me_bi mc_147 dX6_visits_42 (by decide)
theorem e147_44 : mm_E 147 44 ls (.int x :: .ref a :: st) I r Q ↔ mm_ix r a 2 x ∧ mm_E 147 45 ls (.int (mm_rd I a x.toNatClampNeg) :: st) I r Q := me_ia mc_147 dX6_visits_44
theorem e147_45 : mm_E 147 45 ls (.int y :: .int x :: st) I r Q ↔ if y ≤ x then mm_E 147 83 ls st I r Q else mm_E 147 48 ls st I r Q := me_cge mc_147 dX6_visits_45 (by decide)
theorem e147_48 : mm_E 147 48 [l0, l1, l2, some (.int x), l4] st I r Q ↔ mm_E 147 49 [l0, l1, l2, some (.int x), l4] (.int x :: st) I r Q := me_il mc_147 dX6_visits_48 rfl
theorem e147_49 : mm_E 147 49 ls st I r Q ↔ mm_E 147 51 ls (.int (-4) :: st) I r Q := me_bi mc_147 dX6_visits_49 (by decide)
theorem e147_51 : mm_E 147 51 ls (.int y :: .int x :: st) I r Q ↔ if x = y then mm_E 147 70 ls st I r Q else mm_E 147 54 ls st I r Q := me_ceq mc_147 dX6_visits_51 (by decide)
theorem e147_54 : mm_E 147 54 [some (.ref a), l1, l2, l3, l4] st I r Q ↔ mm_E 147 55 [some (.ref a), l1, l2, l3, l4] (.ref a :: st) I r Q := me_al mc_147 dX6_visits_54 rfl
theorem e147_55 : mm_E 147 55 ls (.ref a :: st) I r Q ↔ mm_S r a = (1, 6) ∧ mm_E 147 58 ls (va_rf (mm_P r a 13) :: st) I r Q := me_gr mc_147 dX6_visits_55 (by decide +kernel) rfl
theorem e147_58 : mm_E 147 58 [l0, l1, l2, l3, some (.int x)] st I r Q ↔ mm_E 147 60 [l0, l1, l2, l3, some (.int x)] (.int x :: st) I r Q := me_il2 mc_147 dX6_visits_58 rfl
theorem e147_60 : mm_E 147 60 ls (.int x :: .ref a :: st) I r Q ↔ mm_ix r a 2 x ∧ mm_E 147 61 ls (.int (mm_rd I a x.toNatClampNeg) :: st) I r Q := me_ia mc_147 dX6_visits_60
theorem e147_61 : mm_E 147 61 [some (.ref a), l1, l2, l3, l4] st I r Q ↔ mm_E 147 62 [some (.ref a), l1, l2, l3, l4] (.ref a :: st) I r Q := me_al mc_147 dX6_visits_61 rfl
theorem e147_62 : mm_E 147 62 ls (.ref a :: st) I r Q ↔ mm_S r a = (1, 6) ∧ mm_E 147 65 ls (va_rf (mm_P r a 13) :: st) I r Q := me_gr mc_147 dX6_visits_62 (by decide +kernel) rfl
theorem e147_65 : mm_E 147 65 [l0, l1, l2, some (.int x), l4] st I r Q ↔ mm_E 147 66 [l0, l1, l2, some (.int x), l4] (.int x :: st) I r Q := me_il mc_147 dX6_visits_65 rfl
theorem e147_66 : mm_E 147 66 ls (.int x :: .ref a :: st) I r Q ↔ mm_ix r a 2 x ∧ mm_E 147 67 ls (.int (mm_rd I a x.toNatClampNeg) :: st) I r Q := me_ia mc_147 dX6_visits_66
theorem e147_67 : mm_E 147 67 ls (.int y :: .int x :: st) I r Q ↔ if x ≤ y then mm_E 147 75 ls st I r Q else mm_E 147 70 ls st I r Q := me_cle mc_147 dX6_visits_67 (by decide)
theorem e147_70 : mm_E 147 70 [l0, l1, l2, l3, some (.int x)] st I r Q ↔ mm_E 147 72 [l0, l1, l2, l3, some (.int x)] (.int x :: st) I r Q := me_il2 mc_147 dX6_visits_70 rfl
theorem e147_72 : mm_E 147 72 ls st I r Q ↔ mm_E 147 76 ls st I r Q := me_goto mc_147 dX6_visits_72 (by decide)
theorem e147_75 : mm_E 147 75 [l0, l1, l2, some (.int x), l4] st I r Q ↔ mm_E 147 76 [l0, l1, l2, some (.int x), l4] (.int x :: st) I r Q := me_il mc_147 dX6_visits_75 rfl
theorem e147_76 : mm_E 147 76 [l0, l1, l2, l3, l4] (.int x :: st) I r Q ↔ mm_c1 l2 ∧ mm_E 147 77 [l0, l1, l2, some (.int x), l4] st I r Q := me_st (k := 3) (v := .int x) mc_147 dX6_visits_76 rfl rfl (Nat.le_of_ble_eq_true rfl) rfl ⟨Or.inr, fun h => h.resolve_left (by decide)⟩
theorem e147_77 : mm_E 147 77 [l0, l1, l2, l3, some (.int x)] st I r Q ↔ mm_c1 l3 ∧ mm_E 147 80 [l0, l1, l2, l3, some (.int (x + 1))] st I r Q := me_st (k := 4) (v := .int (x + 1)) mc_147 dX6_visits_77 rfl rfl (Nat.le_of_ble_eq_true rfl) rfl ⟨Or.inr, fun h => h.resolve_left (by decide)⟩
theorem e147_80 : mm_E 147 80 ls st I r Q ↔ mm_E 147 36 ls st I r Q := me_goto mc_147 dX6_visits_80 (by decide)
theorem e147_83 : mm_E 147 83 [l0, l1, l2, some (.int x), l4] st I r Q ↔ mm_E 147 84 [l0, l1, l2, some (.int x), l4] (.int x :: st) I r Q := me_il mc_147 dX6_visits_83 rfl
theorem e147_84 : mm_E 147 84 ls st I r Q ↔ mm_E 147 86 ls (.int (-4) :: st) I r Q := me_bi mc_147 dX6_visits_84 (by decide)
theorem e147_86 : mm_E 147 86 ls (.int y :: .int x :: st) I r Q ↔ if x = y then mm_E 147 93 ls st I r Q else mm_E 147 89 ls st I r Q := me_ceq mc_147 dX6_visits_86 (by decide)
theorem e147_89 : mm_E 147 89 [l0, l1, some (.int x), l3, l4] st I r Q ↔ mm_E 147 90 [l0, l1, some (.int x), l3, l4] (.int x :: st) I r Q := me_il mc_147 dX6_visits_89 rfl
theorem e147_90 : mm_E 147 90 ls (.int x :: st) I r Q ↔ if ¬ x = 0 then mm_E 147 97 ls st I r Q else mm_E 147 93 ls st I r Q := me_zne mc_147 dX6_visits_90 (by decide)
theorem e147_93 : mm_E 147 93 [l0, l1, l2, some (.int x), l4] st I r Q ↔ mm_E 147 94 [l0, l1, l2, some (.int x), l4] (.int x :: st) I r Q := me_il mc_147 dX6_visits_93 rfl
theorem e147_94 : mm_E 147 94 ls st I r Q ↔ mm_E 147 103 ls st I r Q := me_goto mc_147 dX6_visits_94 (by decide)
theorem e147_97 : mm_E 147 97 [some (.ref a), l1, l2, l3, l4] st I r Q ↔ mm_E 147 98 [some (.ref a), l1, l2, l3, l4] (.ref a :: st) I r Q := me_al mc_147 dX6_visits_97 rfl
theorem e147_98 : mm_E 147 98 ls (.ref a :: st) I r Q ↔ mm_S r a = (1, 6) ∧ mm_E 147 101 ls (va_rf (mm_P r a 13) :: st) I r Q := me_gr mc_147 dX6_visits_98 (by decide +kernel) rfl
theorem e147_101 : mm_E 147 101 [l0, l1, l2, some (.int x), l4] st I r Q ↔ mm_E 147 102 [l0, l1, l2, some (.int x), l4] (.int x :: st) I r Q := me_il mc_147 dX6_visits_101 rfl
theorem e147_102 : mm_E 147 102 ls (.int x :: .ref a :: st) I r Q ↔ mm_ix r a 2 x ∧ mm_E 147 103 ls (.int (mm_rd I a x.toNatClampNeg) :: st) I r Q := me_ia mc_147 dX6_visits_102
theorem e147_103 : mm_E 147 103 ls [.int x] I r Q ↔ Q (some (.int x)) I r := me_ri mc_147 dX6_visits_103 rfl
theorem mc_148 : mm_c 148 = cX6_solvent := rfl
theorem e148_0 : mm_E 148 0 [some (.ref a), l1, l2, l3] st I r Q ↔ mm_E 148 1 [some (.ref a), l1, l2, l3] (.ref a :: st) I r Q := me_al mc_148 dX6_solvent_0 rfl
theorem e148_1 : mm_E 148 1 [l0, some (.int x), l2, l3] st I r Q ↔ mm_E 148 2 [l0, some (.int x), l2, l3] (.int x :: st) I r Q := me_il mc_148 dX6_solvent_1 rfl
theorem e148_2 : ∀ (x0 : Int32), (mm_E 148 2 ls (.int x0 :: .ref a :: st) I r Q ↔ (mm_w8 st = true ∧ mm_S r a = (1, 6)) ∧ mm_E 97 0 [some (.ref a), some (.int x0)] [] I r (fun v I2 r2 => mm_E 148 5 ls (mm_pu v st) I2 r2 Q)) := fun x0 => me_vc (n := 1) (As := [.int x0]) (xs := [.int x0]) (a := a) mc_148 dX6_solvent_2 (by decide +kernel) (by decide +kernel) rfl rfl (Nat.le_of_ble_eq_true rfl) rfl
theorem e148_5 : mm_E 148 5 ls (.int x :: st) I r Q ↔ if x = 0 then mm_E 148 18 ls st I r Q else mm_E 148 8 ls st I r Q := me_zeq mc_148 dX6_solvent_5 (by decide)
theorem e148_8 : mm_E 148 8 [l0, l1, some (.int x), l3] st I r Q ↔ mm_E 148 9 [l0, l1, some (.int x), l3] (.int x :: st) I r Q := me_il mc_148 dX6_solvent_8 rfl
theorem e148_9 : mm_E 148 9 ls st I r Q ↔ mm_E 148 10 ls (.int 1 :: st) I r Q := me_ic mc_148 dX6_solvent_9 (by decide)
theorem e148_10 : mm_E 148 10 ls st I r Q ↔ mm_E 148 12 ls (.int 40 :: st) I r Q := me_bi mc_148 dX6_solvent_10 (by decide)
theorem e148_12 : ∀ (x0 : Int32) (x1 : Int32) (x2 : Int32), (mm_E 148 12 ls (.int x2 :: .int x1 :: .int x0 :: st) I r Q ↔ mm_w8 st = true ∧ mm_E 93 0 [some (.int x0), some (.int x1), some (.int x2)] [] I r (fun v I2 r2 => mm_E 148 15 ls (mm_pu v st) I2 r2 Q)) := fun x0 x1 x2 => me_sc (n := 3) (As := [.int x0, .int x1, .int x2]) (xs := [.int x2, .int x1, .int x0]) mc_148 dX6_solvent_12 (by decide +kernel) (by decide +kernel) rfl rfl (Nat.le_of_ble_eq_true rfl) rfl
theorem e148_15 : mm_E 148 15 ls (.int x :: st) I r Q ↔ if ¬ x = 0 then mm_E 148 20 ls st I r Q else mm_E 148 18 ls st I r Q := me_zne mc_148 dX6_solvent_15 (by decide)
theorem e148_18 : mm_E 148 18 ls st I r Q ↔ mm_E 148 19 ls (.int (-1) :: st) I r Q := me_ic mc_148 dX6_solvent_18 (by decide)
theorem e148_19 : mm_E 148 19 ls [.int x] I r Q ↔ Q (some (.int x)) I r := me_ri mc_148 dX6_solvent_19 rfl
theorem e148_20 : mm_E 148 20 ls st I r Q ↔ mm_E 148 22 ls (.int 20 :: st) I r Q := me_bi mc_148 dX6_solvent_20 (by decide)
theorem e148_22 : mm_E 148 22 [l0, l1, l2, l3] (.int x :: st) I r Q ↔ mm_c1 l2 ∧ mm_E 148 23 [l0, l1, l2, some (.int x)] st I r Q := me_st (k := 3) (v := .int x) mc_148 dX6_solvent_22 rfl rfl (Nat.le_of_ble_eq_true rfl) rfl ⟨Or.inr, fun h => h.resolve_left (by decide)⟩
theorem e148_23 : mm_E 148 23 [l0, l1, l2, some (.int x)] st I r Q ↔ mm_E 148 24 [l0, l1, l2, some (.int x)] (.int x :: st) I r Q := me_il mc_148 dX6_solvent_23 rfl
theorem e148_24 : mm_E 148 24 ls (.int x :: st) I r Q ↔ if x < 0 then mm_E 148 71 ls st I r Q else mm_E 148 27 ls st I r Q := me_zlt mc_148 dX6_solvent_24 (by decide)
theorem e148_27 : mm_E 148 27 [some (.ref a), l1, l2, l3] st I r Q ↔ mm_E 148 28 [some (.ref a), l1, l2, l3] (.ref a :: st) I r Q := me_al mc_148 dX6_solvent_27 rfl
theorem e148_28 : (mm_E 148 28 ls (.ref a :: st) I r Q ↔ (mm_w8 st = true ∧ mm_S r a = (1, 6)) ∧ mm_E 136 0 [some (.ref a), none] [] I r (fun v I2 r2 => mm_E 148 31 ls (mm_pu v st) I2 r2 Q)) := me_vc (n := 0) (As := []) (xs := []) (a := a) mc_148 dX6_solvent_28 (by decide +kernel) (by decide +kernel) rfl rfl (Nat.le_of_ble_eq_true rfl) rfl
theorem e148_31 : mm_E 148 31 [some (.ref a), l1, l2, l3] st I r Q ↔ mm_E 148 32 [some (.ref a), l1, l2, l3] (.ref a :: st) I r Q := me_al mc_148 dX6_solvent_31 rfl
theorem e148_32 : mm_E 148 32 ls (.ref a :: st) I r Q ↔ mm_S r a = (1, 6) ∧ mm_E 148 35 ls (va_rf (mm_P r a 8) :: st) I r Q := me_gr mc_148 dX6_solvent_32 (by decide +kernel) rfl
theorem e148_35 : mm_E 148 35 ls st I r Q ↔ mm_E 148 37 ls (.int 26 :: st) I r Q := me_bi mc_148 dX6_solvent_35 (by decide)
theorem e148_37 : mm_E 148 37 [l0, l1, l2, some (.int x)] st I r Q ↔ mm_E 148 38 [l0, l1, l2, some (.int x)] (.int x :: st) I r Q := me_il mc_148 dX6_solvent_37 rfl
theorem e148_38 : mm_E 148 38 ls (.int y :: .int x :: .ref a :: st) I r Q ↔ mm_ix r a 2 x ∧ mm_E 148 39 ls st (mm_uI I a x.toNatClampNeg y) r Q := me_is mc_148 dX6_solvent_38
theorem e148_39 : mm_E 148 39 [some (.ref a), l1, l2, l3] st I r Q ↔ mm_E 148 40 [some (.ref a), l1, l2, l3] (.ref a :: st) I r Q := me_al mc_148 dX6_solvent_39 rfl
theorem e148_40 : mm_E 148 40 [l0, l1, some (.int x), l3] st I r Q ↔ mm_E 148 41 [l0, l1, some (.int x), l3] (.int x :: st) I r Q := me_il mc_148 dX6_solvent_40 rfl
theorem e148_41 : ∀ (x0 : Int32), (mm_E 148 41 ls (.int x0 :: .ref a :: st) I r Q ↔ (mm_w8 st = true ∧ mm_S r a = (1, 6)) ∧ mm_E 137 0 [some (.ref a), some (.int x0), none] [] I r (fun v I2 r2 => mm_E 148 44 ls (mm_pu v st) I2 r2 Q)) := fun x0 => me_vc (n := 1) (As := [.int x0]) (xs := [.int x0]) (a := a) mc_148 dX6_solvent_41 (by decide +kernel) (by decide +kernel) rfl rfl (Nat.le_of_ble_eq_true rfl) rfl
theorem e148_44 : mm_E 148 44 [some (.ref a), l1, l2, l3] st I r Q ↔ mm_E 148 45 [some (.ref a), l1, l2, l3] (.ref a :: st) I r Q := me_al mc_148 dX6_solvent_44 rfl
theorem e148_45 : mm_E 148 45 ls (.ref a :: st) I r Q ↔ mm_S r a = (1, 6) ∧ mm_E 148 48 ls (va_rf (mm_P r a 8) :: st) I r Q := me_gr mc_148 dX6_solvent_45 (by decide +kernel) rfl
theorem e148_48 : mm_E 148 48 ls st I r Q ↔ mm_E 148 49 ls (.int 3 :: st) I r Q := me_ic mc_148 dX6_solvent_48 (by decide)
theorem e148_49 : mm_E 148 49 [l0, some (.int x), l2, l3] st I r Q ↔ mm_E 148 50 [l0, some (.int x), l2, l3] (.int x :: st) I r Q := me_il mc_148 dX6_solvent_49 rfl
theorem e148_50 : mm_E 148 50 ls (.int y :: .int x :: st) I r Q ↔ mm_E 148 51 ls (.int (x + y) :: st) I r Q := me_iadd mc_148 dX6_solvent_50
theorem e148_51 : mm_E 148 51 ls (.int x :: .ref a :: st) I r Q ↔ mm_ix r a 2 x ∧ mm_E 148 52 ls (.int (mm_rd I a x.toNatClampNeg) :: st) I r Q := me_ia mc_148 dX6_solvent_51
theorem e148_52 : mm_E 148 52 [some (.ref a), l1, l2, l3] st I r Q ↔ mm_E 148 53 [some (.ref a), l1, l2, l3] (.ref a :: st) I r Q := me_al mc_148 dX6_solvent_52 rfl
theorem e148_53 : mm_E 148 53 ls (.ref a :: st) I r Q ↔ mm_S r a = (1, 6) ∧ mm_E 148 56 ls (va_rf (mm_P r a 7) :: st) I r Q := me_gr mc_148 dX6_solvent_53 (by decide +kernel) rfl
theorem e148_56 : mm_E 148 56 ls st I r Q ↔ mm_E 148 57 ls (.int 3 :: st) I r Q := me_ic mc_148 dX6_solvent_56 (by decide)
theorem e148_57 : mm_E 148 57 [l0, some (.int x), l2, l3] st I r Q ↔ mm_E 148 58 [l0, some (.int x), l2, l3] (.int x :: st) I r Q := me_il mc_148 dX6_solvent_57 rfl
theorem e148_58 : mm_E 148 58 ls (.int y :: .int x :: st) I r Q ↔ mm_E 148 59 ls (.int (x + y) :: st) I r Q := me_iadd mc_148 dX6_solvent_58
theorem e148_59 : mm_E 148 59 ls (.int x :: .ref a :: st) I r Q ↔ mm_ix r a 2 x ∧ mm_E 148 60 ls (.int (mm_rd I a x.toNatClampNeg) :: st) I r Q := me_ia mc_148 dX6_solvent_59
theorem e148_60 : mm_E 148 60 ls (.int y :: .int x :: st) I r Q ↔ if y < x then mm_E 148 65 ls st I r Q else mm_E 148 63 ls st I r Q := me_cgt mc_148 dX6_solvent_60 (by decide)
theorem e148_63 : mm_E 148 63 [l0, l1, l2, some (.int x)] st I r Q ↔ mm_E 148 64 [l0, l1, l2, some (.int x)] (.int x :: st) I r Q := me_il mc_148 dX6_solvent_63 rfl
theorem e148_64 : mm_E 148 64 ls [.int x] I r Q ↔ Q (some (.int x)) I r := me_ri mc_148 dX6_solvent_64 rfl
theorem e148_65 : mm_E 148 65 [l0, l1, l2, some (.int x)] st I r Q ↔ mm_c1 l2 ∧ mm_E 148 68 [l0, l1, l2, some (.int (x + (-1)))] st I r Q := me_st (k := 3) (v := .int (x + (-1))) mc_148 dX6_solvent_65 rfl rfl (Nat.le_of_ble_eq_true rfl) rfl ⟨Or.inr, fun h => h.resolve_left (by decide)⟩
theorem e148_68 : mm_E 148 68 ls st I r Q ↔ mm_E 148 23 ls st I r Q := me_goto mc_148 dX6_solvent_68 (by decide)
theorem e148_71 : mm_E 148 71 ls st I r Q ↔ mm_E 148 73 ls (.int (-4) :: st) I r Q := me_bi mc_148 dX6_solvent_71 (by decide)
theorem e148_73 : mm_E 148 73 ls [.int x] I r Q ↔ Q (some (.int x)) I r := me_ri mc_148 dX6_solvent_73 rfl
theorem mc_149 : mm_c 149 = cX6_sleep := rfl
theorem e149_0 : mm_E 149 0 [some (.ref a), l1, l2, l3, l4, l5, l6, l7, l8] st I r Q ↔ mm_E 149 1 [some (.ref a), l1, l2, l3, l4, l5, l6, l7, l8] (.ref a :: st) I r Q := me_al mc_149 dX6_sleep_0 rfl
theorem e149_1 : mm_E 149 1 [l0, some (.int x), l2, l3, l4, l5, l6, l7, l8] st I r Q ↔ mm_E 149 2 [l0, some (.int x), l2, l3, l4, l5, l6, l7, l8] (.int x :: st) I r Q := me_il mc_149 dX6_sleep_1 rfl
theorem e149_2 : ∀ (x0 : Int32), (mm_E 149 2 ls (.int x0 :: .ref a :: st) I r Q ↔ (mm_w8 st = true ∧ mm_S r a = (1, 6)) ∧ mm_E 97 0 [some (.ref a), some (.int x0)] [] I r (fun v I2 r2 => mm_E 149 5 ls (mm_pu v st) I2 r2 Q)) := fun x0 => me_vc (n := 1) (As := [.int x0]) (xs := [.int x0]) (a := a) mc_149 dX6_sleep_2 (by decide +kernel) (by decide +kernel) rfl rfl (Nat.le_of_ble_eq_true rfl) rfl
theorem e149_5 : mm_E 149 5 ls (.int x :: st) I r Q ↔ if x = 0 then mm_E 149 27 ls st I r Q else mm_E 149 8 ls st I r Q := me_zeq mc_149 dX6_sleep_5 (by decide)
theorem e149_8 : mm_E 149 8 [l0, l1, some (.int x), l3, l4, l5, l6, l7, l8] st I r Q ↔ mm_E 149 9 [l0, l1, some (.int x), l3, l4, l5, l6, l7, l8] (.int x :: st) I r Q := me_il mc_149 dX6_sleep_8 rfl
theorem e149_9 : mm_E 149 9 ls st I r Q ↔ mm_E 149 10 ls (.int 0 :: st) I r Q := me_ic mc_149 dX6_sleep_9 (by decide)
theorem e149_10 : mm_E 149 10 ls st I r Q ↔ mm_E 149 12 ls (.int 10 :: st) I r Q := me_bi mc_149 dX6_sleep_10 (by decide)
theorem e149_12 : ∀ (x0 : Int32) (x1 : Int32) (x2 : Int32), (mm_E 149 12 ls (.int x2 :: .int x1 :: .int x0 :: st) I r Q ↔ mm_w8 st = true ∧ mm_E 93 0 [some (.int x0), some (.int x1), some (.int x2)] [] I r (fun v I2 r2 => mm_E 149 15 ls (mm_pu v st) I2 r2 Q)) := fun x0 x1 x2 => me_sc (n := 3) (As := [.int x0, .int x1, .int x2]) (xs := [.int x2, .int x1, .int x0]) mc_149 dX6_sleep_12 (by decide +kernel) (by decide +kernel) rfl rfl (Nat.le_of_ble_eq_true rfl) rfl
theorem e149_15 : mm_E 149 15 ls (.int x :: st) I r Q ↔ if x = 0 then mm_E 149 27 ls st I r Q else mm_E 149 18 ls st I r Q := me_zeq mc_149 dX6_sleep_15 (by decide)
theorem e149_18 : mm_E 149 18 [l0, l1, l2, some (.int x), l4, l5, l6, l7, l8] st I r Q ↔ mm_E 149 19 [l0, l1, l2, some (.int x), l4, l5, l6, l7, l8] (.int x :: st) I r Q := me_il mc_149 dX6_sleep_18 rfl
theorem e149_19 : mm_E 149 19 ls st I r Q ↔ mm_E 149 20 ls (.int 0 :: st) I r Q := me_ic mc_149 dX6_sleep_19 (by decide)
theorem e149_20 : mm_E 149 20 ls st I r Q ↔ mm_E 149 21 ls (.int 1 :: st) I r Q := me_ic mc_149 dX6_sleep_20 (by decide)
theorem e149_21 : ∀ (x0 : Int32) (x1 : Int32) (x2 : Int32), (mm_E 149 21 ls (.int x2 :: .int x1 :: .int x0 :: st) I r Q ↔ mm_w8 st = true ∧ mm_E 93 0 [some (.int x0), some (.int x1), some (.int x2)] [] I r (fun v I2 r2 => mm_E 149 24 ls (mm_pu v st) I2 r2 Q)) := fun x0 x1 x2 => me_sc (n := 3) (As := [.int x0, .int x1, .int x2]) (xs := [.int x2, .int x1, .int x0]) mc_149 dX6_sleep_21 (by decide +kernel) (by decide +kernel) rfl rfl (Nat.le_of_ble_eq_true rfl) rfl
theorem e149_24 : mm_E 149 24 ls (.int x :: st) I r Q ↔ if ¬ x = 0 then mm_E 149 29 ls st I r Q else mm_E 149 27 ls st I r Q := me_zne mc_149 dX6_sleep_24 (by decide)
theorem e149_27 : mm_E 149 27 ls st I r Q ↔ mm_E 149 28 ls (.int (-1) :: st) I r Q := me_ic mc_149 dX6_sleep_27 (by decide)
theorem e149_28 : mm_E 149 28 ls [.int x] I r Q ↔ Q (some (.int x)) I r := me_ri mc_149 dX6_sleep_28 rfl
theorem e149_29 : mm_E 149 29 ls st I r Q ↔ mm_E 149 30 ls (.int 0 :: st) I r Q := me_ic mc_149 dX6_sleep_29 (by decide)
theorem e149_30 : mm_E 149 30 [l0, l1, l2, l3, l4, l5, l6, l7, l8] (.int x :: st) I r Q ↔ mm_c1 l3 ∧ mm_E 149 32 [l0, l1, l2, l3, some (.int x), l5, l6, l7, l8] st I r Q := me_st (k := 4) (v := .int x) mc_149 dX6_sleep_30 rfl rfl (Nat.le_of_ble_eq_true rfl) rfl ⟨Or.inr, fun h => h.resolve_left (by decide)⟩
theorem e149_32 : mm_E 149 32 ls st I r Q ↔ mm_E 149 33 ls (.int 1 :: st) I r Q := me_ic mc_149 dX6_sleep_32 (by decide)
theorem e149_33 : mm_E 149 33 [l0, l1, l2, l3, l4, l5, l6, l7, l8] (.int x :: st) I r Q ↔ mm_c1 l4 ∧ mm_E 149 35 [l0, l1, l2, l3, l4, some (.int x), l6, l7, l8] st I r Q := me_st (k := 5) (v := .int x) mc_149 dX6_sleep_33 rfl rfl (Nat.le_of_ble_eq_true rfl) rfl ⟨Or.inr, fun h => h.resolve_left (by decide)⟩
theorem e149_35 : mm_E 149 35 ls st I r Q ↔ mm_E 149 36 ls (.int 0 :: st) I r Q := me_ic mc_149 dX6_sleep_35 (by decide)
theorem e149_36 : mm_E 149 36 [l0, l1, l2, l3, l4, l5, l6, l7, l8] (.int x :: st) I r Q ↔ mm_c1 l5 ∧ mm_E 149 38 [l0, l1, l2, l3, l4, l5, some (.int x), l7, l8] st I r Q := me_st (k := 6) (v := .int x) mc_149 dX6_sleep_36 rfl rfl (Nat.le_of_ble_eq_true rfl) rfl ⟨Or.inr, fun h => h.resolve_left (by decide)⟩
theorem e149_38 : mm_E 149 38 [l0, l1, l2, l3, l4, l5, some (.int x), l7, l8] st I r Q ↔ mm_E 149 40 [l0, l1, l2, l3, l4, l5, some (.int x), l7, l8] (.int x :: st) I r Q := me_il2 mc_149 dX6_sleep_38 rfl
theorem e149_40 : mm_E 149 40 [some (.ref a), l1, l2, l3, l4, l5, l6, l7, l8] st I r Q ↔ mm_E 149 41 [some (.ref a), l1, l2, l3, l4, l5, l6, l7, l8] (.ref a :: st) I r Q := me_al mc_149 dX6_sleep_40 rfl
theorem e149_41 : mm_E 149 41 ls (.ref a :: st) I r Q ↔ mm_S r a = (1, 6) ∧ mm_E 149 44 ls (va_rf (mm_P r a 7) :: st) I r Q := me_gr mc_149 dX6_sleep_41 (by decide +kernel) rfl
theorem e149_44 : mm_E 149 44 ls st I r Q ↔ mm_E 149 46 ls (.int 28 :: st) I r Q := me_bi mc_149 dX6_sleep_44 (by decide)
theorem e149_46 : mm_E 149 46 ls (.int x :: .ref a :: st) I r Q ↔ mm_ix r a 2 x ∧ mm_E 149 47 ls (.int (mm_rd I a x.toNatClampNeg) :: st) I r Q := me_ia mc_149 dX6_sleep_46
theorem e149_47 : mm_E 149 47 ls (.int y :: .int x :: st) I r Q ↔ if y ≤ x then mm_E 149 63 ls st I r Q else mm_E 149 50 ls st I r Q := me_cge mc_149 dX6_sleep_47 (by decide)
theorem e149_50 : mm_E 149 50 [l0, l1, l2, l3, l4, some (.int x), l6, l7, l8] st I r Q ↔ mm_E 149 52 [l0, l1, l2, l3, l4, some (.int x), l6, l7, l8] (.int x :: st) I r Q := me_il2 mc_149 dX6_sleep_50 rfl
theorem e149_52 : mm_E 149 52 ls st I r Q ↔ mm_E 149 54 ls (.int 10 :: st) I r Q := me_bi mc_149 dX6_sleep_52 (by decide)
theorem e149_54 : mm_E 149 54 ls (.int y :: .int x :: st) I r Q ↔ mm_E 149 55 ls (.int (x * y) :: st) I r Q := me_imul mc_149 dX6_sleep_54
theorem e149_55 : mm_E 149 55 [l0, l1, l2, l3, l4, l5, l6, l7, l8] (.int x :: st) I r Q ↔ mm_c1 l4 ∧ mm_E 149 57 [l0, l1, l2, l3, l4, some (.int x), l6, l7, l8] st I r Q := me_st (k := 5) (v := .int x) mc_149 dX6_sleep_55 rfl rfl (Nat.le_of_ble_eq_true rfl) rfl ⟨Or.inr, fun h => h.resolve_left (by decide)⟩
theorem e149_57 : mm_E 149 57 [l0, l1, l2, l3, l4, l5, some (.int x), l7, l8] st I r Q ↔ mm_c1 l5 ∧ mm_E 149 60 [l0, l1, l2, l3, l4, l5, some (.int (x + 1)), l7, l8] st I r Q := me_st (k := 6) (v := .int (x + 1)) mc_149 dX6_sleep_57 rfl rfl (Nat.le_of_ble_eq_true rfl) rfl ⟨Or.inr, fun h => h.resolve_left (by decide)⟩
theorem e149_60 : mm_E 149 60 ls st I r Q ↔ mm_E 149 38 ls st I r Q := me_goto mc_149 dX6_sleep_60 (by decide)
theorem e149_63 : mm_E 149 63 ls st I r Q ↔ mm_E 149 64 ls (.int 0 :: st) I r Q := me_ic mc_149 dX6_sleep_63 (by decide)
theorem e149_64 : mm_E 149 64 [l0, l1, l2, l3, l4, l5, l6, l7, l8] (.int x :: st) I r Q ↔ mm_c1 l5 ∧ mm_E 149 66 [l0, l1, l2, l3, l4, l5, some (.int x), l7, l8] st I r Q := me_st (k := 6) (v := .int x) mc_149 dX6_sleep_64 rfl rfl (Nat.le_of_ble_eq_true rfl) rfl ⟨Or.inr, fun h => h.resolve_left (by decide)⟩
theorem e149_66 : mm_E 149 66 [l0, l1, l2, l3, l4, l5, some (.int x), l7, l8] st I r Q ↔ mm_E 149 68 [l0, l1, l2, l3, l4, l5, some (.int x), l7, l8] (.int x :: st) I r Q := me_il2 mc_149 dX6_sleep_66 rfl
theorem e149_68 : mm_E 149 68 ls st I r Q ↔ mm_E 149 69 ls (.int 1 :: st) I r Q := me_ic mc_149 dX6_sleep_68 (by decide)
theorem e149_69 : mm_E 149 69 [some (.ref a), l1, l2, l3, l4, l5, l6, l7, l8] st I r Q ↔ mm_E 149 70 [some (.ref a), l1, l2, l3, l4, l5, l6, l7, l8] (.ref a :: st) I r Q := me_al mc_149 dX6_sleep_69 rfl
theorem e149_70 : mm_E 149 70 ls (.ref a :: st) I r Q ↔ mm_S r a = (1, 6) ∧ mm_E 149 73 ls (va_rf (mm_P r a 7) :: st) I r Q := me_gr mc_149 dX6_sleep_70 (by decide +kernel) rfl
theorem e149_73 : mm_E 149 73 ls st I r Q ↔ mm_E 149 75 ls (.int 28 :: st) I r Q := me_bi mc_149 dX6_sleep_73 (by decide)
theorem e149_75 : mm_E 149 75 ls (.int x :: .ref a :: st) I r Q ↔ mm_ix r a 2 x ∧ mm_E 149 76 ls (.int (mm_rd I a x.toNatClampNeg) :: st) I r Q := me_ia mc_149 dX6_sleep_75
theorem e149_76 : mm_E 149 76 ls (.int y :: .int x :: st) I r Q ↔ mm_E 149 77 ls (.int (x <<< (y &&& 31)) :: st) I r Q := me_ishl mc_149 dX6_sleep_76
theorem e149_77 : mm_E 149 77 ls (.int y :: .int x :: st) I r Q ↔ if y ≤ x then mm_E 149 179 ls st I r Q else mm_E 149 80 ls st I r Q := me_cge mc_149 dX6_sleep_77 (by decide)
theorem e149_80 : mm_E 149 80 ls st I r Q ↔ mm_E 149 81 ls (.int 1 :: st) I r Q := me_ic mc_149 dX6_sleep_80 (by decide)
theorem e149_81 : mm_E 149 81 [l0, l1, l2, l3, l4, l5, l6, l7, l8] (.int x :: st) I r Q ↔ mm_c1 l6 ∧ mm_E 149 83 [l0, l1, l2, l3, l4, l5, l6, some (.int x), l8] st I r Q := me_st (k := 7) (v := .int x) mc_149 dX6_sleep_81 rfl rfl (Nat.le_of_ble_eq_true rfl) rfl ⟨Or.inr, fun h => h.resolve_left (by decide)⟩
theorem e149_83 : mm_E 149 83 ls st I r Q ↔ mm_E 149 84 ls (.int 0 :: st) I r Q := me_ic mc_149 dX6_sleep_83 (by decide)
theorem e149_84 : mm_E 149 84 [l0, l1, l2, l3, l4, l5, l6, l7, l8] (.int x :: st) I r Q ↔ mm_c1 l7 ∧ mm_E 149 86 [l0, l1, l2, l3, l4, l5, l6, l7, some (.int x)] st I r Q := me_st (k := 8) (v := .int x) mc_149 dX6_sleep_84 rfl rfl (Nat.le_of_ble_eq_true rfl) rfl ⟨Or.inr, fun h => h.resolve_left (by decide)⟩
theorem e149_86 : mm_E 149 86 [l0, l1, l2, l3, l4, l5, l6, l7, some (.int x)] st I r Q ↔ mm_E 149 88 [l0, l1, l2, l3, l4, l5, l6, l7, some (.int x)] (.int x :: st) I r Q := me_il2 mc_149 dX6_sleep_86 rfl
theorem e149_88 : mm_E 149 88 [some (.ref a), l1, l2, l3, l4, l5, l6, l7, l8] st I r Q ↔ mm_E 149 89 [some (.ref a), l1, l2, l3, l4, l5, l6, l7, l8] (.ref a :: st) I r Q := me_al mc_149 dX6_sleep_88 rfl
theorem e149_89 : mm_E 149 89 ls (.ref a :: st) I r Q ↔ mm_S r a = (1, 6) ∧ mm_E 149 92 ls (va_rf (mm_P r a 7) :: st) I r Q := me_gr mc_149 dX6_sleep_89 (by decide +kernel) rfl
theorem e149_92 : mm_E 149 92 ls st I r Q ↔ mm_E 149 94 ls (.int 28 :: st) I r Q := me_bi mc_149 dX6_sleep_92 (by decide)
theorem e149_94 : mm_E 149 94 ls (.int x :: .ref a :: st) I r Q ↔ mm_ix r a 2 x ∧ mm_E 149 95 ls (.int (mm_rd I a x.toNatClampNeg) :: st) I r Q := me_ia mc_149 dX6_sleep_94
theorem e149_95 : mm_E 149 95 ls (.int y :: .int x :: st) I r Q ↔ if y ≤ x then mm_E 149 127 ls st I r Q else mm_E 149 98 ls st I r Q := me_cge mc_149 dX6_sleep_95 (by decide)
theorem e149_98 : mm_E 149 98 [l0, l1, l2, l3, l4, l5, l6, some (.int x), l8] st I r Q ↔ mm_E 149 100 [l0, l1, l2, l3, l4, l5, l6, some (.int x), l8] (.int x :: st) I r Q := me_il2 mc_149 dX6_sleep_98 rfl
theorem e149_100 : mm_E 149 100 [l0, l1, l2, l3, l4, l5, some (.int x), l7, l8] st I r Q ↔ mm_E 149 102 [l0, l1, l2, l3, l4, l5, some (.int x), l7, l8] (.int x :: st) I r Q := me_il2 mc_149 dX6_sleep_100 rfl
theorem e149_102 : mm_E 149 102 [l0, l1, l2, l3, l4, l5, l6, l7, some (.int x)] st I r Q ↔ mm_E 149 104 [l0, l1, l2, l3, l4, l5, l6, l7, some (.int x)] (.int x :: st) I r Q := me_il2 mc_149 dX6_sleep_102 rfl
theorem e149_104 : ∀ (x0 : Int32) (x1 : Int32), (mm_E 149 104 ls (.int x1 :: .int x0 :: st) I r Q ↔ mm_w8 st = true ∧ mm_E 94 0 [some (.int x0), some (.int x1)] [] I r (fun v I2 r2 => mm_E 149 107 ls (mm_pu v st) I2 r2 Q)) := fun x0 x1 => me_sc (n := 2) (As := [.int x0, .int x1]) (xs := [.int x1, .int x0]) mc_149 dX6_sleep_104 (by decide +kernel) (by decide +kernel) rfl rfl (Nat.le_of_ble_eq_true rfl) rfl
theorem e149_107 : mm_E 149 107 ls (.int x :: st) I r Q ↔ if x = 0 then mm_E 149 114 ls st I r Q else mm_E 149 110 ls st I r Q := me_zeq mc_149 dX6_sleep_107 (by decide)
theorem e149_110 : mm_E 149 110 [l0, l1, some (.int x), l3, l4, l5, l6, l7, l8] st I r Q ↔ mm_E 149 111 [l0, l1, some (.int x), l3, l4, l5, l6, l7, l8] (.int x :: st) I r Q := me_il mc_149 dX6_sleep_110 rfl
theorem e149_111 : mm_E 149 111 ls st I r Q ↔ mm_E 149 118 ls st I r Q := me_goto mc_149 dX6_sleep_111 (by decide)
theorem e149_114 : mm_E 149 114 ls st I r Q ↔ mm_E 149 116 ls (.int 10 :: st) I r Q := me_bi mc_149 dX6_sleep_114 (by decide)
theorem e149_116 : mm_E 149 116 [l0, l1, some (.int x), l3, l4, l5, l6, l7, l8] st I r Q ↔ mm_E 149 117 [l0, l1, some (.int x), l3, l4, l5, l6, l7, l8] (.int x :: st) I r Q := me_il mc_149 dX6_sleep_116 rfl
theorem e149_117 : mm_E 149 117 ls (.int y :: .int x :: st) I r Q ↔ mm_E 149 118 ls (.int (x - y) :: st) I r Q := me_isub mc_149 dX6_sleep_117
theorem e149_118 : mm_E 149 118 ls (.int y :: .int x :: st) I r Q ↔ mm_E 149 119 ls (.int (x * y) :: st) I r Q := me_imul mc_149 dX6_sleep_118
theorem e149_119 : mm_E 149 119 [l0, l1, l2, l3, l4, l5, l6, l7, l8] (.int x :: st) I r Q ↔ mm_c1 l6 ∧ mm_E 149 121 [l0, l1, l2, l3, l4, l5, l6, some (.int x), l8] st I r Q := me_st (k := 7) (v := .int x) mc_149 dX6_sleep_119 rfl rfl (Nat.le_of_ble_eq_true rfl) rfl ⟨Or.inr, fun h => h.resolve_left (by decide)⟩
theorem e149_121 : mm_E 149 121 [l0, l1, l2, l3, l4, l5, l6, l7, some (.int x)] st I r Q ↔ mm_c1 l7 ∧ mm_E 149 124 [l0, l1, l2, l3, l4, l5, l6, l7, some (.int (x + 1))] st I r Q := me_st (k := 8) (v := .int (x + 1)) mc_149 dX6_sleep_121 rfl rfl (Nat.le_of_ble_eq_true rfl) rfl ⟨Or.inr, fun h => h.resolve_left (by decide)⟩
theorem e149_124 : mm_E 149 124 ls st I r Q ↔ mm_E 149 86 ls st I r Q := me_goto mc_149 dX6_sleep_124 (by decide)
theorem e149_127 : mm_E 149 127 [some (.ref a), l1, l2, l3, l4, l5, l6, l7, l8] st I r Q ↔ mm_E 149 128 [some (.ref a), l1, l2, l3, l4, l5, l6, l7, l8] (.ref a :: st) I r Q := me_al mc_149 dX6_sleep_127 rfl
theorem e149_128 : (mm_E 149 128 ls (.ref a :: st) I r Q ↔ (mm_w8 st = true ∧ mm_S r a = (1, 6)) ∧ mm_E 136 0 [some (.ref a), none] [] I r (fun v I2 r2 => mm_E 149 131 ls (mm_pu v st) I2 r2 Q)) := me_vc (n := 0) (As := []) (xs := []) (a := a) mc_149 dX6_sleep_128 (by decide +kernel) (by decide +kernel) rfl rfl (Nat.le_of_ble_eq_true rfl) rfl
theorem e149_131 : mm_E 149 131 [some (.ref a), l1, l2, l3, l4, l5, l6, l7, l8] st I r Q ↔ mm_E 149 132 [some (.ref a), l1, l2, l3, l4, l5, l6, l7, l8] (.ref a :: st) I r Q := me_al mc_149 dX6_sleep_131 rfl
theorem e149_132 : mm_E 149 132 [some (.ref a), l1, l2, l3, l4, l5, l6, l7, l8] st I r Q ↔ mm_E 149 133 [some (.ref a), l1, l2, l3, l4, l5, l6, l7, l8] (.ref a :: st) I r Q := me_al mc_149 dX6_sleep_132 rfl
theorem e149_133 : mm_E 149 133 ls (.ref a :: st) I r Q ↔ mm_S r a = (1, 6) ∧ mm_E 149 136 ls (va_rf (mm_P r a 8) :: st) I r Q := me_gr mc_149 dX6_sleep_133 (by decide +kernel) rfl
theorem e149_136 : mm_E 149 136 [l0, l1, l2, l3, l4, l5, some (.int x), l7, l8] st I r Q ↔ mm_E 149 138 [l0, l1, l2, l3, l4, l5, some (.int x), l7, l8] (.int x :: st) I r Q := me_il2 mc_149 dX6_sleep_136 rfl
theorem e149_138 : ∀ (x0 : Nat) (x1 : Int32), (mm_E 149 138 ls (.int x1 :: .ref x0 :: .ref a :: st) I r Q ↔ (mm_w8 st = true ∧ mm_S r a = (1, 6)) ∧ mm_E 127 0 [some (.ref a), some (.ref x0), some (.int x1), none, none, none] [] I r (fun v I2 r2 => mm_E 149 141 ls (mm_pu v st) I2 r2 Q)) := fun x0 x1 => me_vc (n := 2) (As := [.ref x0, .int x1]) (xs := [.int x1, .ref x0]) (a := a) mc_149 dX6_sleep_138 (by decide +kernel) (by decide +kernel) rfl rfl (Nat.le_of_ble_eq_true rfl) rfl
theorem e149_141 : mm_E 149 141 [l0, l1, l2, l3, some (.int x), l5, l6, l7, l8] st I r Q ↔ mm_E 149 143 [l0, l1, l2, l3, some (.int x), l5, l6, l7, l8] (.int x :: st) I r Q := me_il2 mc_149 dX6_sleep_141 rfl
theorem e149_143 : mm_E 149 143 [some (.ref a), l1, l2, l3, l4, l5, l6, l7, l8] st I r Q ↔ mm_E 149 144 [some (.ref a), l1, l2, l3, l4, l5, l6, l7, l8] (.ref a :: st) I r Q := me_al mc_149 dX6_sleep_143 rfl
theorem e149_144 : mm_E 149 144 ls (.ref a :: st) I r Q ↔ mm_S r a = (1, 6) ∧ mm_E 149 147 ls (va_rf (mm_P r a 8) :: st) I r Q := me_gr mc_149 dX6_sleep_144 (by decide +kernel) rfl
theorem e149_147 : mm_E 149 147 ls st I r Q ↔ mm_E 149 149 ls (.int 15 :: st) I r Q := me_bi mc_149 dX6_sleep_147 (by decide)
theorem e149_149 : mm_E 149 149 [l0, some (.int x), l2, l3, l4, l5, l6, l7, l8] st I r Q ↔ mm_E 149 150 [l0, some (.int x), l2, l3, l4, l5, l6, l7, l8] (.int x :: st) I r Q := me_il mc_149 dX6_sleep_149 rfl
theorem e149_150 : mm_E 149 150 ls (.int y :: .int x :: st) I r Q ↔ mm_E 149 151 ls (.int (x + y) :: st) I r Q := me_iadd mc_149 dX6_sleep_150
theorem e149_151 : mm_E 149 151 ls (.int x :: .ref a :: st) I r Q ↔ mm_ix r a 2 x ∧ mm_E 149 152 ls (.int (mm_rd I a x.toNatClampNeg) :: st) I r Q := me_ia mc_149 dX6_sleep_151
theorem e149_152 : mm_E 149 152 [some (.ref a), l1, l2, l3, l4, l5, l6, l7, l8] st I r Q ↔ mm_E 149 153 [some (.ref a), l1, l2, l3, l4, l5, l6, l7, l8] (.ref a :: st) I r Q := me_al mc_149 dX6_sleep_152 rfl
theorem e149_153 : mm_E 149 153 ls (.ref a :: st) I r Q ↔ mm_S r a = (1, 6) ∧ mm_E 149 156 ls (va_rf (mm_P r a 7) :: st) I r Q := me_gr mc_149 dX6_sleep_153 (by decide +kernel) rfl
theorem e149_156 : mm_E 149 156 ls st I r Q ↔ mm_E 149 158 ls (.int 15 :: st) I r Q := me_bi mc_149 dX6_sleep_156 (by decide)
theorem e149_158 : mm_E 149 158 [l0, some (.int x), l2, l3, l4, l5, l6, l7, l8] st I r Q ↔ mm_E 149 159 [l0, some (.int x), l2, l3, l4, l5, l6, l7, l8] (.int x :: st) I r Q := me_il mc_149 dX6_sleep_158 rfl
theorem e149_159 : mm_E 149 159 ls (.int y :: .int x :: st) I r Q ↔ mm_E 149 160 ls (.int (x + y) :: st) I r Q := me_iadd mc_149 dX6_sleep_159
theorem e149_160 : mm_E 149 160 ls (.int x :: .ref a :: st) I r Q ↔ mm_ix r a 2 x ∧ mm_E 149 161 ls (.int (mm_rd I a x.toNatClampNeg) :: st) I r Q := me_ia mc_149 dX6_sleep_160
theorem e149_161 : mm_E 149 161 ls (.int y :: .int x :: st) I r Q ↔ if x ≤ y then mm_E 149 169 ls st I r Q else mm_E 149 164 ls st I r Q := me_cle mc_149 dX6_sleep_161 (by decide)
theorem e149_164 : mm_E 149 164 [l0, l1, l2, l3, l4, l5, l6, some (.int x), l8] st I r Q ↔ mm_E 149 166 [l0, l1, l2, l3, l4, l5, l6, some (.int x), l8] (.int x :: st) I r Q := me_il2 mc_149 dX6_sleep_164 rfl
theorem e149_166 : mm_E 149 166 ls st I r Q ↔ mm_E 149 170 ls st I r Q := me_goto mc_149 dX6_sleep_166 (by decide)
theorem e149_169 : mm_E 149 169 ls st I r Q ↔ mm_E 149 170 ls (.int 0 :: st) I r Q := me_ic mc_149 dX6_sleep_169 (by decide)
theorem e149_170 : mm_E 149 170 ls (.int y :: .int x :: st) I r Q ↔ mm_E 149 171 ls (.int (x + y) :: st) I r Q := me_iadd mc_149 dX6_sleep_170
theorem e149_171 : mm_E 149 171 [l0, l1, l2, l3, l4, l5, l6, l7, l8] (.int x :: st) I r Q ↔ mm_c1 l3 ∧ mm_E 149 173 [l0, l1, l2, l3, some (.int x), l5, l6, l7, l8] st I r Q := me_st (k := 4) (v := .int x) mc_149 dX6_sleep_171 rfl rfl (Nat.le_of_ble_eq_true rfl) rfl ⟨Or.inr, fun h => h.resolve_left (by decide)⟩
theorem e149_173 : mm_E 149 173 [l0, l1, l2, l3, l4, l5, some (.int x), l7, l8] st I r Q ↔ mm_c1 l5 ∧ mm_E 149 176 [l0, l1, l2, l3, l4, l5, some (.int (x + 1)), l7, l8] st I r Q := me_st (k := 6) (v := .int (x + 1)) mc_149 dX6_sleep_173 rfl rfl (Nat.le_of_ble_eq_true rfl) rfl ⟨Or.inr, fun h => h.resolve_left (by decide)⟩
theorem e149_176 : mm_E 149 176 ls st I r Q ↔ mm_E 149 66 ls st I r Q := me_goto mc_149 dX6_sleep_176 (by decide)
theorem e149_179 : mm_E 149 179 [l0, l1, l2, l3, some (.int x), l5, l6, l7, l8] st I r Q ↔ mm_E 149 181 [l0, l1, l2, l3, some (.int x), l5, l6, l7, l8] (.int x :: st) I r Q := me_il2 mc_149 dX6_sleep_179 rfl
theorem e149_181 : mm_E 149 181 [l0, l1, l2, l3, l4, l5, l6, l7, l8] (.int x :: st) I r Q ↔ mm_c1 l5 ∧ mm_E 149 183 [l0, l1, l2, l3, l4, l5, some (.int x), l7, l8] st I r Q := me_st (k := 6) (v := .int x) mc_149 dX6_sleep_181 rfl rfl (Nat.le_of_ble_eq_true rfl) rfl ⟨Or.inr, fun h => h.resolve_left (by decide)⟩
theorem e149_183 : mm_E 149 183 [l0, l1, l2, l3, l4, some (.int x), l6, l7, l8] st I r Q ↔ mm_E 149 185 [l0, l1, l2, l3, l4, some (.int x), l6, l7, l8] (.int x :: st) I r Q := me_il2 mc_149 dX6_sleep_183 rfl
theorem e149_185 : mm_E 149 185 [l0, l1, l2, l3, l4, l5, l6, l7, l8] (.int x :: st) I r Q ↔ mm_c1 l6 ∧ mm_E 149 187 [l0, l1, l2, l3, l4, l5, l6, some (.int x), l8] st I r Q := me_st (k := 7) (v := .int x) mc_149 dX6_sleep_185 rfl rfl (Nat.le_of_ble_eq_true rfl) rfl ⟨Or.inr, fun h => h.resolve_left (by decide)⟩
theorem e149_187 : mm_E 149 187 [l0, l1, l2, l3, l4, l5, l6, some (.int x), l8] st I r Q ↔ mm_E 149 189 [l0, l1, l2, l3, l4, l5, l6, some (.int x), l8] (.int x :: st) I r Q := me_il2 mc_149 dX6_sleep_187 rfl
theorem e149_189 : mm_E 149 189 ls (.int x :: st) I r Q ↔ if x ≤ 0 then mm_E 149 210 ls st I r Q else mm_E 149 192 ls st I r Q := me_zle mc_149 dX6_sleep_189 (by decide)
theorem e149_192 : mm_E 149 192 [l0, l1, l2, l3, l4, l5, some (.int x), l7, l8] st I r Q ↔ mm_E 149 194 [l0, l1, l2, l3, l4, l5, some (.int x), l7, l8] (.int x :: st) I r Q := me_il2 mc_149 dX6_sleep_192 rfl
theorem e149_194 : mm_E 149 194 [l0, l1, l2, l3, l4, l5, l6, some (.int x), l8] st I r Q ↔ mm_E 149 196 [l0, l1, l2, l3, l4, l5, l6, some (.int x), l8] (.int x :: st) I r Q := me_il2 mc_149 dX6_sleep_194 rfl
theorem e149_196 : mm_E 149 196 ls (.int y :: .int x :: st) I r Q ↔ ¬ y = 0 ∧ mm_E 149 197 ls (.int (x - x / y * y) :: st) I r Q := me_irem mc_149 dX6_sleep_196
theorem e149_197 : mm_E 149 197 [l0, l1, l2, l3, l4, l5, l6, l7, l8] (.int x :: st) I r Q ↔ mm_c1 l7 ∧ mm_E 149 199 [l0, l1, l2, l3, l4, l5, l6, l7, some (.int x)] st I r Q := me_st (k := 8) (v := .int x) mc_149 dX6_sleep_197 rfl rfl (Nat.le_of_ble_eq_true rfl) rfl ⟨Or.inr, fun h => h.resolve_left (by decide)⟩
theorem e149_199 : mm_E 149 199 [l0, l1, l2, l3, l4, l5, l6, some (.int x), l8] st I r Q ↔ mm_E 149 201 [l0, l1, l2, l3, l4, l5, l6, some (.int x), l8] (.int x :: st) I r Q := me_il2 mc_149 dX6_sleep_199 rfl
theorem e149_201 : mm_E 149 201 [l0, l1, l2, l3, l4, l5, l6, l7, l8] (.int x :: st) I r Q ↔ mm_c1 l5 ∧ mm_E 149 203 [l0, l1, l2, l3, l4, l5, some (.int x), l7, l8] st I r Q := me_st (k := 6) (v := .int x) mc_149 dX6_sleep_201 rfl rfl (Nat.le_of_ble_eq_true rfl) rfl ⟨Or.inr, fun h => h.resolve_left (by decide)⟩
theorem e149_203 : mm_E 149 203 [l0, l1, l2, l3, l4, l5, l6, l7, some (.int x)] st I r Q ↔ mm_E 149 205 [l0, l1, l2, l3, l4, l5, l6, l7, some (.int x)] (.int x :: st) I r Q := me_il2 mc_149 dX6_sleep_203 rfl
theorem e149_205 : mm_E 149 205 [l0, l1, l2, l3, l4, l5, l6, l7, l8] (.int x :: st) I r Q ↔ mm_c1 l6 ∧ mm_E 149 207 [l0, l1, l2, l3, l4, l5, l6, some (.int x), l8] st I r Q := me_st (k := 7) (v := .int x) mc_149 dX6_sleep_205 rfl rfl (Nat.le_of_ble_eq_true rfl) rfl ⟨Or.inr, fun h => h.resolve_left (by decide)⟩
theorem e149_207 : mm_E 149 207 ls st I r Q ↔ mm_E 149 187 ls st I r Q := me_goto mc_149 dX6_sleep_207 (by decide)
theorem e149_210 : mm_E 149 210 [l0, l1, l2, some (.int x), l4, l5, l6, l7, l8] st I r Q ↔ mm_E 149 211 [l0, l1, l2, some (.int x), l4, l5, l6, l7, l8] (.int x :: st) I r Q := me_il mc_149 dX6_sleep_210 rfl
theorem e149_211 : mm_E 149 211 ls (.int x :: st) I r Q ↔ if ¬ x = 0 then mm_E 149 219 ls st I r Q else mm_E 149 214 ls st I r Q := me_zne mc_149 dX6_sleep_211 (by decide)
theorem e149_214 : mm_E 149 214 [l0, l1, l2, l3, some (.int x), l5, l6, l7, l8] st I r Q ↔ mm_E 149 216 [l0, l1, l2, l3, some (.int x), l5, l6, l7, l8] (.int x :: st) I r Q := me_il2 mc_149 dX6_sleep_214 rfl
theorem e149_216 : mm_E 149 216 ls st I r Q ↔ mm_E 149 221 ls st I r Q := me_goto mc_149 dX6_sleep_216 (by decide)
theorem e149_219 : mm_E 149 219 [l0, l1, l2, l3, l4, some (.int x), l6, l7, l8] st I r Q ↔ mm_E 149 221 [l0, l1, l2, l3, l4, some (.int x), l6, l7, l8] (.int x :: st) I r Q := me_il2 mc_149 dX6_sleep_219 rfl
theorem e149_221 : mm_E 149 221 [l0, l1, l2, l3, l4, l5, some (.int x), l7, l8] st I r Q ↔ mm_E 149 223 [l0, l1, l2, l3, l4, l5, some (.int x), l7, l8] (.int x :: st) I r Q := me_il2 mc_149 dX6_sleep_221 rfl
theorem e149_223 : mm_E 149 223 ls (.int y :: .int x :: st) I r Q ↔ ¬ y = 0 ∧ mm_E 149 224 ls (.int (x / y) :: st) I r Q := me_idiv mc_149 dX6_sleep_223
theorem e149_224 : mm_E 149 224 ls [.int x] I r Q ↔ Q (some (.int x)) I r := me_ri mc_149 dX6_sleep_224 rfl
theorem mc_150 : mm_c 150 = cX6_image := rfl
theorem e150_0 : mm_E 150 0 [some (.ref a)] st I r Q ↔ mm_E 150 1 [some (.ref a)] (.ref a :: st) I r Q := me_al mc_150 dX6_image_0 rfl
theorem e150_1 : mm_E 150 1 ls (.ref a :: st) I r Q ↔ mm_S r a = (1, 6) ∧ mm_E 150 4 ls (va_rf (mm_P r a 7) :: st) I r Q := me_gr mc_150 dX6_image_1 (by decide +kernel) rfl
theorem e150_4 : mm_E 150 4 ls st I r Q ↔ mm_E 150 5 ls (.int 0 :: st) I r Q := me_ic mc_150 dX6_image_4 (by decide)
theorem e150_5 : mm_E 150 5 [some (.ref a)] st I r Q ↔ mm_E 150 6 [some (.ref a)] (.ref a :: st) I r Q := me_al mc_150 dX6_image_5 rfl
theorem e150_6 : mm_E 150 6 ls (.ref a :: st) I r Q ↔ mm_S r a = (1, 6) ∧ mm_E 150 9 ls (va_rf (mm_P r a 10) :: st) I r Q := me_gr mc_150 dX6_image_6 (by decide +kernel) rfl
theorem e150_9 : mm_E 150 9 ls st I r Q ↔ mm_E 150 10 ls (.int 0 :: st) I r Q := me_ic mc_150 dX6_image_9 (by decide)
theorem e150_10 : mm_E 150 10 ls st I r Q ↔ mm_E 150 13 ls (.int 248 :: st) I r Q := me_si mc_150 dX6_image_10 (by decide)
theorem e150_13 : ∀ (x0 : Nat) (x1 : Int32) (x2 : Nat) (x3 : Int32) (x4 : Int32), (mm_E 150 13 ls (.int x4 :: .int x3 :: .ref x2 :: .int x1 :: .ref x0 :: st) I r Q ↔ mm_w8 st = true ∧ mm_E 96 0 [some (.ref x0), some (.int x1), some (.ref x2), some (.int x3), some (.int x4), none] [] I r (fun v I2 r2 => mm_E 150 16 ls (mm_pu v st) I2 r2 Q)) := fun x0 x1 x2 x3 x4 => me_sc (n := 5) (As := [.ref x0, .int x1, .ref x2, .int x3, .int x4]) (xs := [.int x4, .int x3, .ref x2, .int x1, .ref x0]) mc_150 dX6_image_13 (by decide +kernel) (by decide +kernel) rfl rfl (Nat.le_of_ble_eq_true rfl) rfl
theorem e150_16 : mm_E 150 16 [some (.ref a)] st I r Q ↔ mm_E 150 17 [some (.ref a)] (.ref a :: st) I r Q := me_al mc_150 dX6_image_16 rfl
theorem e150_17 : mm_E 150 17 ls st I r Q ↔ mm_E 150 18 ls (.int 1 :: st) I r Q := me_ic mc_150 dX6_image_17 (by decide)
theorem e150_18 : mm_E 150 18 ls (.int x :: .ref a :: st) I r Q ↔ (mm_S r a = (1, 6) ∧ (x = 0 ∨ x = 1)) ∧ mm_E 150 21 ls st (mm_uI I a 11 x) r Q := me_pb mc_150 dX6_image_18 (by decide +kernel) (by decide +kernel)
theorem e150_21 : mm_E 150 21 ls st I r Q ↔ mm_E 150 22 ls (.int 1 :: st) I r Q := me_ic mc_150 dX6_image_21 (by decide)
theorem e150_22 : mm_E 150 22 ls [.int x] I r Q ↔ Q (some (.int x)) I r := me_ri mc_150 dX6_image_22 rfl
theorem mc_151 : mm_c 151 = cX6_restore := rfl
theorem e151_0 : mm_E 151 0 [some (.ref a)] st I r Q ↔ mm_E 151 1 [some (.ref a)] (.ref a :: st) I r Q := me_al mc_151 dX6_restore_0 rfl
theorem e151_1 : mm_E 151 1 ls (.ref a :: st) I r Q ↔ mm_S r a = (1, 6) ∧ mm_E 151 4 ls (.int (mm_rd I a 11) :: st) I r Q := me_gi mc_151 dX6_restore_1 (by decide +kernel) rfl
theorem e151_4 : mm_E 151 4 ls (.int x :: st) I r Q ↔ if ¬ x = 0 then mm_E 151 10 ls st I r Q else mm_E 151 7 ls st I r Q := me_zne mc_151 dX6_restore_4 (by decide)
theorem e151_7 : mm_E 151 7 ls st I r Q ↔ mm_E 151 9 ls (.int (-4) :: st) I r Q := me_bi mc_151 dX6_restore_7 (by decide)
theorem e151_9 : mm_E 151 9 ls [.int x] I r Q ↔ Q (some (.int x)) I r := me_ri mc_151 dX6_restore_9 rfl
theorem e151_10 : mm_E 151 10 [some (.ref a)] st I r Q ↔ mm_E 151 11 [some (.ref a)] (.ref a :: st) I r Q := me_al mc_151 dX6_restore_10 rfl
theorem e151_11 : mm_E 151 11 ls (.ref a :: st) I r Q ↔ mm_S r a = (1, 6) ∧ mm_E 151 14 ls (va_rf (mm_P r a 10) :: st) I r Q := me_gr mc_151 dX6_restore_11 (by decide +kernel) rfl
theorem e151_14 : mm_E 151 14 ls st I r Q ↔ mm_E 151 15 ls (.int 0 :: st) I r Q := me_ic mc_151 dX6_restore_14 (by decide)
theorem e151_15 : mm_E 151 15 [some (.ref a)] st I r Q ↔ mm_E 151 16 [some (.ref a)] (.ref a :: st) I r Q := me_al mc_151 dX6_restore_15 rfl
theorem e151_16 : mm_E 151 16 ls (.ref a :: st) I r Q ↔ mm_S r a = (1, 6) ∧ mm_E 151 19 ls (va_rf (mm_P r a 7) :: st) I r Q := me_gr mc_151 dX6_restore_16 (by decide +kernel) rfl
theorem e151_19 : mm_E 151 19 ls st I r Q ↔ mm_E 151 20 ls (.int 0 :: st) I r Q := me_ic mc_151 dX6_restore_19 (by decide)
theorem e151_20 : mm_E 151 20 ls st I r Q ↔ mm_E 151 23 ls (.int 248 :: st) I r Q := me_si mc_151 dX6_restore_20 (by decide)
theorem e151_23 : ∀ (x0 : Nat) (x1 : Int32) (x2 : Nat) (x3 : Int32) (x4 : Int32), (mm_E 151 23 ls (.int x4 :: .int x3 :: .ref x2 :: .int x1 :: .ref x0 :: st) I r Q ↔ mm_w8 st = true ∧ mm_E 96 0 [some (.ref x0), some (.int x1), some (.ref x2), some (.int x3), some (.int x4), none] [] I r (fun v I2 r2 => mm_E 151 26 ls (mm_pu v st) I2 r2 Q)) := fun x0 x1 x2 x3 x4 => me_sc (n := 5) (As := [.ref x0, .int x1, .ref x2, .int x3, .int x4]) (xs := [.int x4, .int x3, .ref x2, .int x1, .ref x0]) mc_151 dX6_restore_23 (by decide +kernel) (by decide +kernel) rfl rfl (Nat.le_of_ble_eq_true rfl) rfl
theorem e151_26 : mm_E 151 26 ls st I r Q ↔ mm_E 151 27 ls (.int 1 :: st) I r Q := me_ic mc_151 dX6_restore_26 (by decide)
theorem e151_27 : mm_E 151 27 ls [.int x] I r Q ↔ Q (some (.int x)) I r := me_ri mc_151 dX6_restore_27 rfl
theorem mc_152 : mm_c 152 = cX6_isSheet := rfl
theorem e152_0 : mm_E 152 0 [some (.int x)] st I r Q ↔ mm_E 152 1 [some (.int x)] (.int x :: st) I r Q := me_il mc_152 dX6_isSheet_0 rfl
theorem e152_1 : mm_E 152 1 ls st I r Q ↔ mm_E 152 2 ls (.int 0 :: st) I r Q := me_ic mc_152 dX6_isSheet_1 (by decide)
theorem e152_2 : mm_E 152 2 ls st I r Q ↔ mm_E 152 3 ls (.int 3 :: st) I r Q := me_ic mc_152 dX6_isSheet_2 (by decide)
theorem e152_3 : ∀ (x0 : Int32) (x1 : Int32) (x2 : Int32), (mm_E 152 3 ls (.int x2 :: .int x1 :: .int x0 :: st) I r Q ↔ mm_w8 st = true ∧ mm_E 93 0 [some (.int x0), some (.int x1), some (.int x2)] [] I r (fun v I2 r2 => mm_E 152 6 ls (mm_pu v st) I2 r2 Q)) := fun x0 x1 x2 => me_sc (n := 3) (As := [.int x0, .int x1, .int x2]) (xs := [.int x2, .int x1, .int x0]) mc_152 dX6_isSheet_3 (by decide +kernel) (by decide +kernel) rfl rfl (Nat.le_of_ble_eq_true rfl) rfl
theorem e152_6 : mm_E 152 6 ls [.int x] I r Q ↔ (x = 0 ∨ x = 1) ∧ Q (some (.int x)) I r := me_rz mc_152 dX6_isSheet_6 rfl
theorem mc_153 : mm_c 153 = cX6_isPart := rfl
theorem e153_0 : mm_E 153 0 [l0, some (.int x), l2] st I r Q ↔ mm_E 153 1 [l0, some (.int x), l2] (.int x :: st) I r Q := me_il mc_153 dX6_isPart_0 rfl
theorem e153_1 : mm_E 153 1 ls (.int x :: st) I r Q ↔ if x < 0 then mm_E 153 24 ls st I r Q else mm_E 153 4 ls st I r Q := me_zlt mc_153 dX6_isPart_1 (by decide)
theorem e153_4 : mm_E 153 4 [some (.int x), l1, l2] st I r Q ↔ mm_E 153 5 [some (.int x), l1, l2] (.int x :: st) I r Q := me_il mc_153 dX6_isPart_4 rfl
theorem e153_5 : mm_E 153 5 ls (.int x :: st) I r Q ↔ if x < 0 then mm_E 153 24 ls st I r Q else mm_E 153 8 ls st I r Q := me_zlt mc_153 dX6_isPart_5 (by decide)
theorem e153_8 : mm_E 153 8 [l0, some (.int x), l2] st I r Q ↔ mm_E 153 9 [l0, some (.int x), l2] (.int x :: st) I r Q := me_il mc_153 dX6_isPart_8 rfl
theorem e153_9 : mm_E 153 9 [l0, l1, some (.int x)] st I r Q ↔ mm_E 153 10 [l0, l1, some (.int x)] (.int x :: st) I r Q := me_il mc_153 dX6_isPart_9 rfl
theorem e153_10 : mm_E 153 10 ls (.int y :: .int x :: st) I r Q ↔ if y < x then mm_E 153 24 ls st I r Q else mm_E 153 13 ls st I r Q := me_cgt mc_153 dX6_isPart_10 (by decide)
theorem e153_13 : mm_E 153 13 [some (.int x), l1, l2] st I r Q ↔ mm_E 153 14 [some (.int x), l1, l2] (.int x :: st) I r Q := me_il mc_153 dX6_isPart_13 rfl
theorem e153_14 : mm_E 153 14 [l0, l1, some (.int x)] st I r Q ↔ mm_E 153 15 [l0, l1, some (.int x)] (.int x :: st) I r Q := me_il mc_153 dX6_isPart_14 rfl
theorem e153_15 : mm_E 153 15 [l0, some (.int x), l2] st I r Q ↔ mm_E 153 16 [l0, some (.int x), l2] (.int x :: st) I r Q := me_il mc_153 dX6_isPart_15 rfl
theorem e153_16 : mm_E 153 16 ls (.int y :: .int x :: st) I r Q ↔ mm_E 153 17 ls (.int (x - y) :: st) I r Q := me_isub mc_153 dX6_isPart_16
theorem e153_17 : mm_E 153 17 ls (.int y :: .int x :: st) I r Q ↔ if y < x then mm_E 153 24 ls st I r Q else mm_E 153 20 ls st I r Q := me_cgt mc_153 dX6_isPart_17 (by decide)
theorem e153_20 : mm_E 153 20 ls st I r Q ↔ mm_E 153 21 ls (.int 1 :: st) I r Q := me_ic mc_153 dX6_isPart_20 (by decide)
theorem e153_21 : mm_E 153 21 ls st I r Q ↔ mm_E 153 25 ls st I r Q := me_goto mc_153 dX6_isPart_21 (by decide)
theorem e153_24 : mm_E 153 24 ls st I r Q ↔ mm_E 153 25 ls (.int 0 :: st) I r Q := me_ic mc_153 dX6_isPart_24 (by decide)
theorem e153_25 : mm_E 153 25 ls [.int x] I r Q ↔ (x = 0 ∨ x = 1) ∧ Q (some (.int x)) I r := me_rz mc_153 dX6_isPart_25 rfl
theorem mc_154 : mm_c 154 = cX6_wrong := rfl
theorem e154_0 : mm_E 154 0 [some (.ref a), l1, l2, l3, l4] st I r Q ↔ mm_E 154 1 [some (.ref a), l1, l2, l3, l4] (.ref a :: st) I r Q := me_al mc_154 dX6_wrong_0 rfl
theorem e154_1 : mm_E 154 1 ls (.ref a :: st) I r Q ↔ mm_S r a = (1, 6) ∧ mm_E 154 4 ls (va_rf (mm_P r a 0) :: st) I r Q := me_gr mc_154 dX6_wrong_1 (by decide +kernel) rfl
theorem e154_4 : mm_E 154 4 [l0, some (.int x), l2, l3, l4] st I r Q ↔ mm_E 154 5 [l0, some (.int x), l2, l3, l4] (.int x :: st) I r Q := me_il mc_154 dX6_wrong_4 rfl
theorem e154_5 : mm_E 154 5 ls (.int x :: .ref a :: st) I r Q ↔ mm_ix r a 2 x ∧ mm_E 154 6 ls (.int (mm_rd I a x.toNatClampNeg) :: st) I r Q := me_ia mc_154 dX6_wrong_5
theorem e154_6 : mm_E 154 6 ls (.int x :: st) I r Q ↔ if 0 ≤ x then mm_E 154 14 ls st I r Q else mm_E 154 9 ls st I r Q := me_zge mc_154 dX6_wrong_6 (by decide)
theorem e154_9 : mm_E 154 9 ls st I r Q ↔ mm_E 154 11 ls (.int (-11) :: st) I r Q := me_bi mc_154 dX6_wrong_9 (by decide)
theorem e154_11 : mm_E 154 11 ls st I r Q ↔ mm_E 154 50 ls st I r Q := me_goto mc_154 dX6_wrong_11 (by decide)
theorem e154_14 : mm_E 154 14 [some (.ref a), l1, l2, l3, l4] st I r Q ↔ mm_E 154 15 [some (.ref a), l1, l2, l3, l4] (.ref a :: st) I r Q := me_al mc_154 dX6_wrong_14 rfl
theorem e154_15 : mm_E 154 15 ls (.ref a :: st) I r Q ↔ mm_S r a = (1, 6) ∧ mm_E 154 18 ls (va_rf (mm_P r a 0) :: st) I r Q := me_gr mc_154 dX6_wrong_15 (by decide +kernel) rfl
theorem e154_18 : mm_E 154 18 [l0, some (.int x), l2, l3, l4] st I r Q ↔ mm_E 154 19 [l0, some (.int x), l2, l3, l4] (.int x :: st) I r Q := me_il mc_154 dX6_wrong_18 rfl
theorem e154_19 : mm_E 154 19 ls (.int x :: .ref a :: st) I r Q ↔ mm_ix r a 2 x ∧ mm_E 154 20 ls (.int (mm_rd I a x.toNatClampNeg) :: st) I r Q := me_ia mc_154 dX6_wrong_19
theorem e154_20 : mm_E 154 20 [l0, l1, some (.int x), l3, l4] st I r Q ↔ mm_E 154 21 [l0, l1, some (.int x), l3, l4] (.int x :: st) I r Q := me_il mc_154 dX6_wrong_20 rfl
theorem e154_21 : mm_E 154 21 ls (.int y :: .int x :: st) I r Q ↔ if x = y then mm_E 154 29 ls st I r Q else mm_E 154 24 ls st I r Q := me_ceq mc_154 dX6_wrong_21 (by decide)
theorem e154_24 : mm_E 154 24 ls st I r Q ↔ mm_E 154 26 ls (.int (-12) :: st) I r Q := me_bi mc_154 dX6_wrong_24 (by decide)
theorem e154_26 : mm_E 154 26 ls st I r Q ↔ mm_E 154 50 ls st I r Q := me_goto mc_154 dX6_wrong_26 (by decide)
theorem e154_29 : mm_E 154 29 [l0, l1, l2, some (.int x), l4] st I r Q ↔ mm_E 154 30 [l0, l1, l2, some (.int x), l4] (.int x :: st) I r Q := me_il mc_154 dX6_wrong_29 rfl
theorem e154_30 : mm_E 154 30 [l0, l1, l2, l3, some (.int x)] st I r Q ↔ mm_E 154 32 [l0, l1, l2, l3, some (.int x)] (.int x :: st) I r Q := me_il2 mc_154 dX6_wrong_30 rfl
theorem e154_32 : mm_E 154 32 [some (.ref a), l1, l2, l3, l4] st I r Q ↔ mm_E 154 33 [some (.ref a), l1, l2, l3, l4] (.ref a :: st) I r Q := me_al mc_154 dX6_wrong_32 rfl
theorem e154_33 : mm_E 154 33 ls (.ref a :: st) I r Q ↔ mm_S r a = (1, 6) ∧ mm_E 154 36 ls (va_rf (mm_P r a 1) :: st) I r Q := me_gr mc_154 dX6_wrong_33 (by decide +kernel) rfl
theorem e154_36 : mm_E 154 36 [l0, some (.int x), l2, l3, l4] st I r Q ↔ mm_E 154 37 [l0, some (.int x), l2, l3, l4] (.int x :: st) I r Q := me_il mc_154 dX6_wrong_36 rfl
theorem e154_37 : mm_E 154 37 ls (.int x :: .ref a :: st) I r Q ↔ mm_ix r a 2 x ∧ mm_E 154 38 ls (.int (mm_rd I a x.toNatClampNeg) :: st) I r Q := me_ia mc_154 dX6_wrong_37
theorem e154_38 : ∀ (x0 : Int32) (x1 : Int32) (x2 : Int32), (mm_E 154 38 ls (.int x2 :: .int x1 :: .int x0 :: st) I r Q ↔ mm_w8 st = true ∧ mm_E 153 0 [some (.int x0), some (.int x1), some (.int x2)] [] I r (fun v I2 r2 => mm_E 154 41 ls (mm_pu v st) I2 r2 Q)) := fun x0 x1 x2 => me_sc (n := 3) (As := [.int x0, .int x1, .int x2]) (xs := [.int x2, .int x1, .int x0]) mc_154 dX6_wrong_38 (by decide +kernel) (by decide +kernel) rfl rfl (Nat.le_of_ble_eq_true rfl) rfl
theorem e154_41 : mm_E 154 41 ls (.int x :: st) I r Q ↔ if x = 0 then mm_E 154 48 ls st I r Q else mm_E 154 44 ls st I r Q := me_zeq mc_154 dX6_wrong_41 (by decide)
theorem e154_44 : mm_E 154 44 ls st I r Q ↔ mm_E 154 45 ls (.int 0 :: st) I r Q := me_ic mc_154 dX6_wrong_44 (by decide)
theorem e154_45 : mm_E 154 45 ls st I r Q ↔ mm_E 154 50 ls st I r Q := me_goto mc_154 dX6_wrong_45 (by decide)
theorem e154_48 : mm_E 154 48 ls st I r Q ↔ mm_E 154 50 ls (.int (-13) :: st) I r Q := me_bi mc_154 dX6_wrong_48 (by decide)
theorem e154_50 : mm_E 154 50 ls [.int x] I r Q ↔ Q (some (.int x)) I r := me_ri mc_154 dX6_wrong_50 rfl
theorem mc_155 : mm_c 155 = cX6_isLeft := rfl
theorem e155_0 : mm_E 155 0 ls st I r Q ↔ mm_E 155 1 ls (.int 1 :: st) I r Q := me_ic mc_155 dX6_isLeft_0 (by decide)
theorem e155_1 : mm_E 155 1 [l0, l1, l2, l3, l4, l5, l6] (.int x :: st) I r Q ↔ mm_c1 l4 ∧ mm_E 155 3 [l0, l1, l2, l3, l4, some (.int x), l6] st I r Q := me_st (k := 5) (v := .int x) mc_155 dX6_isLeft_1 rfl rfl (Nat.le_of_ble_eq_true rfl) rfl ⟨Or.inr, fun h => h.resolve_left (by decide)⟩
theorem e155_3 : mm_E 155 3 ls st I r Q ↔ mm_E 155 4 ls (.int 0 :: st) I r Q := me_ic mc_155 dX6_isLeft_3 (by decide)
theorem e155_4 : mm_E 155 4 [l0, l1, l2, l3, l4, l5, l6] (.int x :: st) I r Q ↔ mm_c1 l5 ∧ mm_E 155 6 [l0, l1, l2, l3, l4, l5, some (.int x)] st I r Q := me_st (k := 6) (v := .int x) mc_155 dX6_isLeft_4 rfl rfl (Nat.le_of_ble_eq_true rfl) rfl ⟨Or.inr, fun h => h.resolve_left (by decide)⟩
theorem e155_6 : mm_E 155 6 [l0, l1, l2, l3, l4, l5, some (.int x)] st I r Q ↔ mm_E 155 8 [l0, l1, l2, l3, l4, l5, some (.int x)] (.int x :: st) I r Q := me_il2 mc_155 dX6_isLeft_6 rfl
theorem e155_8 : mm_E 155 8 [l0, l1, l2, l3, some (.int x), l5, l6] st I r Q ↔ mm_E 155 10 [l0, l1, l2, l3, some (.int x), l5, l6] (.int x :: st) I r Q := me_il2 mc_155 dX6_isLeft_8 rfl
theorem e155_10 : mm_E 155 10 ls (.int y :: .int x :: st) I r Q ↔ if y ≤ x then mm_E 155 65 ls st I r Q else mm_E 155 13 ls st I r Q := me_cge mc_155 dX6_isLeft_10 (by decide)
theorem e155_13 : mm_E 155 13 [l0, l1, l2, l3, l4, some (.int x), l6] st I r Q ↔ mm_E 155 15 [l0, l1, l2, l3, l4, some (.int x), l6] (.int x :: st) I r Q := me_il2 mc_155 dX6_isLeft_13 rfl
theorem e155_15 : mm_E 155 15 ls (.int x :: st) I r Q ↔ if x = 0 then mm_E 155 65 ls st I r Q else mm_E 155 18 ls st I r Q := me_zeq mc_155 dX6_isLeft_15 (by decide)
theorem e155_18 : mm_E 155 18 [some (.ref a), l1, l2, l3, l4, l5, l6] st I r Q ↔ mm_E 155 19 [some (.ref a), l1, l2, l3, l4, l5, l6] (.ref a :: st) I r Q := me_al mc_155 dX6_isLeft_18 rfl
theorem e155_19 : mm_E 155 19 [some (.ref a), l1, l2, l3, l4, l5, l6] st I r Q ↔ mm_E 155 20 [some (.ref a), l1, l2, l3, l4, l5, l6] (.ref a :: st) I r Q := me_al mc_155 dX6_isLeft_19 rfl
theorem e155_20 : mm_E 155 20 ls (.ref a :: st) I r Q ↔ mm_S r a = (1, 6) ∧ mm_E 155 23 ls (va_rf (mm_P r a 8) :: st) I r Q := me_gr mc_155 dX6_isLeft_20 (by decide +kernel) rfl
theorem e155_23 : mm_E 155 23 ls st I r Q ↔ mm_E 155 24 ls (.int 0 :: st) I r Q := me_ic mc_155 dX6_isLeft_23 (by decide)
theorem e155_24 : ∀ (x0 : Nat) (x1 : Int32), (mm_E 155 24 ls (.int x1 :: .ref x0 :: .ref a :: st) I r Q ↔ (mm_w8 st = true ∧ mm_S r a = (1, 6)) ∧ mm_E 127 0 [some (.ref a), some (.ref x0), some (.int x1), none, none, none] [] I r (fun v I2 r2 => mm_E 155 27 ls (mm_pu v st) I2 r2 Q)) := fun x0 x1 => me_vc (n := 2) (As := [.ref x0, .int x1]) (xs := [.int x1, .ref x0]) (a := a) mc_155 dX6_isLeft_24 (by decide +kernel) (by decide +kernel) rfl rfl (Nat.le_of_ble_eq_true rfl) rfl
theorem e155_27 : mm_E 155 27 [some (.ref a), l1, l2, l3, l4, l5, l6] st I r Q ↔ mm_E 155 28 [some (.ref a), l1, l2, l3, l4, l5, l6] (.ref a :: st) I r Q := me_al mc_155 dX6_isLeft_27 rfl
theorem e155_28 : mm_E 155 28 ls (.ref a :: st) I r Q ↔ mm_S r a = (1, 6) ∧ mm_E 155 31 ls (va_rf (mm_P r a 12) :: st) I r Q := me_gr mc_155 dX6_isLeft_28 (by decide +kernel) rfl
theorem e155_31 : mm_E 155 31 [l0, some (.int x), l2, l3, l4, l5, l6] st I r Q ↔ mm_E 155 32 [l0, some (.int x), l2, l3, l4, l5, l6] (.int x :: st) I r Q := me_il mc_155 dX6_isLeft_31 rfl
theorem e155_32 : mm_E 155 32 ls (.int x :: .ref a :: st) I r Q ↔ mm_ix r a 2 x ∧ mm_E 155 33 ls (.int (mm_rd I a x.toNatClampNeg) :: st) I r Q := me_ia mc_155 dX6_isLeft_32
theorem e155_33 : mm_E 155 33 ls (.int x :: st) I r Q ↔ mm_E 155 34 ls (.long x.toInt64 :: st) I r Q := me_i2l mc_155 dX6_isLeft_33
theorem e155_34 : mm_E 155 34 [some (.ref a), l1, l2, l3, l4, l5, l6] st I r Q ↔ mm_E 155 35 [some (.ref a), l1, l2, l3, l4, l5, l6] (.ref a :: st) I r Q := me_al mc_155 dX6_isLeft_34 rfl
theorem e155_35 : mm_E 155 35 ls (.ref a :: st) I r Q ↔ mm_S r a = (1, 6) ∧ mm_E 155 38 ls (va_rf (mm_P r a 2) :: st) I r Q := me_gr mc_155 dX6_isLeft_35 (by decide +kernel) rfl
theorem e155_38 : mm_E 155 38 ls st I r Q ↔ mm_E 155 40 ls (.int 24 :: st) I r Q := me_bi mc_155 dX6_isLeft_38 (by decide)
theorem e155_40 : mm_E 155 40 [l0, l1, some (.int x), l3, l4, l5, l6] st I r Q ↔ mm_E 155 41 [l0, l1, some (.int x), l3, l4, l5, l6] (.int x :: st) I r Q := me_il mc_155 dX6_isLeft_40 rfl
theorem e155_41 : mm_E 155 41 ls (.int y :: .int x :: st) I r Q ↔ mm_E 155 42 ls (.int (x * y) :: st) I r Q := me_imul mc_155 dX6_isLeft_41
theorem e155_42 : mm_E 155 42 [l0, l1, l2, some (.int x), l4, l5, l6] st I r Q ↔ mm_E 155 43 [l0, l1, l2, some (.int x), l4, l5, l6] (.int x :: st) I r Q := me_il mc_155 dX6_isLeft_42 rfl
theorem e155_43 : mm_E 155 43 ls (.int y :: .int x :: st) I r Q ↔ mm_E 155 44 ls (.int (x + y) :: st) I r Q := me_iadd mc_155 dX6_isLeft_43
theorem e155_44 : mm_E 155 44 [l0, l1, l2, l3, l4, l5, some (.int x)] st I r Q ↔ mm_E 155 46 [l0, l1, l2, l3, l4, l5, some (.int x)] (.int x :: st) I r Q := me_il2 mc_155 dX6_isLeft_44 rfl
theorem e155_46 : mm_E 155 46 ls (.int y :: .int x :: st) I r Q ↔ mm_E 155 47 ls (.int (x + y) :: st) I r Q := me_iadd mc_155 dX6_isLeft_46
theorem e155_47 : mm_E 155 47 ls (.int x :: .ref a :: st) I r Q ↔ mm_ix r a 3 x ∧ mm_E 155 48 ls (.long (mm_G r a x.toNatClampNeg) :: st) I r Q := me_la mc_155 dX6_isLeft_47
theorem e155_48 : mm_E 155 48 ls (.long w :: .long z :: st) I r Q ↔ mm_E 155 49 ls (.int (lg_cmp z w) :: st) I r Q := me_lcmp mc_155 dX6_isLeft_48
theorem e155_49 : mm_E 155 49 ls (.int x :: st) I r Q ↔ if ¬ x = 0 then mm_E 155 56 ls st I r Q else mm_E 155 52 ls st I r Q := me_zne mc_155 dX6_isLeft_49 (by decide)
theorem e155_52 : mm_E 155 52 ls st I r Q ↔ mm_E 155 53 ls (.int 1 :: st) I r Q := me_ic mc_155 dX6_isLeft_52 (by decide)
theorem e155_53 : mm_E 155 53 ls st I r Q ↔ mm_E 155 57 ls st I r Q := me_goto mc_155 dX6_isLeft_53 (by decide)
theorem e155_56 : mm_E 155 56 ls st I r Q ↔ mm_E 155 57 ls (.int 0 :: st) I r Q := me_ic mc_155 dX6_isLeft_56 (by decide)
theorem e155_57 : mm_E 155 57 [l0, l1, l2, l3, l4, l5, l6] (.int x :: st) I r Q ↔ mm_c1 l4 ∧ mm_E 155 59 [l0, l1, l2, l3, l4, some (.int x), l6] st I r Q := me_st (k := 5) (v := .int x) mc_155 dX6_isLeft_57 rfl rfl (Nat.le_of_ble_eq_true rfl) rfl ⟨Or.inr, fun h => h.resolve_left (by decide)⟩
theorem e155_59 : mm_E 155 59 [l0, l1, l2, l3, l4, l5, some (.int x)] st I r Q ↔ mm_c1 l5 ∧ mm_E 155 62 [l0, l1, l2, l3, l4, l5, some (.int (x + 1))] st I r Q := me_st (k := 6) (v := .int (x + 1)) mc_155 dX6_isLeft_59 rfl rfl (Nat.le_of_ble_eq_true rfl) rfl ⟨Or.inr, fun h => h.resolve_left (by decide)⟩
theorem e155_62 : mm_E 155 62 ls st I r Q ↔ mm_E 155 6 ls st I r Q := me_goto mc_155 dX6_isLeft_62 (by decide)
theorem e155_65 : mm_E 155 65 [l0, l1, l2, l3, l4, some (.int x), l6] st I r Q ↔ mm_E 155 67 [l0, l1, l2, l3, l4, some (.int x), l6] (.int x :: st) I r Q := me_il2 mc_155 dX6_isLeft_65 rfl
theorem e155_67 : mm_E 155 67 ls [.int x] I r Q ↔ (x = 0 ∨ x = 1) ∧ Q (some (.int x)) I r := me_rz mc_155 dX6_isLeft_67 rfl
theorem mc_156 : mm_c 156 = cX6_dawns := rfl
theorem e156_0 : mm_E 156 0 [some (.ref a), l1, l2, l3, l4, l5, l6, l7, l8, l9, l10] st I r Q ↔ mm_E 156 1 [some (.ref a), l1, l2, l3, l4, l5, l6, l7, l8, l9, l10] (.ref a :: st) I r Q := me_al mc_156 dX6_dawns_0 rfl
theorem e156_1 : mm_E 156 1 [l0, some (.int x), l2, l3, l4, l5, l6, l7, l8, l9, l10] st I r Q ↔ mm_E 156 2 [l0, some (.int x), l2, l3, l4, l5, l6, l7, l8, l9, l10] (.int x :: st) I r Q := me_il mc_156 dX6_dawns_1 rfl
theorem e156_2 : ∀ (x0 : Int32), (mm_E 156 2 ls (.int x0 :: .ref a :: st) I r Q ↔ (mm_w8 st = true ∧ mm_S r a = (1, 6)) ∧ mm_E 98 0 [some (.ref a), some (.int x0)] [] I r (fun v I2 r2 => mm_E 156 5 ls (mm_pu v st) I2 r2 Q)) := fun x0 => me_vc (n := 1) (As := [.int x0]) (xs := [.int x0]) (a := a) mc_156 dX6_dawns_2 (by decide +kernel) (by decide +kernel) rfl rfl (Nat.le_of_ble_eq_true rfl) rfl
theorem e156_5 : mm_E 156 5 ls (.int x :: st) I r Q ↔ if x = 0 then mm_E 156 54 ls st I r Q else mm_E 156 8 ls st I r Q := me_zeq mc_156 dX6_dawns_5 (by decide)
theorem e156_8 : mm_E 156 8 [some (.ref a), l1, l2, l3, l4, l5, l6, l7, l8, l9, l10] st I r Q ↔ mm_E 156 9 [some (.ref a), l1, l2, l3, l4, l5, l6, l7, l8, l9, l10] (.ref a :: st) I r Q := me_al mc_156 dX6_dawns_8 rfl
theorem e156_9 : mm_E 156 9 [l0, l1, some (.int x), l3, l4, l5, l6, l7, l8, l9, l10] st I r Q ↔ mm_E 156 10 [l0, l1, some (.int x), l3, l4, l5, l6, l7, l8, l9, l10] (.int x :: st) I r Q := me_il mc_156 dX6_dawns_9 rfl
theorem e156_10 : ∀ (x0 : Int32), (mm_E 156 10 ls (.int x0 :: .ref a :: st) I r Q ↔ (mm_w8 st = true ∧ mm_S r a = (1, 6)) ∧ mm_E 97 0 [some (.ref a), some (.int x0)] [] I r (fun v I2 r2 => mm_E 156 13 ls (mm_pu v st) I2 r2 Q)) := fun x0 => me_vc (n := 1) (As := [.int x0]) (xs := [.int x0]) (a := a) mc_156 dX6_dawns_10 (by decide +kernel) (by decide +kernel) rfl rfl (Nat.le_of_ble_eq_true rfl) rfl
theorem e156_13 : mm_E 156 13 ls (.int x :: st) I r Q ↔ if x = 0 then mm_E 156 54 ls st I r Q else mm_E 156 16 ls st I r Q := me_zeq mc_156 dX6_dawns_13 (by decide)
theorem e156_16 : mm_E 156 16 [l0, l1, l2, some (.int x), l4, l5, l6, l7, l8, l9, l10] st I r Q ↔ mm_E 156 17 [l0, l1, l2, some (.int x), l4, l5, l6, l7, l8, l9, l10] (.int x :: st) I r Q := me_il mc_156 dX6_dawns_16 rfl
theorem e156_17 : ∀ (x0 : Int32), (mm_E 156 17 ls (.int x0 :: st) I r Q ↔ mm_w8 st = true ∧ mm_E 152 0 [some (.int x0)] [] I r (fun v I2 r2 => mm_E 156 20 ls (mm_pu v st) I2 r2 Q)) := fun x0 => me_sc (n := 1) (As := [.int x0]) (xs := [.int x0]) mc_156 dX6_dawns_17 (by decide +kernel) (by decide +kernel) rfl rfl (Nat.le_of_ble_eq_true rfl) rfl
theorem e156_20 : mm_E 156 20 ls (.int x :: st) I r Q ↔ if x = 0 then mm_E 156 54 ls st I r Q else mm_E 156 23 ls st I r Q := me_zeq mc_156 dX6_dawns_20 (by decide)
theorem e156_23 : mm_E 156 23 [l0, l1, l2, l3, some (.int x), l5, l6, l7, l8, l9, l10] st I r Q ↔ mm_E 156 25 [l0, l1, l2, l3, some (.int x), l5, l6, l7, l8, l9, l10] (.int x :: st) I r Q := me_il2 mc_156 dX6_dawns_23 rfl
theorem e156_25 : mm_E 156 25 ls st I r Q ↔ mm_E 156 26 ls (.int 0 :: st) I r Q := me_ic mc_156 dX6_dawns_25 (by decide)
theorem e156_26 : mm_E 156 26 ls st I r Q ↔ mm_E 156 27 ls (.int 3 :: st) I r Q := me_ic mc_156 dX6_dawns_26 (by decide)
theorem e156_27 : ∀ (x0 : Int32) (x1 : Int32) (x2 : Int32), (mm_E 156 27 ls (.int x2 :: .int x1 :: .int x0 :: st) I r Q ↔ mm_w8 st = true ∧ mm_E 93 0 [some (.int x0), some (.int x1), some (.int x2)] [] I r (fun v I2 r2 => mm_E 156 30 ls (mm_pu v st) I2 r2 Q)) := fun x0 x1 x2 => me_sc (n := 3) (As := [.int x0, .int x1, .int x2]) (xs := [.int x2, .int x1, .int x0]) mc_156 dX6_dawns_27 (by decide +kernel) (by decide +kernel) rfl rfl (Nat.le_of_ble_eq_true rfl) rfl
theorem e156_30 : mm_E 156 30 ls (.int x :: st) I r Q ↔ if x = 0 then mm_E 156 54 ls st I r Q else mm_E 156 33 ls st I r Q := me_zeq mc_156 dX6_dawns_30 (by decide)
theorem e156_33 : mm_E 156 33 [l0, l1, l2, l3, l4, l5, some (.int x), l7, l8, l9, l10] st I r Q ↔ mm_E 156 35 [l0, l1, l2, l3, l4, l5, some (.int x), l7, l8, l9, l10] (.int x :: st) I r Q := me_il2 mc_156 dX6_dawns_33 rfl
theorem e156_35 : mm_E 156 35 ls st I r Q ↔ mm_E 156 36 ls (.int 1 :: st) I r Q := me_ic mc_156 dX6_dawns_35 (by decide)
theorem e156_36 : mm_E 156 36 ls st I r Q ↔ mm_E 156 38 ls (.int 8 :: st) I r Q := me_bi mc_156 dX6_dawns_36 (by decide)
theorem e156_38 : ∀ (x0 : Int32) (x1 : Int32) (x2 : Int32), (mm_E 156 38 ls (.int x2 :: .int x1 :: .int x0 :: st) I r Q ↔ mm_w8 st = true ∧ mm_E 93 0 [some (.int x0), some (.int x1), some (.int x2)] [] I r (fun v I2 r2 => mm_E 156 41 ls (mm_pu v st) I2 r2 Q)) := fun x0 x1 x2 => me_sc (n := 3) (As := [.int x0, .int x1, .int x2]) (xs := [.int x2, .int x1, .int x0]) mc_156 dX6_dawns_38 (by decide +kernel) (by decide +kernel) rfl rfl (Nat.le_of_ble_eq_true rfl) rfl
theorem e156_41 : mm_E 156 41 ls (.int x :: st) I r Q ↔ if x = 0 then mm_E 156 54 ls st I r Q else mm_E 156 44 ls st I r Q := me_zeq mc_156 dX6_dawns_41 (by decide)
theorem e156_44 : mm_E 156 44 [l0, l1, l2, l3, l4, l5, l6, some (.int x), l8, l9, l10] st I r Q ↔ mm_E 156 46 [l0, l1, l2, l3, l4, l5, l6, some (.int x), l8, l9, l10] (.int x :: st) I r Q := me_il2 mc_156 dX6_dawns_44 rfl
theorem e156_46 : mm_E 156 46 ls st I r Q ↔ mm_E 156 47 ls (.int 0 :: st) I r Q := me_ic mc_156 dX6_dawns_46 (by decide)
theorem e156_47 : mm_E 156 47 ls st I r Q ↔ mm_E 156 48 ls (.int 1 :: st) I r Q := me_ic mc_156 dX6_dawns_47 (by decide)
theorem e156_48 : ∀ (x0 : Int32) (x1 : Int32) (x2 : Int32), (mm_E 156 48 ls (.int x2 :: .int x1 :: .int x0 :: st) I r Q ↔ mm_w8 st = true ∧ mm_E 93 0 [some (.int x0), some (.int x1), some (.int x2)] [] I r (fun v I2 r2 => mm_E 156 51 ls (mm_pu v st) I2 r2 Q)) := fun x0 x1 x2 => me_sc (n := 3) (As := [.int x0, .int x1, .int x2]) (xs := [.int x2, .int x1, .int x0]) mc_156 dX6_dawns_48 (by decide +kernel) (by decide +kernel) rfl rfl (Nat.le_of_ble_eq_true rfl) rfl
theorem e156_51 : mm_E 156 51 ls (.int x :: st) I r Q ↔ if ¬ x = 0 then mm_E 156 56 ls st I r Q else mm_E 156 54 ls st I r Q := me_zne mc_156 dX6_dawns_51 (by decide)
theorem e156_54 : mm_E 156 54 ls st I r Q ↔ mm_E 156 55 ls (.int (-1) :: st) I r Q := me_ic mc_156 dX6_dawns_54 (by decide)
theorem e156_55 : mm_E 156 55 ls [.int x] I r Q ↔ Q (some (.int x)) I r := me_ri mc_156 dX6_dawns_55 rfl
theorem e156_56 : mm_E 156 56 [some (.ref a), l1, l2, l3, l4, l5, l6, l7, l8, l9, l10] st I r Q ↔ mm_E 156 57 [some (.ref a), l1, l2, l3, l4, l5, l6, l7, l8, l9, l10] (.ref a :: st) I r Q := me_al mc_156 dX6_dawns_56 rfl
theorem e156_57 : mm_E 156 57 [l0, l1, l2, some (.int x), l4, l5, l6, l7, l8, l9, l10] st I r Q ↔ mm_E 156 58 [l0, l1, l2, some (.int x), l4, l5, l6, l7, l8, l9, l10] (.int x :: st) I r Q := me_il mc_156 dX6_dawns_57 rfl
theorem e156_58 : mm_E 156 58 [l0, l1, l2, l3, some (.int x), l5, l6, l7, l8, l9, l10] st I r Q ↔ mm_E 156 60 [l0, l1, l2, l3, some (.int x), l5, l6, l7, l8, l9, l10] (.int x :: st) I r Q := me_il2 mc_156 dX6_dawns_58 rfl
theorem e156_60 : mm_E 156 60 [l0, l1, l2, l3, l4, some (.int x), l6, l7, l8, l9, l10] st I r Q ↔ mm_E 156 62 [l0, l1, l2, l3, l4, some (.int x), l6, l7, l8, l9, l10] (.int x :: st) I r Q := me_il2 mc_156 dX6_dawns_60 rfl
theorem e156_62 : mm_E 156 62 [l0, l1, l2, l3, l4, l5, some (.int x), l7, l8, l9, l10] st I r Q ↔ mm_E 156 64 [l0, l1, l2, l3, l4, l5, some (.int x), l7, l8, l9, l10] (.int x :: st) I r Q := me_il2 mc_156 dX6_dawns_62 rfl
theorem e156_64 : ∀ (x0 : Int32) (x1 : Int32) (x2 : Int32) (x3 : Int32), (mm_E 156 64 ls (.int x3 :: .int x2 :: .int x1 :: .int x0 :: .ref a :: st) I r Q ↔ (mm_w8 st = true ∧ mm_S r a = (1, 6)) ∧ mm_E 154 0 [some (.ref a), some (.int x0), some (.int x1), some (.int x2), some (.int x3)] [] I r (fun v I2 r2 => mm_E 156 67 ls (mm_pu v st) I2 r2 Q)) := fun x0 x1 x2 x3 => me_vc (n := 4) (As := [.int x0, .int x1, .int x2, .int x3]) (xs := [.int x3, .int x2, .int x1, .int x0]) (a := a) mc_156 dX6_dawns_64 (by decide +kernel) (by decide +kernel) rfl rfl (Nat.le_of_ble_eq_true rfl) rfl
theorem e156_67 : mm_E 156 67 [l0, l1, l2, l3, l4, l5, l6, l7, l8, l9, l10] (.int x :: st) I r Q ↔ mm_c1 l7 ∧ mm_E 156 69 [l0, l1, l2, l3, l4, l5, l6, l7, some (.int x), l9, l10] st I r Q := me_st (k := 8) (v := .int x) mc_156 dX6_dawns_67 rfl rfl (Nat.le_of_ble_eq_true rfl) rfl ⟨Or.inr, fun h => h.resolve_left (by decide)⟩
theorem e156_69 : mm_E 156 69 [l0, l1, l2, l3, l4, l5, l6, l7, some (.int x), l9, l10] st I r Q ↔ mm_E 156 71 [l0, l1, l2, l3, l4, l5, l6, l7, some (.int x), l9, l10] (.int x :: st) I r Q := me_il2 mc_156 dX6_dawns_69 rfl
theorem e156_71 : mm_E 156 71 ls (.int x :: st) I r Q ↔ if x = 0 then mm_E 156 77 ls st I r Q else mm_E 156 74 ls st I r Q := me_zeq mc_156 dX6_dawns_71 (by decide)
theorem e156_74 : mm_E 156 74 [l0, l1, l2, l3, l4, l5, l6, l7, some (.int x), l9, l10] st I r Q ↔ mm_E 156 76 [l0, l1, l2, l3, l4, l5, l6, l7, some (.int x), l9, l10] (.int x :: st) I r Q := me_il2 mc_156 dX6_dawns_74 rfl
theorem e156_76 : mm_E 156 76 ls [.int x] I r Q ↔ Q (some (.int x)) I r := me_ri mc_156 dX6_dawns_76 rfl
theorem e156_77 : mm_E 156 77 ls st I r Q ↔ mm_E 156 78 ls (.int 0 :: st) I r Q := me_ic mc_156 dX6_dawns_77 (by decide)
theorem e156_78 : mm_E 156 78 [l0, l1, l2, l3, l4, l5, l6, l7, l8, l9, l10] (.int x :: st) I r Q ↔ mm_c1 l8 ∧ mm_E 156 80 [l0, l1, l2, l3, l4, l5, l6, l7, l8, some (.int x), l10] st I r Q := me_st (k := 9) (v := .int x) mc_156 dX6_dawns_78 rfl rfl (Nat.le_of_ble_eq_true rfl) rfl ⟨Or.inr, fun h => h.resolve_left (by decide)⟩
theorem e156_80 : mm_E 156 80 [l0, l1, l2, l3, l4, l5, l6, some (.int x), l8, l9, l10] st I r Q ↔ mm_E 156 82 [l0, l1, l2, l3, l4, l5, l6, some (.int x), l8, l9, l10] (.int x :: st) I r Q := me_il2 mc_156 dX6_dawns_80 rfl
theorem e156_82 : mm_E 156 82 [l0, l1, l2, l3, l4, l5, l6, l7, l8, l9, l10] (.int x :: st) I r Q ↔ mm_c1 l9 ∧ mm_E 156 84 [l0, l1, l2, l3, l4, l5, l6, l7, l8, l9, some (.int x)] st I r Q := me_st (k := 10) (v := .int x) mc_156 dX6_dawns_82 rfl rfl (Nat.le_of_ble_eq_true rfl) rfl ⟨Or.inr, fun h => h.resolve_left (by decide)⟩
theorem e156_84 : mm_E 156 84 [l0, l1, l2, l3, l4, l5, l6, l7, l8, l9, some (.int x)] st I r Q ↔ mm_E 156 86 [l0, l1, l2, l3, l4, l5, l6, l7, l8, l9, some (.int x)] (.int x :: st) I r Q := me_il2 mc_156 dX6_dawns_84 rfl
theorem e156_86 : mm_E 156 86 [l0, l1, l2, l3, l4, l5, l6, some (.int x), l8, l9, l10] st I r Q ↔ mm_E 156 88 [l0, l1, l2, l3, l4, l5, l6, some (.int x), l8, l9, l10] (.int x :: st) I r Q := me_il2 mc_156 dX6_dawns_86 rfl
theorem e156_88 : mm_E 156 88 ls (.int x :: st) I r Q ↔ if ¬ x = 0 then mm_E 156 95 ls st I r Q else mm_E 156 91 ls st I r Q := me_zne mc_156 dX6_dawns_88 (by decide)
theorem e156_91 : mm_E 156 91 ls st I r Q ↔ mm_E 156 92 ls (.int 4 :: st) I r Q := me_ic mc_156 dX6_dawns_91 (by decide)
theorem e156_92 : mm_E 156 92 ls st I r Q ↔ mm_E 156 97 ls st I r Q := me_goto mc_156 dX6_dawns_92 (by decide)
theorem e156_95 : mm_E 156 95 ls st I r Q ↔ mm_E 156 97 ls (.int 9 :: st) I r Q := me_bi mc_156 dX6_dawns_95 (by decide)
theorem e156_97 : mm_E 156 97 ls (.int y :: .int x :: st) I r Q ↔ if y < x then mm_E 156 157 ls st I r Q else mm_E 156 100 ls st I r Q := me_cgt mc_156 dX6_dawns_97 (by decide)
theorem e156_100 : mm_E 156 100 [some (.ref a), l1, l2, l3, l4, l5, l6, l7, l8, l9, l10] st I r Q ↔ mm_E 156 101 [some (.ref a), l1, l2, l3, l4, l5, l6, l7, l8, l9, l10] (.ref a :: st) I r Q := me_al mc_156 dX6_dawns_100 rfl
theorem e156_101 : (mm_E 156 101 ls (.ref a :: st) I r Q ↔ (mm_w8 st = true ∧ mm_S r a = (1, 6)) ∧ mm_E 136 0 [some (.ref a), none] [] I r (fun v I2 r2 => mm_E 156 104 ls (mm_pu v st) I2 r2 Q)) := me_vc (n := 0) (As := []) (xs := []) (a := a) mc_156 dX6_dawns_101 (by decide +kernel) (by decide +kernel) rfl rfl (Nat.le_of_ble_eq_true rfl) rfl
theorem e156_104 : mm_E 156 104 [some (.ref a), l1, l2, l3, l4, l5, l6, l7, l8, l9, l10] st I r Q ↔ mm_E 156 105 [some (.ref a), l1, l2, l3, l4, l5, l6, l7, l8, l9, l10] (.ref a :: st) I r Q := me_al mc_156 dX6_dawns_104 rfl
theorem e156_105 : mm_E 156 105 ls (.ref a :: st) I r Q ↔ mm_S r a = (1, 6) ∧ mm_E 156 108 ls (va_rf (mm_P r a 8) :: st) I r Q := me_gr mc_156 dX6_dawns_105 (by decide +kernel) rfl
theorem e156_108 : mm_E 156 108 [l0, l1, l2, l3, l4, l5, l6, some (.int x), l8, l9, l10] st I r Q ↔ mm_E 156 110 [l0, l1, l2, l3, l4, l5, l6, some (.int x), l8, l9, l10] (.int x :: st) I r Q := me_il2 mc_156 dX6_dawns_108 rfl
theorem e156_110 : mm_E 156 110 ls (.int x :: st) I r Q ↔ if ¬ x = 0 then mm_E 156 118 ls st I r Q else mm_E 156 113 ls st I r Q := me_zne mc_156 dX6_dawns_110 (by decide)
theorem e156_113 : mm_E 156 113 ls st I r Q ↔ mm_E 156 115 ls (.int 29 :: st) I r Q := me_bi mc_156 dX6_dawns_113 (by decide)
theorem e156_115 : mm_E 156 115 ls st I r Q ↔ mm_E 156 120 ls st I r Q := me_goto mc_156 dX6_dawns_115 (by decide)
theorem e156_118 : mm_E 156 118 ls st I r Q ↔ mm_E 156 120 ls (.int 34 :: st) I r Q := me_bi mc_156 dX6_dawns_118 (by decide)
theorem e156_120 : mm_E 156 120 [l0, some (.int x), l2, l3, l4, l5, l6, l7, l8, l9, l10] st I r Q ↔ mm_E 156 121 [l0, some (.int x), l2, l3, l4, l5, l6, l7, l8, l9, l10] (.int x :: st) I r Q := me_il mc_156 dX6_dawns_120 rfl
theorem e156_121 : mm_E 156 121 ls (.int y :: .int x :: st) I r Q ↔ mm_E 156 122 ls (.int (x + y) :: st) I r Q := me_iadd mc_156 dX6_dawns_121
theorem e156_122 : mm_E 156 122 [l0, l1, l2, l3, l4, l5, l6, l7, l8, l9, some (.int x)] st I r Q ↔ mm_E 156 124 [l0, l1, l2, l3, l4, l5, l6, l7, l8, l9, some (.int x)] (.int x :: st) I r Q := me_il2 mc_156 dX6_dawns_122 rfl
theorem e156_124 : mm_E 156 124 ls (.int y :: .int x :: .ref a :: st) I r Q ↔ mm_ix r a 2 x ∧ mm_E 156 125 ls st (mm_uI I a x.toNatClampNeg y) r Q := me_is mc_156 dX6_dawns_124
theorem e156_125 : mm_E 156 125 [l0, l1, l2, l3, l4, l5, l6, l7, l8, some (.int x), l10] st I r Q ↔ mm_E 156 127 [l0, l1, l2, l3, l4, l5, l6, l7, l8, some (.int x), l10] (.int x :: st) I r Q := me_il2 mc_156 dX6_dawns_125 rfl
theorem e156_127 : mm_E 156 127 [some (.ref a), l1, l2, l3, l4, l5, l6, l7, l8, l9, l10] st I r Q ↔ mm_E 156 128 [some (.ref a), l1, l2, l3, l4, l5, l6, l7, l8, l9, l10] (.ref a :: st) I r Q := me_al mc_156 dX6_dawns_127 rfl
theorem e156_128 : mm_E 156 128 [l0, l1, some (.int x), l3, l4, l5, l6, l7, l8, l9, l10] st I r Q ↔ mm_E 156 129 [l0, l1, some (.int x), l3, l4, l5, l6, l7, l8, l9, l10] (.int x :: st) I r Q := me_il mc_156 dX6_dawns_128 rfl
theorem e156_129 : mm_E 156 129 [l0, l1, l2, some (.int x), l4, l5, l6, l7, l8, l9, l10] st I r Q ↔ mm_E 156 130 [l0, l1, l2, some (.int x), l4, l5, l6, l7, l8, l9, l10] (.int x :: st) I r Q := me_il mc_156 dX6_dawns_129 rfl
theorem e156_130 : mm_E 156 130 [l0, l1, l2, l3, l4, some (.int x), l6, l7, l8, l9, l10] st I r Q ↔ mm_E 156 132 [l0, l1, l2, l3, l4, some (.int x), l6, l7, l8, l9, l10] (.int x :: st) I r Q := me_il2 mc_156 dX6_dawns_130 rfl
theorem e156_132 : mm_E 156 132 [l0, l1, l2, l3, l4, l5, some (.int x), l7, l8, l9, l10] st I r Q ↔ mm_E 156 134 [l0, l1, l2, l3, l4, l5, some (.int x), l7, l8, l9, l10] (.int x :: st) I r Q := me_il2 mc_156 dX6_dawns_132 rfl
theorem e156_134 : ∀ (x0 : Int32) (x1 : Int32) (x2 : Int32) (x3 : Int32), (mm_E 156 134 ls (.int x3 :: .int x2 :: .int x1 :: .int x0 :: .ref a :: st) I r Q ↔ (mm_w8 st = true ∧ mm_S r a = (1, 6)) ∧ mm_E 155 0 [some (.ref a), some (.int x0), some (.int x1), some (.int x2), some (.int x3), none, none] [] I r (fun v I2 r2 => mm_E 156 137 ls (mm_pu v st) I2 r2 Q)) := fun x0 x1 x2 x3 => me_vc (n := 4) (As := [.int x0, .int x1, .int x2, .int x3]) (xs := [.int x3, .int x2, .int x1, .int x0]) (a := a) mc_156 dX6_dawns_134 (by decide +kernel) (by decide +kernel) rfl rfl (Nat.le_of_ble_eq_true rfl) rfl
theorem e156_137 : mm_E 156 137 ls (.int x :: st) I r Q ↔ if x = 0 then mm_E 156 147 ls st I r Q else mm_E 156 140 ls st I r Q := me_zeq mc_156 dX6_dawns_137 (by decide)
theorem e156_140 : mm_E 156 140 ls st I r Q ↔ mm_E 156 141 ls (.int 1 :: st) I r Q := me_ic mc_156 dX6_dawns_140 (by decide)
theorem e156_141 : mm_E 156 141 [l0, l1, l2, l3, l4, l5, l6, l7, l8, l9, some (.int x)] st I r Q ↔ mm_E 156 143 [l0, l1, l2, l3, l4, l5, l6, l7, l8, l9, some (.int x)] (.int x :: st) I r Q := me_il2 mc_156 dX6_dawns_141 rfl
theorem e156_143 : mm_E 156 143 ls (.int y :: .int x :: st) I r Q ↔ mm_E 156 144 ls (.int (x <<< (y &&& 31)) :: st) I r Q := me_ishl mc_156 dX6_dawns_143
theorem e156_144 : mm_E 156 144 ls st I r Q ↔ mm_E 156 148 ls st I r Q := me_goto mc_156 dX6_dawns_144 (by decide)
theorem e156_147 : mm_E 156 147 ls st I r Q ↔ mm_E 156 148 ls (.int 0 :: st) I r Q := me_ic mc_156 dX6_dawns_147 (by decide)
theorem e156_148 : mm_E 156 148 ls (.int y :: .int x :: st) I r Q ↔ mm_E 156 149 ls (.int (x ||| y) :: st) I r Q := me_ior mc_156 dX6_dawns_148
theorem e156_149 : mm_E 156 149 [l0, l1, l2, l3, l4, l5, l6, l7, l8, l9, l10] (.int x :: st) I r Q ↔ mm_c1 l8 ∧ mm_E 156 151 [l0, l1, l2, l3, l4, l5, l6, l7, l8, some (.int x), l10] st I r Q := me_st (k := 9) (v := .int x) mc_156 dX6_dawns_149 rfl rfl (Nat.le_of_ble_eq_true rfl) rfl ⟨Or.inr, fun h => h.resolve_left (by decide)⟩
theorem e156_151 : mm_E 156 151 [l0, l1, l2, l3, l4, l5, l6, l7, l8, l9, some (.int x)] st I r Q ↔ mm_c1 l9 ∧ mm_E 156 154 [l0, l1, l2, l3, l4, l5, l6, l7, l8, l9, some (.int (x + 1))] st I r Q := me_st (k := 10) (v := .int (x + 1)) mc_156 dX6_dawns_151 rfl rfl (Nat.le_of_ble_eq_true rfl) rfl ⟨Or.inr, fun h => h.resolve_left (by decide)⟩
theorem e156_154 : mm_E 156 154 ls st I r Q ↔ mm_E 156 84 ls st I r Q := me_goto mc_156 dX6_dawns_154 (by decide)
theorem e156_157 : mm_E 156 157 [l0, l1, l2, l3, l4, l5, l6, l7, l8, some (.int x), l10] st I r Q ↔ mm_E 156 159 [l0, l1, l2, l3, l4, l5, l6, l7, l8, some (.int x), l10] (.int x :: st) I r Q := me_il2 mc_156 dX6_dawns_157 rfl
theorem e156_159 : mm_E 156 159 ls [.int x] I r Q ↔ Q (some (.int x)) I r := me_ri mc_156 dX6_dawns_159 rfl
theorem mc_157 : mm_c 157 = cX6_cutTo := rfl
theorem e157_0 : mm_E 157 0 [some (.int x), l1, l2] st I r Q ↔ mm_E 157 1 [some (.int x), l1, l2] (.int x :: st) I r Q := me_il mc_157 dX6_cutTo_0 rfl
theorem e157_1 : mm_E 157 1 ls (.int x :: st) I r Q ↔ if ¬ x = 0 then mm_E 157 11 ls st I r Q else mm_E 157 4 ls st I r Q := me_zne mc_157 dX6_cutTo_1 (by decide)
theorem e157_4 : mm_E 157 4 [l0, some (.long z), l2] st I r Q ↔ mm_E 157 5 [l0, some (.long z), l2] (.long z :: st) I r Q := me_ll mc_157 dX6_cutTo_4 rfl
theorem e157_5 : mm_E 157 5 ls (.long z :: st) I r Q ↔ mm_E 157 6 ls (.int z.toInt32 :: st) I r Q := me_l2i mc_157 dX6_cutTo_5
theorem e157_6 : mm_E 157 6 ls (.int x :: st) I r Q ↔ mm_E 157 7 ls (.int x.toInt8.toInt32 :: st) I r Q := me_i2b mc_157 dX6_cutTo_6
theorem e157_7 : mm_E 157 7 ls (.int x :: st) I r Q ↔ mm_E 157 8 ls (.long x.toInt64 :: st) I r Q := me_i2l mc_157 dX6_cutTo_7
theorem e157_8 : mm_E 157 8 ls st I r Q ↔ mm_E 157 35 ls st I r Q := me_goto mc_157 dX6_cutTo_8 (by decide)
theorem e157_11 : mm_E 157 11 [some (.int x), l1, l2] st I r Q ↔ mm_E 157 12 [some (.int x), l1, l2] (.int x :: st) I r Q := me_il mc_157 dX6_cutTo_11 rfl
theorem e157_12 : mm_E 157 12 ls st I r Q ↔ mm_E 157 13 ls (.int 1 :: st) I r Q := me_ic mc_157 dX6_cutTo_12 (by decide)
theorem e157_13 : mm_E 157 13 ls (.int y :: .int x :: st) I r Q ↔ if ¬ x = y then mm_E 157 23 ls st I r Q else mm_E 157 16 ls st I r Q := me_cne mc_157 dX6_cutTo_13 (by decide)
theorem e157_16 : mm_E 157 16 [l0, some (.long z), l2] st I r Q ↔ mm_E 157 17 [l0, some (.long z), l2] (.long z :: st) I r Q := me_ll mc_157 dX6_cutTo_16 rfl
theorem e157_17 : mm_E 157 17 ls (.long z :: st) I r Q ↔ mm_E 157 18 ls (.int z.toInt32 :: st) I r Q := me_l2i mc_157 dX6_cutTo_17
theorem e157_18 : mm_E 157 18 ls (.int x :: st) I r Q ↔ mm_E 157 19 ls (.int x.toInt16.toInt32 :: st) I r Q := me_i2s mc_157 dX6_cutTo_18
theorem e157_19 : mm_E 157 19 ls (.int x :: st) I r Q ↔ mm_E 157 20 ls (.long x.toInt64 :: st) I r Q := me_i2l mc_157 dX6_cutTo_19
theorem e157_20 : mm_E 157 20 ls st I r Q ↔ mm_E 157 35 ls st I r Q := me_goto mc_157 dX6_cutTo_20 (by decide)
theorem e157_23 : mm_E 157 23 [some (.int x), l1, l2] st I r Q ↔ mm_E 157 24 [some (.int x), l1, l2] (.int x :: st) I r Q := me_il mc_157 dX6_cutTo_23 rfl
theorem e157_24 : mm_E 157 24 ls st I r Q ↔ mm_E 157 25 ls (.int 2 :: st) I r Q := me_ic mc_157 dX6_cutTo_24 (by decide)
theorem e157_25 : mm_E 157 25 ls (.int y :: .int x :: st) I r Q ↔ if ¬ x = y then mm_E 157 34 ls st I r Q else mm_E 157 28 ls st I r Q := me_cne mc_157 dX6_cutTo_25 (by decide)
theorem e157_28 : mm_E 157 28 [l0, some (.long z), l2] st I r Q ↔ mm_E 157 29 [l0, some (.long z), l2] (.long z :: st) I r Q := me_ll mc_157 dX6_cutTo_28 rfl
theorem e157_29 : mm_E 157 29 ls (.long z :: st) I r Q ↔ mm_E 157 30 ls (.int z.toInt32 :: st) I r Q := me_l2i mc_157 dX6_cutTo_29
theorem e157_30 : mm_E 157 30 ls (.int x :: st) I r Q ↔ mm_E 157 31 ls (.long x.toInt64 :: st) I r Q := me_i2l mc_157 dX6_cutTo_30
theorem e157_31 : mm_E 157 31 ls st I r Q ↔ mm_E 157 35 ls st I r Q := me_goto mc_157 dX6_cutTo_31 (by decide)
theorem e157_34 : mm_E 157 34 [l0, some (.long z), l2] st I r Q ↔ mm_E 157 35 [l0, some (.long z), l2] (.long z :: st) I r Q := me_ll mc_157 dX6_cutTo_34 rfl
theorem e157_35 : mm_E 157 35 ls [.long z] I r Q ↔ Q (some (.long z)) I r := me_rl mc_157 dX6_cutTo_35 rfl
theorem mc_158 : mm_c 158 = cX6_film := rfl
theorem e158_0 : mm_E 158 0 [some (.ref a), l1, l2, l3, l4, l5, l6, l7] st I r Q ↔ mm_E 158 1 [some (.ref a), l1, l2, l3, l4, l5, l6, l7] (.ref a :: st) I r Q := me_al mc_158 dX6_film_0 rfl
theorem e158_1 : mm_E 158 1 [l0, some (.int x), l2, l3, l4, l5, l6, l7] st I r Q ↔ mm_E 158 2 [l0, some (.int x), l2, l3, l4, l5, l6, l7] (.int x :: st) I r Q := me_il mc_158 dX6_film_1 rfl
theorem e158_2 : ∀ (x0 : Int32), (mm_E 158 2 ls (.int x0 :: .ref a :: st) I r Q ↔ (mm_w8 st = true ∧ mm_S r a = (1, 6)) ∧ mm_E 97 0 [some (.ref a), some (.int x0)] [] I r (fun v I2 r2 => mm_E 158 5 ls (mm_pu v st) I2 r2 Q)) := fun x0 => me_vc (n := 1) (As := [.int x0]) (xs := [.int x0]) (a := a) mc_158 dX6_film_2 (by decide +kernel) (by decide +kernel) rfl rfl (Nat.le_of_ble_eq_true rfl) rfl
theorem e158_5 : mm_E 158 5 ls (.int x :: st) I r Q ↔ if x = 0 then mm_E 158 35 ls st I r Q else mm_E 158 8 ls st I r Q := me_zeq mc_158 dX6_film_5 (by decide)
theorem e158_8 : mm_E 158 8 [l0, l1, some (.int x), l3, l4, l5, l6, l7] st I r Q ↔ mm_E 158 9 [l0, l1, some (.int x), l3, l4, l5, l6, l7] (.int x :: st) I r Q := me_il mc_158 dX6_film_8 rfl
theorem e158_9 : mm_E 158 9 ls st I r Q ↔ mm_E 158 10 ls (.int 1 :: st) I r Q := me_ic mc_158 dX6_film_9 (by decide)
theorem e158_10 : mm_E 158 10 ls st I r Q ↔ mm_E 158 12 ls (.int 24 :: st) I r Q := me_bi mc_158 dX6_film_10 (by decide)
theorem e158_12 : ∀ (x0 : Int32) (x1 : Int32) (x2 : Int32), (mm_E 158 12 ls (.int x2 :: .int x1 :: .int x0 :: st) I r Q ↔ mm_w8 st = true ∧ mm_E 93 0 [some (.int x0), some (.int x1), some (.int x2)] [] I r (fun v I2 r2 => mm_E 158 15 ls (mm_pu v st) I2 r2 Q)) := fun x0 x1 x2 => me_sc (n := 3) (As := [.int x0, .int x1, .int x2]) (xs := [.int x2, .int x1, .int x0]) mc_158 dX6_film_12 (by decide +kernel) (by decide +kernel) rfl rfl (Nat.le_of_ble_eq_true rfl) rfl
theorem e158_15 : mm_E 158 15 ls (.int x :: st) I r Q ↔ if x = 0 then mm_E 158 35 ls st I r Q else mm_E 158 18 ls st I r Q := me_zeq mc_158 dX6_film_15 (by decide)
theorem e158_18 : mm_E 158 18 [l0, l1, l2, some (.int x), l4, l5, l6, l7] st I r Q ↔ mm_E 158 19 [l0, l1, l2, some (.int x), l4, l5, l6, l7] (.int x :: st) I r Q := me_il mc_158 dX6_film_18 rfl
theorem e158_19 : ∀ (x0 : Int32), (mm_E 158 19 ls (.int x0 :: st) I r Q ↔ mm_w8 st = true ∧ mm_E 152 0 [some (.int x0)] [] I r (fun v I2 r2 => mm_E 158 22 ls (mm_pu v st) I2 r2 Q)) := fun x0 => me_sc (n := 1) (As := [.int x0]) (xs := [.int x0]) mc_158 dX6_film_19 (by decide +kernel) (by decide +kernel) rfl rfl (Nat.le_of_ble_eq_true rfl) rfl
theorem e158_22 : mm_E 158 22 ls (.int x :: st) I r Q ↔ if x = 0 then mm_E 158 35 ls st I r Q else mm_E 158 25 ls st I r Q := me_zeq mc_158 dX6_film_22 (by decide)
theorem e158_25 : mm_E 158 25 [l0, l1, l2, l3, some (.int x), l5, l6, l7] st I r Q ↔ mm_E 158 27 [l0, l1, l2, l3, some (.int x), l5, l6, l7] (.int x :: st) I r Q := me_il2 mc_158 dX6_film_25 rfl
theorem e158_27 : mm_E 158 27 ls st I r Q ↔ mm_E 158 28 ls (.int 0 :: st) I r Q := me_ic mc_158 dX6_film_27 (by decide)
theorem e158_28 : mm_E 158 28 ls st I r Q ↔ mm_E 158 29 ls (.int 3 :: st) I r Q := me_ic mc_158 dX6_film_28 (by decide)
theorem e158_29 : ∀ (x0 : Int32) (x1 : Int32) (x2 : Int32), (mm_E 158 29 ls (.int x2 :: .int x1 :: .int x0 :: st) I r Q ↔ mm_w8 st = true ∧ mm_E 93 0 [some (.int x0), some (.int x1), some (.int x2)] [] I r (fun v I2 r2 => mm_E 158 32 ls (mm_pu v st) I2 r2 Q)) := fun x0 x1 x2 => me_sc (n := 3) (As := [.int x0, .int x1, .int x2]) (xs := [.int x2, .int x1, .int x0]) mc_158 dX6_film_29 (by decide +kernel) (by decide +kernel) rfl rfl (Nat.le_of_ble_eq_true rfl) rfl
theorem e158_32 : mm_E 158 32 ls (.int x :: st) I r Q ↔ if ¬ x = 0 then mm_E 158 37 ls st I r Q else mm_E 158 35 ls st I r Q := me_zne mc_158 dX6_film_32 (by decide)
theorem e158_35 : mm_E 158 35 ls st I r Q ↔ mm_E 158 36 ls (.int (-1) :: st) I r Q := me_ic mc_158 dX6_film_35 (by decide)
theorem e158_36 : mm_E 158 36 ls [.int x] I r Q ↔ Q (some (.int x)) I r := me_ri mc_158 dX6_film_36 rfl
theorem e158_37 : mm_E 158 37 [some (.ref a), l1, l2, l3, l4, l5, l6, l7] st I r Q ↔ mm_E 158 38 [some (.ref a), l1, l2, l3, l4, l5, l6, l7] (.ref a :: st) I r Q := me_al mc_158 dX6_film_37 rfl
theorem e158_38 : mm_E 158 38 [l0, l1, l2, some (.int x), l4, l5, l6, l7] st I r Q ↔ mm_E 158 39 [l0, l1, l2, some (.int x), l4, l5, l6, l7] (.int x :: st) I r Q := me_il mc_158 dX6_film_38 rfl
theorem e158_39 : mm_E 158 39 [l0, l1, l2, l3, some (.int x), l5, l6, l7] st I r Q ↔ mm_E 158 41 [l0, l1, l2, l3, some (.int x), l5, l6, l7] (.int x :: st) I r Q := me_il2 mc_158 dX6_film_39 rfl
theorem e158_41 : mm_E 158 41 [l0, l1, l2, l3, l4, some (.int x), l6, l7] st I r Q ↔ mm_E 158 43 [l0, l1, l2, l3, l4, some (.int x), l6, l7] (.int x :: st) I r Q := me_il2 mc_158 dX6_film_41 rfl
theorem e158_43 : mm_E 158 43 [l0, l1, some (.int x), l3, l4, l5, l6, l7] st I r Q ↔ mm_E 158 44 [l0, l1, some (.int x), l3, l4, l5, l6, l7] (.int x :: st) I r Q := me_il mc_158 dX6_film_43 rfl
theorem e158_44 : ∀ (x0 : Int32) (x1 : Int32) (x2 : Int32) (x3 : Int32), (mm_E 158 44 ls (.int x3 :: .int x2 :: .int x1 :: .int x0 :: .ref a :: st) I r Q ↔ (mm_w8 st = true ∧ mm_S r a = (1, 6)) ∧ mm_E 154 0 [some (.ref a), some (.int x0), some (.int x1), some (.int x2), some (.int x3)] [] I r (fun v I2 r2 => mm_E 158 47 ls (mm_pu v st) I2 r2 Q)) := fun x0 x1 x2 x3 => me_vc (n := 4) (As := [.int x0, .int x1, .int x2, .int x3]) (xs := [.int x3, .int x2, .int x1, .int x0]) (a := a) mc_158 dX6_film_44 (by decide +kernel) (by decide +kernel) rfl rfl (Nat.le_of_ble_eq_true rfl) rfl
theorem e158_47 : mm_E 158 47 [l0, l1, l2, l3, l4, l5, l6, l7] (.int x :: st) I r Q ↔ mm_c1 l5 ∧ mm_E 158 49 [l0, l1, l2, l3, l4, l5, some (.int x), l7] st I r Q := me_st (k := 6) (v := .int x) mc_158 dX6_film_47 rfl rfl (Nat.le_of_ble_eq_true rfl) rfl ⟨Or.inr, fun h => h.resolve_left (by decide)⟩
theorem e158_49 : mm_E 158 49 [l0, l1, l2, l3, l4, l5, some (.int x), l7] st I r Q ↔ mm_E 158 51 [l0, l1, l2, l3, l4, l5, some (.int x), l7] (.int x :: st) I r Q := me_il2 mc_158 dX6_film_49 rfl
theorem e158_51 : mm_E 158 51 ls (.int x :: st) I r Q ↔ if x = 0 then mm_E 158 57 ls st I r Q else mm_E 158 54 ls st I r Q := me_zeq mc_158 dX6_film_51 (by decide)
theorem e158_54 : mm_E 158 54 [l0, l1, l2, l3, l4, l5, some (.int x), l7] st I r Q ↔ mm_E 158 56 [l0, l1, l2, l3, l4, l5, some (.int x), l7] (.int x :: st) I r Q := me_il2 mc_158 dX6_film_54 rfl
theorem e158_56 : mm_E 158 56 ls [.int x] I r Q ↔ Q (some (.int x)) I r := me_ri mc_158 dX6_film_56 rfl
theorem e158_57 : mm_E 158 57 [some (.ref a), l1, l2, l3, l4, l5, l6, l7] st I r Q ↔ mm_E 158 58 [some (.ref a), l1, l2, l3, l4, l5, l6, l7] (.ref a :: st) I r Q := me_al mc_158 dX6_film_57 rfl
theorem e158_58 : (mm_E 158 58 ls (.ref a :: st) I r Q ↔ (mm_w8 st = true ∧ mm_S r a = (1, 6)) ∧ mm_E 136 0 [some (.ref a), none] [] I r (fun v I2 r2 => mm_E 158 61 ls (mm_pu v st) I2 r2 Q)) := me_vc (n := 0) (As := []) (xs := []) (a := a) mc_158 dX6_film_58 (by decide +kernel) (by decide +kernel) rfl rfl (Nat.le_of_ble_eq_true rfl) rfl
theorem e158_61 : mm_E 158 61 ls st I r Q ↔ mm_E 158 62 ls (.int 0 :: st) I r Q := me_ic mc_158 dX6_film_61 (by decide)
theorem e158_62 : mm_E 158 62 [l0, l1, l2, l3, l4, l5, l6, l7] (.int x :: st) I r Q ↔ mm_c1 l6 ∧ mm_E 158 64 [l0, l1, l2, l3, l4, l5, l6, some (.int x)] st I r Q := me_st (k := 7) (v := .int x) mc_158 dX6_film_62 rfl rfl (Nat.le_of_ble_eq_true rfl) rfl ⟨Or.inr, fun h => h.resolve_left (by decide)⟩
theorem e158_64 : mm_E 158 64 [l0, l1, l2, l3, l4, l5, l6, some (.int x)] st I r Q ↔ mm_E 158 66 [l0, l1, l2, l3, l4, l5, l6, some (.int x)] (.int x :: st) I r Q := me_il2 mc_158 dX6_film_64 rfl
theorem e158_66 : mm_E 158 66 [l0, l1, some (.int x), l3, l4, l5, l6, l7] st I r Q ↔ mm_E 158 67 [l0, l1, some (.int x), l3, l4, l5, l6, l7] (.int x :: st) I r Q := me_il mc_158 dX6_film_66 rfl
theorem e158_67 : mm_E 158 67 ls (.int y :: .int x :: st) I r Q ↔ if y ≤ x then mm_E 158 114 ls st I r Q else mm_E 158 70 ls st I r Q := me_cge mc_158 dX6_film_67 (by decide)
theorem e158_70 : mm_E 158 70 [some (.ref a), l1, l2, l3, l4, l5, l6, l7] st I r Q ↔ mm_E 158 71 [some (.ref a), l1, l2, l3, l4, l5, l6, l7] (.ref a :: st) I r Q := me_al mc_158 dX6_film_70 rfl
theorem e158_71 : mm_E 158 71 [some (.ref a), l1, l2, l3, l4, l5, l6, l7] st I r Q ↔ mm_E 158 72 [some (.ref a), l1, l2, l3, l4, l5, l6, l7] (.ref a :: st) I r Q := me_al mc_158 dX6_film_71 rfl
theorem e158_72 : mm_E 158 72 ls (.ref a :: st) I r Q ↔ mm_S r a = (1, 6) ∧ mm_E 158 75 ls (va_rf (mm_P r a 8) :: st) I r Q := me_gr mc_158 dX6_film_72 (by decide +kernel) rfl
theorem e158_75 : mm_E 158 75 ls st I r Q ↔ mm_E 158 76 ls (.int 0 :: st) I r Q := me_ic mc_158 dX6_film_75 (by decide)
theorem e158_76 : ∀ (x0 : Nat) (x1 : Int32), (mm_E 158 76 ls (.int x1 :: .ref x0 :: .ref a :: st) I r Q ↔ (mm_w8 st = true ∧ mm_S r a = (1, 6)) ∧ mm_E 127 0 [some (.ref a), some (.ref x0), some (.int x1), none, none, none] [] I r (fun v I2 r2 => mm_E 158 79 ls (mm_pu v st) I2 r2 Q)) := fun x0 x1 => me_vc (n := 2) (As := [.ref x0, .int x1]) (xs := [.int x1, .ref x0]) (a := a) mc_158 dX6_film_76 (by decide +kernel) (by decide +kernel) rfl rfl (Nat.le_of_ble_eq_true rfl) rfl
theorem e158_79 : mm_E 158 79 [some (.ref a), l1, l2, l3, l4, l5, l6, l7] st I r Q ↔ mm_E 158 80 [some (.ref a), l1, l2, l3, l4, l5, l6, l7] (.ref a :: st) I r Q := me_al mc_158 dX6_film_79 rfl
theorem e158_80 : mm_E 158 80 ls (.ref a :: st) I r Q ↔ mm_S r a = (1, 6) ∧ mm_E 158 83 ls (va_rf (mm_P r a 2) :: st) I r Q := me_gr mc_158 dX6_film_80 (by decide +kernel) rfl
theorem e158_83 : mm_E 158 83 ls st I r Q ↔ mm_E 158 85 ls (.int 24 :: st) I r Q := me_bi mc_158 dX6_film_83 (by decide)
theorem e158_85 : mm_E 158 85 [l0, l1, l2, some (.int x), l4, l5, l6, l7] st I r Q ↔ mm_E 158 86 [l0, l1, l2, some (.int x), l4, l5, l6, l7] (.int x :: st) I r Q := me_il mc_158 dX6_film_85 rfl
theorem e158_86 : mm_E 158 86 ls (.int y :: .int x :: st) I r Q ↔ mm_E 158 87 ls (.int (x * y) :: st) I r Q := me_imul mc_158 dX6_film_86
theorem e158_87 : mm_E 158 87 [l0, l1, l2, l3, l4, some (.int x), l6, l7] st I r Q ↔ mm_E 158 89 [l0, l1, l2, l3, l4, some (.int x), l6, l7] (.int x :: st) I r Q := me_il2 mc_158 dX6_film_87 rfl
theorem e158_89 : mm_E 158 89 ls (.int y :: .int x :: st) I r Q ↔ mm_E 158 90 ls (.int (x + y) :: st) I r Q := me_iadd mc_158 dX6_film_89
theorem e158_90 : mm_E 158 90 [l0, l1, l2, l3, l4, l5, l6, some (.int x)] st I r Q ↔ mm_E 158 92 [l0, l1, l2, l3, l4, l5, l6, some (.int x)] (.int x :: st) I r Q := me_il2 mc_158 dX6_film_90 rfl
theorem e158_92 : mm_E 158 92 ls (.int y :: .int x :: st) I r Q ↔ mm_E 158 93 ls (.int (x + y) :: st) I r Q := me_iadd mc_158 dX6_film_92
theorem e158_93 : mm_E 158 93 [l0, l1, l2, l3, some (.int x), l5, l6, l7] st I r Q ↔ mm_E 158 95 [l0, l1, l2, l3, some (.int x), l5, l6, l7] (.int x :: st) I r Q := me_il2 mc_158 dX6_film_93 rfl
theorem e158_95 : mm_E 158 95 [some (.ref a), l1, l2, l3, l4, l5, l6, l7] st I r Q ↔ mm_E 158 96 [some (.ref a), l1, l2, l3, l4, l5, l6, l7] (.ref a :: st) I r Q := me_al mc_158 dX6_film_95 rfl
theorem e158_96 : mm_E 158 96 ls (.ref a :: st) I r Q ↔ mm_S r a = (1, 6) ∧ mm_E 158 99 ls (va_rf (mm_P r a 8) :: st) I r Q := me_gr mc_158 dX6_film_96 (by decide +kernel) rfl
theorem e158_99 : mm_E 158 99 ls st I r Q ↔ mm_E 158 100 ls (.int 3 :: st) I r Q := me_ic mc_158 dX6_film_99 (by decide)
theorem e158_100 : mm_E 158 100 [l0, some (.int x), l2, l3, l4, l5, l6, l7] st I r Q ↔ mm_E 158 101 [l0, some (.int x), l2, l3, l4, l5, l6, l7] (.int x :: st) I r Q := me_il mc_158 dX6_film_100 rfl
theorem e158_101 : mm_E 158 101 ls (.int y :: .int x :: st) I r Q ↔ mm_E 158 102 ls (.int (x + y) :: st) I r Q := me_iadd mc_158 dX6_film_101
theorem e158_102 : mm_E 158 102 ls (.int x :: .ref a :: st) I r Q ↔ mm_ix r a 2 x ∧ mm_E 158 103 ls (.int (mm_rd I a x.toNatClampNeg) :: st) I r Q := me_ia mc_158 dX6_film_102
theorem e158_103 : mm_E 158 103 ls (.int x :: st) I r Q ↔ mm_E 158 104 ls (.long x.toInt64 :: st) I r Q := me_i2l mc_158 dX6_film_103
theorem e158_104 : ∀ (x0 : Int32) (x1 : Int64), (mm_E 158 104 ls (.long x1 :: .int x0 :: st) I r Q ↔ mm_w8 st = true ∧ mm_E 157 0 [some (.int x0), some (.long x1), none] [] I r (fun v I2 r2 => mm_E 158 107 ls (mm_pu v st) I2 r2 Q)) := fun x0 x1 => me_sc (n := 2) (As := [.int x0, .long x1]) (xs := [.long x1, .int x0]) mc_158 dX6_film_104 (by decide +kernel) (by decide +kernel) rfl rfl (Nat.le_of_ble_eq_true rfl) rfl
theorem e158_107 : mm_E 158 107 ls (.long z :: .int x :: .ref a :: st) I r Q ↔ mm_ix r a 3 x ∧ mm_E 158 108 ls st I (mm_uG r a x.toNatClampNeg z) Q := me_ls mc_158 dX6_film_107
theorem e158_108 : mm_E 158 108 [l0, l1, l2, l3, l4, l5, l6, some (.int x)] st I r Q ↔ mm_c1 l6 ∧ mm_E 158 111 [l0, l1, l2, l3, l4, l5, l6, some (.int (x + 1))] st I r Q := me_st (k := 7) (v := .int (x + 1)) mc_158 dX6_film_108 rfl rfl (Nat.le_of_ble_eq_true rfl) rfl ⟨Or.inr, fun h => h.resolve_left (by decide)⟩
theorem e158_111 : mm_E 158 111 ls st I r Q ↔ mm_E 158 64 ls st I r Q := me_goto mc_158 dX6_film_111 (by decide)
theorem e158_114 : mm_E 158 114 [l0, l1, some (.int x), l3, l4, l5, l6, l7] st I r Q ↔ mm_E 158 115 [l0, l1, some (.int x), l3, l4, l5, l6, l7] (.int x :: st) I r Q := me_il mc_158 dX6_film_114 rfl
theorem e158_115 : mm_E 158 115 ls [.int x] I r Q ↔ Q (some (.int x)) I r := me_ri mc_158 dX6_film_115 rfl
theorem mc_159 : mm_c 159 = cX6_sheet := rfl
theorem e159_0 : mm_E 159 0 [l0, some (.int x), l2, l3, l4] st I r Q ↔ mm_E 159 1 [l0, some (.int x), l2, l3, l4] (.int x :: st) I r Q := me_il mc_159 dX6_sheet_0 rfl
theorem e159_1 : ∀ (x0 : Int32), (mm_E 159 1 ls (.int x0 :: st) I r Q ↔ mm_w8 st = true ∧ mm_E 152 0 [some (.int x0)] [] I r (fun v I2 r2 => mm_E 159 4 ls (mm_pu v st) I2 r2 Q)) := fun x0 => me_sc (n := 1) (As := [.int x0]) (xs := [.int x0]) mc_159 dX6_sheet_1 (by decide +kernel) (by decide +kernel) rfl rfl (Nat.le_of_ble_eq_true rfl) rfl
theorem e159_4 : mm_E 159 4 ls (.int x :: st) I r Q ↔ if x = 0 then mm_E 159 22 ls st I r Q else mm_E 159 7 ls st I r Q := me_zeq mc_159 dX6_sheet_4 (by decide)
theorem e159_7 : mm_E 159 7 [l0, l1, some (.int x), l3, l4] st I r Q ↔ mm_E 159 8 [l0, l1, some (.int x), l3, l4] (.int x :: st) I r Q := me_il mc_159 dX6_sheet_7 rfl
theorem e159_8 : mm_E 159 8 ls st I r Q ↔ mm_E 159 9 ls (.int 0 :: st) I r Q := me_ic mc_159 dX6_sheet_8 (by decide)
theorem e159_9 : mm_E 159 9 ls st I r Q ↔ mm_E 159 10 ls (.int 3 :: st) I r Q := me_ic mc_159 dX6_sheet_9 (by decide)
theorem e159_10 : ∀ (x0 : Int32) (x1 : Int32) (x2 : Int32), (mm_E 159 10 ls (.int x2 :: .int x1 :: .int x0 :: st) I r Q ↔ mm_w8 st = true ∧ mm_E 93 0 [some (.int x0), some (.int x1), some (.int x2)] [] I r (fun v I2 r2 => mm_E 159 13 ls (mm_pu v st) I2 r2 Q)) := fun x0 x1 x2 => me_sc (n := 3) (As := [.int x0, .int x1, .int x2]) (xs := [.int x2, .int x1, .int x0]) mc_159 dX6_sheet_10 (by decide +kernel) (by decide +kernel) rfl rfl (Nat.le_of_ble_eq_true rfl) rfl
theorem e159_13 : mm_E 159 13 ls (.int x :: st) I r Q ↔ if x = 0 then mm_E 159 22 ls st I r Q else mm_E 159 16 ls st I r Q := me_zeq mc_159 dX6_sheet_13 (by decide)
theorem e159_16 : mm_E 159 16 [l0, l1, l2, some (.int x), l4] st I r Q ↔ mm_E 159 17 [l0, l1, l2, some (.int x), l4] (.int x :: st) I r Q := me_il mc_159 dX6_sheet_16 rfl
theorem e159_17 : mm_E 159 17 ls st I r Q ↔ mm_E 159 19 ls (.int 24 :: st) I r Q := me_bi mc_159 dX6_sheet_17 (by decide)
theorem e159_19 : mm_E 159 19 ls (.int y :: .int x :: st) I r Q ↔ if x ≤ y then mm_E 159 24 ls st I r Q else mm_E 159 22 ls st I r Q := me_cle mc_159 dX6_sheet_19 (by decide)
theorem e159_22 : mm_E 159 22 ls st I r Q ↔ mm_E 159 23 ls (.int (-1) :: st) I r Q := me_ic mc_159 dX6_sheet_22 (by decide)
theorem e159_23 : mm_E 159 23 ls [.int x] I r Q ↔ Q (some (.int x)) I r := me_ri mc_159 dX6_sheet_23 rfl
theorem e159_24 : mm_E 159 24 [l0, l1, l2, some (.int x), l4] st I r Q ↔ mm_E 159 25 [l0, l1, l2, some (.int x), l4] (.int x :: st) I r Q := me_il mc_159 dX6_sheet_24 rfl
theorem e159_25 : mm_E 159 25 ls (.int x :: st) I r Q ↔ if 0 ≤ x then mm_E 159 31 ls st I r Q else mm_E 159 28 ls st I r Q := me_zge mc_159 dX6_sheet_25 (by decide)
theorem e159_28 : mm_E 159 28 ls st I r Q ↔ mm_E 159 30 ls (.int (-14) :: st) I r Q := me_bi mc_159 dX6_sheet_28 (by decide)
theorem e159_30 : mm_E 159 30 ls [.int x] I r Q ↔ Q (some (.int x)) I r := me_ri mc_159 dX6_sheet_30 rfl
theorem e159_31 : mm_E 159 31 [some (.ref a), l1, l2, l3, l4] st I r Q ↔ mm_E 159 32 [some (.ref a), l1, l2, l3, l4] (.ref a :: st) I r Q := me_al mc_159 dX6_sheet_31 rfl
theorem e159_32 : mm_E 159 32 ls (.ref a :: st) I r Q ↔ mm_S r a = (1, 6) ∧ mm_E 159 35 ls (va_rf (mm_P r a 0) :: st) I r Q := me_gr mc_159 dX6_sheet_32 (by decide +kernel) rfl
theorem e159_35 : mm_E 159 35 [l0, some (.int x), l2, l3, l4] st I r Q ↔ mm_E 159 36 [l0, some (.int x), l2, l3, l4] (.int x :: st) I r Q := me_il mc_159 dX6_sheet_35 rfl
theorem e159_36 : mm_E 159 36 [l0, l1, some (.int x), l3, l4] st I r Q ↔ mm_E 159 37 [l0, l1, some (.int x), l3, l4] (.int x :: st) I r Q := me_il mc_159 dX6_sheet_36 rfl
theorem e159_37 : mm_E 159 37 ls (.int y :: .int x :: .ref a :: st) I r Q ↔ mm_ix r a 2 x ∧ mm_E 159 38 ls st (mm_uI I a x.toNatClampNeg y) r Q := me_is mc_159 dX6_sheet_37
theorem e159_38 : mm_E 159 38 [some (.ref a), l1, l2, l3, l4] st I r Q ↔ mm_E 159 39 [some (.ref a), l1, l2, l3, l4] (.ref a :: st) I r Q := me_al mc_159 dX6_sheet_38 rfl
theorem e159_39 : mm_E 159 39 ls (.ref a :: st) I r Q ↔ mm_S r a = (1, 6) ∧ mm_E 159 42 ls (va_rf (mm_P r a 1) :: st) I r Q := me_gr mc_159 dX6_sheet_39 (by decide +kernel) rfl
theorem e159_42 : mm_E 159 42 [l0, some (.int x), l2, l3, l4] st I r Q ↔ mm_E 159 43 [l0, some (.int x), l2, l3, l4] (.int x :: st) I r Q := me_il mc_159 dX6_sheet_42 rfl
theorem e159_43 : mm_E 159 43 [l0, l1, l2, some (.int x), l4] st I r Q ↔ mm_E 159 44 [l0, l1, l2, some (.int x), l4] (.int x :: st) I r Q := me_il mc_159 dX6_sheet_43 rfl
theorem e159_44 : mm_E 159 44 ls (.int y :: .int x :: .ref a :: st) I r Q ↔ mm_ix r a 2 x ∧ mm_E 159 45 ls st (mm_uI I a x.toNatClampNeg y) r Q := me_is mc_159 dX6_sheet_44
theorem e159_45 : mm_E 159 45 ls st I r Q ↔ mm_E 159 46 ls (.int 0 :: st) I r Q := me_ic mc_159 dX6_sheet_45 (by decide)
theorem e159_46 : mm_E 159 46 [l0, l1, l2, l3, l4] (.int x :: st) I r Q ↔ mm_c1 l3 ∧ mm_E 159 48 [l0, l1, l2, l3, some (.int x)] st I r Q := me_st (k := 4) (v := .int x) mc_159 dX6_sheet_46 rfl rfl (Nat.le_of_ble_eq_true rfl) rfl ⟨Or.inr, fun h => h.resolve_left (by decide)⟩
theorem e159_48 : mm_E 159 48 [l0, l1, l2, l3, some (.int x)] st I r Q ↔ mm_E 159 50 [l0, l1, l2, l3, some (.int x)] (.int x :: st) I r Q := me_il2 mc_159 dX6_sheet_48 rfl
theorem e159_50 : mm_E 159 50 ls st I r Q ↔ mm_E 159 52 ls (.int 24 :: st) I r Q := me_bi mc_159 dX6_sheet_50 (by decide)
theorem e159_52 : mm_E 159 52 ls (.int y :: .int x :: st) I r Q ↔ if y ≤ x then mm_E 159 74 ls st I r Q else mm_E 159 55 ls st I r Q := me_cge mc_159 dX6_sheet_52 (by decide)
theorem e159_55 : mm_E 159 55 [some (.ref a), l1, l2, l3, l4] st I r Q ↔ mm_E 159 56 [some (.ref a), l1, l2, l3, l4] (.ref a :: st) I r Q := me_al mc_159 dX6_sheet_55 rfl
theorem e159_56 : mm_E 159 56 ls (.ref a :: st) I r Q ↔ mm_S r a = (1, 6) ∧ mm_E 159 59 ls (va_rf (mm_P r a 2) :: st) I r Q := me_gr mc_159 dX6_sheet_56 (by decide +kernel) rfl
theorem e159_59 : mm_E 159 59 ls st I r Q ↔ mm_E 159 61 ls (.int 24 :: st) I r Q := me_bi mc_159 dX6_sheet_59 (by decide)
theorem e159_61 : mm_E 159 61 [l0, some (.int x), l2, l3, l4] st I r Q ↔ mm_E 159 62 [l0, some (.int x), l2, l3, l4] (.int x :: st) I r Q := me_il mc_159 dX6_sheet_61 rfl
theorem e159_62 : mm_E 159 62 ls (.int y :: .int x :: st) I r Q ↔ mm_E 159 63 ls (.int (x * y) :: st) I r Q := me_imul mc_159 dX6_sheet_62
theorem e159_63 : mm_E 159 63 [l0, l1, l2, l3, some (.int x)] st I r Q ↔ mm_E 159 65 [l0, l1, l2, l3, some (.int x)] (.int x :: st) I r Q := me_il2 mc_159 dX6_sheet_63 rfl
theorem e159_65 : mm_E 159 65 ls (.int y :: .int x :: st) I r Q ↔ mm_E 159 66 ls (.int (x + y) :: st) I r Q := me_iadd mc_159 dX6_sheet_65
theorem e159_66 : mm_E 159 66 ls st I r Q ↔ mm_E 159 67 ls (.long 0 :: st) I r Q := me_lc mc_159 dX6_sheet_66 (by decide)
theorem e159_67 : mm_E 159 67 ls (.long z :: .int x :: .ref a :: st) I r Q ↔ mm_ix r a 3 x ∧ mm_E 159 68 ls st I (mm_uG r a x.toNatClampNeg z) Q := me_ls mc_159 dX6_sheet_67
theorem e159_68 : mm_E 159 68 [l0, l1, l2, l3, some (.int x)] st I r Q ↔ mm_c1 l3 ∧ mm_E 159 71 [l0, l1, l2, l3, some (.int (x + 1))] st I r Q := me_st (k := 4) (v := .int (x + 1)) mc_159 dX6_sheet_68 rfl rfl (Nat.le_of_ble_eq_true rfl) rfl ⟨Or.inr, fun h => h.resolve_left (by decide)⟩
theorem e159_71 : mm_E 159 71 ls st I r Q ↔ mm_E 159 48 ls st I r Q := me_goto mc_159 dX6_sheet_71 (by decide)
theorem e159_74 : mm_E 159 74 [l0, l1, l2, some (.int x), l4] st I r Q ↔ mm_E 159 75 [l0, l1, l2, some (.int x), l4] (.int x :: st) I r Q := me_il mc_159 dX6_sheet_74 rfl
theorem e159_75 : mm_E 159 75 ls [.int x] I r Q ↔ Q (some (.int x)) I r := me_ri mc_159 dX6_sheet_75 rfl
theorem mc_160 : mm_c 160 = cX6_drop := rfl
theorem e160_0 : mm_E 160 0 [l0, some (.int x)] st I r Q ↔ mm_E 160 1 [l0, some (.int x)] (.int x :: st) I r Q := me_il mc_160 dX6_drop_0 rfl
theorem e160_1 : ∀ (x0 : Int32), (mm_E 160 1 ls (.int x0 :: st) I r Q ↔ mm_w8 st = true ∧ mm_E 152 0 [some (.int x0)] [] I r (fun v I2 r2 => mm_E 160 4 ls (mm_pu v st) I2 r2 Q)) := fun x0 => me_sc (n := 1) (As := [.int x0]) (xs := [.int x0]) mc_160 dX6_drop_1 (by decide +kernel) (by decide +kernel) rfl rfl (Nat.le_of_ble_eq_true rfl) rfl
theorem e160_4 : mm_E 160 4 ls (.int x :: st) I r Q ↔ if ¬ x = 0 then mm_E 160 9 ls st I r Q else mm_E 160 7 ls st I r Q := me_zne mc_160 dX6_drop_4 (by decide)
theorem e160_7 : mm_E 160 7 ls st I r Q ↔ mm_E 160 8 ls (.int (-1) :: st) I r Q := me_ic mc_160 dX6_drop_7 (by decide)
theorem e160_8 : mm_E 160 8 ls [.int x] I r Q ↔ Q (some (.int x)) I r := me_ri mc_160 dX6_drop_8 rfl
theorem e160_9 : mm_E 160 9 [some (.ref a), l1] st I r Q ↔ mm_E 160 10 [some (.ref a), l1] (.ref a :: st) I r Q := me_al mc_160 dX6_drop_9 rfl
theorem e160_10 : mm_E 160 10 ls (.ref a :: st) I r Q ↔ mm_S r a = (1, 6) ∧ mm_E 160 13 ls (va_rf (mm_P r a 0) :: st) I r Q := me_gr mc_160 dX6_drop_10 (by decide +kernel) rfl
theorem e160_13 : mm_E 160 13 [l0, some (.int x)] st I r Q ↔ mm_E 160 14 [l0, some (.int x)] (.int x :: st) I r Q := me_il mc_160 dX6_drop_13 rfl
theorem e160_14 : mm_E 160 14 ls (.int x :: .ref a :: st) I r Q ↔ mm_ix r a 2 x ∧ mm_E 160 15 ls (.int (mm_rd I a x.toNatClampNeg) :: st) I r Q := me_ia mc_160 dX6_drop_14
theorem e160_15 : mm_E 160 15 ls (.int x :: st) I r Q ↔ if 0 ≤ x then mm_E 160 21 ls st I r Q else mm_E 160 18 ls st I r Q := me_zge mc_160 dX6_drop_15 (by decide)
theorem e160_18 : mm_E 160 18 ls st I r Q ↔ mm_E 160 20 ls (.int (-11) :: st) I r Q := me_bi mc_160 dX6_drop_18 (by decide)
theorem e160_20 : mm_E 160 20 ls [.int x] I r Q ↔ Q (some (.int x)) I r := me_ri mc_160 dX6_drop_20 rfl
theorem e160_21 : mm_E 160 21 [some (.ref a), l1] st I r Q ↔ mm_E 160 22 [some (.ref a), l1] (.ref a :: st) I r Q := me_al mc_160 dX6_drop_21 rfl
theorem e160_22 : mm_E 160 22 ls (.ref a :: st) I r Q ↔ mm_S r a = (1, 6) ∧ mm_E 160 25 ls (va_rf (mm_P r a 0) :: st) I r Q := me_gr mc_160 dX6_drop_22 (by decide +kernel) rfl
theorem e160_25 : mm_E 160 25 [l0, some (.int x)] st I r Q ↔ mm_E 160 26 [l0, some (.int x)] (.int x :: st) I r Q := me_il mc_160 dX6_drop_25 rfl
theorem e160_26 : mm_E 160 26 ls st I r Q ↔ mm_E 160 27 ls (.int (-1) :: st) I r Q := me_ic mc_160 dX6_drop_26 (by decide)
theorem e160_27 : mm_E 160 27 ls (.int y :: .int x :: .ref a :: st) I r Q ↔ mm_ix r a 2 x ∧ mm_E 160 28 ls st (mm_uI I a x.toNatClampNeg y) r Q := me_is mc_160 dX6_drop_27
theorem e160_28 : mm_E 160 28 [some (.ref a), l1] st I r Q ↔ mm_E 160 29 [some (.ref a), l1] (.ref a :: st) I r Q := me_al mc_160 dX6_drop_28 rfl
theorem e160_29 : mm_E 160 29 ls (.ref a :: st) I r Q ↔ mm_S r a = (1, 6) ∧ mm_E 160 32 ls (va_rf (mm_P r a 1) :: st) I r Q := me_gr mc_160 dX6_drop_29 (by decide +kernel) rfl
theorem e160_32 : mm_E 160 32 [l0, some (.int x)] st I r Q ↔ mm_E 160 33 [l0, some (.int x)] (.int x :: st) I r Q := me_il mc_160 dX6_drop_32 rfl
theorem e160_33 : mm_E 160 33 ls (.int x :: .ref a :: st) I r Q ↔ mm_ix r a 2 x ∧ mm_E 160 34 ls (.int (mm_rd I a x.toNatClampNeg) :: st) I r Q := me_ia mc_160 dX6_drop_33
theorem e160_34 : mm_E 160 34 ls [.int x] I r Q ↔ Q (some (.int x)) I r := me_ri mc_160 dX6_drop_34 rfl
theorem mc_161 : mm_c 161 = cX6_item := rfl
theorem e161_0 : mm_E 161 0 [l0, some (.int x), l2, l3, l4, l5, l6] st I r Q ↔ mm_E 161 1 [l0, some (.int x), l2, l3, l4, l5, l6] (.int x :: st) I r Q := me_il mc_161 dX6_item_0 rfl
theorem e161_1 : ∀ (x0 : Int32), (mm_E 161 1 ls (.int x0 :: st) I r Q ↔ mm_w8 st = true ∧ mm_E 152 0 [some (.int x0)] [] I r (fun v I2 r2 => mm_E 161 4 ls (mm_pu v st) I2 r2 Q)) := fun x0 => me_sc (n := 1) (As := [.int x0]) (xs := [.int x0]) mc_161 dX6_item_1 (by decide +kernel) (by decide +kernel) rfl rfl (Nat.le_of_ble_eq_true rfl) rfl
theorem e161_4 : mm_E 161 4 ls (.int x :: st) I r Q ↔ if x = 0 then mm_E 161 16 ls st I r Q else mm_E 161 7 ls st I r Q := me_zeq mc_161 dX6_item_4 (by decide)
theorem e161_7 : mm_E 161 7 [l0, l1, some (.int x), l3, l4, l5, l6] st I r Q ↔ mm_E 161 8 [l0, l1, some (.int x), l3, l4, l5, l6] (.int x :: st) I r Q := me_il mc_161 dX6_item_7 rfl
theorem e161_8 : mm_E 161 8 ls st I r Q ↔ mm_E 161 9 ls (.int 0 :: st) I r Q := me_ic mc_161 dX6_item_8 (by decide)
theorem e161_9 : mm_E 161 9 ls st I r Q ↔ mm_E 161 10 ls (.int 3 :: st) I r Q := me_ic mc_161 dX6_item_9 (by decide)
theorem e161_10 : ∀ (x0 : Int32) (x1 : Int32) (x2 : Int32), (mm_E 161 10 ls (.int x2 :: .int x1 :: .int x0 :: st) I r Q ↔ mm_w8 st = true ∧ mm_E 93 0 [some (.int x0), some (.int x1), some (.int x2)] [] I r (fun v I2 r2 => mm_E 161 13 ls (mm_pu v st) I2 r2 Q)) := fun x0 x1 x2 => me_sc (n := 3) (As := [.int x0, .int x1, .int x2]) (xs := [.int x2, .int x1, .int x0]) mc_161 dX6_item_10 (by decide +kernel) (by decide +kernel) rfl rfl (Nat.le_of_ble_eq_true rfl) rfl
theorem e161_13 : mm_E 161 13 ls (.int x :: st) I r Q ↔ if ¬ x = 0 then mm_E 161 18 ls st I r Q else mm_E 161 16 ls st I r Q := me_zne mc_161 dX6_item_13 (by decide)
theorem e161_16 : mm_E 161 16 ls st I r Q ↔ mm_E 161 17 ls (.int (-1) :: st) I r Q := me_ic mc_161 dX6_item_16 (by decide)
theorem e161_17 : mm_E 161 17 ls [.int x] I r Q ↔ Q (some (.int x)) I r := me_ri mc_161 dX6_item_17 rfl
theorem e161_18 : mm_E 161 18 [some (.ref a), l1, l2, l3, l4, l5, l6] st I r Q ↔ mm_E 161 19 [some (.ref a), l1, l2, l3, l4, l5, l6] (.ref a :: st) I r Q := me_al mc_161 dX6_item_18 rfl
theorem e161_19 : mm_E 161 19 [l0, some (.int x), l2, l3, l4, l5, l6] st I r Q ↔ mm_E 161 20 [l0, some (.int x), l2, l3, l4, l5, l6] (.int x :: st) I r Q := me_il mc_161 dX6_item_19 rfl
theorem e161_20 : mm_E 161 20 [l0, l1, some (.int x), l3, l4, l5, l6] st I r Q ↔ mm_E 161 21 [l0, l1, some (.int x), l3, l4, l5, l6] (.int x :: st) I r Q := me_il mc_161 dX6_item_20 rfl
theorem e161_21 : mm_E 161 21 [l0, l1, l2, some (.int x), l4, l5, l6] st I r Q ↔ mm_E 161 22 [l0, l1, l2, some (.int x), l4, l5, l6] (.int x :: st) I r Q := me_il mc_161 dX6_item_21 rfl
theorem e161_22 : mm_E 161 22 ls st I r Q ↔ mm_E 161 23 ls (.int 1 :: st) I r Q := me_ic mc_161 dX6_item_22 (by decide)
theorem e161_23 : ∀ (x0 : Int32) (x1 : Int32) (x2 : Int32) (x3 : Int32), (mm_E 161 23 ls (.int x3 :: .int x2 :: .int x1 :: .int x0 :: .ref a :: st) I r Q ↔ (mm_w8 st = true ∧ mm_S r a = (1, 6)) ∧ mm_E 154 0 [some (.ref a), some (.int x0), some (.int x1), some (.int x2), some (.int x3)] [] I r (fun v I2 r2 => mm_E 161 26 ls (mm_pu v st) I2 r2 Q)) := fun x0 x1 x2 x3 => me_vc (n := 4) (As := [.int x0, .int x1, .int x2, .int x3]) (xs := [.int x3, .int x2, .int x1, .int x0]) (a := a) mc_161 dX6_item_23 (by decide +kernel) (by decide +kernel) rfl rfl (Nat.le_of_ble_eq_true rfl) rfl
theorem e161_26 : mm_E 161 26 [l0, l1, l2, l3, l4, l5, l6] (.int x :: st) I r Q ↔ mm_c1 l5 ∧ mm_E 161 28 [l0, l1, l2, l3, l4, l5, some (.int x)] st I r Q := me_st (k := 6) (v := .int x) mc_161 dX6_item_26 rfl rfl (Nat.le_of_ble_eq_true rfl) rfl ⟨Or.inr, fun h => h.resolve_left (by decide)⟩
theorem e161_28 : mm_E 161 28 [l0, l1, l2, l3, l4, l5, some (.int x)] st I r Q ↔ mm_E 161 30 [l0, l1, l2, l3, l4, l5, some (.int x)] (.int x :: st) I r Q := me_il2 mc_161 dX6_item_28 rfl
theorem e161_30 : mm_E 161 30 ls (.int x :: st) I r Q ↔ if x = 0 then mm_E 161 36 ls st I r Q else mm_E 161 33 ls st I r Q := me_zeq mc_161 dX6_item_30 (by decide)
theorem e161_33 : mm_E 161 33 [l0, l1, l2, l3, l4, l5, some (.int x)] st I r Q ↔ mm_E 161 35 [l0, l1, l2, l3, l4, l5, some (.int x)] (.int x :: st) I r Q := me_il2 mc_161 dX6_item_33 rfl
theorem e161_35 : mm_E 161 35 ls [.int x] I r Q ↔ Q (some (.int x)) I r := me_ri mc_161 dX6_item_35 rfl
theorem e161_36 : mm_E 161 36 [some (.ref a), l1, l2, l3, l4, l5, l6] st I r Q ↔ mm_E 161 37 [some (.ref a), l1, l2, l3, l4, l5, l6] (.ref a :: st) I r Q := me_al mc_161 dX6_item_36 rfl
theorem e161_37 : mm_E 161 37 ls (.ref a :: st) I r Q ↔ mm_S r a = (1, 6) ∧ mm_E 161 40 ls (va_rf (mm_P r a 2) :: st) I r Q := me_gr mc_161 dX6_item_37 (by decide +kernel) rfl
theorem e161_40 : mm_E 161 40 ls st I r Q ↔ mm_E 161 42 ls (.int 24 :: st) I r Q := me_bi mc_161 dX6_item_40 (by decide)
theorem e161_42 : mm_E 161 42 [l0, some (.int x), l2, l3, l4, l5, l6] st I r Q ↔ mm_E 161 43 [l0, some (.int x), l2, l3, l4, l5, l6] (.int x :: st) I r Q := me_il mc_161 dX6_item_42 rfl
theorem e161_43 : mm_E 161 43 ls (.int y :: .int x :: st) I r Q ↔ mm_E 161 44 ls (.int (x * y) :: st) I r Q := me_imul mc_161 dX6_item_43
theorem e161_44 : mm_E 161 44 [l0, l1, l2, some (.int x), l4, l5, l6] st I r Q ↔ mm_E 161 45 [l0, l1, l2, some (.int x), l4, l5, l6] (.int x :: st) I r Q := me_il mc_161 dX6_item_44 rfl
theorem e161_45 : mm_E 161 45 ls (.int y :: .int x :: st) I r Q ↔ mm_E 161 46 ls (.int (x + y) :: st) I r Q := me_iadd mc_161 dX6_item_45
theorem e161_46 : mm_E 161 46 [l0, l1, some (.int x), l3, l4, l5, l6] st I r Q ↔ mm_E 161 47 [l0, l1, some (.int x), l3, l4, l5, l6] (.int x :: st) I r Q := me_il mc_161 dX6_item_46 rfl
theorem e161_47 : mm_E 161 47 ls (.int x :: st) I r Q ↔ if ¬ x = 0 then mm_E 161 58 ls st I r Q else mm_E 161 50 ls st I r Q := me_zne mc_161 dX6_item_47 (by decide)
theorem e161_50 : mm_E 161 50 [l0, l1, l2, l3, some (.long z), l5, l6] st I r Q ↔ mm_E 161 52 [l0, l1, l2, l3, some (.long z), l5, l6] (.long z :: st) I r Q := me_ll2 mc_161 dX6_item_50 rfl
theorem e161_52 : mm_E 161 52 ls (.long z :: st) I r Q ↔ mm_E 161 53 ls (.int z.toInt32 :: st) I r Q := me_l2i mc_161 dX6_item_52
theorem e161_53 : mm_E 161 53 ls (.int x :: st) I r Q ↔ mm_E 161 54 ls (.int x.toInt8.toInt32 :: st) I r Q := me_i2b mc_161 dX6_item_53
theorem e161_54 : mm_E 161 54 ls (.int x :: st) I r Q ↔ mm_E 161 55 ls (.long x.toInt64 :: st) I r Q := me_i2l mc_161 dX6_item_54
theorem e161_55 : mm_E 161 55 ls st I r Q ↔ mm_E 161 85 ls st I r Q := me_goto mc_161 dX6_item_55 (by decide)
theorem e161_58 : mm_E 161 58 [l0, l1, some (.int x), l3, l4, l5, l6] st I r Q ↔ mm_E 161 59 [l0, l1, some (.int x), l3, l4, l5, l6] (.int x :: st) I r Q := me_il mc_161 dX6_item_58 rfl
theorem e161_59 : mm_E 161 59 ls st I r Q ↔ mm_E 161 60 ls (.int 1 :: st) I r Q := me_ic mc_161 dX6_item_59 (by decide)
theorem e161_60 : mm_E 161 60 ls (.int y :: .int x :: st) I r Q ↔ if ¬ x = y then mm_E 161 71 ls st I r Q else mm_E 161 63 ls st I r Q := me_cne mc_161 dX6_item_60 (by decide)
theorem e161_63 : mm_E 161 63 [l0, l1, l2, l3, some (.long z), l5, l6] st I r Q ↔ mm_E 161 65 [l0, l1, l2, l3, some (.long z), l5, l6] (.long z :: st) I r Q := me_ll2 mc_161 dX6_item_63 rfl
theorem e161_65 : mm_E 161 65 ls (.long z :: st) I r Q ↔ mm_E 161 66 ls (.int z.toInt32 :: st) I r Q := me_l2i mc_161 dX6_item_65
theorem e161_66 : mm_E 161 66 ls (.int x :: st) I r Q ↔ mm_E 161 67 ls (.int x.toInt16.toInt32 :: st) I r Q := me_i2s mc_161 dX6_item_66
theorem e161_67 : mm_E 161 67 ls (.int x :: st) I r Q ↔ mm_E 161 68 ls (.long x.toInt64 :: st) I r Q := me_i2l mc_161 dX6_item_67
theorem e161_68 : mm_E 161 68 ls st I r Q ↔ mm_E 161 85 ls st I r Q := me_goto mc_161 dX6_item_68 (by decide)
theorem e161_71 : mm_E 161 71 [l0, l1, some (.int x), l3, l4, l5, l6] st I r Q ↔ mm_E 161 72 [l0, l1, some (.int x), l3, l4, l5, l6] (.int x :: st) I r Q := me_il mc_161 dX6_item_71 rfl
theorem e161_72 : mm_E 161 72 ls st I r Q ↔ mm_E 161 73 ls (.int 2 :: st) I r Q := me_ic mc_161 dX6_item_72 (by decide)
theorem e161_73 : mm_E 161 73 ls (.int y :: .int x :: st) I r Q ↔ if ¬ x = y then mm_E 161 83 ls st I r Q else mm_E 161 76 ls st I r Q := me_cne mc_161 dX6_item_73 (by decide)
theorem e161_76 : mm_E 161 76 [l0, l1, l2, l3, some (.long z), l5, l6] st I r Q ↔ mm_E 161 78 [l0, l1, l2, l3, some (.long z), l5, l6] (.long z :: st) I r Q := me_ll2 mc_161 dX6_item_76 rfl
theorem e161_78 : mm_E 161 78 ls (.long z :: st) I r Q ↔ mm_E 161 79 ls (.int z.toInt32 :: st) I r Q := me_l2i mc_161 dX6_item_78
theorem e161_79 : mm_E 161 79 ls (.int x :: st) I r Q ↔ mm_E 161 80 ls (.long x.toInt64 :: st) I r Q := me_i2l mc_161 dX6_item_79
theorem e161_80 : mm_E 161 80 ls st I r Q ↔ mm_E 161 85 ls st I r Q := me_goto mc_161 dX6_item_80 (by decide)
theorem e161_83 : mm_E 161 83 [l0, l1, l2, l3, some (.long z), l5, l6] st I r Q ↔ mm_E 161 85 [l0, l1, l2, l3, some (.long z), l5, l6] (.long z :: st) I r Q := me_ll2 mc_161 dX6_item_83 rfl
theorem e161_85 : mm_E 161 85 ls (.long z :: .int x :: .ref a :: st) I r Q ↔ mm_ix r a 3 x ∧ mm_E 161 86 ls st I (mm_uG r a x.toNatClampNeg z) Q := me_ls mc_161 dX6_item_85
theorem e161_86 : mm_E 161 86 ls st I r Q ↔ mm_E 161 87 ls (.int 1 :: st) I r Q := me_ic mc_161 dX6_item_86 (by decide)
theorem e161_87 : mm_E 161 87 ls [.int x] I r Q ↔ Q (some (.int x)) I r := me_ri mc_161 dX6_item_87 rfl
theorem mc_162 : mm_c 162 = cX6_copy := rfl
theorem e162_0 : mm_E 162 0 [l0, some (.int x), l2, l3, l4, l5, l6, l7, l8] st I r Q ↔ mm_E 162 1 [l0, some (.int x), l2, l3, l4, l5, l6, l7, l8] (.int x :: st) I r Q := me_il mc_162 dX6_copy_0 rfl
theorem e162_1 : ∀ (x0 : Int32), (mm_E 162 1 ls (.int x0 :: st) I r Q ↔ mm_w8 st = true ∧ mm_E 152 0 [some (.int x0)] [] I r (fun v I2 r2 => mm_E 162 4 ls (mm_pu v st) I2 r2 Q)) := fun x0 => me_sc (n := 1) (As := [.int x0]) (xs := [.int x0]) mc_162 dX6_copy_1 (by decide +kernel) (by decide +kernel) rfl rfl (Nat.le_of_ble_eq_true rfl) rfl
theorem e162_4 : mm_E 162 4 ls (.int x :: st) I r Q ↔ if x = 0 then mm_E 162 14 ls st I r Q else mm_E 162 7 ls st I r Q := me_zeq mc_162 dX6_copy_4 (by decide)
theorem e162_7 : mm_E 162 7 [l0, l1, l2, some (.int x), l4, l5, l6, l7, l8] st I r Q ↔ mm_E 162 8 [l0, l1, l2, some (.int x), l4, l5, l6, l7, l8] (.int x :: st) I r Q := me_il mc_162 dX6_copy_7 rfl
theorem e162_8 : ∀ (x0 : Int32), (mm_E 162 8 ls (.int x0 :: st) I r Q ↔ mm_w8 st = true ∧ mm_E 152 0 [some (.int x0)] [] I r (fun v I2 r2 => mm_E 162 11 ls (mm_pu v st) I2 r2 Q)) := fun x0 => me_sc (n := 1) (As := [.int x0]) (xs := [.int x0]) mc_162 dX6_copy_8 (by decide +kernel) (by decide +kernel) rfl rfl (Nat.le_of_ble_eq_true rfl) rfl
theorem e162_11 : mm_E 162 11 ls (.int x :: st) I r Q ↔ if ¬ x = 0 then mm_E 162 16 ls st I r Q else mm_E 162 14 ls st I r Q := me_zne mc_162 dX6_copy_11 (by decide)
theorem e162_14 : mm_E 162 14 ls st I r Q ↔ mm_E 162 15 ls (.int (-1) :: st) I r Q := me_ic mc_162 dX6_copy_14 (by decide)
theorem e162_15 : mm_E 162 15 ls [.int x] I r Q ↔ Q (some (.int x)) I r := me_ri mc_162 dX6_copy_15 rfl
theorem e162_16 : mm_E 162 16 [some (.ref a), l1, l2, l3, l4, l5, l6, l7, l8] st I r Q ↔ mm_E 162 17 [some (.ref a), l1, l2, l3, l4, l5, l6, l7, l8] (.ref a :: st) I r Q := me_al mc_162 dX6_copy_16 rfl
theorem e162_17 : mm_E 162 17 ls (.ref a :: st) I r Q ↔ mm_S r a = (1, 6) ∧ mm_E 162 20 ls (va_rf (mm_P r a 0) :: st) I r Q := me_gr mc_162 dX6_copy_17 (by decide +kernel) rfl
theorem e162_20 : mm_E 162 20 [l0, some (.int x), l2, l3, l4, l5, l6, l7, l8] st I r Q ↔ mm_E 162 21 [l0, some (.int x), l2, l3, l4, l5, l6, l7, l8] (.int x :: st) I r Q := me_il mc_162 dX6_copy_20 rfl
theorem e162_21 : mm_E 162 21 ls (.int x :: .ref a :: st) I r Q ↔ mm_ix r a 2 x ∧ mm_E 162 22 ls (.int (mm_rd I a x.toNatClampNeg) :: st) I r Q := me_ia mc_162 dX6_copy_21
theorem e162_22 : mm_E 162 22 ls (.int x :: st) I r Q ↔ if x < 0 then mm_E 162 34 ls st I r Q else mm_E 162 25 ls st I r Q := me_zlt mc_162 dX6_copy_22 (by decide)
theorem e162_25 : mm_E 162 25 [some (.ref a), l1, l2, l3, l4, l5, l6, l7, l8] st I r Q ↔ mm_E 162 26 [some (.ref a), l1, l2, l3, l4, l5, l6, l7, l8] (.ref a :: st) I r Q := me_al mc_162 dX6_copy_25 rfl
theorem e162_26 : mm_E 162 26 ls (.ref a :: st) I r Q ↔ mm_S r a = (1, 6) ∧ mm_E 162 29 ls (va_rf (mm_P r a 0) :: st) I r Q := me_gr mc_162 dX6_copy_26 (by decide +kernel) rfl
theorem e162_29 : mm_E 162 29 [l0, l1, l2, some (.int x), l4, l5, l6, l7, l8] st I r Q ↔ mm_E 162 30 [l0, l1, l2, some (.int x), l4, l5, l6, l7, l8] (.int x :: st) I r Q := me_il mc_162 dX6_copy_29 rfl
theorem e162_30 : mm_E 162 30 ls (.int x :: .ref a :: st) I r Q ↔ mm_ix r a 2 x ∧ mm_E 162 31 ls (.int (mm_rd I a x.toNatClampNeg) :: st) I r Q := me_ia mc_162 dX6_copy_30
theorem e162_31 : mm_E 162 31 ls (.int x :: st) I r Q ↔ if 0 ≤ x then mm_E 162 37 ls st I r Q else mm_E 162 34 ls st I r Q := me_zge mc_162 dX6_copy_31 (by decide)
theorem e162_34 : mm_E 162 34 ls st I r Q ↔ mm_E 162 36 ls (.int (-11) :: st) I r Q := me_bi mc_162 dX6_copy_34 (by decide)
theorem e162_36 : mm_E 162 36 ls [.int x] I r Q ↔ Q (some (.int x)) I r := me_ri mc_162 dX6_copy_36 rfl
theorem e162_37 : mm_E 162 37 [some (.ref a), l1, l2, l3, l4, l5, l6, l7, l8] st I r Q ↔ mm_E 162 38 [some (.ref a), l1, l2, l3, l4, l5, l6, l7, l8] (.ref a :: st) I r Q := me_al mc_162 dX6_copy_37 rfl
theorem e162_38 : mm_E 162 38 ls (.ref a :: st) I r Q ↔ mm_S r a = (1, 6) ∧ mm_E 162 41 ls (va_rf (mm_P r a 0) :: st) I r Q := me_gr mc_162 dX6_copy_38 (by decide +kernel) rfl
theorem e162_41 : mm_E 162 41 [l0, some (.int x), l2, l3, l4, l5, l6, l7, l8] st I r Q ↔ mm_E 162 42 [l0, some (.int x), l2, l3, l4, l5, l6, l7, l8] (.int x :: st) I r Q := me_il mc_162 dX6_copy_41 rfl
theorem e162_42 : mm_E 162 42 ls (.int x :: .ref a :: st) I r Q ↔ mm_ix r a 2 x ∧ mm_E 162 43 ls (.int (mm_rd I a x.toNatClampNeg) :: st) I r Q := me_ia mc_162 dX6_copy_42
theorem e162_43 : mm_E 162 43 [some (.ref a), l1, l2, l3, l4, l5, l6, l7, l8] st I r Q ↔ mm_E 162 44 [some (.ref a), l1, l2, l3, l4, l5, l6, l7, l8] (.ref a :: st) I r Q := me_al mc_162 dX6_copy_43 rfl
theorem e162_44 : mm_E 162 44 ls (.ref a :: st) I r Q ↔ mm_S r a = (1, 6) ∧ mm_E 162 47 ls (va_rf (mm_P r a 0) :: st) I r Q := me_gr mc_162 dX6_copy_44 (by decide +kernel) rfl
theorem e162_47 : mm_E 162 47 [l0, l1, l2, some (.int x), l4, l5, l6, l7, l8] st I r Q ↔ mm_E 162 48 [l0, l1, l2, some (.int x), l4, l5, l6, l7, l8] (.int x :: st) I r Q := me_il mc_162 dX6_copy_47 rfl
theorem e162_48 : mm_E 162 48 ls (.int x :: .ref a :: st) I r Q ↔ mm_ix r a 2 x ∧ mm_E 162 49 ls (.int (mm_rd I a x.toNatClampNeg) :: st) I r Q := me_ia mc_162 dX6_copy_48
theorem e162_49 : mm_E 162 49 ls (.int y :: .int x :: st) I r Q ↔ if x = y then mm_E 162 55 ls st I r Q else mm_E 162 52 ls st I r Q := me_ceq mc_162 dX6_copy_49 (by decide)
theorem e162_52 : mm_E 162 52 ls st I r Q ↔ mm_E 162 54 ls (.int (-12) :: st) I r Q := me_bi mc_162 dX6_copy_52 (by decide)
theorem e162_54 : mm_E 162 54 ls [.int x] I r Q ↔ Q (some (.int x)) I r := me_ri mc_162 dX6_copy_54 rfl
theorem e162_55 : mm_E 162 55 [l0, l1, some (.int x), l3, l4, l5, l6, l7, l8] st I r Q ↔ mm_E 162 56 [l0, l1, some (.int x), l3, l4, l5, l6, l7, l8] (.int x :: st) I r Q := me_il mc_162 dX6_copy_55 rfl
theorem e162_56 : mm_E 162 56 [l0, l1, l2, l3, l4, some (.int x), l6, l7, l8] st I r Q ↔ mm_E 162 58 [l0, l1, l2, l3, l4, some (.int x), l6, l7, l8] (.int x :: st) I r Q := me_il2 mc_162 dX6_copy_56 rfl
theorem e162_58 : mm_E 162 58 [some (.ref a), l1, l2, l3, l4, l5, l6, l7, l8] st I r Q ↔ mm_E 162 59 [some (.ref a), l1, l2, l3, l4, l5, l6, l7, l8] (.ref a :: st) I r Q := me_al mc_162 dX6_copy_58 rfl
theorem e162_59 : mm_E 162 59 ls (.ref a :: st) I r Q ↔ mm_S r a = (1, 6) ∧ mm_E 162 62 ls (va_rf (mm_P r a 1) :: st) I r Q := me_gr mc_162 dX6_copy_59 (by decide +kernel) rfl
theorem e162_62 : mm_E 162 62 [l0, some (.int x), l2, l3, l4, l5, l6, l7, l8] st I r Q ↔ mm_E 162 63 [l0, some (.int x), l2, l3, l4, l5, l6, l7, l8] (.int x :: st) I r Q := me_il mc_162 dX6_copy_62 rfl
theorem e162_63 : mm_E 162 63 ls (.int x :: .ref a :: st) I r Q ↔ mm_ix r a 2 x ∧ mm_E 162 64 ls (.int (mm_rd I a x.toNatClampNeg) :: st) I r Q := me_ia mc_162 dX6_copy_63
theorem e162_64 : ∀ (x0 : Int32) (x1 : Int32) (x2 : Int32), (mm_E 162 64 ls (.int x2 :: .int x1 :: .int x0 :: st) I r Q ↔ mm_w8 st = true ∧ mm_E 153 0 [some (.int x0), some (.int x1), some (.int x2)] [] I r (fun v I2 r2 => mm_E 162 67 ls (mm_pu v st) I2 r2 Q)) := fun x0 x1 x2 => me_sc (n := 3) (As := [.int x0, .int x1, .int x2]) (xs := [.int x2, .int x1, .int x0]) mc_162 dX6_copy_64 (by decide +kernel) (by decide +kernel) rfl rfl (Nat.le_of_ble_eq_true rfl) rfl
theorem e162_67 : mm_E 162 67 ls (.int x :: st) I r Q ↔ if x = 0 then mm_E 162 86 ls st I r Q else mm_E 162 70 ls st I r Q := me_zeq mc_162 dX6_copy_67 (by decide)
theorem e162_70 : mm_E 162 70 [l0, l1, l2, l3, some (.int x), l5, l6, l7, l8] st I r Q ↔ mm_E 162 72 [l0, l1, l2, l3, some (.int x), l5, l6, l7, l8] (.int x :: st) I r Q := me_il2 mc_162 dX6_copy_70 rfl
theorem e162_72 : mm_E 162 72 [l0, l1, l2, l3, l4, some (.int x), l6, l7, l8] st I r Q ↔ mm_E 162 74 [l0, l1, l2, l3, l4, some (.int x), l6, l7, l8] (.int x :: st) I r Q := me_il2 mc_162 dX6_copy_72 rfl
theorem e162_74 : mm_E 162 74 [some (.ref a), l1, l2, l3, l4, l5, l6, l7, l8] st I r Q ↔ mm_E 162 75 [some (.ref a), l1, l2, l3, l4, l5, l6, l7, l8] (.ref a :: st) I r Q := me_al mc_162 dX6_copy_74 rfl
theorem e162_75 : mm_E 162 75 ls (.ref a :: st) I r Q ↔ mm_S r a = (1, 6) ∧ mm_E 162 78 ls (va_rf (mm_P r a 1) :: st) I r Q := me_gr mc_162 dX6_copy_75 (by decide +kernel) rfl
theorem e162_78 : mm_E 162 78 [l0, l1, l2, some (.int x), l4, l5, l6, l7, l8] st I r Q ↔ mm_E 162 79 [l0, l1, l2, some (.int x), l4, l5, l6, l7, l8] (.int x :: st) I r Q := me_il mc_162 dX6_copy_78 rfl
theorem e162_79 : mm_E 162 79 ls (.int x :: .ref a :: st) I r Q ↔ mm_ix r a 2 x ∧ mm_E 162 80 ls (.int (mm_rd I a x.toNatClampNeg) :: st) I r Q := me_ia mc_162 dX6_copy_79
theorem e162_80 : ∀ (x0 : Int32) (x1 : Int32) (x2 : Int32), (mm_E 162 80 ls (.int x2 :: .int x1 :: .int x0 :: st) I r Q ↔ mm_w8 st = true ∧ mm_E 153 0 [some (.int x0), some (.int x1), some (.int x2)] [] I r (fun v I2 r2 => mm_E 162 83 ls (mm_pu v st) I2 r2 Q)) := fun x0 x1 x2 => me_sc (n := 3) (As := [.int x0, .int x1, .int x2]) (xs := [.int x2, .int x1, .int x0]) mc_162 dX6_copy_80 (by decide +kernel) (by decide +kernel) rfl rfl (Nat.le_of_ble_eq_true rfl) rfl
theorem e162_83 : mm_E 162 83 ls (.int x :: st) I r Q ↔ if ¬ x = 0 then mm_E 162 89 ls st I r Q else mm_E 162 86 ls st I r Q := me_zne mc_162 dX6_copy_83 (by decide)
theorem e162_86 : mm_E 162 86 ls st I r Q ↔ mm_E 162 88 ls (.int (-13) :: st) I r Q := me_bi mc_162 dX6_copy_86 (by decide)
theorem e162_88 : mm_E 162 88 ls [.int x] I r Q ↔ Q (some (.int x)) I r := me_ri mc_162 dX6_copy_88 rfl
theorem e162_89 : mm_E 162 89 [l0, some (.int x), l2, l3, l4, l5, l6, l7, l8] st I r Q ↔ mm_E 162 90 [l0, some (.int x), l2, l3, l4, l5, l6, l7, l8] (.int x :: st) I r Q := me_il mc_162 dX6_copy_89 rfl
theorem e162_90 : mm_E 162 90 [l0, l1, l2, some (.int x), l4, l5, l6, l7, l8] st I r Q ↔ mm_E 162 91 [l0, l1, l2, some (.int x), l4, l5, l6, l7, l8] (.int x :: st) I r Q := me_il mc_162 dX6_copy_90 rfl
theorem e162_91 : mm_E 162 91 ls (.int y :: .int x :: st) I r Q ↔ if ¬ x = y then mm_E 162 104 ls st I r Q else mm_E 162 94 ls st I r Q := me_cne mc_162 dX6_copy_91 (by decide)
theorem e162_94 : mm_E 162 94 [l0, l1, l2, l3, some (.int x), l5, l6, l7, l8] st I r Q ↔ mm_E 162 96 [l0, l1, l2, l3, some (.int x), l5, l6, l7, l8] (.int x :: st) I r Q := me_il2 mc_162 dX6_copy_94 rfl
theorem e162_96 : mm_E 162 96 [l0, l1, some (.int x), l3, l4, l5, l6, l7, l8] st I r Q ↔ mm_E 162 97 [l0, l1, some (.int x), l3, l4, l5, l6, l7, l8] (.int x :: st) I r Q := me_il mc_162 dX6_copy_96 rfl
theorem e162_97 : mm_E 162 97 ls (.int y :: .int x :: st) I r Q ↔ if x ≤ y then mm_E 162 104 ls st I r Q else mm_E 162 100 ls st I r Q := me_cle mc_162 dX6_copy_97 (by decide)
theorem e162_100 : mm_E 162 100 ls st I r Q ↔ mm_E 162 101 ls (.int 1 :: st) I r Q := me_ic mc_162 dX6_copy_100 (by decide)
theorem e162_101 : mm_E 162 101 ls st I r Q ↔ mm_E 162 105 ls st I r Q := me_goto mc_162 dX6_copy_101 (by decide)
theorem e162_104 : mm_E 162 104 ls st I r Q ↔ mm_E 162 105 ls (.int 0 :: st) I r Q := me_ic mc_162 dX6_copy_104 (by decide)
theorem e162_105 : mm_E 162 105 [l0, l1, l2, l3, l4, l5, l6, l7, l8] (.int x :: st) I r Q ↔ mm_c1 l5 ∧ mm_E 162 107 [l0, l1, l2, l3, l4, l5, some (.int x), l7, l8] st I r Q := me_st (k := 6) (v := .int x) mc_162 dX6_copy_105 rfl rfl (Nat.le_of_ble_eq_true rfl) rfl ⟨Or.inr, fun h => h.resolve_left (by decide)⟩
theorem e162_107 : mm_E 162 107 ls st I r Q ↔ mm_E 162 108 ls (.int 0 :: st) I r Q := me_ic mc_162 dX6_copy_107 (by decide)
theorem e162_108 : mm_E 162 108 [l0, l1, l2, l3, l4, l5, l6, l7, l8] (.int x :: st) I r Q ↔ mm_c1 l6 ∧ mm_E 162 110 [l0, l1, l2, l3, l4, l5, l6, some (.int x), l8] st I r Q := me_st (k := 7) (v := .int x) mc_162 dX6_copy_108 rfl rfl (Nat.le_of_ble_eq_true rfl) rfl ⟨Or.inr, fun h => h.resolve_left (by decide)⟩
theorem e162_110 : mm_E 162 110 [l0, l1, l2, l3, l4, l5, l6, some (.int x), l8] st I r Q ↔ mm_E 162 112 [l0, l1, l2, l3, l4, l5, l6, some (.int x), l8] (.int x :: st) I r Q := me_il2 mc_162 dX6_copy_110 rfl
theorem e162_112 : mm_E 162 112 [l0, l1, l2, l3, l4, some (.int x), l6, l7, l8] st I r Q ↔ mm_E 162 114 [l0, l1, l2, l3, l4, some (.int x), l6, l7, l8] (.int x :: st) I r Q := me_il2 mc_162 dX6_copy_112 rfl
theorem e162_114 : mm_E 162 114 ls (.int y :: .int x :: st) I r Q ↔ if y ≤ x then mm_E 162 171 ls st I r Q else mm_E 162 117 ls st I r Q := me_cge mc_162 dX6_copy_114 (by decide)
theorem e162_117 : mm_E 162 117 [l0, l1, l2, l3, l4, l5, some (.int x), l7, l8] st I r Q ↔ mm_E 162 119 [l0, l1, l2, l3, l4, l5, some (.int x), l7, l8] (.int x :: st) I r Q := me_il2 mc_162 dX6_copy_117 rfl
theorem e162_119 : mm_E 162 119 ls (.int x :: st) I r Q ↔ if x = 0 then mm_E 162 132 ls st I r Q else mm_E 162 122 ls st I r Q := me_zeq mc_162 dX6_copy_119 (by decide)
theorem e162_122 : mm_E 162 122 [l0, l1, l2, l3, l4, some (.int x), l6, l7, l8] st I r Q ↔ mm_E 162 124 [l0, l1, l2, l3, l4, some (.int x), l6, l7, l8] (.int x :: st) I r Q := me_il2 mc_162 dX6_copy_122 rfl
theorem e162_124 : mm_E 162 124 ls st I r Q ↔ mm_E 162 125 ls (.int 1 :: st) I r Q := me_ic mc_162 dX6_copy_124 (by decide)
theorem e162_125 : mm_E 162 125 ls (.int y :: .int x :: st) I r Q ↔ mm_E 162 126 ls (.int (x - y) :: st) I r Q := me_isub mc_162 dX6_copy_125
theorem e162_126 : mm_E 162 126 [l0, l1, l2, l3, l4, l5, l6, some (.int x), l8] st I r Q ↔ mm_E 162 128 [l0, l1, l2, l3, l4, l5, l6, some (.int x), l8] (.int x :: st) I r Q := me_il2 mc_162 dX6_copy_126 rfl
theorem e162_128 : mm_E 162 128 ls (.int y :: .int x :: st) I r Q ↔ mm_E 162 129 ls (.int (x - y) :: st) I r Q := me_isub mc_162 dX6_copy_128
theorem e162_129 : mm_E 162 129 ls st I r Q ↔ mm_E 162 134 ls st I r Q := me_goto mc_162 dX6_copy_129 (by decide)
theorem e162_132 : mm_E 162 132 [l0, l1, l2, l3, l4, l5, l6, some (.int x), l8] st I r Q ↔ mm_E 162 134 [l0, l1, l2, l3, l4, l5, l6, some (.int x), l8] (.int x :: st) I r Q := me_il2 mc_162 dX6_copy_132 rfl
theorem e162_134 : mm_E 162 134 [l0, l1, l2, l3, l4, l5, l6, l7, l8] (.int x :: st) I r Q ↔ mm_c1 l7 ∧ mm_E 162 136 [l0, l1, l2, l3, l4, l5, l6, l7, some (.int x)] st I r Q := me_st (k := 8) (v := .int x) mc_162 dX6_copy_134 rfl rfl (Nat.le_of_ble_eq_true rfl) rfl ⟨Or.inr, fun h => h.resolve_left (by decide)⟩
theorem e162_136 : mm_E 162 136 [some (.ref a), l1, l2, l3, l4, l5, l6, l7, l8] st I r Q ↔ mm_E 162 137 [some (.ref a), l1, l2, l3, l4, l5, l6, l7, l8] (.ref a :: st) I r Q := me_al mc_162 dX6_copy_136 rfl
theorem e162_137 : mm_E 162 137 ls (.ref a :: st) I r Q ↔ mm_S r a = (1, 6) ∧ mm_E 162 140 ls (va_rf (mm_P r a 2) :: st) I r Q := me_gr mc_162 dX6_copy_137 (by decide +kernel) rfl
theorem e162_140 : mm_E 162 140 ls st I r Q ↔ mm_E 162 142 ls (.int 24 :: st) I r Q := me_bi mc_162 dX6_copy_140 (by decide)
theorem e162_142 : mm_E 162 142 [l0, l1, l2, some (.int x), l4, l5, l6, l7, l8] st I r Q ↔ mm_E 162 143 [l0, l1, l2, some (.int x), l4, l5, l6, l7, l8] (.int x :: st) I r Q := me_il mc_162 dX6_copy_142 rfl
theorem e162_143 : mm_E 162 143 ls (.int y :: .int x :: st) I r Q ↔ mm_E 162 144 ls (.int (x * y) :: st) I r Q := me_imul mc_162 dX6_copy_143
theorem e162_144 : mm_E 162 144 [l0, l1, l2, l3, some (.int x), l5, l6, l7, l8] st I r Q ↔ mm_E 162 146 [l0, l1, l2, l3, some (.int x), l5, l6, l7, l8] (.int x :: st) I r Q := me_il2 mc_162 dX6_copy_144 rfl
theorem e162_146 : mm_E 162 146 ls (.int y :: .int x :: st) I r Q ↔ mm_E 162 147 ls (.int (x + y) :: st) I r Q := me_iadd mc_162 dX6_copy_146
theorem e162_147 : mm_E 162 147 [l0, l1, l2, l3, l4, l5, l6, l7, some (.int x)] st I r Q ↔ mm_E 162 149 [l0, l1, l2, l3, l4, l5, l6, l7, some (.int x)] (.int x :: st) I r Q := me_il2 mc_162 dX6_copy_147 rfl
theorem e162_149 : mm_E 162 149 ls (.int y :: .int x :: st) I r Q ↔ mm_E 162 150 ls (.int (x + y) :: st) I r Q := me_iadd mc_162 dX6_copy_149
theorem e162_150 : mm_E 162 150 [some (.ref a), l1, l2, l3, l4, l5, l6, l7, l8] st I r Q ↔ mm_E 162 151 [some (.ref a), l1, l2, l3, l4, l5, l6, l7, l8] (.ref a :: st) I r Q := me_al mc_162 dX6_copy_150 rfl
theorem e162_151 : mm_E 162 151 ls (.ref a :: st) I r Q ↔ mm_S r a = (1, 6) ∧ mm_E 162 154 ls (va_rf (mm_P r a 2) :: st) I r Q := me_gr mc_162 dX6_copy_151 (by decide +kernel) rfl
theorem e162_154 : mm_E 162 154 ls st I r Q ↔ mm_E 162 156 ls (.int 24 :: st) I r Q := me_bi mc_162 dX6_copy_154 (by decide)
theorem e162_156 : mm_E 162 156 [l0, some (.int x), l2, l3, l4, l5, l6, l7, l8] st I r Q ↔ mm_E 162 157 [l0, some (.int x), l2, l3, l4, l5, l6, l7, l8] (.int x :: st) I r Q := me_il mc_162 dX6_copy_156 rfl
theorem e162_157 : mm_E 162 157 ls (.int y :: .int x :: st) I r Q ↔ mm_E 162 158 ls (.int (x * y) :: st) I r Q := me_imul mc_162 dX6_copy_157
theorem e162_158 : mm_E 162 158 [l0, l1, some (.int x), l3, l4, l5, l6, l7, l8] st I r Q ↔ mm_E 162 159 [l0, l1, some (.int x), l3, l4, l5, l6, l7, l8] (.int x :: st) I r Q := me_il mc_162 dX6_copy_158 rfl
theorem e162_159 : mm_E 162 159 ls (.int y :: .int x :: st) I r Q ↔ mm_E 162 160 ls (.int (x + y) :: st) I r Q := me_iadd mc_162 dX6_copy_159
theorem e162_160 : mm_E 162 160 [l0, l1, l2, l3, l4, l5, l6, l7, some (.int x)] st I r Q ↔ mm_E 162 162 [l0, l1, l2, l3, l4, l5, l6, l7, some (.int x)] (.int x :: st) I r Q := me_il2 mc_162 dX6_copy_160 rfl
theorem e162_162 : mm_E 162 162 ls (.int y :: .int x :: st) I r Q ↔ mm_E 162 163 ls (.int (x + y) :: st) I r Q := me_iadd mc_162 dX6_copy_162
theorem e162_163 : mm_E 162 163 ls (.int x :: .ref a :: st) I r Q ↔ mm_ix r a 3 x ∧ mm_E 162 164 ls (.long (mm_G r a x.toNatClampNeg) :: st) I r Q := me_la mc_162 dX6_copy_163
theorem e162_164 : mm_E 162 164 ls (.long z :: .int x :: .ref a :: st) I r Q ↔ mm_ix r a 3 x ∧ mm_E 162 165 ls st I (mm_uG r a x.toNatClampNeg z) Q := me_ls mc_162 dX6_copy_164
theorem e162_165 : mm_E 162 165 [l0, l1, l2, l3, l4, l5, l6, some (.int x), l8] st I r Q ↔ mm_c1 l6 ∧ mm_E 162 168 [l0, l1, l2, l3, l4, l5, l6, some (.int (x + 1)), l8] st I r Q := me_st (k := 7) (v := .int (x + 1)) mc_162 dX6_copy_165 rfl rfl (Nat.le_of_ble_eq_true rfl) rfl ⟨Or.inr, fun h => h.resolve_left (by decide)⟩
theorem e162_168 : mm_E 162 168 ls st I r Q ↔ mm_E 162 110 ls st I r Q := me_goto mc_162 dX6_copy_168 (by decide)
theorem e162_171 : mm_E 162 171 [l0, l1, l2, l3, l4, some (.int x), l6, l7, l8] st I r Q ↔ mm_E 162 173 [l0, l1, l2, l3, l4, some (.int x), l6, l7, l8] (.int x :: st) I r Q := me_il2 mc_162 dX6_copy_171 rfl
theorem e162_173 : mm_E 162 173 ls [.int x] I r Q ↔ Q (some (.int x)) I r := me_ri mc_162 dX6_copy_173 rfl
end
