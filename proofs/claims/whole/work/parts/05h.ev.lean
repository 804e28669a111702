section
variable (ls : mm_L) (st : List Value) (I : mm_I) (r : mm_R) (Q : Option Value → mm_I → mm_R → Prop) (l0 l1 l2 l3 l4 l5 l6 l7 l8 l9 l10 l11 l12 l13 l14 : Option Value) (x y : Int32) (z w : Int64) (a b : Nat) (v u : Value)
theorem mc_163 : mm_c 163 = cJ6_bitCount_0f7a4 := rfl
theorem e163_0 : mm_E 163 0 [some (.int x)] st I r Q ↔ mm_E 163 1 [some (.int x)] (.int x :: st) I r Q := me_il mc_163 dJ6_bitCount_0f7a4_0 rfl
theorem e163_1 : mm_E 163 1 [some (.int x)] st I r Q ↔ mm_E 163 2 [some (.int x)] (.int x :: st) I r Q := me_il mc_163 dJ6_bitCount_0f7a4_1 rfl
theorem e163_2 : mm_E 163 2 ls st I r Q ↔ mm_E 163 3 ls (.int 1 :: st) I r Q := me_ic mc_163 dJ6_bitCount_0f7a4_2 (by decide)
theorem e163_3 : mm_E 163 3 ls (.int y :: .int x :: st) I r Q ↔ mm_E 163 4 ls (.int ((x.toUInt32 >>> (y.toUInt32 &&& Int32.toUInt32 31)).toInt32) :: st) I r Q := me_iushr mc_163 dJ6_bitCount_0f7a4_3
theorem e163_4 : mm_E 163 4 ls st I r Q ↔ mm_E 163 7 ls (.int 1431655765 :: st) I r Q := me_ldcw mc_163 dJ6_bitCount_0f7a4_4 (by decide +kernel)
theorem e163_7 : mm_E 163 7 ls (.int y :: .int x :: st) I r Q ↔ mm_E 163 8 ls (.int (x &&& y) :: st) I r Q := me_iand mc_163 dJ6_bitCount_0f7a4_7
theorem e163_8 : mm_E 163 8 ls (.int y :: .int x :: st) I r Q ↔ mm_E 163 9 ls (.int (x - y) :: st) I r Q := me_isub mc_163 dJ6_bitCount_0f7a4_8
theorem e163_9 : mm_E 163 9 [l0] (.int x :: st) I r Q ↔ True ∧ mm_E 163 10 [some (.int x)] st I r Q := me_st (k := 0) (v := .int x) mc_163 dJ6_bitCount_0f7a4_9 rfl rfl (Nat.le_of_ble_eq_true rfl) rfl ⟨fun _ => Or.inl rfl, fun _ => trivial⟩
theorem e163_10 : mm_E 163 10 [some (.int x)] st I r Q ↔ mm_E 163 11 [some (.int x)] (.int x :: st) I r Q := me_il mc_163 dJ6_bitCount_0f7a4_10 rfl
theorem e163_11 : mm_E 163 11 ls st I r Q ↔ mm_E 163 14 ls (.int 858993459 :: st) I r Q := me_ldcw mc_163 dJ6_bitCount_0f7a4_11 (by decide +kernel)
theorem e163_14 : mm_E 163 14 ls (.int y :: .int x :: st) I r Q ↔ mm_E 163 15 ls (.int (x &&& y) :: st) I r Q := me_iand mc_163 dJ6_bitCount_0f7a4_14
theorem e163_15 : mm_E 163 15 [some (.int x)] st I r Q ↔ mm_E 163 16 [some (.int x)] (.int x :: st) I r Q := me_il mc_163 dJ6_bitCount_0f7a4_15 rfl
theorem e163_16 : mm_E 163 16 ls st I r Q ↔ mm_E 163 17 ls (.int 2 :: st) I r Q := me_ic mc_163 dJ6_bitCount_0f7a4_16 (by decide)
theorem e163_17 : mm_E 163 17 ls (.int y :: .int x :: st) I r Q ↔ mm_E 163 18 ls (.int ((x.toUInt32 >>> (y.toUInt32 &&& Int32.toUInt32 31)).toInt32) :: st) I r Q := me_iushr mc_163 dJ6_bitCount_0f7a4_17
theorem e163_18 : mm_E 163 18 ls st I r Q ↔ mm_E 163 21 ls (.int 858993459 :: st) I r Q := me_ldcw mc_163 dJ6_bitCount_0f7a4_18 (by decide +kernel)
theorem e163_21 : mm_E 163 21 ls (.int y :: .int x :: st) I r Q ↔ mm_E 163 22 ls (.int (x &&& y) :: st) I r Q := me_iand mc_163 dJ6_bitCount_0f7a4_21
theorem e163_22 : mm_E 163 22 ls (.int y :: .int x :: st) I r Q ↔ mm_E 163 23 ls (.int (x + y) :: st) I r Q := me_iadd mc_163 dJ6_bitCount_0f7a4_22
theorem e163_23 : mm_E 163 23 [l0] (.int x :: st) I r Q ↔ True ∧ mm_E 163 24 [some (.int x)] st I r Q := me_st (k := 0) (v := .int x) mc_163 dJ6_bitCount_0f7a4_23 rfl rfl (Nat.le_of_ble_eq_true rfl) rfl ⟨fun _ => Or.inl rfl, fun _ => trivial⟩
theorem e163_24 : mm_E 163 24 [some (.int x)] st I r Q ↔ mm_E 163 25 [some (.int x)] (.int x :: st) I r Q := me_il mc_163 dJ6_bitCount_0f7a4_24 rfl
theorem e163_25 : mm_E 163 25 [some (.int x)] st I r Q ↔ mm_E 163 26 [some (.int x)] (.int x :: st) I r Q := me_il mc_163 dJ6_bitCount_0f7a4_25 rfl
theorem e163_26 : mm_E 163 26 ls st I r Q ↔ mm_E 163 27 ls (.int 4 :: st) I r Q := me_ic mc_163 dJ6_bitCount_0f7a4_26 (by decide)
theorem e163_27 : mm_E 163 27 ls (.int y :: .int x :: st) I r Q ↔ mm_E 163 28 ls (.int ((x.toUInt32 >>> (y.toUInt32 &&& Int32.toUInt32 31)).toInt32) :: st) I r Q := me_iushr mc_163 dJ6_bitCount_0f7a4_27
theorem e163_28 : mm_E 163 28 ls (.int y :: .int x :: st) I r Q ↔ mm_E 163 29 ls (.int (x + y) :: st) I r Q := me_iadd mc_163 dJ6_bitCount_0f7a4_28
theorem e163_29 : mm_E 163 29 ls st I r Q ↔ mm_E 163 32 ls (.int 252645135 :: st) I r Q := me_ldcw mc_163 dJ6_bitCount_0f7a4_29 (by decide +kernel)
theorem e163_32 : mm_E 163 32 ls (.int y :: .int x :: st) I r Q ↔ mm_E 163 33 ls (.int (x &&& y) :: st) I r Q := me_iand mc_163 dJ6_bitCount_0f7a4_32
theorem e163_33 : mm_E 163 33 [l0] (.int x :: st) I r Q ↔ True ∧ mm_E 163 34 [some (.int x)] st I r Q := me_st (k := 0) (v := .int x) mc_163 dJ6_bitCount_0f7a4_33 rfl rfl (Nat.le_of_ble_eq_true rfl) rfl ⟨fun _ => Or.inl rfl, fun _ => trivial⟩
theorem e163_34 : mm_E 163 34 [some (.int x)] st I r Q ↔ mm_E 163 35 [some (.int x)] (.int x :: st) I r Q := me_il mc_163 dJ6_bitCount_0f7a4_34 rfl
theorem e163_35 : mm_E 163 35 [some (.int x)] st I r Q ↔ mm_E 163 36 [some (.int x)] (.int x :: st) I r Q := me_il mc_163 dJ6_bitCount_0f7a4_35 rfl
theorem e163_36 : mm_E 163 36 ls st I r Q ↔ mm_E 163 38 ls (.int 8 :: st) I r Q := me_bi mc_163 dJ6_bitCount_0f7a4_36 (by decide)
theorem e163_38 : mm_E 163 38 ls (.int y :: .int x :: st) I r Q ↔ mm_E 163 39 ls (.int ((x.toUInt32 >>> (y.toUInt32 &&& Int32.toUInt32 31)).toInt32) :: st) I r Q := me_iushr mc_163 dJ6_bitCount_0f7a4_38
theorem e163_39 : mm_E 163 39 ls (.int y :: .int x :: st) I r Q ↔ mm_E 163 40 ls (.int (x + y) :: st) I r Q := me_iadd mc_163 dJ6_bitCount_0f7a4_39
theorem e163_40 : mm_E 163 40 [l0] (.int x :: st) I r Q ↔ True ∧ mm_E 163 41 [some (.int x)] st I r Q := me_st (k := 0) (v := .int x) mc_163 dJ6_bitCount_0f7a4_40 rfl rfl (Nat.le_of_ble_eq_true rfl) rfl ⟨fun _ => Or.inl rfl, fun _ => trivial⟩
theorem e163_41 : mm_E 163 41 [some (.int x)] st I r Q ↔ mm_E 163 42 [some (.int x)] (.int x :: st) I r Q := me_il mc_163 dJ6_bitCount_0f7a4_41 rfl
theorem e163_42 : mm_E 163 42 [some (.int x)] st I r Q ↔ mm_E 163 43 [some (.int x)] (.int x :: st) I r Q := me_il mc_163 dJ6_bitCount_0f7a4_42 rfl
theorem e163_43 : mm_E 163 43 ls st I r Q ↔ mm_E 163 45 ls (.int 16 :: st) I r Q := me_bi mc_163 dJ6_bitCount_0f7a4_43 (by decide)
theorem e163_45 : mm_E 163 45 ls (.int y :: .int x :: st) I r Q ↔ mm_E 163 46 ls (.int ((x.toUInt32 >>> (y.toUInt32 &&& Int32.toUInt32 31)).toInt32) :: st) I r Q := me_iushr mc_163 dJ6_bitCount_0f7a4_45
theorem e163_46 : mm_E 163 46 ls (.int y :: .int x :: st) I r Q ↔ mm_E 163 47 ls (.int (x + y) :: st) I r Q := me_iadd mc_163 dJ6_bitCount_0f7a4_46
theorem e163_47 : mm_E 163 47 [l0] (.int x :: st) I r Q ↔ True ∧ mm_E 163 48 [some (.int x)] st I r Q := me_st (k := 0) (v := .int x) mc_163 dJ6_bitCount_0f7a4_47 rfl rfl (Nat.le_of_ble_eq_true rfl) rfl ⟨fun _ => Or.inl rfl, fun _ => trivial⟩
theorem e163_48 : mm_E 163 48 [some (.int x)] st I r Q ↔ mm_E 163 49 [some (.int x)] (.int x :: st) I r Q := me_il mc_163 dJ6_bitCount_0f7a4_48 rfl
theorem e163_49 : mm_E 163 49 ls st I r Q ↔ mm_E 163 51 ls (.int 63 :: st) I r Q := me_bi mc_163 dJ6_bitCount_0f7a4_49 (by decide)
theorem e163_51 : mm_E 163 51 ls (.int y :: .int x :: st) I r Q ↔ mm_E 163 52 ls (.int (x &&& y) :: st) I r Q := me_iand mc_163 dJ6_bitCount_0f7a4_51
theorem e163_52 : mm_E 163 52 ls [.int x] I r Q ↔ Q (some (.int x)) I r := me_ri mc_163 dJ6_bitCount_0f7a4_52 rfl
end
