section
variable (ls : mm_L) (st : List Value) (I : mm_I) (r : mm_R) (Q : Option Value → mm_I → mm_R → Prop) (l0 l1 l2 l3 l4 l5 l6 l7 l8 l9 l10 l11 l12 l13 l14 : Option Value) (x y : Int32) (z w : Int64) (a b : Nat) (v u : Value)
theorem mc_120 : mm_c 120 = cX6_owedBy := rfl
theorem e120_0 : mm_E 120 0 ls st I r Q ↔ mm_E 120 1 ls (.int 0 :: st) I r Q := me_ic mc_120 dX6_owedBy_0 (by decide)
theorem e120_1 : mm_E 120 1 [l0, l1, l2] (.int x :: st) I r Q ↔ mm_c1 l0 ∧ mm_E 120 2 [l0, some (.int x), l2] st I r Q := me_st (k := 1) (v := .int x) mc_120 dX6_owedBy_1 rfl rfl (Nat.le_of_ble_eq_true rfl) rfl ⟨Or.inr, fun h => h.resolve_left (by decide)⟩
theorem e120_2 : mm_E 120 2 ls st I r Q ↔ mm_E 120 3 ls (.int 0 :: st) I r Q := me_ic mc_120 dX6_owedBy_2 (by decide)
theorem e120_3 : mm_E 120 3 [l0, l1, l2] (.int x :: st) I r Q ↔ mm_c1 l1 ∧ mm_E 120 4 [l0, l1, some (.int x)] st I r Q := me_st (k := 2) (v := .int x) mc_120 dX6_owedBy_3 rfl rfl (Nat.le_of_ble_eq_true rfl) rfl ⟨Or.inr, fun h => h.resolve_left (by decide)⟩
theorem e120_4 : mm_E 120 4 [l0, l1, some (.int x)] st I r Q ↔ mm_E 120 5 [l0, l1, some (.int x)] (.int x :: st) I r Q := me_il mc_120 dX6_owedBy_4 rfl
theorem e120_5 : mm_E 120 5 [some (.ref a), l1, l2] st I r Q ↔ mm_E 120 6 [some (.ref a), l1, l2] (.ref a :: st) I r Q := me_al mc_120 dX6_owedBy_5 rfl
theorem e120_6 : mm_E 120 6 ls st I r Q ↔ mm_E 120 8 ls (.int 27 :: st) I r Q := me_bi mc_120 dX6_owedBy_6 (by decide)
theorem e120_8 : mm_E 120 8 ls (.int x :: .ref a :: st) I r Q ↔ mm_ix r a 2 x ∧ mm_E 120 9 ls (.int (mm_rd I a x.toNatClampNeg) :: st) I r Q := me_ia mc_120 dX6_owedBy_8
theorem e120_9 : mm_E 120 9 ls (.int y :: .int x :: st) I r Q ↔ if y ≤ x then mm_E 120 26 ls st I r Q else mm_E 120 12 ls st I r Q := me_cge mc_120 dX6_owedBy_9 (by decide)
theorem e120_12 : mm_E 120 12 [l0, some (.int x), l2] st I r Q ↔ mm_E 120 13 [l0, some (.int x), l2] (.int x :: st) I r Q := me_il mc_120 dX6_owedBy_12 rfl
theorem e120_13 : mm_E 120 13 [some (.ref a), l1, l2] st I r Q ↔ mm_E 120 14 [some (.ref a), l1, l2] (.ref a :: st) I r Q := me_al mc_120 dX6_owedBy_13 rfl
theorem e120_14 : mm_E 120 14 ls st I r Q ↔ mm_E 120 15 ls (.int 3 :: st) I r Q := me_ic mc_120 dX6_owedBy_14 (by decide)
theorem e120_15 : mm_E 120 15 [l0, l1, some (.int x)] st I r Q ↔ mm_E 120 16 [l0, l1, some (.int x)] (.int x :: st) I r Q := me_il mc_120 dX6_owedBy_15 rfl
theorem e120_16 : mm_E 120 16 ls (.int y :: .int x :: st) I r Q ↔ mm_E 120 17 ls (.int (x + y) :: st) I r Q := me_iadd mc_120 dX6_owedBy_16
theorem e120_17 : mm_E 120 17 ls (.int x :: .ref a :: st) I r Q ↔ mm_ix r a 2 x ∧ mm_E 120 18 ls (.int (mm_rd I a x.toNatClampNeg) :: st) I r Q := me_ia mc_120 dX6_owedBy_17
theorem e120_18 : mm_E 120 18 ls (.int y :: .int x :: st) I r Q ↔ mm_E 120 19 ls (.int (x + y) :: st) I r Q := me_iadd mc_120 dX6_owedBy_18
theorem e120_19 : mm_E 120 19 [l0, l1, l2] (.int x :: st) I r Q ↔ mm_c1 l0 ∧ mm_E 120 20 [l0, some (.int x), l2] st I r Q := me_st (k := 1) (v := .int x) mc_120 dX6_owedBy_19 rfl rfl (Nat.le_of_ble_eq_true rfl) rfl ⟨Or.inr, fun h => h.resolve_left (by decide)⟩
theorem e120_20 : mm_E 120 20 [l0, l1, some (.int x)] st I r Q ↔ mm_c1 l1 ∧ mm_E 120 23 [l0, l1, some (.int (x + 1))] st I r Q := me_st (k := 2) (v := .int (x + 1)) mc_120 dX6_owedBy_20 rfl rfl (Nat.le_of_ble_eq_true rfl) rfl ⟨Or.inr, fun h => h.resolve_left (by decide)⟩
theorem e120_23 : mm_E 120 23 ls st I r Q ↔ mm_E 120 4 ls st I r Q := me_goto mc_120 dX6_owedBy_23 (by decide)
theorem e120_26 : mm_E 120 26 [l0, some (.int x), l2] st I r Q ↔ mm_E 120 27 [l0, some (.int x), l2] (.int x :: st) I r Q := me_il mc_120 dX6_owedBy_26 rfl
theorem e120_27 : mm_E 120 27 ls [.int x] I r Q ↔ Q (some (.int x)) I r := me_ri mc_120 dX6_owedBy_27 rfl
theorem mc_121 : mm_c 121 = cX6_isWinter := rfl
theorem e121_0 : mm_E 121 0 [some (.ref a)] st I r Q ↔ mm_E 121 1 [some (.ref a)] (.ref a :: st) I r Q := me_al mc_121 dX6_isWinter_0 rfl
theorem e121_1 : mm_E 121 1 ls st I r Q ↔ mm_E 121 2 ls (.int 0 :: st) I r Q := me_ic mc_121 dX6_isWinter_1 (by decide)
theorem e121_2 : mm_E 121 2 ls (.int x :: .ref a :: st) I r Q ↔ mm_ix r a 2 x ∧ mm_E 121 3 ls (.int (mm_rd I a x.toNatClampNeg) :: st) I r Q := me_ia mc_121 dX6_isWinter_2
theorem e121_3 : mm_E 121 3 ls st I r Q ↔ mm_E 121 5 ls (.int 20 :: st) I r Q := me_bi mc_121 dX6_isWinter_3 (by decide)
theorem e121_5 : mm_E 121 5 ls (.int y :: .int x :: st) I r Q ↔ ¬ y = 0 ∧ mm_E 121 6 ls (.int (x - x / y * y) :: st) I r Q := me_irem mc_121 dX6_isWinter_5
theorem e121_6 : mm_E 121 6 ls st I r Q ↔ mm_E 121 8 ls (.int 15 :: st) I r Q := me_bi mc_121 dX6_isWinter_6 (by decide)
theorem e121_8 : mm_E 121 8 ls (.int y :: .int x :: st) I r Q ↔ if x < y then mm_E 121 15 ls st I r Q else mm_E 121 11 ls st I r Q := me_clt mc_121 dX6_isWinter_8 (by decide)
theorem e121_11 : mm_E 121 11 ls st I r Q ↔ mm_E 121 12 ls (.int 1 :: st) I r Q := me_ic mc_121 dX6_isWinter_11 (by decide)
theorem e121_12 : mm_E 121 12 ls st I r Q ↔ mm_E 121 16 ls st I r Q := me_goto mc_121 dX6_isWinter_12 (by decide)
theorem e121_15 : mm_E 121 15 ls st I r Q ↔ mm_E 121 16 ls (.int 0 :: st) I r Q := me_ic mc_121 dX6_isWinter_15 (by decide)
theorem e121_16 : mm_E 121 16 ls [.int x] I r Q ↔ (x = 0 ∨ x = 1) ∧ Q (some (.int x)) I r := me_rz mc_121 dX6_isWinter_16 rfl
theorem mc_122 : mm_c 122 = cX6_count := rfl
theorem e122_0 : mm_E 122 0 [l0, some (.int x)] st I r Q ↔ mm_E 122 1 [l0, some (.int x)] (.int x :: st) I r Q := me_il mc_122 dX6_count_0 rfl
theorem e122_1 : mm_E 122 1 ls (.int x :: st) I r Q ↔ if x = 0 then mm_E 122 52 ls st I r Q else if x = 1 then mm_E 122 60 ls st I r Q else if x = 2 then mm_E 122 68 ls st I r Q else if x = 3 then mm_E 122 75 ls st I r Q else if x = 4 then mm_E 122 83 ls st I r Q else if x = 5 then mm_E 122 90 ls st I r Q else if x = 6 then mm_E 122 98 ls st I r Q else if x = 7 then mm_E 122 106 ls st I r Q else if x = 8 then mm_E 122 122 ls st I r Q else mm_E 122 130 ls st I r Q := by
  by_cases h0 : x = 0
  · subst h0
    simp only [if_true, if_pos]
    exact me_sw (off := 51) mc_122 dX6_count_1 rfl rfl (by decide)
  by_cases h1 : x = 1
  · subst h1
    simp only [if_true, if_pos]
    exact me_sw (off := 59) mc_122 dX6_count_1 rfl rfl (by decide)
  by_cases h2 : x = 2
  · subst h2
    simp only [if_true, if_pos]
    exact me_sw (off := 67) mc_122 dX6_count_1 rfl rfl (by decide)
  by_cases h3 : x = 3
  · subst h3
    simp only [if_true, if_pos]
    exact me_sw (off := 74) mc_122 dX6_count_1 rfl rfl (by decide)
  by_cases h4 : x = 4
  · subst h4
    simp only [if_true, if_pos]
    exact me_sw (off := 82) mc_122 dX6_count_1 rfl rfl (by decide)
  by_cases h5 : x = 5
  · subst h5
    simp only [if_true, if_pos]
    exact me_sw (off := 89) mc_122 dX6_count_1 rfl rfl (by decide)
  by_cases h6 : x = 6
  · subst h6
    simp only [if_true, if_pos]
    exact me_sw (off := 97) mc_122 dX6_count_1 rfl rfl (by decide)
  by_cases h7 : x = 7
  · subst h7
    simp only [if_true, if_pos]
    exact me_sw (off := 105) mc_122 dX6_count_1 rfl rfl (by decide)
  by_cases h8 : x = 8
  · subst h8
    simp only [if_true, if_pos]
    exact me_sw (off := 121) mc_122 dX6_count_1 rfl rfl (by decide)
  simp only [if_neg h0, if_neg h1, if_neg h2, if_neg h3, if_neg h4, if_neg h5, if_neg h6, if_neg h7, if_neg h8]
  have hx : x.toInt < 0 ∨ 8 < x.toInt := by
    rcases Int.lt_or_le x.toInt 0 with h | h
    · exact Or.inl h
    · rcases Int.lt_or_le 8 x.toInt with g | g
      · exact Or.inr g
      · exfalso
        have g0 : x.toInt ≠ 0 := fun q => h0 (Int32.toInt_inj.mp q)
        have g1 : x.toInt ≠ 1 := fun q => h1 (Int32.toInt_inj.mp q)
        have g2 : x.toInt ≠ 2 := fun q => h2 (Int32.toInt_inj.mp q)
        have g3 : x.toInt ≠ 3 := fun q => h3 (Int32.toInt_inj.mp q)
        have g4 : x.toInt ≠ 4 := fun q => h4 (Int32.toInt_inj.mp q)
        have g5 : x.toInt ≠ 5 := fun q => h5 (Int32.toInt_inj.mp q)
        have g6 : x.toInt ≠ 6 := fun q => h6 (Int32.toInt_inj.mp q)
        have g7 : x.toInt ≠ 7 := fun q => h7 (Int32.toInt_inj.mp q)
        have g8 : x.toInt ≠ 8 := fun q => h8 (Int32.toInt_inj.mp q)
        omega
  exact me_sw (off := 129) mc_122 dX6_count_1 rfl (by simp only [mm_act, mm_i1, mm_ts]; rw [if_pos hx]) (by decide)
theorem e122_52 : mm_E 122 52 [some (.ref a), l1] st I r Q ↔ mm_E 122 53 [some (.ref a), l1] (.ref a :: st) I r Q := me_al mc_122 dX6_count_52 rfl
theorem e122_53 : mm_E 122 53 ls (.ref a :: st) I r Q ↔ mm_S r a = (1, 6) ∧ mm_E 122 56 ls (va_rf (mm_P r a 7) :: st) I r Q := me_gr mc_122 dX6_count_53 (by decide +kernel) rfl
theorem e122_56 : mm_E 122 56 ls st I r Q ↔ mm_E 122 58 ls (.int 27 :: st) I r Q := me_bi mc_122 dX6_count_56 (by decide)
theorem e122_58 : mm_E 122 58 ls (.int x :: .ref a :: st) I r Q ↔ mm_ix r a 2 x ∧ mm_E 122 59 ls (.int (mm_rd I a x.toNatClampNeg) :: st) I r Q := me_ia mc_122 dX6_count_58
theorem e122_59 : mm_E 122 59 ls [.int x] I r Q ↔ Q (some (.int x)) I r := me_ri mc_122 dX6_count_59 rfl
theorem e122_60 : mm_E 122 60 [some (.ref a), l1] st I r Q ↔ mm_E 122 61 [some (.ref a), l1] (.ref a :: st) I r Q := me_al mc_122 dX6_count_60 rfl
theorem e122_61 : mm_E 122 61 ls (.ref a :: st) I r Q ↔ mm_S r a = (1, 6) ∧ mm_E 122 64 ls (va_rf (mm_P r a 7) :: st) I r Q := me_gr mc_122 dX6_count_61 (by decide +kernel) rfl
theorem e122_64 : mm_E 122 64 ls st I r Q ↔ mm_E 122 66 ls (.int 28 :: st) I r Q := me_bi mc_122 dX6_count_64 (by decide)
theorem e122_66 : mm_E 122 66 ls (.int x :: .ref a :: st) I r Q ↔ mm_ix r a 2 x ∧ mm_E 122 67 ls (.int (mm_rd I a x.toNatClampNeg) :: st) I r Q := me_ia mc_122 dX6_count_66
theorem e122_67 : mm_E 122 67 ls [.int x] I r Q ↔ Q (some (.int x)) I r := me_ri mc_122 dX6_count_67 rfl
theorem e122_68 : mm_E 122 68 [some (.ref a), l1] st I r Q ↔ mm_E 122 69 [some (.ref a), l1] (.ref a :: st) I r Q := me_al mc_122 dX6_count_68 rfl
theorem e122_69 : mm_E 122 69 ls (.ref a :: st) I r Q ↔ mm_S r a = (1, 6) ∧ mm_E 122 72 ls (va_rf (mm_P r a 7) :: st) I r Q := me_gr mc_122 dX6_count_69 (by decide +kernel) rfl
theorem e122_72 : mm_E 122 72 ls st I r Q ↔ mm_E 122 73 ls (.int 0 :: st) I r Q := me_ic mc_122 dX6_count_72 (by decide)
theorem e122_73 : mm_E 122 73 ls (.int x :: .ref a :: st) I r Q ↔ mm_ix r a 2 x ∧ mm_E 122 74 ls (.int (mm_rd I a x.toNatClampNeg) :: st) I r Q := me_ia mc_122 dX6_count_73
theorem e122_74 : mm_E 122 74 ls [.int x] I r Q ↔ Q (some (.int x)) I r := me_ri mc_122 dX6_count_74 rfl
theorem e122_75 : mm_E 122 75 [some (.ref a), l1] st I r Q ↔ mm_E 122 76 [some (.ref a), l1] (.ref a :: st) I r Q := me_al mc_122 dX6_count_75 rfl
theorem e122_76 : mm_E 122 76 ls (.ref a :: st) I r Q ↔ mm_S r a = (1, 6) ∧ mm_E 122 79 ls (va_rf (mm_P r a 7) :: st) I r Q := me_gr mc_122 dX6_count_76 (by decide +kernel) rfl
theorem e122_79 : mm_E 122 79 ls st I r Q ↔ mm_E 122 81 ls (.int 26 :: st) I r Q := me_bi mc_122 dX6_count_79 (by decide)
theorem e122_81 : mm_E 122 81 ls (.int x :: .ref a :: st) I r Q ↔ mm_ix r a 2 x ∧ mm_E 122 82 ls (.int (mm_rd I a x.toNatClampNeg) :: st) I r Q := me_ia mc_122 dX6_count_81
theorem e122_82 : mm_E 122 82 ls [.int x] I r Q ↔ Q (some (.int x)) I r := me_ri mc_122 dX6_count_82 rfl
theorem e122_83 : mm_E 122 83 [some (.ref a), l1] st I r Q ↔ mm_E 122 84 [some (.ref a), l1] (.ref a :: st) I r Q := me_al mc_122 dX6_count_83 rfl
theorem e122_84 : mm_E 122 84 ls (.ref a :: st) I r Q ↔ mm_S r a = (1, 6) ∧ mm_E 122 87 ls (va_rf (mm_P r a 7) :: st) I r Q := me_gr mc_122 dX6_count_84 (by decide +kernel) rfl
theorem e122_87 : mm_E 122 87 ls st I r Q ↔ mm_E 122 88 ls (.int 2 :: st) I r Q := me_ic mc_122 dX6_count_87 (by decide)
theorem e122_88 : mm_E 122 88 ls (.int x :: .ref a :: st) I r Q ↔ mm_ix r a 2 x ∧ mm_E 122 89 ls (.int (mm_rd I a x.toNatClampNeg) :: st) I r Q := me_ia mc_122 dX6_count_88
theorem e122_89 : mm_E 122 89 ls [.int x] I r Q ↔ Q (some (.int x)) I r := me_ri mc_122 dX6_count_89 rfl
theorem e122_90 : mm_E 122 90 [some (.ref a), l1] st I r Q ↔ mm_E 122 91 [some (.ref a), l1] (.ref a :: st) I r Q := me_al mc_122 dX6_count_90 rfl
theorem e122_91 : mm_E 122 91 ls (.ref a :: st) I r Q ↔ mm_S r a = (1, 6) ∧ mm_E 122 94 ls (va_rf (mm_P r a 7) :: st) I r Q := me_gr mc_122 dX6_count_91 (by decide +kernel) rfl
theorem e122_94 : ∀ (x0 : Nat), (mm_E 122 94 ls (.ref x0 :: st) I r Q ↔ mm_w8 st = true ∧ mm_E 119 0 [some (.ref x0), none, none] [] I r (fun v I2 r2 => mm_E 122 97 ls (mm_pu v st) I2 r2 Q)) := fun x0 => me_sc (n := 1) (As := [.ref x0]) (xs := [.ref x0]) mc_122 dX6_count_94 (by decide +kernel) (by decide +kernel) rfl rfl (Nat.le_of_ble_eq_true rfl) rfl
theorem e122_97 : mm_E 122 97 ls [.int x] I r Q ↔ Q (some (.int x)) I r := me_ri mc_122 dX6_count_97 rfl
theorem e122_98 : mm_E 122 98 [some (.ref a), l1] st I r Q ↔ mm_E 122 99 [some (.ref a), l1] (.ref a :: st) I r Q := me_al mc_122 dX6_count_98 rfl
theorem e122_99 : mm_E 122 99 ls (.ref a :: st) I r Q ↔ mm_S r a = (1, 6) ∧ mm_E 122 102 ls (va_rf (mm_P r a 7) :: st) I r Q := me_gr mc_122 dX6_count_99 (by decide +kernel) rfl
theorem e122_102 : ∀ (x0 : Nat), (mm_E 122 102 ls (.ref x0 :: st) I r Q ↔ mm_w8 st = true ∧ mm_E 120 0 [some (.ref x0), none, none] [] I r (fun v I2 r2 => mm_E 122 105 ls (mm_pu v st) I2 r2 Q)) := fun x0 => me_sc (n := 1) (As := [.ref x0]) (xs := [.ref x0]) mc_122 dX6_count_102 (by decide +kernel) (by decide +kernel) rfl rfl (Nat.le_of_ble_eq_true rfl) rfl
theorem e122_105 : mm_E 122 105 ls [.int x] I r Q ↔ Q (some (.int x)) I r := me_ri mc_122 dX6_count_105 rfl
theorem e122_106 : mm_E 122 106 [some (.ref a), l1] st I r Q ↔ mm_E 122 107 [some (.ref a), l1] (.ref a :: st) I r Q := me_al mc_122 dX6_count_106 rfl
theorem e122_107 : mm_E 122 107 ls (.ref a :: st) I r Q ↔ mm_S r a = (1, 6) ∧ mm_E 122 110 ls (va_rf (mm_P r a 7) :: st) I r Q := me_gr mc_122 dX6_count_107 (by decide +kernel) rfl
theorem e122_110 : ∀ (x0 : Nat), (mm_E 122 110 ls (.ref x0 :: st) I r Q ↔ mm_w8 st = true ∧ mm_E 121 0 [some (.ref x0)] [] I r (fun v I2 r2 => mm_E 122 113 ls (mm_pu v st) I2 r2 Q)) := fun x0 => me_sc (n := 1) (As := [.ref x0]) (xs := [.ref x0]) mc_122 dX6_count_110 (by decide +kernel) (by decide +kernel) rfl rfl (Nat.le_of_ble_eq_true rfl) rfl
theorem e122_113 : mm_E 122 113 ls (.int x :: st) I r Q ↔ if x = 0 then mm_E 122 120 ls st I r Q else mm_E 122 116 ls st I r Q := me_zeq mc_122 dX6_count_113 (by decide)
theorem e122_116 : mm_E 122 116 ls st I r Q ↔ mm_E 122 117 ls (.int 1 :: st) I r Q := me_ic mc_122 dX6_count_116 (by decide)
theorem e122_117 : mm_E 122 117 ls st I r Q ↔ mm_E 122 121 ls st I r Q := me_goto mc_122 dX6_count_117 (by decide)
theorem e122_120 : mm_E 122 120 ls st I r Q ↔ mm_E 122 121 ls (.int 0 :: st) I r Q := me_ic mc_122 dX6_count_120 (by decide)
theorem e122_121 : mm_E 122 121 ls [.int x] I r Q ↔ Q (some (.int x)) I r := me_ri mc_122 dX6_count_121 rfl
theorem e122_122 : mm_E 122 122 [some (.ref a), l1] st I r Q ↔ mm_E 122 123 [some (.ref a), l1] (.ref a :: st) I r Q := me_al mc_122 dX6_count_122 rfl
theorem e122_123 : mm_E 122 123 ls (.ref a :: st) I r Q ↔ mm_S r a = (1, 6) ∧ mm_E 122 126 ls (va_rf (mm_P r a 7) :: st) I r Q := me_gr mc_122 dX6_count_123 (by decide +kernel) rfl
theorem e122_126 : mm_E 122 126 ls st I r Q ↔ mm_E 122 128 ls (.int 39 :: st) I r Q := me_bi mc_122 dX6_count_126 (by decide)
theorem e122_128 : mm_E 122 128 ls (.int x :: .ref a :: st) I r Q ↔ mm_ix r a 2 x ∧ mm_E 122 129 ls (.int (mm_rd I a x.toNatClampNeg) :: st) I r Q := me_ia mc_122 dX6_count_128
theorem e122_129 : mm_E 122 129 ls [.int x] I r Q ↔ Q (some (.int x)) I r := me_ri mc_122 dX6_count_129 rfl
theorem e122_130 : mm_E 122 130 ls st I r Q ↔ mm_E 122 131 ls (.int (-1) :: st) I r Q := me_ic mc_122 dX6_count_130 (by decide)
theorem e122_131 : mm_E 122 131 ls [.int x] I r Q ↔ Q (some (.int x)) I r := me_ri mc_122 dX6_count_131 rfl
theorem mc_123 : mm_c 123 = cX6_note := rfl
theorem e123_0 : mm_E 123 0 [some (.ref a)] st I r Q ↔ mm_E 123 1 [some (.ref a)] (.ref a :: st) I r Q := me_al mc_123 dX6_note_0 rfl
theorem e123_1 : mm_E 123 1 ls (.ref a :: st) I r Q ↔ mm_S r a = (1, 6) ∧ mm_E 123 4 ls (va_rf (mm_P r a 7) :: st) I r Q := me_gr mc_123 dX6_note_1 (by decide +kernel) rfl
theorem e123_4 : mm_E 123 4 ls st I r Q ↔ mm_E 123 6 ls (.int 39 :: st) I r Q := me_bi mc_123 dX6_note_4 (by decide)
theorem e123_6 : mm_E 123 6 ls (.int x :: .ref a :: st) I r Q ↔ mm_ix r a 2 x ∧ mm_E 123 7 ls (.int (mm_rd I a x.toNatClampNeg) :: st) I r Q := me_ia mc_123 dX6_note_6
theorem e123_7 : mm_E 123 7 ls st I r Q ↔ mm_E 123 9 ls (.int 8 :: st) I r Q := me_bi mc_123 dX6_note_7 (by decide)
theorem e123_9 : mm_E 123 9 ls (.int y :: .int x :: st) I r Q ↔ if ¬ x = y then mm_E 123 41 ls st I r Q else mm_E 123 12 ls st I r Q := me_cne mc_123 dX6_note_9 (by decide)
theorem e123_12 : mm_E 123 12 [some (.ref a)] st I r Q ↔ mm_E 123 13 [some (.ref a)] (.ref a :: st) I r Q := me_al mc_123 dX6_note_12 rfl
theorem e123_13 : mm_E 123 13 ls (.ref a :: st) I r Q ↔ mm_S r a = (1, 6) ∧ mm_E 123 16 ls (va_rf (mm_P r a 7) :: st) I r Q := me_gr mc_123 dX6_note_13 (by decide +kernel) rfl
theorem e123_16 : mm_E 123 16 ls st I r Q ↔ mm_E 123 18 ls (.int 66 :: st) I r Q := me_bi mc_123 dX6_note_16 (by decide)
theorem e123_18 : mm_E 123 18 [some (.ref a)] st I r Q ↔ mm_E 123 19 [some (.ref a)] (.ref a :: st) I r Q := me_al mc_123 dX6_note_18 rfl
theorem e123_19 : mm_E 123 19 ls (.ref a :: st) I r Q ↔ mm_S r a = (1, 6) ∧ mm_E 123 22 ls (va_rf (mm_P r a 7) :: st) I r Q := me_gr mc_123 dX6_note_19 (by decide +kernel) rfl
theorem e123_22 : mm_E 123 22 ls st I r Q ↔ mm_E 123 24 ls (.int 40 :: st) I r Q := me_bi mc_123 dX6_note_22 (by decide)
theorem e123_24 : mm_E 123 24 ls st I r Q ↔ mm_E 123 27 ls (.int 182 :: st) I r Q := me_si mc_123 dX6_note_24 (by decide)
theorem e123_27 : ∀ (x0 : Nat) (x1 : Int32) (x2 : Nat) (x3 : Int32) (x4 : Int32), (mm_E 123 27 ls (.int x4 :: .int x3 :: .ref x2 :: .int x1 :: .ref x0 :: st) I r Q ↔ mm_w8 st = true ∧ mm_E 96 0 [some (.ref x0), some (.int x1), some (.ref x2), some (.int x3), some (.int x4), none] [] I r (fun v I2 r2 => mm_E 123 30 ls (mm_pu v st) I2 r2 Q)) := fun x0 x1 x2 x3 x4 => me_sc (n := 5) (As := [.ref x0, .int x1, .ref x2, .int x3, .int x4]) (xs := [.int x4, .int x3, .ref x2, .int x1, .ref x0]) mc_123 dX6_note_27 (by decide +kernel) (by decide +kernel) rfl rfl (Nat.le_of_ble_eq_true rfl) rfl
theorem e123_30 : mm_E 123 30 [some (.ref a)] st I r Q ↔ mm_E 123 31 [some (.ref a)] (.ref a :: st) I r Q := me_al mc_123 dX6_note_30 rfl
theorem e123_31 : mm_E 123 31 ls (.ref a :: st) I r Q ↔ mm_S r a = (1, 6) ∧ mm_E 123 34 ls (va_rf (mm_P r a 7) :: st) I r Q := me_gr mc_123 dX6_note_31 (by decide +kernel) rfl
theorem e123_34 : mm_E 123 34 ls st I r Q ↔ mm_E 123 36 ls (.int 39 :: st) I r Q := me_bi mc_123 dX6_note_34 (by decide)
theorem e123_36 : mm_E 123 36 ls (u :: v :: st) I r Q ↔ (v.category = 1 ∧ u.category = 1) ∧ mm_E 123 37 ls (u :: v :: u :: v :: st) I r Q := me_dup2 mc_123 dX6_note_36
theorem e123_37 : mm_E 123 37 ls (.int x :: .ref a :: st) I r Q ↔ mm_ix r a 2 x ∧ mm_E 123 38 ls (.int (mm_rd I a x.toNatClampNeg) :: st) I r Q := me_ia mc_123 dX6_note_37
theorem e123_38 : mm_E 123 38 ls st I r Q ↔ mm_E 123 39 ls (.int 1 :: st) I r Q := me_ic mc_123 dX6_note_38 (by decide)
theorem e123_39 : mm_E 123 39 ls (.int y :: .int x :: st) I r Q ↔ mm_E 123 40 ls (.int (x - y) :: st) I r Q := me_isub mc_123 dX6_note_39
theorem e123_40 : mm_E 123 40 ls (.int y :: .int x :: .ref a :: st) I r Q ↔ mm_ix r a 2 x ∧ mm_E 123 41 ls st (mm_uI I a x.toNatClampNeg y) r Q := me_is mc_123 dX6_note_40
theorem e123_41 : mm_E 123 41 [some (.ref a)] st I r Q ↔ mm_E 123 42 [some (.ref a)] (.ref a :: st) I r Q := me_al mc_123 dX6_note_41 rfl
theorem e123_42 : mm_E 123 42 ls (.ref a :: st) I r Q ↔ mm_S r a = (1, 6) ∧ mm_E 123 45 ls (va_rf (mm_P r a 7) :: st) I r Q := me_gr mc_123 dX6_note_42 (by decide +kernel) rfl
theorem e123_45 : mm_E 123 45 ls st I r Q ↔ mm_E 123 46 ls (.int 0 :: st) I r Q := me_ic mc_123 dX6_note_45 (by decide)
theorem e123_46 : mm_E 123 46 [some (.ref a)] st I r Q ↔ mm_E 123 47 [some (.ref a)] (.ref a :: st) I r Q := me_al mc_123 dX6_note_46 rfl
theorem e123_47 : mm_E 123 47 ls (.ref a :: st) I r Q ↔ mm_S r a = (1, 6) ∧ mm_E 123 50 ls (va_rf (mm_P r a 7) :: st) I r Q := me_gr mc_123 dX6_note_47 (by decide +kernel) rfl
theorem e123_50 : mm_E 123 50 ls st I r Q ↔ mm_E 123 52 ls (.int 40 :: st) I r Q := me_bi mc_123 dX6_note_50 (by decide)
theorem e123_52 : mm_E 123 52 ls st I r Q ↔ mm_E 123 54 ls (.int 26 :: st) I r Q := me_bi mc_123 dX6_note_52 (by decide)
theorem e123_54 : mm_E 123 54 [some (.ref a)] st I r Q ↔ mm_E 123 55 [some (.ref a)] (.ref a :: st) I r Q := me_al mc_123 dX6_note_54 rfl
theorem e123_55 : mm_E 123 55 ls (.ref a :: st) I r Q ↔ mm_S r a = (1, 6) ∧ mm_E 123 58 ls (va_rf (mm_P r a 7) :: st) I r Q := me_gr mc_123 dX6_note_55 (by decide +kernel) rfl
theorem e123_58 : mm_E 123 58 ls st I r Q ↔ mm_E 123 60 ls (.int 39 :: st) I r Q := me_bi mc_123 dX6_note_58 (by decide)
theorem e123_60 : mm_E 123 60 ls (.int x :: .ref a :: st) I r Q ↔ mm_ix r a 2 x ∧ mm_E 123 61 ls (.int (mm_rd I a x.toNatClampNeg) :: st) I r Q := me_ia mc_123 dX6_note_60
theorem e123_61 : mm_E 123 61 ls (.int y :: .int x :: st) I r Q ↔ mm_E 123 62 ls (.int (x * y) :: st) I r Q := me_imul mc_123 dX6_note_61
theorem e123_62 : mm_E 123 62 ls (.int y :: .int x :: st) I r Q ↔ mm_E 123 63 ls (.int (x + y) :: st) I r Q := me_iadd mc_123 dX6_note_62
theorem e123_63 : mm_E 123 63 ls st I r Q ↔ mm_E 123 65 ls (.int 26 :: st) I r Q := me_bi mc_123 dX6_note_63 (by decide)
theorem e123_65 : ∀ (x0 : Nat) (x1 : Int32) (x2 : Nat) (x3 : Int32) (x4 : Int32), (mm_E 123 65 ls (.int x4 :: .int x3 :: .ref x2 :: .int x1 :: .ref x0 :: st) I r Q ↔ mm_w8 st = true ∧ mm_E 96 0 [some (.ref x0), some (.int x1), some (.ref x2), some (.int x3), some (.int x4), none] [] I r (fun v I2 r2 => mm_E 123 68 ls (mm_pu v st) I2 r2 Q)) := fun x0 x1 x2 x3 x4 => me_sc (n := 5) (As := [.ref x0, .int x1, .ref x2, .int x3, .int x4]) (xs := [.int x4, .int x3, .ref x2, .int x1, .ref x0]) mc_123 dX6_note_65 (by decide +kernel) (by decide +kernel) rfl rfl (Nat.le_of_ble_eq_true rfl) rfl
theorem e123_68 : mm_E 123 68 [some (.ref a)] st I r Q ↔ mm_E 123 69 [some (.ref a)] (.ref a :: st) I r Q := me_al mc_123 dX6_note_68 rfl
theorem e123_69 : mm_E 123 69 ls (.ref a :: st) I r Q ↔ mm_S r a = (1, 6) ∧ mm_E 123 72 ls (va_rf (mm_P r a 7) :: st) I r Q := me_gr mc_123 dX6_note_69 (by decide +kernel) rfl
theorem e123_72 : mm_E 123 72 ls st I r Q ↔ mm_E 123 74 ls (.int 39 :: st) I r Q := me_bi mc_123 dX6_note_72 (by decide)
theorem e123_74 : mm_E 123 74 ls (u :: v :: st) I r Q ↔ (v.category = 1 ∧ u.category = 1) ∧ mm_E 123 75 ls (u :: v :: u :: v :: st) I r Q := me_dup2 mc_123 dX6_note_74
theorem e123_75 : mm_E 123 75 ls (.int x :: .ref a :: st) I r Q ↔ mm_ix r a 2 x ∧ mm_E 123 76 ls (.int (mm_rd I a x.toNatClampNeg) :: st) I r Q := me_ia mc_123 dX6_note_75
theorem e123_76 : mm_E 123 76 ls st I r Q ↔ mm_E 123 77 ls (.int 1 :: st) I r Q := me_ic mc_123 dX6_note_76 (by decide)
theorem e123_77 : mm_E 123 77 ls (.int y :: .int x :: st) I r Q ↔ mm_E 123 78 ls (.int (x + y) :: st) I r Q := me_iadd mc_123 dX6_note_77
theorem e123_78 : mm_E 123 78 ls (.int y :: .int x :: .ref a :: st) I r Q ↔ mm_ix r a 2 x ∧ mm_E 123 79 ls st (mm_uI I a x.toNatClampNeg y) r Q := me_is mc_123 dX6_note_78
theorem e123_79 : mm_E 123 79 ls [] I r Q ↔ Q none I r := me_rv mc_123 dX6_note_79 rfl
theorem mc_124 : mm_c 124 = cX6_nextOf := rfl
theorem e124_0 : mm_E 124 0 ls st I r Q ↔ mm_E 124 1 ls (.int 1 :: st) I r Q := me_ic mc_124 dX6_nextOf_0 (by decide)
theorem e124_1 : mm_E 124 1 [l0, l1, l2, l3, l4] (.int x :: st) I r Q ↔ mm_c1 l2 ∧ mm_E 124 2 [l0, l1, l2, some (.int x), l4] st I r Q := me_st (k := 3) (v := .int x) mc_124 dX6_nextOf_1 rfl rfl (Nat.le_of_ble_eq_true rfl) rfl ⟨Or.inr, fun h => h.resolve_left (by decide)⟩
theorem e124_2 : mm_E 124 2 [l0, l1, l2, some (.int x), l4] st I r Q ↔ mm_E 124 3 [l0, l1, l2, some (.int x), l4] (.int x :: st) I r Q := me_il mc_124 dX6_nextOf_2 rfl
theorem e124_3 : mm_E 124 3 [some (.ref a), l1, l2, l3, l4] st I r Q ↔ mm_E 124 4 [some (.ref a), l1, l2, l3, l4] (.ref a :: st) I r Q := me_al mc_124 dX6_nextOf_3 rfl
theorem e124_4 : mm_E 124 4 ls st I r Q ↔ mm_E 124 6 ls (.int 27 :: st) I r Q := me_bi mc_124 dX6_nextOf_4 (by decide)
theorem e124_6 : mm_E 124 6 ls (.int x :: .ref a :: st) I r Q ↔ mm_ix r a 2 x ∧ mm_E 124 7 ls (.int (mm_rd I a x.toNatClampNeg) :: st) I r Q := me_ia mc_124 dX6_nextOf_6
theorem e124_7 : mm_E 124 7 ls (.int y :: .int x :: st) I r Q ↔ if y ≤ x then mm_E 124 56 ls st I r Q else mm_E 124 10 ls st I r Q := me_cge mc_124 dX6_nextOf_7 (by decide)
theorem e124_10 : mm_E 124 10 [some (.ref a), l1, l2, l3, l4] st I r Q ↔ mm_E 124 11 [some (.ref a), l1, l2, l3, l4] (.ref a :: st) I r Q := me_al mc_124 dX6_nextOf_10 rfl
theorem e124_11 : mm_E 124 11 ls st I r Q ↔ mm_E 124 13 ls (.int 21 :: st) I r Q := me_bi mc_124 dX6_nextOf_11 (by decide)
theorem e124_13 : mm_E 124 13 [l0, some (.int x), l2, l3, l4] st I r Q ↔ mm_E 124 14 [l0, some (.int x), l2, l3, l4] (.int x :: st) I r Q := me_il mc_124 dX6_nextOf_13 rfl
theorem e124_14 : mm_E 124 14 ls (.int y :: .int x :: st) I r Q ↔ mm_E 124 15 ls (.int (x + y) :: st) I r Q := me_iadd mc_124 dX6_nextOf_14
theorem e124_15 : mm_E 124 15 ls (.int x :: .ref a :: st) I r Q ↔ mm_ix r a 2 x ∧ mm_E 124 16 ls (.int (mm_rd I a x.toNatClampNeg) :: st) I r Q := me_ia mc_124 dX6_nextOf_15
theorem e124_16 : mm_E 124 16 [l0, l1, l2, some (.int x), l4] st I r Q ↔ mm_E 124 17 [l0, l1, l2, some (.int x), l4] (.int x :: st) I r Q := me_il mc_124 dX6_nextOf_16 rfl
theorem e124_17 : mm_E 124 17 ls (.int y :: .int x :: st) I r Q ↔ mm_E 124 18 ls (.int (x + y) :: st) I r Q := me_iadd mc_124 dX6_nextOf_17
theorem e124_18 : mm_E 124 18 [some (.ref a), l1, l2, l3, l4] st I r Q ↔ mm_E 124 19 [some (.ref a), l1, l2, l3, l4] (.ref a :: st) I r Q := me_al mc_124 dX6_nextOf_18 rfl
theorem e124_19 : mm_E 124 19 ls st I r Q ↔ mm_E 124 21 ls (.int 27 :: st) I r Q := me_bi mc_124 dX6_nextOf_19 (by decide)
theorem e124_21 : mm_E 124 21 ls (.int x :: .ref a :: st) I r Q ↔ mm_ix r a 2 x ∧ mm_E 124 22 ls (.int (mm_rd I a x.toNatClampNeg) :: st) I r Q := me_ia mc_124 dX6_nextOf_21
theorem e124_22 : mm_E 124 22 ls (.int y :: .int x :: st) I r Q ↔ ¬ y = 0 ∧ mm_E 124 23 ls (.int (x - x / y * y) :: st) I r Q := me_irem mc_124 dX6_nextOf_22
theorem e124_23 : mm_E 124 23 [l0, l1, l2, l3, l4] (.int x :: st) I r Q ↔ mm_c1 l3 ∧ mm_E 124 25 [l0, l1, l2, l3, some (.int x)] st I r Q := me_st (k := 4) (v := .int x) mc_124 dX6_nextOf_23 rfl rfl (Nat.le_of_ble_eq_true rfl) rfl ⟨Or.inr, fun h => h.resolve_left (by decide)⟩
theorem e124_25 : mm_E 124 25 [some (.ref a), l1, l2, l3, l4] st I r Q ↔ mm_E 124 26 [some (.ref a), l1, l2, l3, l4] (.ref a :: st) I r Q := me_al mc_124 dX6_nextOf_25 rfl
theorem e124_26 : mm_E 124 26 [l0, l1, l2, l3, some (.int x)] st I r Q ↔ mm_E 124 28 [l0, l1, l2, l3, some (.int x)] (.int x :: st) I r Q := me_il2 mc_124 dX6_nextOf_26 rfl
theorem e124_28 : ∀ (x0 : Nat) (x1 : Int32), (mm_E 124 28 ls (.int x1 :: .ref x0 :: st) I r Q ↔ mm_w8 st = true ∧ mm_E 105 0 [some (.ref x0), some (.int x1)] [] I r (fun v I2 r2 => mm_E 124 31 ls (mm_pu v st) I2 r2 Q)) := fun x0 x1 => me_sc (n := 2) (As := [.ref x0, .int x1]) (xs := [.int x1, .ref x0]) mc_124 dX6_nextOf_28 (by decide +kernel) (by decide +kernel) rfl rfl (Nat.le_of_ble_eq_true rfl) rfl
theorem e124_31 : mm_E 124 31 ls (.int x :: st) I r Q ↔ if ¬ x = 0 then mm_E 124 50 ls st I r Q else mm_E 124 34 ls st I r Q := me_zne mc_124 dX6_nextOf_31 (by decide)
theorem e124_34 : mm_E 124 34 [l0, l1, some (.int x), l3, l4] st I r Q ↔ mm_E 124 35 [l0, l1, some (.int x), l3, l4] (.int x :: st) I r Q := me_il mc_124 dX6_nextOf_34 rfl
theorem e124_35 : mm_E 124 35 ls (.int x :: st) I r Q ↔ if x = 0 then mm_E 124 47 ls st I r Q else mm_E 124 38 ls st I r Q := me_zeq mc_124 dX6_nextOf_35 (by decide)
theorem e124_38 : mm_E 124 38 [some (.ref a), l1, l2, l3, l4] st I r Q ↔ mm_E 124 39 [some (.ref a), l1, l2, l3, l4] (.ref a :: st) I r Q := me_al mc_124 dX6_nextOf_38 rfl
theorem e124_39 : mm_E 124 39 [l0, l1, l2, l3, some (.int x)] st I r Q ↔ mm_E 124 41 [l0, l1, l2, l3, some (.int x)] (.int x :: st) I r Q := me_il2 mc_124 dX6_nextOf_39 rfl
theorem e124_41 : ∀ (x0 : Nat) (x1 : Int32), (mm_E 124 41 ls (.int x1 :: .ref x0 :: st) I r Q ↔ mm_w8 st = true ∧ mm_E 104 0 [some (.ref x0), some (.int x1), none, none] [] I r (fun v I2 r2 => mm_E 124 44 ls (mm_pu v st) I2 r2 Q)) := fun x0 x1 => me_sc (n := 2) (As := [.ref x0, .int x1]) (xs := [.int x1, .ref x0]) mc_124 dX6_nextOf_41 (by decide +kernel) (by decide +kernel) rfl rfl (Nat.le_of_ble_eq_true rfl) rfl
theorem e124_44 : mm_E 124 44 ls (.int x :: st) I r Q ↔ if ¬ x = 0 then mm_E 124 50 ls st I r Q else mm_E 124 47 ls st I r Q := me_zne mc_124 dX6_nextOf_44 (by decide)
theorem e124_47 : mm_E 124 47 [l0, l1, l2, l3, some (.int x)] st I r Q ↔ mm_E 124 49 [l0, l1, l2, l3, some (.int x)] (.int x :: st) I r Q := me_il2 mc_124 dX6_nextOf_47 rfl
theorem e124_49 : mm_E 124 49 ls [.int x] I r Q ↔ Q (some (.int x)) I r := me_ri mc_124 dX6_nextOf_49 rfl
theorem e124_50 : mm_E 124 50 [l0, l1, l2, some (.int x), l4] st I r Q ↔ mm_c1 l2 ∧ mm_E 124 53 [l0, l1, l2, some (.int (x + 1)), l4] st I r Q := me_st (k := 3) (v := .int (x + 1)) mc_124 dX6_nextOf_50 rfl rfl (Nat.le_of_ble_eq_true rfl) rfl ⟨Or.inr, fun h => h.resolve_left (by decide)⟩
theorem e124_53 : mm_E 124 53 ls st I r Q ↔ mm_E 124 2 ls st I r Q := me_goto mc_124 dX6_nextOf_53 (by decide)
theorem e124_56 : mm_E 124 56 ls st I r Q ↔ mm_E 124 58 ls (.int (-4) :: st) I r Q := me_bi mc_124 dX6_nextOf_56 (by decide)
theorem e124_58 : mm_E 124 58 ls [.int x] I r Q ↔ Q (some (.int x)) I r := me_ri mc_124 dX6_nextOf_58 rfl
theorem mc_125 : mm_c 125 = cX6_goesOn := rfl
theorem e125_0 : mm_E 125 0 [some (.ref a), l1, l2, l3, l4, l5] st I r Q ↔ mm_E 125 1 [some (.ref a), l1, l2, l3, l4, l5] (.ref a :: st) I r Q := me_al mc_125 dX6_goesOn_0 rfl
theorem e125_1 : mm_E 125 1 ls st I r Q ↔ mm_E 125 3 ls (.int 29 :: st) I r Q := me_bi mc_125 dX6_goesOn_1 (by decide)
theorem e125_3 : mm_E 125 3 [l0, some (.int x), l2, l3, l4, l5] st I r Q ↔ mm_E 125 4 [l0, some (.int x), l2, l3, l4, l5] (.int x :: st) I r Q := me_il mc_125 dX6_goesOn_3 rfl
theorem e125_4 : mm_E 125 4 ls (.int y :: .int x :: st) I r Q ↔ mm_E 125 5 ls (.int (x + y) :: st) I r Q := me_iadd mc_125 dX6_goesOn_4
theorem e125_5 : mm_E 125 5 ls (.int x :: .ref a :: st) I r Q ↔ mm_ix r a 2 x ∧ mm_E 125 6 ls (.int (mm_rd I a x.toNatClampNeg) :: st) I r Q := me_ia mc_125 dX6_goesOn_5
theorem e125_6 : mm_E 125 6 [l0, l1, l2, l3, l4, l5] (.int x :: st) I r Q ↔ mm_c1 l2 ∧ mm_E 125 7 [l0, l1, l2, some (.int x), l4, l5] st I r Q := me_st (k := 3) (v := .int x) mc_125 dX6_goesOn_6 rfl rfl (Nat.le_of_ble_eq_true rfl) rfl ⟨Or.inr, fun h => h.resolve_left (by decide)⟩
theorem e125_7 : mm_E 125 7 [l0, l1, some (.int x), l3, l4, l5] st I r Q ↔ mm_E 125 8 [l0, l1, some (.int x), l3, l4, l5] (.int x :: st) I r Q := me_il mc_125 dX6_goesOn_7 rfl
theorem e125_8 : mm_E 125 8 ls (.int x :: st) I r Q ↔ if x = 0 then mm_E 125 25 ls st I r Q else mm_E 125 11 ls st I r Q := me_zeq mc_125 dX6_goesOn_8 (by decide)
theorem e125_11 : mm_E 125 11 [l0, l1, l2, some (.int x), l4, l5] st I r Q ↔ mm_E 125 12 [l0, l1, l2, some (.int x), l4, l5] (.int x :: st) I r Q := me_il mc_125 dX6_goesOn_11 rfl
theorem e125_12 : mm_E 125 12 ls st I r Q ↔ mm_E 125 13 ls (.int 1 :: st) I r Q := me_ic mc_125 dX6_goesOn_12 (by decide)
theorem e125_13 : mm_E 125 13 ls (.int y :: .int x :: st) I r Q ↔ if x = y then mm_E 125 21 ls st I r Q else mm_E 125 16 ls st I r Q := me_ceq mc_125 dX6_goesOn_13 (by decide)
theorem e125_16 : mm_E 125 16 [l0, l1, l2, some (.int x), l4, l5] st I r Q ↔ mm_E 125 17 [l0, l1, l2, some (.int x), l4, l5] (.int x :: st) I r Q := me_il mc_125 dX6_goesOn_16 rfl
theorem e125_17 : mm_E 125 17 ls st I r Q ↔ mm_E 125 18 ls (.int 3 :: st) I r Q := me_ic mc_125 dX6_goesOn_17 (by decide)
theorem e125_18 : mm_E 125 18 ls (.int y :: .int x :: st) I r Q ↔ if ¬ x = y then mm_E 125 25 ls st I r Q else mm_E 125 21 ls st I r Q := me_cne mc_125 dX6_goesOn_18 (by decide)
theorem e125_21 : mm_E 125 21 ls st I r Q ↔ mm_E 125 22 ls (.int 1 :: st) I r Q := me_ic mc_125 dX6_goesOn_21 (by decide)
theorem e125_22 : mm_E 125 22 ls st I r Q ↔ mm_E 125 26 ls st I r Q := me_goto mc_125 dX6_goesOn_22 (by decide)
theorem e125_25 : mm_E 125 25 ls st I r Q ↔ mm_E 125 26 ls (.int 0 :: st) I r Q := me_ic mc_125 dX6_goesOn_25 (by decide)
theorem e125_26 : mm_E 125 26 [l0, l1, l2, l3, l4, l5] (.int x :: st) I r Q ↔ mm_c1 l3 ∧ mm_E 125 28 [l0, l1, l2, l3, some (.int x), l5] st I r Q := me_st (k := 4) (v := .int x) mc_125 dX6_goesOn_26 rfl rfl (Nat.le_of_ble_eq_true rfl) rfl ⟨Or.inr, fun h => h.resolve_left (by decide)⟩
theorem e125_28 : mm_E 125 28 [l0, l1, l2, l3, some (.int x), l5] st I r Q ↔ mm_E 125 30 [l0, l1, l2, l3, some (.int x), l5] (.int x :: st) I r Q := me_il2 mc_125 dX6_goesOn_28 rfl
theorem e125_30 : mm_E 125 30 ls (.int x :: st) I r Q ↔ if ¬ x = 0 then mm_E 125 99 ls st I r Q else mm_E 125 33 ls st I r Q := me_zne mc_125 dX6_goesOn_30 (by decide)
theorem e125_33 : mm_E 125 33 [some (.ref a), l1, l2, l3, l4, l5] st I r Q ↔ mm_E 125 34 [some (.ref a), l1, l2, l3, l4, l5] (.ref a :: st) I r Q := me_al mc_125 dX6_goesOn_33 rfl
theorem e125_34 : mm_E 125 34 [l0, some (.int x), l2, l3, l4, l5] st I r Q ↔ mm_E 125 35 [l0, some (.int x), l2, l3, l4, l5] (.int x :: st) I r Q := me_il mc_125 dX6_goesOn_34 rfl
theorem e125_35 : mm_E 125 35 [l0, l1, l2, some (.int x), l4, l5] st I r Q ↔ mm_E 125 36 [l0, l1, l2, some (.int x), l4, l5] (.int x :: st) I r Q := me_il mc_125 dX6_goesOn_35 rfl
theorem e125_36 : mm_E 125 36 ls st I r Q ↔ mm_E 125 37 ls (.int 2 :: st) I r Q := me_ic mc_125 dX6_goesOn_36 (by decide)
theorem e125_37 : mm_E 125 37 ls (.int y :: .int x :: st) I r Q ↔ if x = y then mm_E 125 45 ls st I r Q else mm_E 125 40 ls st I r Q := me_ceq mc_125 dX6_goesOn_37 (by decide)
theorem e125_40 : mm_E 125 40 [l0, l1, l2, some (.int x), l4, l5] st I r Q ↔ mm_E 125 41 [l0, l1, l2, some (.int x), l4, l5] (.int x :: st) I r Q := me_il mc_125 dX6_goesOn_40 rfl
theorem e125_41 : mm_E 125 41 ls st I r Q ↔ mm_E 125 42 ls (.int 4 :: st) I r Q := me_ic mc_125 dX6_goesOn_41 (by decide)
theorem e125_42 : mm_E 125 42 ls (.int y :: .int x :: st) I r Q ↔ if ¬ x = y then mm_E 125 49 ls st I r Q else mm_E 125 45 ls st I r Q := me_cne mc_125 dX6_goesOn_42 (by decide)
theorem e125_45 : mm_E 125 45 ls st I r Q ↔ mm_E 125 46 ls (.int 1 :: st) I r Q := me_ic mc_125 dX6_goesOn_45 (by decide)
theorem e125_46 : mm_E 125 46 ls st I r Q ↔ mm_E 125 50 ls st I r Q := me_goto mc_125 dX6_goesOn_46 (by decide)
theorem e125_49 : mm_E 125 49 ls st I r Q ↔ mm_E 125 50 ls (.int 0 :: st) I r Q := me_ic mc_125 dX6_goesOn_49 (by decide)
theorem e125_50 : ∀ (x0 : Nat) (x1 : Int32) (x2 : Int32), (mm_E 125 50 ls (.int x2 :: .int x1 :: .ref x0 :: st) I r Q ↔ mm_w8 st = true ∧ mm_E 124 0 [some (.ref x0), some (.int x1), some (.int x2), none, none] [] I r (fun v I2 r2 => mm_E 125 53 ls (mm_pu v st) I2 r2 Q)) := fun x0 x1 x2 => me_sc (n := 3) (As := [.ref x0, .int x1, .int x2]) (xs := [.int x2, .int x1, .ref x0]) mc_125 dX6_goesOn_50 (by decide +kernel) (by decide +kernel) rfl rfl (Nat.le_of_ble_eq_true rfl) rfl
theorem e125_53 : mm_E 125 53 [l0, l1, l2, l3, l4, l5] (.int x :: st) I r Q ↔ mm_c1 l4 ∧ mm_E 125 55 [l0, l1, l2, l3, l4, some (.int x)] st I r Q := me_st (k := 5) (v := .int x) mc_125 dX6_goesOn_53 rfl rfl (Nat.le_of_ble_eq_true rfl) rfl ⟨Or.inr, fun h => h.resolve_left (by decide)⟩
theorem e125_55 : mm_E 125 55 [l0, l1, l2, l3, l4, some (.int x)] st I r Q ↔ mm_E 125 57 [l0, l1, l2, l3, l4, some (.int x)] (.int x :: st) I r Q := me_il2 mc_125 dX6_goesOn_55 rfl
theorem e125_57 : mm_E 125 57 ls st I r Q ↔ mm_E 125 59 ls (.int (-4) :: st) I r Q := me_bi mc_125 dX6_goesOn_57 (by decide)
theorem e125_59 : mm_E 125 59 ls (.int y :: .int x :: st) I r Q ↔ if ¬ x = y then mm_E 125 71 ls st I r Q else mm_E 125 62 ls st I r Q := me_cne mc_125 dX6_goesOn_59 (by decide)
theorem e125_62 : mm_E 125 62 [some (.ref a), l1, l2, l3, l4, l5] st I r Q ↔ mm_E 125 63 [some (.ref a), l1, l2, l3, l4, l5] (.ref a :: st) I r Q := me_al mc_125 dX6_goesOn_62 rfl
theorem e125_63 : mm_E 125 63 [l0, some (.int x), l2, l3, l4, l5] st I r Q ↔ mm_E 125 64 [l0, some (.int x), l2, l3, l4, l5] (.int x :: st) I r Q := me_il mc_125 dX6_goesOn_63 rfl
theorem e125_64 : mm_E 125 64 ls st I r Q ↔ mm_E 125 65 ls (.int 0 :: st) I r Q := me_ic mc_125 dX6_goesOn_64 (by decide)
theorem e125_65 : ∀ (x0 : Nat) (x1 : Int32) (x2 : Int32), (mm_E 125 65 ls (.int x2 :: .int x1 :: .ref x0 :: st) I r Q ↔ mm_w8 st = true ∧ mm_E 124 0 [some (.ref x0), some (.int x1), some (.int x2), none, none] [] I r (fun v I2 r2 => mm_E 125 68 ls (mm_pu v st) I2 r2 Q)) := fun x0 x1 x2 => me_sc (n := 3) (As := [.ref x0, .int x1, .int x2]) (xs := [.int x2, .int x1, .ref x0]) mc_125 dX6_goesOn_65 (by decide +kernel) (by decide +kernel) rfl rfl (Nat.le_of_ble_eq_true rfl) rfl
theorem e125_68 : mm_E 125 68 ls st I r Q ↔ mm_E 125 73 ls st I r Q := me_goto mc_125 dX6_goesOn_68 (by decide)
theorem e125_71 : mm_E 125 71 [l0, l1, l2, l3, l4, some (.int x)] st I r Q ↔ mm_E 125 73 [l0, l1, l2, l3, l4, some (.int x)] (.int x :: st) I r Q := me_il2 mc_125 dX6_goesOn_71 rfl
theorem e125_73 : mm_E 125 73 [l0, l1, l2, l3, l4, l5] (.int x :: st) I r Q ↔ mm_c1 l4 ∧ mm_E 125 75 [l0, l1, l2, l3, l4, some (.int x)] st I r Q := me_st (k := 5) (v := .int x) mc_125 dX6_goesOn_73 rfl rfl (Nat.le_of_ble_eq_true rfl) rfl ⟨Or.inr, fun h => h.resolve_left (by decide)⟩
theorem e125_75 : mm_E 125 75 [some (.ref a), l1, l2, l3, l4, l5] st I r Q ↔ mm_E 125 76 [some (.ref a), l1, l2, l3, l4, l5] (.ref a :: st) I r Q := me_al mc_125 dX6_goesOn_75 rfl
theorem e125_76 : mm_E 125 76 ls st I r Q ↔ mm_E 125 78 ls (.int 21 :: st) I r Q := me_bi mc_125 dX6_goesOn_76 (by decide)
theorem e125_78 : mm_E 125 78 [l0, some (.int x), l2, l3, l4, l5] st I r Q ↔ mm_E 125 79 [l0, some (.int x), l2, l3, l4, l5] (.int x :: st) I r Q := me_il mc_125 dX6_goesOn_78 rfl
theorem e125_79 : mm_E 125 79 ls (.int y :: .int x :: st) I r Q ↔ mm_E 125 80 ls (.int (x + y) :: st) I r Q := me_iadd mc_125 dX6_goesOn_79
theorem e125_80 : mm_E 125 80 [l0, l1, l2, l3, l4, some (.int x)] st I r Q ↔ mm_E 125 82 [l0, l1, l2, l3, l4, some (.int x)] (.int x :: st) I r Q := me_il2 mc_125 dX6_goesOn_80 rfl
theorem e125_82 : mm_E 125 82 ls st I r Q ↔ mm_E 125 84 ls (.int (-4) :: st) I r Q := me_bi mc_125 dX6_goesOn_82 (by decide)
theorem e125_84 : mm_E 125 84 ls (.int y :: .int x :: st) I r Q ↔ if ¬ x = y then mm_E 125 96 ls st I r Q else mm_E 125 87 ls st I r Q := me_cne mc_125 dX6_goesOn_84 (by decide)
theorem e125_87 : mm_E 125 87 [some (.ref a), l1, l2, l3, l4, l5] st I r Q ↔ mm_E 125 88 [some (.ref a), l1, l2, l3, l4, l5] (.ref a :: st) I r Q := me_al mc_125 dX6_goesOn_87 rfl
theorem e125_88 : mm_E 125 88 ls st I r Q ↔ mm_E 125 90 ls (.int 21 :: st) I r Q := me_bi mc_125 dX6_goesOn_88 (by decide)
theorem e125_90 : mm_E 125 90 [l0, some (.int x), l2, l3, l4, l5] st I r Q ↔ mm_E 125 91 [l0, some (.int x), l2, l3, l4, l5] (.int x :: st) I r Q := me_il mc_125 dX6_goesOn_90 rfl
theorem e125_91 : mm_E 125 91 ls (.int y :: .int x :: st) I r Q ↔ mm_E 125 92 ls (.int (x + y) :: st) I r Q := me_iadd mc_125 dX6_goesOn_91
theorem e125_92 : mm_E 125 92 ls (.int x :: .ref a :: st) I r Q ↔ mm_ix r a 2 x ∧ mm_E 125 93 ls (.int (mm_rd I a x.toNatClampNeg) :: st) I r Q := me_ia mc_125 dX6_goesOn_92
theorem e125_93 : mm_E 125 93 ls st I r Q ↔ mm_E 125 98 ls st I r Q := me_goto mc_125 dX6_goesOn_93 (by decide)
theorem e125_96 : mm_E 125 96 [l0, l1, l2, l3, l4, some (.int x)] st I r Q ↔ mm_E 125 98 [l0, l1, l2, l3, l4, some (.int x)] (.int x :: st) I r Q := me_il2 mc_125 dX6_goesOn_96 rfl
theorem e125_98 : mm_E 125 98 ls (.int y :: .int x :: .ref a :: st) I r Q ↔ mm_ix r a 2 x ∧ mm_E 125 99 ls st (mm_uI I a x.toNatClampNeg y) r Q := me_is mc_125 dX6_goesOn_98
theorem e125_99 : mm_E 125 99 ls [] I r Q ↔ Q none I r := me_rv mc_125 dX6_goesOn_99 rfl
theorem mc_126 : mm_c 126 = cX6_turnIn := rfl
theorem e126_0 : mm_E 126 0 [l0, some (.ref a), l2, l3, l4, l5] st I r Q ↔ mm_E 126 1 [l0, some (.ref a), l2, l3, l4, l5] (.ref a :: st) I r Q := me_al mc_126 dX6_turnIn_0 rfl
theorem e126_1 : mm_E 126 1 ls st I r Q ↔ mm_E 126 3 ls (.int 21 :: st) I r Q := me_bi mc_126 dX6_turnIn_1 (by decide)
theorem e126_3 : mm_E 126 3 [l0, l1, some (.int x), l3, l4, l5] st I r Q ↔ mm_E 126 4 [l0, l1, some (.int x), l3, l4, l5] (.int x :: st) I r Q := me_il mc_126 dX6_turnIn_3 rfl
theorem e126_4 : mm_E 126 4 ls (.int y :: .int x :: st) I r Q ↔ mm_E 126 5 ls (.int (x + y) :: st) I r Q := me_iadd mc_126 dX6_turnIn_4
theorem e126_5 : mm_E 126 5 ls (.int x :: .ref a :: st) I r Q ↔ mm_ix r a 2 x ∧ mm_E 126 6 ls (.int (mm_rd I a x.toNatClampNeg) :: st) I r Q := me_ia mc_126 dX6_turnIn_5
theorem e126_6 : mm_E 126 6 [l0, l1, l2, l3, l4, l5] (.int x :: st) I r Q ↔ mm_c1 l2 ∧ mm_E 126 7 [l0, l1, l2, some (.int x), l4, l5] st I r Q := me_st (k := 3) (v := .int x) mc_126 dX6_turnIn_6 rfl rfl (Nat.le_of_ble_eq_true rfl) rfl ⟨Or.inr, fun h => h.resolve_left (by decide)⟩
theorem e126_7 : mm_E 126 7 [l0, some (.ref a), l2, l3, l4, l5] st I r Q ↔ mm_E 126 8 [l0, some (.ref a), l2, l3, l4, l5] (.ref a :: st) I r Q := me_al mc_126 dX6_turnIn_7 rfl
theorem e126_8 : mm_E 126 8 [l0, l1, l2, some (.int x), l4, l5] st I r Q ↔ mm_E 126 9 [l0, l1, l2, some (.int x), l4, l5] (.int x :: st) I r Q := me_il mc_126 dX6_turnIn_8 rfl
theorem e126_9 : ∀ (x0 : Nat) (x1 : Int32), (mm_E 126 9 ls (.int x1 :: .ref x0 :: st) I r Q ↔ mm_w8 st = true ∧ mm_E 105 0 [some (.ref x0), some (.int x1)] [] I r (fun v I2 r2 => mm_E 126 12 ls (mm_pu v st) I2 r2 Q)) := fun x0 x1 => me_sc (n := 2) (As := [.ref x0, .int x1]) (xs := [.int x1, .ref x0]) mc_126 dX6_turnIn_9 (by decide +kernel) (by decide +kernel) rfl rfl (Nat.le_of_ble_eq_true rfl) rfl
theorem e126_12 : mm_E 126 12 ls (.int x :: st) I r Q ↔ if x = 0 then mm_E 126 22 ls st I r Q else mm_E 126 15 ls st I r Q := me_zeq mc_126 dX6_turnIn_12 (by decide)
theorem e126_15 : mm_E 126 15 [l0, some (.ref a), l2, l3, l4, l5] st I r Q ↔ mm_E 126 16 [l0, some (.ref a), l2, l3, l4, l5] (.ref a :: st) I r Q := me_al mc_126 dX6_turnIn_15 rfl
theorem e126_16 : mm_E 126 16 [l0, l1, some (.int x), l3, l4, l5] st I r Q ↔ mm_E 126 17 [l0, l1, some (.int x), l3, l4, l5] (.int x :: st) I r Q := me_il mc_126 dX6_turnIn_16 rfl
theorem e126_17 : mm_E 126 17 ls st I r Q ↔ mm_E 126 18 ls (.int 0 :: st) I r Q := me_ic mc_126 dX6_turnIn_17 (by decide)
theorem e126_18 : ∀ (x0 : Nat) (x1 : Int32) (x2 : Int32), (mm_E 126 18 ls (.int x2 :: .int x1 :: .ref x0 :: st) I r Q ↔ mm_w8 st = true ∧ mm_E 125 0 [some (.ref x0), some (.int x1), some (.int x2), none, none, none] [] I r (fun v I2 r2 => mm_E 126 21 ls (mm_pu v st) I2 r2 Q)) := fun x0 x1 x2 => me_sc (n := 3) (As := [.ref x0, .int x1, .int x2]) (xs := [.int x2, .int x1, .ref x0]) mc_126 dX6_turnIn_18 (by decide +kernel) (by decide +kernel) rfl rfl (Nat.le_of_ble_eq_true rfl) rfl
theorem e126_21 : mm_E 126 21 ls [] I r Q ↔ Q none I r := me_rv mc_126 dX6_turnIn_21 rfl
theorem e126_22 : mm_E 126 22 [l0, some (.ref a), l2, l3, l4, l5] st I r Q ↔ mm_E 126 23 [l0, some (.ref a), l2, l3, l4, l5] (.ref a :: st) I r Q := me_al mc_126 dX6_turnIn_22 rfl
theorem e126_23 : mm_E 126 23 [l0, l1, some (.int x), l3, l4, l5] st I r Q ↔ mm_E 126 24 [l0, l1, some (.int x), l3, l4, l5] (.int x :: st) I r Q := me_il mc_126 dX6_turnIn_23 rfl
theorem e126_24 : ∀ (x0 : Nat) (x1 : Int32), (mm_E 126 24 ls (.int x1 :: .ref x0 :: st) I r Q ↔ mm_w8 st = true ∧ mm_E 107 0 [some (.ref x0), some (.int x1), none] [] I r (fun v I2 r2 => mm_E 126 27 ls (mm_pu v st) I2 r2 Q)) := fun x0 x1 => me_sc (n := 2) (As := [.ref x0, .int x1]) (xs := [.int x1, .ref x0]) mc_126 dX6_turnIn_24 (by decide +kernel) (by decide +kernel) rfl rfl (Nat.le_of_ble_eq_true rfl) rfl
theorem e126_27 : mm_E 126 27 [l0, l1, l2, l3, l4, l5] (.int x :: st) I r Q ↔ mm_c1 l3 ∧ mm_E 126 29 [l0, l1, l2, l3, some (.int x), l5] st I r Q := me_st (k := 4) (v := .int x) mc_126 dX6_turnIn_27 rfl rfl (Nat.le_of_ble_eq_true rfl) rfl ⟨Or.inr, fun h => h.resolve_left (by decide)⟩
theorem e126_29 : mm_E 126 29 [some (.ref a), l1, l2, l3, l4, l5] st I r Q ↔ mm_E 126 30 [some (.ref a), l1, l2, l3, l4, l5] (.ref a :: st) I r Q := me_al mc_126 dX6_turnIn_29 rfl
theorem e126_30 : mm_E 126 30 ls (.ref a :: st) I r Q ↔ mm_S r a = (1, 6) ∧ mm_E 126 33 ls (va_rf (mm_P r a 12) :: st) I r Q := me_gr mc_126 dX6_turnIn_30 (by decide +kernel) rfl
theorem e126_33 : mm_E 126 33 [l0, l1, l2, some (.int x), l4, l5] st I r Q ↔ mm_E 126 34 [l0, l1, l2, some (.int x), l4, l5] (.int x :: st) I r Q := me_il mc_126 dX6_turnIn_33 rfl
theorem e126_34 : mm_E 126 34 ls (.int x :: .ref a :: st) I r Q ↔ mm_ix r a 2 x ∧ mm_E 126 35 ls (.int (mm_rd I a x.toNatClampNeg) :: st) I r Q := me_ia mc_126 dX6_turnIn_34
theorem e126_35 : mm_E 126 35 [l0, l1, l2, l3, some (.int x), l5] st I r Q ↔ mm_E 126 37 [l0, l1, l2, l3, some (.int x), l5] (.int x :: st) I r Q := me_il2 mc_126 dX6_turnIn_35 rfl
theorem e126_37 : mm_E 126 37 ls (.int y :: .int x :: st) I r Q ↔ if y ≤ x then mm_E 126 49 ls st I r Q else mm_E 126 40 ls st I r Q := me_cge mc_126 dX6_turnIn_37 (by decide)
theorem e126_40 : mm_E 126 40 [some (.ref a), l1, l2, l3, l4, l5] st I r Q ↔ mm_E 126 41 [some (.ref a), l1, l2, l3, l4, l5] (.ref a :: st) I r Q := me_al mc_126 dX6_turnIn_40 rfl
theorem e126_41 : mm_E 126 41 ls (.ref a :: st) I r Q ↔ mm_S r a = (1, 6) ∧ mm_E 126 44 ls (va_rf (mm_P r a 12) :: st) I r Q := me_gr mc_126 dX6_turnIn_41 (by decide +kernel) rfl
theorem e126_44 : mm_E 126 44 [l0, l1, l2, some (.int x), l4, l5] st I r Q ↔ mm_E 126 45 [l0, l1, l2, some (.int x), l4, l5] (.int x :: st) I r Q := me_il mc_126 dX6_turnIn_44 rfl
theorem e126_45 : mm_E 126 45 ls (.int x :: .ref a :: st) I r Q ↔ mm_ix r a 2 x ∧ mm_E 126 46 ls (.int (mm_rd I a x.toNatClampNeg) :: st) I r Q := me_ia mc_126 dX6_turnIn_45
theorem e126_46 : mm_E 126 46 ls st I r Q ↔ mm_E 126 51 ls st I r Q := me_goto mc_126 dX6_turnIn_46 (by decide)
theorem e126_49 : mm_E 126 49 [l0, l1, l2, l3, some (.int x), l5] st I r Q ↔ mm_E 126 51 [l0, l1, l2, l3, some (.int x), l5] (.int x :: st) I r Q := me_il2 mc_126 dX6_turnIn_49 rfl
theorem e126_51 : mm_E 126 51 [l0, l1, l2, l3, l4, l5] (.int x :: st) I r Q ↔ mm_c1 l4 ∧ mm_E 126 53 [l0, l1, l2, l3, l4, some (.int x)] st I r Q := me_st (k := 5) (v := .int x) mc_126 dX6_turnIn_51 rfl rfl (Nat.le_of_ble_eq_true rfl) rfl ⟨Or.inr, fun h => h.resolve_left (by decide)⟩
theorem e126_53 : mm_E 126 53 [some (.ref a), l1, l2, l3, l4, l5] st I r Q ↔ mm_E 126 54 [some (.ref a), l1, l2, l3, l4, l5] (.ref a :: st) I r Q := me_al mc_126 dX6_turnIn_53 rfl
theorem e126_54 : mm_E 126 54 ls (.ref a :: st) I r Q ↔ mm_S r a = (1, 6) ∧ mm_E 126 57 ls (va_rf (mm_P r a 12) :: st) I r Q := me_gr mc_126 dX6_turnIn_54 (by decide +kernel) rfl
theorem e126_57 : mm_E 126 57 [l0, l1, l2, some (.int x), l4, l5] st I r Q ↔ mm_E 126 58 [l0, l1, l2, some (.int x), l4, l5] (.int x :: st) I r Q := me_il mc_126 dX6_turnIn_57 rfl
theorem e126_58 : mm_E 126 58 ls (u :: v :: st) I r Q ↔ (v.category = 1 ∧ u.category = 1) ∧ mm_E 126 59 ls (u :: v :: u :: v :: st) I r Q := me_dup2 mc_126 dX6_turnIn_58
theorem e126_59 : mm_E 126 59 ls (.int x :: .ref a :: st) I r Q ↔ mm_ix r a 2 x ∧ mm_E 126 60 ls (.int (mm_rd I a x.toNatClampNeg) :: st) I r Q := me_ia mc_126 dX6_turnIn_59
theorem e126_60 : mm_E 126 60 [l0, l1, l2, l3, l4, some (.int x)] st I r Q ↔ mm_E 126 62 [l0, l1, l2, l3, l4, some (.int x)] (.int x :: st) I r Q := me_il2 mc_126 dX6_turnIn_60 rfl
theorem e126_62 : mm_E 126 62 ls (.int y :: .int x :: st) I r Q ↔ mm_E 126 63 ls (.int (x - y) :: st) I r Q := me_isub mc_126 dX6_turnIn_62
theorem e126_63 : mm_E 126 63 ls (.int y :: .int x :: .ref a :: st) I r Q ↔ mm_ix r a 2 x ∧ mm_E 126 64 ls st (mm_uI I a x.toNatClampNeg y) r Q := me_is mc_126 dX6_turnIn_63
theorem e126_64 : mm_E 126 64 [l0, some (.ref a), l2, l3, l4, l5] st I r Q ↔ mm_E 126 65 [l0, some (.ref a), l2, l3, l4, l5] (.ref a :: st) I r Q := me_al mc_126 dX6_turnIn_64 rfl
theorem e126_65 : mm_E 126 65 ls st I r Q ↔ mm_E 126 66 ls (.int 2 :: st) I r Q := me_ic mc_126 dX6_turnIn_65 (by decide)
theorem e126_66 : mm_E 126 66 ls (u :: v :: st) I r Q ↔ (v.category = 1 ∧ u.category = 1) ∧ mm_E 126 67 ls (u :: v :: u :: v :: st) I r Q := me_dup2 mc_126 dX6_turnIn_66
theorem e126_67 : mm_E 126 67 ls (.int x :: .ref a :: st) I r Q ↔ mm_ix r a 2 x ∧ mm_E 126 68 ls (.int (mm_rd I a x.toNatClampNeg) :: st) I r Q := me_ia mc_126 dX6_turnIn_67
theorem e126_68 : mm_E 126 68 [l0, l1, l2, l3, l4, some (.int x)] st I r Q ↔ mm_E 126 70 [l0, l1, l2, l3, l4, some (.int x)] (.int x :: st) I r Q := me_il2 mc_126 dX6_turnIn_68 rfl
theorem e126_70 : mm_E 126 70 ls (.int y :: .int x :: st) I r Q ↔ mm_E 126 71 ls (.int (x + y) :: st) I r Q := me_iadd mc_126 dX6_turnIn_70
theorem e126_71 : mm_E 126 71 ls (.int y :: .int x :: .ref a :: st) I r Q ↔ mm_ix r a 2 x ∧ mm_E 126 72 ls st (mm_uI I a x.toNatClampNeg y) r Q := me_is mc_126 dX6_turnIn_71
theorem e126_72 : mm_E 126 72 [l0, some (.ref a), l2, l3, l4, l5] st I r Q ↔ mm_E 126 73 [l0, some (.ref a), l2, l3, l4, l5] (.ref a :: st) I r Q := me_al mc_126 dX6_turnIn_72 rfl
theorem e126_73 : mm_E 126 73 ls st I r Q ↔ mm_E 126 74 ls (.int 3 :: st) I r Q := me_ic mc_126 dX6_turnIn_73 (by decide)
theorem e126_74 : mm_E 126 74 [l0, l1, l2, some (.int x), l4, l5] st I r Q ↔ mm_E 126 75 [l0, l1, l2, some (.int x), l4, l5] (.int x :: st) I r Q := me_il mc_126 dX6_turnIn_74 rfl
theorem e126_75 : mm_E 126 75 ls (.int y :: .int x :: st) I r Q ↔ mm_E 126 76 ls (.int (x + y) :: st) I r Q := me_iadd mc_126 dX6_turnIn_75
theorem e126_76 : mm_E 126 76 [l0, some (.ref a), l2, l3, l4, l5] st I r Q ↔ mm_E 126 77 [l0, some (.ref a), l2, l3, l4, l5] (.ref a :: st) I r Q := me_al mc_126 dX6_turnIn_76 rfl
theorem e126_77 : mm_E 126 77 ls st I r Q ↔ mm_E 126 78 ls (.int 3 :: st) I r Q := me_ic mc_126 dX6_turnIn_77 (by decide)
theorem e126_78 : mm_E 126 78 [l0, l1, l2, some (.int x), l4, l5] st I r Q ↔ mm_E 126 79 [l0, l1, l2, some (.int x), l4, l5] (.int x :: st) I r Q := me_il mc_126 dX6_turnIn_78 rfl
theorem e126_79 : mm_E 126 79 ls (.int y :: .int x :: st) I r Q ↔ mm_E 126 80 ls (.int (x + y) :: st) I r Q := me_iadd mc_126 dX6_turnIn_79
theorem e126_80 : mm_E 126 80 ls (.int x :: .ref a :: st) I r Q ↔ mm_ix r a 2 x ∧ mm_E 126 81 ls (.int (mm_rd I a x.toNatClampNeg) :: st) I r Q := me_ia mc_126 dX6_turnIn_80
theorem e126_81 : mm_E 126 81 [l0, l1, l2, l3, l4, some (.int x)] st I r Q ↔ mm_E 126 83 [l0, l1, l2, l3, l4, some (.int x)] (.int x :: st) I r Q := me_il2 mc_126 dX6_turnIn_81 rfl
theorem e126_83 : mm_E 126 83 ls (.int y :: .int x :: st) I r Q ↔ if x ≤ y then mm_E 126 97 ls st I r Q else mm_E 126 86 ls st I r Q := me_cle mc_126 dX6_turnIn_83 (by decide)
theorem e126_86 : mm_E 126 86 [l0, some (.ref a), l2, l3, l4, l5] st I r Q ↔ mm_E 126 87 [l0, some (.ref a), l2, l3, l4, l5] (.ref a :: st) I r Q := me_al mc_126 dX6_turnIn_86 rfl
theorem e126_87 : mm_E 126 87 ls st I r Q ↔ mm_E 126 88 ls (.int 3 :: st) I r Q := me_ic mc_126 dX6_turnIn_87 (by decide)
theorem e126_88 : mm_E 126 88 [l0, l1, l2, some (.int x), l4, l5] st I r Q ↔ mm_E 126 89 [l0, l1, l2, some (.int x), l4, l5] (.int x :: st) I r Q := me_il mc_126 dX6_turnIn_88 rfl
theorem e126_89 : mm_E 126 89 ls (.int y :: .int x :: st) I r Q ↔ mm_E 126 90 ls (.int (x + y) :: st) I r Q := me_iadd mc_126 dX6_turnIn_89
theorem e126_90 : mm_E 126 90 ls (.int x :: .ref a :: st) I r Q ↔ mm_ix r a 2 x ∧ mm_E 126 91 ls (.int (mm_rd I a x.toNatClampNeg) :: st) I r Q := me_ia mc_126 dX6_turnIn_90
theorem e126_91 : mm_E 126 91 [l0, l1, l2, l3, l4, some (.int x)] st I r Q ↔ mm_E 126 93 [l0, l1, l2, l3, l4, some (.int x)] (.int x :: st) I r Q := me_il2 mc_126 dX6_turnIn_91 rfl
theorem e126_93 : mm_E 126 93 ls (.int y :: .int x :: st) I r Q ↔ mm_E 126 94 ls (.int (x - y) :: st) I r Q := me_isub mc_126 dX6_turnIn_93
theorem e126_94 : mm_E 126 94 ls st I r Q ↔ mm_E 126 98 ls st I r Q := me_goto mc_126 dX6_turnIn_94 (by decide)
theorem e126_97 : mm_E 126 97 ls st I r Q ↔ mm_E 126 98 ls (.int 0 :: st) I r Q := me_ic mc_126 dX6_turnIn_97 (by decide)
theorem e126_98 : mm_E 126 98 ls (.int y :: .int x :: .ref a :: st) I r Q ↔ mm_ix r a 2 x ∧ mm_E 126 99 ls st (mm_uI I a x.toNatClampNeg y) r Q := me_is mc_126 dX6_turnIn_98
theorem e126_99 : mm_E 126 99 [some (.ref a), l1, l2, l3, l4, l5] st I r Q ↔ mm_E 126 100 [some (.ref a), l1, l2, l3, l4, l5] (.ref a :: st) I r Q := me_al mc_126 dX6_turnIn_99 rfl
theorem e126_100 : mm_E 126 100 ls (.ref a :: st) I r Q ↔ mm_S r a = (1, 6) ∧ mm_E 126 103 ls (va_rf (mm_P r a 13) :: st) I r Q := me_gr mc_126 dX6_turnIn_100 (by decide +kernel) rfl
theorem e126_103 : mm_E 126 103 [l0, l1, l2, some (.int x), l4, l5] st I r Q ↔ mm_E 126 104 [l0, l1, l2, some (.int x), l4, l5] (.int x :: st) I r Q := me_il mc_126 dX6_turnIn_103 rfl
theorem e126_104 : mm_E 126 104 ls (u :: v :: st) I r Q ↔ (v.category = 1 ∧ u.category = 1) ∧ mm_E 126 105 ls (u :: v :: u :: v :: st) I r Q := me_dup2 mc_126 dX6_turnIn_104
theorem e126_105 : mm_E 126 105 ls (.int x :: .ref a :: st) I r Q ↔ mm_ix r a 2 x ∧ mm_E 126 106 ls (.int (mm_rd I a x.toNatClampNeg) :: st) I r Q := me_ia mc_126 dX6_turnIn_105
theorem e126_106 : mm_E 126 106 [l0, l1, l2, l3, l4, some (.int x)] st I r Q ↔ mm_E 126 108 [l0, l1, l2, l3, l4, some (.int x)] (.int x :: st) I r Q := me_il2 mc_126 dX6_turnIn_106 rfl
theorem e126_108 : mm_E 126 108 ls (.int x :: st) I r Q ↔ if x ≤ 0 then mm_E 126 115 ls st I r Q else mm_E 126 111 ls st I r Q := me_zle mc_126 dX6_turnIn_108 (by decide)
theorem e126_111 : mm_E 126 111 ls st I r Q ↔ mm_E 126 112 ls (.int 1 :: st) I r Q := me_ic mc_126 dX6_turnIn_111 (by decide)
theorem e126_112 : mm_E 126 112 ls st I r Q ↔ mm_E 126 116 ls st I r Q := me_goto mc_126 dX6_turnIn_112 (by decide)
theorem e126_115 : mm_E 126 115 ls st I r Q ↔ mm_E 126 116 ls (.int 0 :: st) I r Q := me_ic mc_126 dX6_turnIn_115 (by decide)
theorem e126_116 : mm_E 126 116 ls (.int y :: .int x :: st) I r Q ↔ mm_E 126 117 ls (.int (x + y) :: st) I r Q := me_iadd mc_126 dX6_turnIn_116
theorem e126_117 : mm_E 126 117 ls (.int y :: .int x :: .ref a :: st) I r Q ↔ mm_ix r a 2 x ∧ mm_E 126 118 ls st (mm_uI I a x.toNatClampNeg y) r Q := me_is mc_126 dX6_turnIn_117
theorem e126_118 : mm_E 126 118 [l0, l1, l2, l3, l4, some (.int x)] st I r Q ↔ mm_E 126 120 [l0, l1, l2, l3, l4, some (.int x)] (.int x :: st) I r Q := me_il2 mc_126 dX6_turnIn_118 rfl
theorem e126_120 : mm_E 126 120 [l0, l1, l2, l3, some (.int x), l5] st I r Q ↔ mm_E 126 122 [l0, l1, l2, l3, some (.int x), l5] (.int x :: st) I r Q := me_il2 mc_126 dX6_turnIn_120 rfl
theorem e126_122 : mm_E 126 122 ls (.int y :: .int x :: st) I r Q ↔ if y ≤ x then mm_E 126 143 ls st I r Q else mm_E 126 125 ls st I r Q := me_cge mc_126 dX6_turnIn_122 (by decide)
theorem e126_125 : mm_E 126 125 [l0, some (.ref a), l2, l3, l4, l5] st I r Q ↔ mm_E 126 126 [l0, some (.ref a), l2, l3, l4, l5] (.ref a :: st) I r Q := me_al mc_126 dX6_turnIn_125 rfl
theorem e126_126 : mm_E 126 126 ls st I r Q ↔ mm_E 126 127 ls (.int 3 :: st) I r Q := me_ic mc_126 dX6_turnIn_126 (by decide)
theorem e126_127 : mm_E 126 127 [l0, l1, l2, some (.int x), l4, l5] st I r Q ↔ mm_E 126 128 [l0, l1, l2, some (.int x), l4, l5] (.int x :: st) I r Q := me_il mc_126 dX6_turnIn_127 rfl
theorem e126_128 : mm_E 126 128 ls (.int y :: .int x :: st) I r Q ↔ mm_E 126 129 ls (.int (x + y) :: st) I r Q := me_iadd mc_126 dX6_turnIn_128
theorem e126_129 : mm_E 126 129 ls (.int x :: .ref a :: st) I r Q ↔ mm_ix r a 2 x ∧ mm_E 126 130 ls (.int (mm_rd I a x.toNatClampNeg) :: st) I r Q := me_ia mc_126 dX6_turnIn_129
theorem e126_130 : mm_E 126 130 ls (.int x :: st) I r Q ↔ if x ≤ 0 then mm_E 126 143 ls st I r Q else mm_E 126 133 ls st I r Q := me_zle mc_126 dX6_turnIn_130 (by decide)
theorem e126_133 : mm_E 126 133 [l0, some (.ref a), l2, l3, l4, l5] st I r Q ↔ mm_E 126 134 [l0, some (.ref a), l2, l3, l4, l5] (.ref a :: st) I r Q := me_al mc_126 dX6_turnIn_133 rfl
theorem e126_134 : mm_E 126 134 ls st I r Q ↔ mm_E 126 136 ls (.int 15 :: st) I r Q := me_bi mc_126 dX6_turnIn_134 (by decide)
theorem e126_136 : mm_E 126 136 [l0, l1, l2, some (.int x), l4, l5] st I r Q ↔ mm_E 126 137 [l0, l1, l2, some (.int x), l4, l5] (.int x :: st) I r Q := me_il mc_126 dX6_turnIn_136 rfl
theorem e126_137 : mm_E 126 137 ls (.int y :: .int x :: st) I r Q ↔ mm_E 126 138 ls (.int (x + y) :: st) I r Q := me_iadd mc_126 dX6_turnIn_137
theorem e126_138 : mm_E 126 138 ls (u :: v :: st) I r Q ↔ (v.category = 1 ∧ u.category = 1) ∧ mm_E 126 139 ls (u :: v :: u :: v :: st) I r Q := me_dup2 mc_126 dX6_turnIn_138
theorem e126_139 : mm_E 126 139 ls (.int x :: .ref a :: st) I r Q ↔ mm_ix r a 2 x ∧ mm_E 126 140 ls (.int (mm_rd I a x.toNatClampNeg) :: st) I r Q := me_ia mc_126 dX6_turnIn_139
theorem e126_140 : mm_E 126 140 ls st I r Q ↔ mm_E 126 141 ls (.int 1 :: st) I r Q := me_ic mc_126 dX6_turnIn_140 (by decide)
theorem e126_141 : mm_E 126 141 ls (.int y :: .int x :: st) I r Q ↔ mm_E 126 142 ls (.int (x + y) :: st) I r Q := me_iadd mc_126 dX6_turnIn_141
theorem e126_142 : mm_E 126 142 ls (.int y :: .int x :: .ref a :: st) I r Q ↔ mm_ix r a 2 x ∧ mm_E 126 143 ls st (mm_uI I a x.toNatClampNeg y) r Q := me_is mc_126 dX6_turnIn_142
theorem e126_143 : mm_E 126 143 [l0, some (.ref a), l2, l3, l4, l5] st I r Q ↔ mm_E 126 144 [l0, some (.ref a), l2, l3, l4, l5] (.ref a :: st) I r Q := me_al mc_126 dX6_turnIn_143 rfl
theorem e126_144 : mm_E 126 144 [l0, l1, some (.int x), l3, l4, l5] st I r Q ↔ mm_E 126 145 [l0, l1, some (.int x), l3, l4, l5] (.int x :: st) I r Q := me_il mc_126 dX6_turnIn_144 rfl
theorem e126_145 : mm_E 126 145 [l0, l1, l2, l3, l4, some (.int x)] st I r Q ↔ mm_E 126 147 [l0, l1, l2, l3, l4, some (.int x)] (.int x :: st) I r Q := me_il2 mc_126 dX6_turnIn_145 rfl
theorem e126_147 : mm_E 126 147 [l0, l1, l2, l3, some (.int x), l5] st I r Q ↔ mm_E 126 149 [l0, l1, l2, l3, some (.int x), l5] (.int x :: st) I r Q := me_il2 mc_126 dX6_turnIn_147 rfl
theorem e126_149 : mm_E 126 149 ls (.int y :: .int x :: st) I r Q ↔ if ¬ x = y then mm_E 126 164 ls st I r Q else mm_E 126 152 ls st I r Q := me_cne mc_126 dX6_turnIn_149 (by decide)
theorem e126_152 : mm_E 126 152 [l0, some (.ref a), l2, l3, l4, l5] st I r Q ↔ mm_E 126 153 [l0, some (.ref a), l2, l3, l4, l5] (.ref a :: st) I r Q := me_al mc_126 dX6_turnIn_152 rfl
theorem e126_153 : mm_E 126 153 [l0, l1, l2, some (.int x), l4, l5] st I r Q ↔ mm_E 126 154 [l0, l1, l2, some (.int x), l4, l5] (.int x :: st) I r Q := me_il mc_126 dX6_turnIn_153 rfl
theorem e126_154 : ∀ (x0 : Nat) (x1 : Int32), (mm_E 126 154 ls (.int x1 :: .ref x0 :: st) I r Q ↔ mm_w8 st = true ∧ mm_E 105 0 [some (.ref x0), some (.int x1)] [] I r (fun v I2 r2 => mm_E 126 157 ls (mm_pu v st) I2 r2 Q)) := fun x0 x1 => me_sc (n := 2) (As := [.ref x0, .int x1]) (xs := [.int x1, .ref x0]) mc_126 dX6_turnIn_154 (by decide +kernel) (by decide +kernel) rfl rfl (Nat.le_of_ble_eq_true rfl) rfl
theorem e126_157 : mm_E 126 157 ls (.int x :: st) I r Q ↔ if ¬ x = 0 then mm_E 126 164 ls st I r Q else mm_E 126 160 ls st I r Q := me_zne mc_126 dX6_turnIn_157 (by decide)
theorem e126_160 : mm_E 126 160 ls st I r Q ↔ mm_E 126 161 ls (.int 1 :: st) I r Q := me_ic mc_126 dX6_turnIn_160 (by decide)
theorem e126_161 : mm_E 126 161 ls st I r Q ↔ mm_E 126 165 ls st I r Q := me_goto mc_126 dX6_turnIn_161 (by decide)
theorem e126_164 : mm_E 126 164 ls st I r Q ↔ mm_E 126 165 ls (.int 0 :: st) I r Q := me_ic mc_126 dX6_turnIn_164 (by decide)
theorem e126_165 : ∀ (x0 : Nat) (x1 : Int32) (x2 : Int32), (mm_E 126 165 ls (.int x2 :: .int x1 :: .ref x0 :: st) I r Q ↔ mm_w8 st = true ∧ mm_E 125 0 [some (.ref x0), some (.int x1), some (.int x2), none, none, none] [] I r (fun v I2 r2 => mm_E 126 168 ls (mm_pu v st) I2 r2 Q)) := fun x0 x1 x2 => me_sc (n := 3) (As := [.ref x0, .int x1, .int x2]) (xs := [.int x2, .int x1, .ref x0]) mc_126 dX6_turnIn_165 (by decide +kernel) (by decide +kernel) rfl rfl (Nat.le_of_ble_eq_true rfl) rfl
theorem e126_168 : mm_E 126 168 ls [] I r Q ↔ Q none I r := me_rv mc_126 dX6_turnIn_168 rfl
theorem mc_127 : mm_c 127 = cX6_nightIn := rfl
theorem e127_0 : mm_E 127 0 [l0, some (.ref a), l2, l3, l4, l5] st I r Q ↔ mm_E 127 1 [l0, some (.ref a), l2, l3, l4, l5] (.ref a :: st) I r Q := me_al mc_127 dX6_nightIn_0 rfl
theorem e127_1 : ∀ (x0 : Nat), (mm_E 127 1 ls (.ref x0 :: st) I r Q ↔ mm_w8 st = true ∧ mm_E 121 0 [some (.ref x0)] [] I r (fun v I2 r2 => mm_E 127 4 ls (mm_pu v st) I2 r2 Q)) := fun x0 => me_sc (n := 1) (As := [.ref x0]) (xs := [.ref x0]) mc_127 dX6_nightIn_1 (by decide +kernel) (by decide +kernel) rfl rfl (Nat.le_of_ble_eq_true rfl) rfl
theorem e127_4 : mm_E 127 4 [l0, l1, l2, l3, l4, l5] (.int x :: st) I r Q ↔ mm_c1 l2 ∧ mm_E 127 5 [l0, l1, l2, some (.int x), l4, l5] st I r Q := me_st (k := 3) (v := .int x) mc_127 dX6_nightIn_4 rfl rfl (Nat.le_of_ble_eq_true rfl) rfl ⟨Or.inr, fun h => h.resolve_left (by decide)⟩
theorem e127_5 : mm_E 127 5 ls st I r Q ↔ mm_E 127 6 ls (.int 0 :: st) I r Q := me_ic mc_127 dX6_nightIn_5 (by decide)
theorem e127_6 : mm_E 127 6 [l0, l1, l2, l3, l4, l5] (.int x :: st) I r Q ↔ mm_c1 l3 ∧ mm_E 127 8 [l0, l1, l2, l3, some (.int x), l5] st I r Q := me_st (k := 4) (v := .int x) mc_127 dX6_nightIn_6 rfl rfl (Nat.le_of_ble_eq_true rfl) rfl ⟨Or.inr, fun h => h.resolve_left (by decide)⟩
theorem e127_8 : mm_E 127 8 [l0, l1, l2, l3, some (.int x), l5] st I r Q ↔ mm_E 127 10 [l0, l1, l2, l3, some (.int x), l5] (.int x :: st) I r Q := me_il2 mc_127 dX6_nightIn_8 rfl
theorem e127_10 : mm_E 127 10 [l0, some (.ref a), l2, l3, l4, l5] st I r Q ↔ mm_E 127 11 [l0, some (.ref a), l2, l3, l4, l5] (.ref a :: st) I r Q := me_al mc_127 dX6_nightIn_10 rfl
theorem e127_11 : mm_E 127 11 ls st I r Q ↔ mm_E 127 13 ls (.int 27 :: st) I r Q := me_bi mc_127 dX6_nightIn_11 (by decide)
theorem e127_13 : mm_E 127 13 ls (.int x :: .ref a :: st) I r Q ↔ mm_ix r a 2 x ∧ mm_E 127 14 ls (.int (mm_rd I a x.toNatClampNeg) :: st) I r Q := me_ia mc_127 dX6_nightIn_13
theorem e127_14 : mm_E 127 14 ls (.int y :: .int x :: st) I r Q ↔ if y ≤ x then mm_E 127 54 ls st I r Q else mm_E 127 17 ls st I r Q := me_cge mc_127 dX6_nightIn_14 (by decide)
theorem e127_17 : mm_E 127 17 [some (.ref a), l1, l2, l3, l4, l5] st I r Q ↔ mm_E 127 18 [some (.ref a), l1, l2, l3, l4, l5] (.ref a :: st) I r Q := me_al mc_127 dX6_nightIn_17 rfl
theorem e127_18 : mm_E 127 18 ls (.ref a :: st) I r Q ↔ mm_S r a = (1, 6) ∧ mm_E 127 21 ls (va_rf (mm_P r a 12) :: st) I r Q := me_gr mc_127 dX6_nightIn_18 (by decide +kernel) rfl
theorem e127_21 : mm_E 127 21 [l0, l1, l2, l3, some (.int x), l5] st I r Q ↔ mm_E 127 23 [l0, l1, l2, l3, some (.int x), l5] (.int x :: st) I r Q := me_il2 mc_127 dX6_nightIn_21 rfl
theorem e127_23 : mm_E 127 23 [l0, l1, l2, some (.int x), l4, l5] st I r Q ↔ mm_E 127 24 [l0, l1, l2, some (.int x), l4, l5] (.int x :: st) I r Q := me_il mc_127 dX6_nightIn_23 rfl
theorem e127_24 : mm_E 127 24 ls (.int x :: st) I r Q ↔ if ¬ x = 0 then mm_E 127 36 ls st I r Q else mm_E 127 27 ls st I r Q := me_zne mc_127 dX6_nightIn_24 (by decide)
theorem e127_27 : mm_E 127 27 [l0, some (.ref a), l2, l3, l4, l5] st I r Q ↔ mm_E 127 28 [l0, some (.ref a), l2, l3, l4, l5] (.ref a :: st) I r Q := me_al mc_127 dX6_nightIn_27 rfl
theorem e127_28 : mm_E 127 28 [l0, l1, l2, l3, some (.int x), l5] st I r Q ↔ mm_E 127 30 [l0, l1, l2, l3, some (.int x), l5] (.int x :: st) I r Q := me_il2 mc_127 dX6_nightIn_28 rfl
theorem e127_30 : ∀ (x0 : Nat) (x1 : Int32), (mm_E 127 30 ls (.int x1 :: .ref x0 :: st) I r Q ↔ mm_w8 st = true ∧ mm_E 105 0 [some (.ref x0), some (.int x1)] [] I r (fun v I2 r2 => mm_E 127 33 ls (mm_pu v st) I2 r2 Q)) := fun x0 x1 => me_sc (n := 2) (As := [.ref x0, .int x1]) (xs := [.int x1, .ref x0]) mc_127 dX6_nightIn_30 (by decide +kernel) (by decide +kernel) rfl rfl (Nat.le_of_ble_eq_true rfl) rfl
theorem e127_33 : mm_E 127 33 ls (.int x :: st) I r Q ↔ if x = 0 then mm_E 127 40 ls st I r Q else mm_E 127 36 ls st I r Q := me_zeq mc_127 dX6_nightIn_33 (by decide)
theorem e127_36 : mm_E 127 36 ls st I r Q ↔ mm_E 127 37 ls (.int 0 :: st) I r Q := me_ic mc_127 dX6_nightIn_36 (by decide)
theorem e127_37 : mm_E 127 37 ls st I r Q ↔ mm_E 127 47 ls st I r Q := me_goto mc_127 dX6_nightIn_37 (by decide)
theorem e127_40 : mm_E 127 40 [l0, some (.ref a), l2, l3, l4, l5] st I r Q ↔ mm_E 127 41 [l0, some (.ref a), l2, l3, l4, l5] (.ref a :: st) I r Q := me_al mc_127 dX6_nightIn_40 rfl
theorem e127_41 : mm_E 127 41 ls st I r Q ↔ mm_E 127 43 ls (.int 9 :: st) I r Q := me_bi mc_127 dX6_nightIn_41 (by decide)
theorem e127_43 : mm_E 127 43 [l0, l1, l2, l3, some (.int x), l5] st I r Q ↔ mm_E 127 45 [l0, l1, l2, l3, some (.int x), l5] (.int x :: st) I r Q := me_il2 mc_127 dX6_nightIn_43 rfl
theorem e127_45 : mm_E 127 45 ls (.int y :: .int x :: st) I r Q ↔ mm_E 127 46 ls (.int (x + y) :: st) I r Q := me_iadd mc_127 dX6_nightIn_45
theorem e127_46 : mm_E 127 46 ls (.int x :: .ref a :: st) I r Q ↔ mm_ix r a 2 x ∧ mm_E 127 47 ls (.int (mm_rd I a x.toNatClampNeg) :: st) I r Q := me_ia mc_127 dX6_nightIn_46
theorem e127_47 : mm_E 127 47 ls (.int y :: .int x :: .ref a :: st) I r Q ↔ mm_ix r a 2 x ∧ mm_E 127 48 ls st (mm_uI I a x.toNatClampNeg y) r Q := me_is mc_127 dX6_nightIn_47
theorem e127_48 : mm_E 127 48 [l0, l1, l2, l3, some (.int x), l5] st I r Q ↔ mm_c1 l3 ∧ mm_E 127 51 [l0, l1, l2, l3, some (.int (x + 1)), l5] st I r Q := me_st (k := 4) (v := .int (x + 1)) mc_127 dX6_nightIn_48 rfl rfl (Nat.le_of_ble_eq_true rfl) rfl ⟨Or.inr, fun h => h.resolve_left (by decide)⟩
theorem e127_51 : mm_E 127 51 ls st I r Q ↔ mm_E 127 8 ls st I r Q := me_goto mc_127 dX6_nightIn_51 (by decide)
theorem e127_54 : mm_E 127 54 ls st I r Q ↔ mm_E 127 55 ls (.int 0 :: st) I r Q := me_ic mc_127 dX6_nightIn_54 (by decide)
theorem e127_55 : mm_E 127 55 [l0, l1, l2, l3, l4, l5] (.int x :: st) I r Q ↔ mm_c1 l3 ∧ mm_E 127 57 [l0, l1, l2, l3, some (.int x), l5] st I r Q := me_st (k := 4) (v := .int x) mc_127 dX6_nightIn_55 rfl rfl (Nat.le_of_ble_eq_true rfl) rfl ⟨Or.inr, fun h => h.resolve_left (by decide)⟩
theorem e127_57 : mm_E 127 57 [l0, l1, l2, l3, some (.int x), l5] st I r Q ↔ mm_E 127 59 [l0, l1, l2, l3, some (.int x), l5] (.int x :: st) I r Q := me_il2 mc_127 dX6_nightIn_57 rfl
theorem e127_59 : mm_E 127 59 [l0, some (.ref a), l2, l3, l4, l5] st I r Q ↔ mm_E 127 60 [l0, some (.ref a), l2, l3, l4, l5] (.ref a :: st) I r Q := me_al mc_127 dX6_nightIn_59 rfl
theorem e127_60 : mm_E 127 60 ls st I r Q ↔ mm_E 127 62 ls (.int 28 :: st) I r Q := me_bi mc_127 dX6_nightIn_60 (by decide)
theorem e127_62 : mm_E 127 62 ls (.int x :: .ref a :: st) I r Q ↔ mm_ix r a 2 x ∧ mm_E 127 63 ls (.int (mm_rd I a x.toNatClampNeg) :: st) I r Q := me_ia mc_127 dX6_nightIn_62
theorem e127_63 : mm_E 127 63 ls (.int y :: .int x :: st) I r Q ↔ if y ≤ x then mm_E 127 92 ls st I r Q else mm_E 127 66 ls st I r Q := me_cge mc_127 dX6_nightIn_63 (by decide)
theorem e127_66 : mm_E 127 66 [l0, l1, l2, some (.int x), l4, l5] st I r Q ↔ mm_E 127 67 [l0, l1, l2, some (.int x), l4, l5] (.int x :: st) I r Q := me_il mc_127 dX6_nightIn_66 rfl
theorem e127_67 : mm_E 127 67 ls (.int x :: st) I r Q ↔ if ¬ x = 0 then mm_E 127 92 ls st I r Q else mm_E 127 70 ls st I r Q := me_zne mc_127 dX6_nightIn_67 (by decide)
theorem e127_70 : mm_E 127 70 [l0, l1, some (.int x), l3, l4, l5] st I r Q ↔ mm_E 127 71 [l0, l1, some (.int x), l3, l4, l5] (.int x :: st) I r Q := me_il mc_127 dX6_nightIn_70 rfl
theorem e127_71 : mm_E 127 71 [l0, l1, l2, l3, some (.int x), l5] st I r Q ↔ mm_E 127 73 [l0, l1, l2, l3, some (.int x), l5] (.int x :: st) I r Q := me_il2 mc_127 dX6_nightIn_71 rfl
theorem e127_73 : ∀ (x0 : Int32) (x1 : Int32), (mm_E 127 73 ls (.int x1 :: .int x0 :: st) I r Q ↔ mm_w8 st = true ∧ mm_E 94 0 [some (.int x0), some (.int x1)] [] I r (fun v I2 r2 => mm_E 127 76 ls (mm_pu v st) I2 r2 Q)) := fun x0 x1 => me_sc (n := 2) (As := [.int x0, .int x1]) (xs := [.int x1, .int x0]) mc_127 dX6_nightIn_73 (by decide +kernel) (by decide +kernel) rfl rfl (Nat.le_of_ble_eq_true rfl) rfl
theorem e127_76 : mm_E 127 76 ls (.int x :: st) I r Q ↔ if ¬ x = 0 then mm_E 127 86 ls st I r Q else mm_E 127 79 ls st I r Q := me_zne mc_127 dX6_nightIn_76 (by decide)
theorem e127_79 : mm_E 127 79 [some (.ref a), l1, l2, l3, l4, l5] st I r Q ↔ mm_E 127 80 [some (.ref a), l1, l2, l3, l4, l5] (.ref a :: st) I r Q := me_al mc_127 dX6_nightIn_79 rfl
theorem e127_80 : mm_E 127 80 [l0, some (.ref a), l2, l3, l4, l5] st I r Q ↔ mm_E 127 81 [l0, some (.ref a), l2, l3, l4, l5] (.ref a :: st) I r Q := me_al mc_127 dX6_nightIn_80 rfl
theorem e127_81 : mm_E 127 81 [l0, l1, l2, l3, some (.int x), l5] st I r Q ↔ mm_E 127 83 [l0, l1, l2, l3, some (.int x), l5] (.int x :: st) I r Q := me_il2 mc_127 dX6_nightIn_81 rfl
theorem e127_83 : ∀ (x0 : Nat) (x1 : Int32), (mm_E 127 83 ls (.int x1 :: .ref x0 :: .ref a :: st) I r Q ↔ (mm_w8 st = true ∧ mm_S r a = (1, 6)) ∧ mm_E 126 0 [some (.ref a), some (.ref x0), some (.int x1), none, none, none] [] I r (fun v I2 r2 => mm_E 127 86 ls (mm_pu v st) I2 r2 Q)) := fun x0 x1 => me_vc (n := 2) (As := [.ref x0, .int x1]) (xs := [.int x1, .ref x0]) (a := a) mc_127 dX6_nightIn_83 (by decide +kernel) (by decide +kernel) rfl rfl (Nat.le_of_ble_eq_true rfl) rfl
theorem e127_86 : mm_E 127 86 [l0, l1, l2, l3, some (.int x), l5] st I r Q ↔ mm_c1 l3 ∧ mm_E 127 89 [l0, l1, l2, l3, some (.int (x + 1)), l5] st I r Q := me_st (k := 4) (v := .int (x + 1)) mc_127 dX6_nightIn_86 rfl rfl (Nat.le_of_ble_eq_true rfl) rfl ⟨Or.inr, fun h => h.resolve_left (by decide)⟩
theorem e127_89 : mm_E 127 89 ls st I r Q ↔ mm_E 127 57 ls st I r Q := me_goto mc_127 dX6_nightIn_89 (by decide)
theorem e127_92 : mm_E 127 92 ls st I r Q ↔ mm_E 127 93 ls (.int 0 :: st) I r Q := me_ic mc_127 dX6_nightIn_92 (by decide)
theorem e127_93 : mm_E 127 93 [l0, l1, l2, l3, l4, l5] (.int x :: st) I r Q ↔ mm_c1 l3 ∧ mm_E 127 95 [l0, l1, l2, l3, some (.int x), l5] st I r Q := me_st (k := 4) (v := .int x) mc_127 dX6_nightIn_93 rfl rfl (Nat.le_of_ble_eq_true rfl) rfl ⟨Or.inr, fun h => h.resolve_left (by decide)⟩
theorem e127_95 : mm_E 127 95 [l0, l1, l2, l3, some (.int x), l5] st I r Q ↔ mm_E 127 97 [l0, l1, l2, l3, some (.int x), l5] (.int x :: st) I r Q := me_il2 mc_127 dX6_nightIn_95 rfl
theorem e127_97 : mm_E 127 97 [l0, some (.ref a), l2, l3, l4, l5] st I r Q ↔ mm_E 127 98 [l0, some (.ref a), l2, l3, l4, l5] (.ref a :: st) I r Q := me_al mc_127 dX6_nightIn_97 rfl
theorem e127_98 : mm_E 127 98 ls st I r Q ↔ mm_E 127 100 ls (.int 27 :: st) I r Q := me_bi mc_127 dX6_nightIn_98 (by decide)
theorem e127_100 : mm_E 127 100 ls (.int x :: .ref a :: st) I r Q ↔ mm_ix r a 2 x ∧ mm_E 127 101 ls (.int (mm_rd I a x.toNatClampNeg) :: st) I r Q := me_ia mc_127 dX6_nightIn_100
theorem e127_101 : mm_E 127 101 ls (.int y :: .int x :: st) I r Q ↔ if y ≤ x then mm_E 127 208 ls st I r Q else mm_E 127 104 ls st I r Q := me_cge mc_127 dX6_nightIn_101 (by decide)
theorem e127_104 : mm_E 127 104 [some (.ref a), l1, l2, l3, l4, l5] st I r Q ↔ mm_E 127 105 [some (.ref a), l1, l2, l3, l4, l5] (.ref a :: st) I r Q := me_al mc_127 dX6_nightIn_104 rfl
theorem e127_105 : mm_E 127 105 ls (.ref a :: st) I r Q ↔ mm_S r a = (1, 6) ∧ mm_E 127 108 ls (va_rf (mm_P r a 12) :: st) I r Q := me_gr mc_127 dX6_nightIn_105 (by decide +kernel) rfl
theorem e127_108 : mm_E 127 108 [l0, l1, l2, l3, some (.int x), l5] st I r Q ↔ mm_E 127 110 [l0, l1, l2, l3, some (.int x), l5] (.int x :: st) I r Q := me_il2 mc_127 dX6_nightIn_108 rfl
theorem e127_110 : mm_E 127 110 [l0, some (.ref a), l2, l3, l4, l5] st I r Q ↔ mm_E 127 111 [l0, some (.ref a), l2, l3, l4, l5] (.ref a :: st) I r Q := me_al mc_127 dX6_nightIn_110 rfl
theorem e127_111 : mm_E 127 111 [l0, l1, l2, l3, some (.int x), l5] st I r Q ↔ mm_E 127 113 [l0, l1, l2, l3, some (.int x), l5] (.int x :: st) I r Q := me_il2 mc_127 dX6_nightIn_111 rfl
theorem e127_113 : ∀ (x0 : Nat) (x1 : Int32), (mm_E 127 113 ls (.int x1 :: .ref x0 :: st) I r Q ↔ mm_w8 st = true ∧ mm_E 105 0 [some (.ref x0), some (.int x1)] [] I r (fun v I2 r2 => mm_E 127 116 ls (mm_pu v st) I2 r2 Q)) := fun x0 x1 => me_sc (n := 2) (As := [.ref x0, .int x1]) (xs := [.int x1, .ref x0]) mc_127 dX6_nightIn_113 (by decide +kernel) (by decide +kernel) rfl rfl (Nat.le_of_ble_eq_true rfl) rfl
theorem e127_116 : mm_E 127 116 ls (.int x :: st) I r Q ↔ if x = 0 then mm_E 127 123 ls st I r Q else mm_E 127 119 ls st I r Q := me_zeq mc_127 dX6_nightIn_116 (by decide)
theorem e127_119 : mm_E 127 119 ls st I r Q ↔ mm_E 127 120 ls (.int 0 :: st) I r Q := me_ic mc_127 dX6_nightIn_119 (by decide)
theorem e127_120 : mm_E 127 120 ls st I r Q ↔ mm_E 127 130 ls st I r Q := me_goto mc_127 dX6_nightIn_120 (by decide)
theorem e127_123 : mm_E 127 123 [some (.ref a), l1, l2, l3, l4, l5] st I r Q ↔ mm_E 127 124 [some (.ref a), l1, l2, l3, l4, l5] (.ref a :: st) I r Q := me_al mc_127 dX6_nightIn_123 rfl
theorem e127_124 : mm_E 127 124 ls (.ref a :: st) I r Q ↔ mm_S r a = (1, 6) ∧ mm_E 127 127 ls (va_rf (mm_P r a 12) :: st) I r Q := me_gr mc_127 dX6_nightIn_124 (by decide +kernel) rfl
theorem e127_127 : mm_E 127 127 [l0, l1, l2, l3, some (.int x), l5] st I r Q ↔ mm_E 127 129 [l0, l1, l2, l3, some (.int x), l5] (.int x :: st) I r Q := me_il2 mc_127 dX6_nightIn_127 rfl
theorem e127_129 : mm_E 127 129 ls (.int x :: .ref a :: st) I r Q ↔ mm_ix r a 2 x ∧ mm_E 127 130 ls (.int (mm_rd I a x.toNatClampNeg) :: st) I r Q := me_ia mc_127 dX6_nightIn_129
theorem e127_130 : mm_E 127 130 ls (.int y :: .int x :: .ref a :: st) I r Q ↔ mm_ix r a 2 x ∧ mm_E 127 131 ls st (mm_uI I a x.toNatClampNeg y) r Q := me_is mc_127 dX6_nightIn_130
theorem e127_131 : mm_E 127 131 [l0, some (.ref a), l2, l3, l4, l5] st I r Q ↔ mm_E 127 132 [l0, some (.ref a), l2, l3, l4, l5] (.ref a :: st) I r Q := me_al mc_127 dX6_nightIn_131 rfl
theorem e127_132 : mm_E 127 132 ls st I r Q ↔ mm_E 127 133 ls (.int 3 :: st) I r Q := me_ic mc_127 dX6_nightIn_132 (by decide)
theorem e127_133 : mm_E 127 133 [l0, l1, l2, l3, some (.int x), l5] st I r Q ↔ mm_E 127 135 [l0, l1, l2, l3, some (.int x), l5] (.int x :: st) I r Q := me_il2 mc_127 dX6_nightIn_133 rfl
theorem e127_135 : mm_E 127 135 ls (.int y :: .int x :: st) I r Q ↔ mm_E 127 136 ls (.int (x + y) :: st) I r Q := me_iadd mc_127 dX6_nightIn_135
theorem e127_136 : mm_E 127 136 ls (.int x :: .ref a :: st) I r Q ↔ mm_ix r a 2 x ∧ mm_E 127 137 ls (.int (mm_rd I a x.toNatClampNeg) :: st) I r Q := me_ia mc_127 dX6_nightIn_136
theorem e127_137 : mm_E 127 137 [l0, some (.ref a), l2, l3, l4, l5] st I r Q ↔ mm_E 127 138 [l0, some (.ref a), l2, l3, l4, l5] (.ref a :: st) I r Q := me_al mc_127 dX6_nightIn_137 rfl
theorem e127_138 : mm_E 127 138 ls st I r Q ↔ mm_E 127 139 ls (.int 3 :: st) I r Q := me_ic mc_127 dX6_nightIn_138 (by decide)
theorem e127_139 : mm_E 127 139 [l0, l1, l2, l3, some (.int x), l5] st I r Q ↔ mm_E 127 141 [l0, l1, l2, l3, some (.int x), l5] (.int x :: st) I r Q := me_il2 mc_127 dX6_nightIn_139 rfl
theorem e127_141 : mm_E 127 141 ls (.int y :: .int x :: st) I r Q ↔ mm_E 127 142 ls (.int (x + y) :: st) I r Q := me_iadd mc_127 dX6_nightIn_141
theorem e127_142 : mm_E 127 142 ls (.int x :: .ref a :: st) I r Q ↔ mm_ix r a 2 x ∧ mm_E 127 143 ls (.int (mm_rd I a x.toNatClampNeg) :: st) I r Q := me_ia mc_127 dX6_nightIn_142
theorem e127_143 : mm_E 127 143 [l0, some (.ref a), l2, l3, l4, l5] st I r Q ↔ mm_E 127 144 [l0, some (.ref a), l2, l3, l4, l5] (.ref a :: st) I r Q := me_al mc_127 dX6_nightIn_143 rfl
theorem e127_144 : mm_E 127 144 ls st I r Q ↔ mm_E 127 146 ls (.int 26 :: st) I r Q := me_bi mc_127 dX6_nightIn_144 (by decide)
theorem e127_146 : mm_E 127 146 ls (.int x :: .ref a :: st) I r Q ↔ mm_ix r a 2 x ∧ mm_E 127 147 ls (.int (mm_rd I a x.toNatClampNeg) :: st) I r Q := me_ia mc_127 dX6_nightIn_146
theorem e127_147 : mm_E 127 147 ls (.int y :: .int x :: st) I r Q ↔ mm_E 127 148 ls (.int (x * y) :: st) I r Q := me_imul mc_127 dX6_nightIn_147
theorem e127_148 : mm_E 127 148 ls st I r Q ↔ mm_E 127 150 ls (.int 100 :: st) I r Q := me_bi mc_127 dX6_nightIn_148 (by decide)
theorem e127_150 : mm_E 127 150 ls (.int y :: .int x :: st) I r Q ↔ ¬ y = 0 ∧ mm_E 127 151 ls (.int (x / y) :: st) I r Q := me_idiv mc_127 dX6_nightIn_150
theorem e127_151 : mm_E 127 151 ls (.int y :: .int x :: st) I r Q ↔ mm_E 127 152 ls (.int (x + y) :: st) I r Q := me_iadd mc_127 dX6_nightIn_151
theorem e127_152 : mm_E 127 152 [l0, l1, l2, l3, l4, l5] (.int x :: st) I r Q ↔ mm_c1 l4 ∧ mm_E 127 154 [l0, l1, l2, l3, l4, some (.int x)] st I r Q := me_st (k := 5) (v := .int x) mc_127 dX6_nightIn_152 rfl rfl (Nat.le_of_ble_eq_true rfl) rfl ⟨Or.inr, fun h => h.resolve_left (by decide)⟩
theorem e127_154 : mm_E 127 154 [l0, l1, l2, some (.int x), l4, l5] st I r Q ↔ mm_E 127 155 [l0, l1, l2, some (.int x), l4, l5] (.int x :: st) I r Q := me_il mc_127 dX6_nightIn_154 rfl
theorem e127_155 : mm_E 127 155 ls (.int x :: st) I r Q ↔ if ¬ x = 0 then mm_E 127 167 ls st I r Q else mm_E 127 158 ls st I r Q := me_zne mc_127 dX6_nightIn_155 (by decide)
theorem e127_158 : mm_E 127 158 [l0, some (.ref a), l2, l3, l4, l5] st I r Q ↔ mm_E 127 159 [l0, some (.ref a), l2, l3, l4, l5] (.ref a :: st) I r Q := me_al mc_127 dX6_nightIn_158 rfl
theorem e127_159 : mm_E 127 159 [l0, l1, l2, l3, some (.int x), l5] st I r Q ↔ mm_E 127 161 [l0, l1, l2, l3, some (.int x), l5] (.int x :: st) I r Q := me_il2 mc_127 dX6_nightIn_159 rfl
theorem e127_161 : ∀ (x0 : Nat) (x1 : Int32), (mm_E 127 161 ls (.int x1 :: .ref x0 :: st) I r Q ↔ mm_w8 st = true ∧ mm_E 105 0 [some (.ref x0), some (.int x1)] [] I r (fun v I2 r2 => mm_E 127 164 ls (mm_pu v st) I2 r2 Q)) := fun x0 x1 => me_sc (n := 2) (As := [.ref x0, .int x1]) (xs := [.int x1, .ref x0]) mc_127 dX6_nightIn_161 (by decide +kernel) (by decide +kernel) rfl rfl (Nat.le_of_ble_eq_true rfl) rfl
theorem e127_164 : mm_E 127 164 ls (.int x :: st) I r Q ↔ if x = 0 then mm_E 127 176 ls st I r Q else mm_E 127 167 ls st I r Q := me_zeq mc_127 dX6_nightIn_164 (by decide)
theorem e127_167 : mm_E 127 167 [l0, some (.ref a), l2, l3, l4, l5] st I r Q ↔ mm_E 127 168 [l0, some (.ref a), l2, l3, l4, l5] (.ref a :: st) I r Q := me_al mc_127 dX6_nightIn_167 rfl
theorem e127_168 : mm_E 127 168 ls st I r Q ↔ mm_E 127 169 ls (.int 3 :: st) I r Q := me_ic mc_127 dX6_nightIn_168 (by decide)
theorem e127_169 : mm_E 127 169 [l0, l1, l2, l3, some (.int x), l5] st I r Q ↔ mm_E 127 171 [l0, l1, l2, l3, some (.int x), l5] (.int x :: st) I r Q := me_il2 mc_127 dX6_nightIn_169 rfl
theorem e127_171 : mm_E 127 171 ls (.int y :: .int x :: st) I r Q ↔ mm_E 127 172 ls (.int (x + y) :: st) I r Q := me_iadd mc_127 dX6_nightIn_171
theorem e127_172 : mm_E 127 172 ls (.int x :: .ref a :: st) I r Q ↔ mm_ix r a 2 x ∧ mm_E 127 173 ls (.int (mm_rd I a x.toNatClampNeg) :: st) I r Q := me_ia mc_127 dX6_nightIn_172
theorem e127_173 : mm_E 127 173 ls st I r Q ↔ mm_E 127 178 ls st I r Q := me_goto mc_127 dX6_nightIn_173 (by decide)
theorem e127_176 : mm_E 127 176 [l0, l1, l2, l3, l4, some (.int x)] st I r Q ↔ mm_E 127 178 [l0, l1, l2, l3, l4, some (.int x)] (.int x :: st) I r Q := me_il2 mc_127 dX6_nightIn_176 rfl
theorem e127_178 : mm_E 127 178 [l0, l1, l2, l3, l4, l5] (.int x :: st) I r Q ↔ mm_c1 l4 ∧ mm_E 127 180 [l0, l1, l2, l3, l4, some (.int x)] st I r Q := me_st (k := 5) (v := .int x) mc_127 dX6_nightIn_178 rfl rfl (Nat.le_of_ble_eq_true rfl) rfl ⟨Or.inr, fun h => h.resolve_left (by decide)⟩
theorem e127_180 : mm_E 127 180 [l0, some (.ref a), l2, l3, l4, l5] st I r Q ↔ mm_E 127 181 [l0, some (.ref a), l2, l3, l4, l5] (.ref a :: st) I r Q := me_al mc_127 dX6_nightIn_180 rfl
theorem e127_181 : mm_E 127 181 ls st I r Q ↔ mm_E 127 182 ls (.int 3 :: st) I r Q := me_ic mc_127 dX6_nightIn_181 (by decide)
theorem e127_182 : mm_E 127 182 [l0, l1, l2, l3, some (.int x), l5] st I r Q ↔ mm_E 127 184 [l0, l1, l2, l3, some (.int x), l5] (.int x :: st) I r Q := me_il2 mc_127 dX6_nightIn_182 rfl
theorem e127_184 : mm_E 127 184 ls (.int y :: .int x :: st) I r Q ↔ mm_E 127 185 ls (.int (x + y) :: st) I r Q := me_iadd mc_127 dX6_nightIn_184
theorem e127_185 : mm_E 127 185 [l0, l1, l2, l3, l4, some (.int x)] st I r Q ↔ mm_E 127 187 [l0, l1, l2, l3, l4, some (.int x)] (.int x :: st) I r Q := me_il2 mc_127 dX6_nightIn_185 rfl
theorem e127_187 : mm_E 127 187 ls st I r Q ↔ mm_E 127 190 ls (.int 9999 :: st) I r Q := me_si mc_127 dX6_nightIn_187 (by decide)
theorem e127_190 : mm_E 127 190 ls (.int y :: .int x :: st) I r Q ↔ if x ≤ y then mm_E 127 199 ls st I r Q else mm_E 127 193 ls st I r Q := me_cle mc_127 dX6_nightIn_190 (by decide)
theorem e127_193 : mm_E 127 193 ls st I r Q ↔ mm_E 127 196 ls (.int 9999 :: st) I r Q := me_si mc_127 dX6_nightIn_193 (by decide)
theorem e127_196 : mm_E 127 196 ls st I r Q ↔ mm_E 127 201 ls st I r Q := me_goto mc_127 dX6_nightIn_196 (by decide)
theorem e127_199 : mm_E 127 199 [l0, l1, l2, l3, l4, some (.int x)] st I r Q ↔ mm_E 127 201 [l0, l1, l2, l3, l4, some (.int x)] (.int x :: st) I r Q := me_il2 mc_127 dX6_nightIn_199 rfl
theorem e127_201 : mm_E 127 201 ls (.int y :: .int x :: .ref a :: st) I r Q ↔ mm_ix r a 2 x ∧ mm_E 127 202 ls st (mm_uI I a x.toNatClampNeg y) r Q := me_is mc_127 dX6_nightIn_201
theorem e127_202 : mm_E 127 202 [l0, l1, l2, l3, some (.int x), l5] st I r Q ↔ mm_c1 l3 ∧ mm_E 127 205 [l0, l1, l2, l3, some (.int (x + 1)), l5] st I r Q := me_st (k := 4) (v := .int (x + 1)) mc_127 dX6_nightIn_202 rfl rfl (Nat.le_of_ble_eq_true rfl) rfl ⟨Or.inr, fun h => h.resolve_left (by decide)⟩
theorem e127_205 : mm_E 127 205 ls st I r Q ↔ mm_E 127 95 ls st I r Q := me_goto mc_127 dX6_nightIn_205 (by decide)
theorem e127_208 : mm_E 127 208 [l0, some (.ref a), l2, l3, l4, l5] st I r Q ↔ mm_E 127 209 [l0, some (.ref a), l2, l3, l4, l5] (.ref a :: st) I r Q := me_al mc_127 dX6_nightIn_208 rfl
theorem e127_209 : mm_E 127 209 ls st I r Q ↔ mm_E 127 210 ls (.int 0 :: st) I r Q := me_ic mc_127 dX6_nightIn_209 (by decide)
theorem e127_210 : mm_E 127 210 ls (u :: v :: st) I r Q ↔ (v.category = 1 ∧ u.category = 1) ∧ mm_E 127 211 ls (u :: v :: u :: v :: st) I r Q := me_dup2 mc_127 dX6_nightIn_210
theorem e127_211 : mm_E 127 211 ls (.int x :: .ref a :: st) I r Q ↔ mm_ix r a 2 x ∧ mm_E 127 212 ls (.int (mm_rd I a x.toNatClampNeg) :: st) I r Q := me_ia mc_127 dX6_nightIn_211
theorem e127_212 : mm_E 127 212 ls st I r Q ↔ mm_E 127 213 ls (.int 1 :: st) I r Q := me_ic mc_127 dX6_nightIn_212 (by decide)
theorem e127_213 : mm_E 127 213 ls (.int y :: .int x :: st) I r Q ↔ mm_E 127 214 ls (.int (x + y) :: st) I r Q := me_iadd mc_127 dX6_nightIn_213
theorem e127_214 : mm_E 127 214 ls (.int y :: .int x :: .ref a :: st) I r Q ↔ mm_ix r a 2 x ∧ mm_E 127 215 ls st (mm_uI I a x.toNatClampNeg y) r Q := me_is mc_127 dX6_nightIn_214
theorem e127_215 : mm_E 127 215 ls [] I r Q ↔ Q none I r := me_rv mc_127 dX6_nightIn_215 rfl
theorem mc_128 : mm_c 128 = cX6_nights := rfl
theorem e128_0 : mm_E 128 0 [l0, some (.int x), l2] st I r Q ↔ mm_E 128 1 [l0, some (.int x), l2] (.int x :: st) I r Q := me_il mc_128 dX6_nights_0 rfl
theorem e128_1 : mm_E 128 1 ls st I r Q ↔ mm_E 128 2 ls (.int 1 :: st) I r Q := me_ic mc_128 dX6_nights_1 (by decide)
theorem e128_2 : mm_E 128 2 ls st I r Q ↔ mm_E 128 4 ls (.int 40 :: st) I r Q := me_bi mc_128 dX6_nights_2 (by decide)
theorem e128_4 : ∀ (x0 : Int32) (x1 : Int32) (x2 : Int32), (mm_E 128 4 ls (.int x2 :: .int x1 :: .int x0 :: st) I r Q ↔ mm_w8 st = true ∧ mm_E 93 0 [some (.int x0), some (.int x1), some (.int x2)] [] I r (fun v I2 r2 => mm_E 128 7 ls (mm_pu v st) I2 r2 Q)) := fun x0 x1 x2 => me_sc (n := 3) (As := [.int x0, .int x1, .int x2]) (xs := [.int x2, .int x1, .int x0]) mc_128 dX6_nights_4 (by decide +kernel) (by decide +kernel) rfl rfl (Nat.le_of_ble_eq_true rfl) rfl
theorem e128_7 : mm_E 128 7 ls (.int x :: st) I r Q ↔ if ¬ x = 0 then mm_E 128 12 ls st I r Q else mm_E 128 10 ls st I r Q := me_zne mc_128 dX6_nights_7 (by decide)
theorem e128_10 : mm_E 128 10 ls st I r Q ↔ mm_E 128 11 ls (.int (-1) :: st) I r Q := me_ic mc_128 dX6_nights_10 (by decide)
theorem e128_11 : mm_E 128 11 ls [.int x] I r Q ↔ Q (some (.int x)) I r := me_ri mc_128 dX6_nights_11 rfl
theorem e128_12 : mm_E 128 12 [some (.ref a), l1, l2] st I r Q ↔ mm_E 128 13 [some (.ref a), l1, l2] (.ref a :: st) I r Q := me_al mc_128 dX6_nights_12 rfl
theorem e128_13 : mm_E 128 13 ls (.ref a :: st) I r Q ↔ mm_S r a = (1, 6) ∧ mm_E 128 16 ls (va_rf (mm_P r a 7) :: st) I r Q := me_gr mc_128 dX6_nights_13 (by decide +kernel) rfl
theorem e128_16 : mm_E 128 16 ls st I r Q ↔ mm_E 128 17 ls (.int 0 :: st) I r Q := me_ic mc_128 dX6_nights_16 (by decide)
theorem e128_17 : mm_E 128 17 ls (.int x :: .ref a :: st) I r Q ↔ mm_ix r a 2 x ∧ mm_E 128 18 ls (.int (mm_rd I a x.toNatClampNeg) :: st) I r Q := me_ia mc_128 dX6_nights_17
theorem e128_18 : mm_E 128 18 [l0, some (.int x), l2] st I r Q ↔ mm_E 128 19 [l0, some (.int x), l2] (.int x :: st) I r Q := me_il mc_128 dX6_nights_18 rfl
theorem e128_19 : mm_E 128 19 ls (.int y :: .int x :: st) I r Q ↔ mm_E 128 20 ls (.int (x + y) :: st) I r Q := me_iadd mc_128 dX6_nights_19
theorem e128_20 : mm_E 128 20 ls st I r Q ↔ mm_E 128 23 ls (.int 9999 :: st) I r Q := me_si mc_128 dX6_nights_20 (by decide)
theorem e128_23 : mm_E 128 23 ls (.int y :: .int x :: st) I r Q ↔ if x ≤ y then mm_E 128 29 ls st I r Q else mm_E 128 26 ls st I r Q := me_cle mc_128 dX6_nights_23 (by decide)
theorem e128_26 : mm_E 128 26 ls st I r Q ↔ mm_E 128 28 ls (.int (-3) :: st) I r Q := me_bi mc_128 dX6_nights_26 (by decide)
theorem e128_28 : mm_E 128 28 ls [.int x] I r Q ↔ Q (some (.int x)) I r := me_ri mc_128 dX6_nights_28 rfl
theorem e128_29 : mm_E 128 29 ls st I r Q ↔ mm_E 128 30 ls (.int 0 :: st) I r Q := me_ic mc_128 dX6_nights_29 (by decide)
theorem e128_30 : mm_E 128 30 [l0, l1, l2] (.int x :: st) I r Q ↔ mm_c1 l1 ∧ mm_E 128 31 [l0, l1, some (.int x)] st I r Q := me_st (k := 2) (v := .int x) mc_128 dX6_nights_30 rfl rfl (Nat.le_of_ble_eq_true rfl) rfl ⟨Or.inr, fun h => h.resolve_left (by decide)⟩
theorem e128_31 : mm_E 128 31 [l0, l1, some (.int x)] st I r Q ↔ mm_E 128 32 [l0, l1, some (.int x)] (.int x :: st) I r Q := me_il mc_128 dX6_nights_31 rfl
theorem e128_32 : mm_E 128 32 [l0, some (.int x), l2] st I r Q ↔ mm_E 128 33 [l0, some (.int x), l2] (.int x :: st) I r Q := me_il mc_128 dX6_nights_32 rfl
theorem e128_33 : mm_E 128 33 ls (.int y :: .int x :: st) I r Q ↔ if y ≤ x then mm_E 128 55 ls st I r Q else mm_E 128 36 ls st I r Q := me_cge mc_128 dX6_nights_33 (by decide)
theorem e128_36 : mm_E 128 36 [some (.ref a), l1, l2] st I r Q ↔ mm_E 128 37 [some (.ref a), l1, l2] (.ref a :: st) I r Q := me_al mc_128 dX6_nights_36 rfl
theorem e128_37 : (mm_E 128 37 ls (.ref a :: st) I r Q ↔ (mm_w8 st = true ∧ mm_S r a = (1, 6)) ∧ mm_E 123 0 [some (.ref a)] [] I r (fun v I2 r2 => mm_E 128 40 ls (mm_pu v st) I2 r2 Q)) := me_vc (n := 0) (As := []) (xs := []) (a := a) mc_128 dX6_nights_37 (by decide +kernel) (by decide +kernel) rfl rfl (Nat.le_of_ble_eq_true rfl) rfl
theorem e128_40 : mm_E 128 40 [some (.ref a), l1, l2] st I r Q ↔ mm_E 128 41 [some (.ref a), l1, l2] (.ref a :: st) I r Q := me_al mc_128 dX6_nights_40 rfl
theorem e128_41 : mm_E 128 41 [some (.ref a), l1, l2] st I r Q ↔ mm_E 128 42 [some (.ref a), l1, l2] (.ref a :: st) I r Q := me_al mc_128 dX6_nights_41 rfl
theorem e128_42 : mm_E 128 42 ls (.ref a :: st) I r Q ↔ mm_S r a = (1, 6) ∧ mm_E 128 45 ls (va_rf (mm_P r a 7) :: st) I r Q := me_gr mc_128 dX6_nights_42 (by decide +kernel) rfl
theorem e128_45 : mm_E 128 45 ls st I r Q ↔ mm_E 128 46 ls (.int 0 :: st) I r Q := me_ic mc_128 dX6_nights_45 (by decide)
theorem e128_46 : ∀ (x0 : Nat) (x1 : Int32), (mm_E 128 46 ls (.int x1 :: .ref x0 :: .ref a :: st) I r Q ↔ (mm_w8 st = true ∧ mm_S r a = (1, 6)) ∧ mm_E 127 0 [some (.ref a), some (.ref x0), some (.int x1), none, none, none] [] I r (fun v I2 r2 => mm_E 128 49 ls (mm_pu v st) I2 r2 Q)) := fun x0 x1 => me_vc (n := 2) (As := [.ref x0, .int x1]) (xs := [.int x1, .ref x0]) (a := a) mc_128 dX6_nights_46 (by decide +kernel) (by decide +kernel) rfl rfl (Nat.le_of_ble_eq_true rfl) rfl
theorem e128_49 : mm_E 128 49 [l0, l1, some (.int x)] st I r Q ↔ mm_c1 l1 ∧ mm_E 128 52 [l0, l1, some (.int (x + 1))] st I r Q := me_st (k := 2) (v := .int (x + 1)) mc_128 dX6_nights_49 rfl rfl (Nat.le_of_ble_eq_true rfl) rfl ⟨Or.inr, fun h => h.resolve_left (by decide)⟩
theorem e128_52 : mm_E 128 52 ls st I r Q ↔ mm_E 128 31 ls st I r Q := me_goto mc_128 dX6_nights_52 (by decide)
theorem e128_55 : mm_E 128 55 [some (.ref a), l1, l2] st I r Q ↔ mm_E 128 56 [some (.ref a), l1, l2] (.ref a :: st) I r Q := me_al mc_128 dX6_nights_55 rfl
theorem e128_56 : mm_E 128 56 ls (.ref a :: st) I r Q ↔ mm_S r a = (1, 6) ∧ mm_E 128 59 ls (va_rf (mm_P r a 7) :: st) I r Q := me_gr mc_128 dX6_nights_56 (by decide +kernel) rfl
theorem e128_59 : ∀ (x0 : Nat), (mm_E 128 59 ls (.ref x0 :: st) I r Q ↔ mm_w8 st = true ∧ mm_E 119 0 [some (.ref x0), none, none] [] I r (fun v I2 r2 => mm_E 128 62 ls (mm_pu v st) I2 r2 Q)) := fun x0 => me_sc (n := 1) (As := [.ref x0]) (xs := [.ref x0]) mc_128 dX6_nights_59 (by decide +kernel) (by decide +kernel) rfl rfl (Nat.le_of_ble_eq_true rfl) rfl
theorem e128_62 : mm_E 128 62 ls [.int x] I r Q ↔ Q (some (.int x)) I r := me_ri mc_128 dX6_nights_62 rfl
theorem mc_129 : mm_c 129 = cX6_put := rfl
theorem e129_0 : mm_E 129 0 [some (.ref a), l1, l2, l3] st I r Q ↔ mm_E 129 1 [some (.ref a), l1, l2, l3] (.ref a :: st) I r Q := me_al mc_129 dX6_put_0 rfl
theorem e129_1 : mm_E 129 1 [l0, some (.int x), l2, l3] st I r Q ↔ mm_E 129 2 [l0, some (.int x), l2, l3] (.int x :: st) I r Q := me_il mc_129 dX6_put_1 rfl
theorem e129_2 : ∀ (x0 : Int32), (mm_E 129 2 ls (.int x0 :: .ref a :: st) I r Q ↔ (mm_w8 st = true ∧ mm_S r a = (1, 6)) ∧ mm_E 97 0 [some (.ref a), some (.int x0)] [] I r (fun v I2 r2 => mm_E 129 5 ls (mm_pu v st) I2 r2 Q)) := fun x0 => me_vc (n := 1) (As := [.int x0]) (xs := [.int x0]) (a := a) mc_129 dX6_put_2 (by decide +kernel) (by decide +kernel) rfl rfl (Nat.le_of_ble_eq_true rfl) rfl
theorem e129_5 : mm_E 129 5 ls (.int x :: st) I r Q ↔ if x = 0 then mm_E 129 18 ls st I r Q else mm_E 129 8 ls st I r Q := me_zeq mc_129 dX6_put_5 (by decide)
theorem e129_8 : mm_E 129 8 [l0, l1, some (.int x), l3] st I r Q ↔ mm_E 129 9 [l0, l1, some (.int x), l3] (.int x :: st) I r Q := me_il mc_129 dX6_put_8 rfl
theorem e129_9 : mm_E 129 9 ls st I r Q ↔ mm_E 129 10 ls (.int 0 :: st) I r Q := me_ic mc_129 dX6_put_9 (by decide)
theorem e129_10 : mm_E 129 10 ls st I r Q ↔ mm_E 129 12 ls (.int 20 :: st) I r Q := me_bi mc_129 dX6_put_10 (by decide)
theorem e129_12 : ∀ (x0 : Int32) (x1 : Int32) (x2 : Int32), (mm_E 129 12 ls (.int x2 :: .int x1 :: .int x0 :: st) I r Q ↔ mm_w8 st = true ∧ mm_E 93 0 [some (.int x0), some (.int x1), some (.int x2)] [] I r (fun v I2 r2 => mm_E 129 15 ls (mm_pu v st) I2 r2 Q)) := fun x0 x1 x2 => me_sc (n := 3) (As := [.int x0, .int x1, .int x2]) (xs := [.int x2, .int x1, .int x0]) mc_129 dX6_put_12 (by decide +kernel) (by decide +kernel) rfl rfl (Nat.le_of_ble_eq_true rfl) rfl
theorem e129_15 : mm_E 129 15 ls (.int x :: st) I r Q ↔ if ¬ x = 0 then mm_E 129 20 ls st I r Q else mm_E 129 18 ls st I r Q := me_zne mc_129 dX6_put_15 (by decide)
theorem e129_18 : mm_E 129 18 ls st I r Q ↔ mm_E 129 19 ls (.int (-1) :: st) I r Q := me_ic mc_129 dX6_put_18 (by decide)
theorem e129_19 : mm_E 129 19 ls [.int x] I r Q ↔ Q (some (.int x)) I r := me_ri mc_129 dX6_put_19 rfl
theorem e129_20 : mm_E 129 20 [some (.ref a), l1, l2, l3] st I r Q ↔ mm_E 129 21 [some (.ref a), l1, l2, l3] (.ref a :: st) I r Q := me_al mc_129 dX6_put_20 rfl
theorem e129_21 : mm_E 129 21 ls (.ref a :: st) I r Q ↔ mm_S r a = (1, 6) ∧ mm_E 129 24 ls (va_rf (mm_P r a 7) :: st) I r Q := me_gr mc_129 dX6_put_21 (by decide +kernel) rfl
theorem e129_24 : mm_E 129 24 ls st I r Q ↔ mm_E 129 26 ls (.int 9 :: st) I r Q := me_bi mc_129 dX6_put_24 (by decide)
theorem e129_26 : mm_E 129 26 [l0, some (.int x), l2, l3] st I r Q ↔ mm_E 129 27 [l0, some (.int x), l2, l3] (.int x :: st) I r Q := me_il mc_129 dX6_put_26 rfl
theorem e129_27 : mm_E 129 27 ls (.int y :: .int x :: st) I r Q ↔ mm_E 129 28 ls (.int (x + y) :: st) I r Q := me_iadd mc_129 dX6_put_27
theorem e129_28 : mm_E 129 28 ls (.int x :: .ref a :: st) I r Q ↔ mm_ix r a 2 x ∧ mm_E 129 29 ls (.int (mm_rd I a x.toNatClampNeg) :: st) I r Q := me_ia mc_129 dX6_put_28
theorem e129_29 : mm_E 129 29 [l0, l1, l2, l3] (.int x :: st) I r Q ↔ mm_c1 l2 ∧ mm_E 129 30 [l0, l1, l2, some (.int x)] st I r Q := me_st (k := 3) (v := .int x) mc_129 dX6_put_29 rfl rfl (Nat.le_of_ble_eq_true rfl) rfl ⟨Or.inr, fun h => h.resolve_left (by decide)⟩
theorem e129_30 : mm_E 129 30 [l0, l1, l2, some (.int x)] st I r Q ↔ mm_E 129 31 [l0, l1, l2, some (.int x)] (.int x :: st) I r Q := me_il mc_129 dX6_put_30 rfl
theorem e129_31 : mm_E 129 31 [l0, l1, some (.int x), l3] st I r Q ↔ mm_E 129 32 [l0, l1, some (.int x), l3] (.int x :: st) I r Q := me_il mc_129 dX6_put_31 rfl
theorem e129_32 : mm_E 129 32 ls (.int y :: .int x :: st) I r Q ↔ if ¬ x = y then mm_E 129 38 ls st I r Q else mm_E 129 35 ls st I r Q := me_cne mc_129 dX6_put_32 (by decide)
theorem e129_35 : mm_E 129 35 ls st I r Q ↔ mm_E 129 37 ls (.int (-2) :: st) I r Q := me_bi mc_129 dX6_put_35 (by decide)
theorem e129_37 : mm_E 129 37 ls [.int x] I r Q ↔ Q (some (.int x)) I r := me_ri mc_129 dX6_put_37 rfl
theorem e129_38 : mm_E 129 38 [some (.ref a), l1, l2, l3] st I r Q ↔ mm_E 129 39 [some (.ref a), l1, l2, l3] (.ref a :: st) I r Q := me_al mc_129 dX6_put_38 rfl
theorem e129_39 : (mm_E 129 39 ls (.ref a :: st) I r Q ↔ (mm_w8 st = true ∧ mm_S r a = (1, 6)) ∧ mm_E 123 0 [some (.ref a)] [] I r (fun v I2 r2 => mm_E 129 42 ls (mm_pu v st) I2 r2 Q)) := me_vc (n := 0) (As := []) (xs := []) (a := a) mc_129 dX6_put_39 (by decide +kernel) (by decide +kernel) rfl rfl (Nat.le_of_ble_eq_true rfl) rfl
theorem e129_42 : mm_E 129 42 [some (.ref a), l1, l2, l3] st I r Q ↔ mm_E 129 43 [some (.ref a), l1, l2, l3] (.ref a :: st) I r Q := me_al mc_129 dX6_put_42 rfl
theorem e129_43 : mm_E 129 43 ls (.ref a :: st) I r Q ↔ mm_S r a = (1, 6) ∧ mm_E 129 46 ls (va_rf (mm_P r a 7) :: st) I r Q := me_gr mc_129 dX6_put_43 (by decide +kernel) rfl
theorem e129_46 : mm_E 129 46 ls st I r Q ↔ mm_E 129 48 ls (.int 9 :: st) I r Q := me_bi mc_129 dX6_put_46 (by decide)
theorem e129_48 : mm_E 129 48 [l0, some (.int x), l2, l3] st I r Q ↔ mm_E 129 49 [l0, some (.int x), l2, l3] (.int x :: st) I r Q := me_il mc_129 dX6_put_48 rfl
theorem e129_49 : mm_E 129 49 ls (.int y :: .int x :: st) I r Q ↔ mm_E 129 50 ls (.int (x + y) :: st) I r Q := me_iadd mc_129 dX6_put_49
theorem e129_50 : mm_E 129 50 [l0, l1, some (.int x), l3] st I r Q ↔ mm_E 129 51 [l0, l1, some (.int x), l3] (.int x :: st) I r Q := me_il mc_129 dX6_put_50 rfl
theorem e129_51 : mm_E 129 51 ls (.int y :: .int x :: .ref a :: st) I r Q ↔ mm_ix r a 2 x ∧ mm_E 129 52 ls st (mm_uI I a x.toNatClampNeg y) r Q := me_is mc_129 dX6_put_51
theorem e129_52 : mm_E 129 52 [l0, l1, l2, some (.int x)] st I r Q ↔ mm_E 129 53 [l0, l1, l2, some (.int x)] (.int x :: st) I r Q := me_il mc_129 dX6_put_52 rfl
theorem e129_53 : mm_E 129 53 ls [.int x] I r Q ↔ Q (some (.int x)) I r := me_ri mc_129 dX6_put_53 rfl
theorem mc_130 : mm_c 130 = cX6_pay := rfl
theorem e130_0 : mm_E 130 0 [some (.ref a), l1, l2] st I r Q ↔ mm_E 130 1 [some (.ref a), l1, l2] (.ref a :: st) I r Q := me_al mc_130 dX6_pay_0 rfl
theorem e130_1 : mm_E 130 1 [l0, some (.int x), l2] st I r Q ↔ mm_E 130 2 [l0, some (.int x), l2] (.int x :: st) I r Q := me_il mc_130 dX6_pay_1 rfl
theorem e130_2 : ∀ (x0 : Int32), (mm_E 130 2 ls (.int x0 :: .ref a :: st) I r Q ↔ (mm_w8 st = true ∧ mm_S r a = (1, 6)) ∧ mm_E 97 0 [some (.ref a), some (.int x0)] [] I r (fun v I2 r2 => mm_E 130 5 ls (mm_pu v st) I2 r2 Q)) := fun x0 => me_vc (n := 1) (As := [.int x0]) (xs := [.int x0]) (a := a) mc_130 dX6_pay_2 (by decide +kernel) (by decide +kernel) rfl rfl (Nat.le_of_ble_eq_true rfl) rfl
theorem e130_5 : mm_E 130 5 ls (.int x :: st) I r Q ↔ if x = 0 then mm_E 130 19 ls st I r Q else mm_E 130 8 ls st I r Q := me_zeq mc_130 dX6_pay_5 (by decide)
theorem e130_8 : mm_E 130 8 [l0, l1, some (.int x)] st I r Q ↔ mm_E 130 9 [l0, l1, some (.int x)] (.int x :: st) I r Q := me_il mc_130 dX6_pay_8 rfl
theorem e130_9 : mm_E 130 9 ls st I r Q ↔ mm_E 130 10 ls (.int 1 :: st) I r Q := me_ic mc_130 dX6_pay_9 (by decide)
theorem e130_10 : mm_E 130 10 ls st I r Q ↔ mm_E 130 13 ls (.int 9999 :: st) I r Q := me_si mc_130 dX6_pay_10 (by decide)
theorem e130_13 : ∀ (x0 : Int32) (x1 : Int32) (x2 : Int32), (mm_E 130 13 ls (.int x2 :: .int x1 :: .int x0 :: st) I r Q ↔ mm_w8 st = true ∧ mm_E 93 0 [some (.int x0), some (.int x1), some (.int x2)] [] I r (fun v I2 r2 => mm_E 130 16 ls (mm_pu v st) I2 r2 Q)) := fun x0 x1 x2 => me_sc (n := 3) (As := [.int x0, .int x1, .int x2]) (xs := [.int x2, .int x1, .int x0]) mc_130 dX6_pay_13 (by decide +kernel) (by decide +kernel) rfl rfl (Nat.le_of_ble_eq_true rfl) rfl
theorem e130_16 : mm_E 130 16 ls (.int x :: st) I r Q ↔ if ¬ x = 0 then mm_E 130 21 ls st I r Q else mm_E 130 19 ls st I r Q := me_zne mc_130 dX6_pay_16 (by decide)
theorem e130_19 : mm_E 130 19 ls st I r Q ↔ mm_E 130 20 ls (.int (-1) :: st) I r Q := me_ic mc_130 dX6_pay_19 (by decide)
theorem e130_20 : mm_E 130 20 ls [.int x] I r Q ↔ Q (some (.int x)) I r := me_ri mc_130 dX6_pay_20 rfl
theorem e130_21 : mm_E 130 21 [some (.ref a), l1, l2] st I r Q ↔ mm_E 130 22 [some (.ref a), l1, l2] (.ref a :: st) I r Q := me_al mc_130 dX6_pay_21 rfl
theorem e130_22 : mm_E 130 22 ls (.ref a :: st) I r Q ↔ mm_S r a = (1, 6) ∧ mm_E 130 25 ls (va_rf (mm_P r a 7) :: st) I r Q := me_gr mc_130 dX6_pay_22 (by decide +kernel) rfl
theorem e130_25 : mm_E 130 25 ls st I r Q ↔ mm_E 130 26 ls (.int 3 :: st) I r Q := me_ic mc_130 dX6_pay_25 (by decide)
theorem e130_26 : mm_E 130 26 [l0, some (.int x), l2] st I r Q ↔ mm_E 130 27 [l0, some (.int x), l2] (.int x :: st) I r Q := me_il mc_130 dX6_pay_26 rfl
theorem e130_27 : mm_E 130 27 ls (.int y :: .int x :: st) I r Q ↔ mm_E 130 28 ls (.int (x + y) :: st) I r Q := me_iadd mc_130 dX6_pay_27
theorem e130_28 : mm_E 130 28 ls (.int x :: .ref a :: st) I r Q ↔ mm_ix r a 2 x ∧ mm_E 130 29 ls (.int (mm_rd I a x.toNatClampNeg) :: st) I r Q := me_ia mc_130 dX6_pay_28
theorem e130_29 : mm_E 130 29 ls (.int x :: st) I r Q ↔ if ¬ x = 0 then mm_E 130 35 ls st I r Q else mm_E 130 32 ls st I r Q := me_zne mc_130 dX6_pay_29 (by decide)
theorem e130_32 : mm_E 130 32 ls st I r Q ↔ mm_E 130 34 ls (.int (-2) :: st) I r Q := me_bi mc_130 dX6_pay_32 (by decide)
theorem e130_34 : mm_E 130 34 ls [.int x] I r Q ↔ Q (some (.int x)) I r := me_ri mc_130 dX6_pay_34 rfl
theorem e130_35 : mm_E 130 35 [some (.ref a), l1, l2] st I r Q ↔ mm_E 130 36 [some (.ref a), l1, l2] (.ref a :: st) I r Q := me_al mc_130 dX6_pay_35 rfl
theorem e130_36 : (mm_E 130 36 ls (.ref a :: st) I r Q ↔ (mm_w8 st = true ∧ mm_S r a = (1, 6)) ∧ mm_E 123 0 [some (.ref a)] [] I r (fun v I2 r2 => mm_E 130 39 ls (mm_pu v st) I2 r2 Q)) := me_vc (n := 0) (As := []) (xs := []) (a := a) mc_130 dX6_pay_36 (by decide +kernel) (by decide +kernel) rfl rfl (Nat.le_of_ble_eq_true rfl) rfl
theorem e130_39 : mm_E 130 39 [some (.ref a), l1, l2] st I r Q ↔ mm_E 130 40 [some (.ref a), l1, l2] (.ref a :: st) I r Q := me_al mc_130 dX6_pay_39 rfl
theorem e130_40 : mm_E 130 40 ls (.ref a :: st) I r Q ↔ mm_S r a = (1, 6) ∧ mm_E 130 43 ls (va_rf (mm_P r a 7) :: st) I r Q := me_gr mc_130 dX6_pay_40 (by decide +kernel) rfl
theorem e130_43 : mm_E 130 43 ls st I r Q ↔ mm_E 130 44 ls (.int 3 :: st) I r Q := me_ic mc_130 dX6_pay_43 (by decide)
theorem e130_44 : mm_E 130 44 [l0, some (.int x), l2] st I r Q ↔ mm_E 130 45 [l0, some (.int x), l2] (.int x :: st) I r Q := me_il mc_130 dX6_pay_44 rfl
theorem e130_45 : mm_E 130 45 ls (.int y :: .int x :: st) I r Q ↔ mm_E 130 46 ls (.int (x + y) :: st) I r Q := me_iadd mc_130 dX6_pay_45
theorem e130_46 : mm_E 130 46 [some (.ref a), l1, l2] st I r Q ↔ mm_E 130 47 [some (.ref a), l1, l2] (.ref a :: st) I r Q := me_al mc_130 dX6_pay_46 rfl
theorem e130_47 : mm_E 130 47 ls (.ref a :: st) I r Q ↔ mm_S r a = (1, 6) ∧ mm_E 130 50 ls (va_rf (mm_P r a 7) :: st) I r Q := me_gr mc_130 dX6_pay_47 (by decide +kernel) rfl
theorem e130_50 : mm_E 130 50 ls st I r Q ↔ mm_E 130 51 ls (.int 3 :: st) I r Q := me_ic mc_130 dX6_pay_50 (by decide)
theorem e130_51 : mm_E 130 51 [l0, some (.int x), l2] st I r Q ↔ mm_E 130 52 [l0, some (.int x), l2] (.int x :: st) I r Q := me_il mc_130 dX6_pay_51 rfl
theorem e130_52 : mm_E 130 52 ls (.int y :: .int x :: st) I r Q ↔ mm_E 130 53 ls (.int (x + y) :: st) I r Q := me_iadd mc_130 dX6_pay_52
theorem e130_53 : mm_E 130 53 ls (.int x :: .ref a :: st) I r Q ↔ mm_ix r a 2 x ∧ mm_E 130 54 ls (.int (mm_rd I a x.toNatClampNeg) :: st) I r Q := me_ia mc_130 dX6_pay_53
theorem e130_54 : mm_E 130 54 [l0, l1, some (.int x)] st I r Q ↔ mm_E 130 55 [l0, l1, some (.int x)] (.int x :: st) I r Q := me_il mc_130 dX6_pay_54 rfl
theorem e130_55 : mm_E 130 55 ls (.int y :: .int x :: st) I r Q ↔ if x ≤ y then mm_E 130 71 ls st I r Q else mm_E 130 58 ls st I r Q := me_cle mc_130 dX6_pay_55 (by decide)
theorem e130_58 : mm_E 130 58 [some (.ref a), l1, l2] st I r Q ↔ mm_E 130 59 [some (.ref a), l1, l2] (.ref a :: st) I r Q := me_al mc_130 dX6_pay_58 rfl
theorem e130_59 : mm_E 130 59 ls (.ref a :: st) I r Q ↔ mm_S r a = (1, 6) ∧ mm_E 130 62 ls (va_rf (mm_P r a 7) :: st) I r Q := me_gr mc_130 dX6_pay_59 (by decide +kernel) rfl
theorem e130_62 : mm_E 130 62 ls st I r Q ↔ mm_E 130 63 ls (.int 3 :: st) I r Q := me_ic mc_130 dX6_pay_62 (by decide)
theorem e130_63 : mm_E 130 63 [l0, some (.int x), l2] st I r Q ↔ mm_E 130 64 [l0, some (.int x), l2] (.int x :: st) I r Q := me_il mc_130 dX6_pay_63 rfl
theorem e130_64 : mm_E 130 64 ls (.int y :: .int x :: st) I r Q ↔ mm_E 130 65 ls (.int (x + y) :: st) I r Q := me_iadd mc_130 dX6_pay_64
theorem e130_65 : mm_E 130 65 ls (.int x :: .ref a :: st) I r Q ↔ mm_ix r a 2 x ∧ mm_E 130 66 ls (.int (mm_rd I a x.toNatClampNeg) :: st) I r Q := me_ia mc_130 dX6_pay_65
theorem e130_66 : mm_E 130 66 [l0, l1, some (.int x)] st I r Q ↔ mm_E 130 67 [l0, l1, some (.int x)] (.int x :: st) I r Q := me_il mc_130 dX6_pay_66 rfl
theorem e130_67 : mm_E 130 67 ls (.int y :: .int x :: st) I r Q ↔ mm_E 130 68 ls (.int (x - y) :: st) I r Q := me_isub mc_130 dX6_pay_67
theorem e130_68 : mm_E 130 68 ls st I r Q ↔ mm_E 130 72 ls st I r Q := me_goto mc_130 dX6_pay_68 (by decide)
theorem e130_71 : mm_E 130 71 ls st I r Q ↔ mm_E 130 72 ls (.int 0 :: st) I r Q := me_ic mc_130 dX6_pay_71 (by decide)
theorem e130_72 : mm_E 130 72 ls (.int y :: .int x :: .ref a :: st) I r Q ↔ mm_ix r a 2 x ∧ mm_E 130 73 ls st (mm_uI I a x.toNatClampNeg y) r Q := me_is mc_130 dX6_pay_72
theorem e130_73 : mm_E 130 73 [some (.ref a), l1, l2] st I r Q ↔ mm_E 130 74 [some (.ref a), l1, l2] (.ref a :: st) I r Q := me_al mc_130 dX6_pay_73 rfl
theorem e130_74 : mm_E 130 74 ls (.ref a :: st) I r Q ↔ mm_S r a = (1, 6) ∧ mm_E 130 77 ls (va_rf (mm_P r a 7) :: st) I r Q := me_gr mc_130 dX6_pay_74 (by decide +kernel) rfl
theorem e130_77 : mm_E 130 77 ls st I r Q ↔ mm_E 130 78 ls (.int 3 :: st) I r Q := me_ic mc_130 dX6_pay_77 (by decide)
theorem e130_78 : mm_E 130 78 [l0, some (.int x), l2] st I r Q ↔ mm_E 130 79 [l0, some (.int x), l2] (.int x :: st) I r Q := me_il mc_130 dX6_pay_78 rfl
theorem e130_79 : mm_E 130 79 ls (.int y :: .int x :: st) I r Q ↔ mm_E 130 80 ls (.int (x + y) :: st) I r Q := me_iadd mc_130 dX6_pay_79
theorem e130_80 : mm_E 130 80 ls (.int x :: .ref a :: st) I r Q ↔ mm_ix r a 2 x ∧ mm_E 130 81 ls (.int (mm_rd I a x.toNatClampNeg) :: st) I r Q := me_ia mc_130 dX6_pay_80
theorem e130_81 : mm_E 130 81 ls [.int x] I r Q ↔ Q (some (.int x)) I r := me_ri mc_130 dX6_pay_81 rfl
theorem mc_131 : mm_c 131 = cX6_drive := rfl
theorem e131_0 : mm_E 131 0 [some (.ref a), l1, l2, l3] st I r Q ↔ mm_E 131 1 [some (.ref a), l1, l2, l3] (.ref a :: st) I r Q := me_al mc_131 dX6_drive_0 rfl
theorem e131_1 : mm_E 131 1 [l0, some (.int x), l2, l3] st I r Q ↔ mm_E 131 2 [l0, some (.int x), l2, l3] (.int x :: st) I r Q := me_il mc_131 dX6_drive_1 rfl
theorem e131_2 : ∀ (x0 : Int32), (mm_E 131 2 ls (.int x0 :: .ref a :: st) I r Q ↔ (mm_w8 st = true ∧ mm_S r a = (1, 6)) ∧ mm_E 98 0 [some (.ref a), some (.int x0)] [] I r (fun v I2 r2 => mm_E 131 5 ls (mm_pu v st) I2 r2 Q)) := fun x0 => me_vc (n := 1) (As := [.int x0]) (xs := [.int x0]) (a := a) mc_131 dX6_drive_2 (by decide +kernel) (by decide +kernel) rfl rfl (Nat.le_of_ble_eq_true rfl) rfl
theorem e131_5 : mm_E 131 5 ls (.int x :: st) I r Q ↔ if x = 0 then mm_E 131 16 ls st I r Q else mm_E 131 8 ls st I r Q := me_zeq mc_131 dX6_drive_5 (by decide)
theorem e131_8 : mm_E 131 8 [some (.ref a), l1, l2, l3] st I r Q ↔ mm_E 131 9 [some (.ref a), l1, l2, l3] (.ref a :: st) I r Q := me_al mc_131 dX6_drive_8 rfl
theorem e131_9 : mm_E 131 9 [l0, l1, some (.int x), l3] st I r Q ↔ mm_E 131 10 [l0, l1, some (.int x), l3] (.int x :: st) I r Q := me_il mc_131 dX6_drive_9 rfl
theorem e131_10 : ∀ (x0 : Int32), (mm_E 131 10 ls (.int x0 :: .ref a :: st) I r Q ↔ (mm_w8 st = true ∧ mm_S r a = (1, 6)) ∧ mm_E 97 0 [some (.ref a), some (.int x0)] [] I r (fun v I2 r2 => mm_E 131 13 ls (mm_pu v st) I2 r2 Q)) := fun x0 => me_vc (n := 1) (As := [.int x0]) (xs := [.int x0]) (a := a) mc_131 dX6_drive_10 (by decide +kernel) (by decide +kernel) rfl rfl (Nat.le_of_ble_eq_true rfl) rfl
theorem e131_13 : mm_E 131 13 ls (.int x :: st) I r Q ↔ if ¬ x = 0 then mm_E 131 18 ls st I r Q else mm_E 131 16 ls st I r Q := me_zne mc_131 dX6_drive_13 (by decide)
theorem e131_16 : mm_E 131 16 ls st I r Q ↔ mm_E 131 17 ls (.int (-1) :: st) I r Q := me_ic mc_131 dX6_drive_16 (by decide)
theorem e131_17 : mm_E 131 17 ls [.int x] I r Q ↔ Q (some (.int x)) I r := me_ri mc_131 dX6_drive_17 rfl
theorem e131_18 : mm_E 131 18 [some (.ref a), l1, l2, l3] st I r Q ↔ mm_E 131 19 [some (.ref a), l1, l2, l3] (.ref a :: st) I r Q := me_al mc_131 dX6_drive_18 rfl
theorem e131_19 : mm_E 131 19 ls (.ref a :: st) I r Q ↔ mm_S r a = (1, 6) ∧ mm_E 131 22 ls (va_rf (mm_P r a 7) :: st) I r Q := me_gr mc_131 dX6_drive_19 (by decide +kernel) rfl
theorem e131_22 : mm_E 131 22 ls st I r Q ↔ mm_E 131 24 ls (.int 21 :: st) I r Q := me_bi mc_131 dX6_drive_22 (by decide)
theorem e131_24 : mm_E 131 24 [l0, some (.int x), l2, l3] st I r Q ↔ mm_E 131 25 [l0, some (.int x), l2, l3] (.int x :: st) I r Q := me_il mc_131 dX6_drive_24 rfl
theorem e131_25 : mm_E 131 25 ls (.int y :: .int x :: st) I r Q ↔ mm_E 131 26 ls (.int (x + y) :: st) I r Q := me_iadd mc_131 dX6_drive_25
theorem e131_26 : mm_E 131 26 ls (.int x :: .ref a :: st) I r Q ↔ mm_ix r a 2 x ∧ mm_E 131 27 ls (.int (mm_rd I a x.toNatClampNeg) :: st) I r Q := me_ia mc_131 dX6_drive_26
theorem e131_27 : mm_E 131 27 [l0, l1, l2, l3] (.int x :: st) I r Q ↔ mm_c1 l2 ∧ mm_E 131 28 [l0, l1, l2, some (.int x)] st I r Q := me_st (k := 3) (v := .int x) mc_131 dX6_drive_27 rfl rfl (Nat.le_of_ble_eq_true rfl) rfl ⟨Or.inr, fun h => h.resolve_left (by decide)⟩
theorem e131_28 : mm_E 131 28 [l0, l1, l2, some (.int x)] st I r Q ↔ mm_E 131 29 [l0, l1, l2, some (.int x)] (.int x :: st) I r Q := me_il mc_131 dX6_drive_28 rfl
theorem e131_29 : mm_E 131 29 [l0, l1, some (.int x), l3] st I r Q ↔ mm_E 131 30 [l0, l1, some (.int x), l3] (.int x :: st) I r Q := me_il mc_131 dX6_drive_29 rfl
theorem e131_30 : mm_E 131 30 ls (.int y :: .int x :: st) I r Q ↔ if ¬ x = y then mm_E 131 36 ls st I r Q else mm_E 131 33 ls st I r Q := me_cne mc_131 dX6_drive_30 (by decide)
theorem e131_33 : mm_E 131 33 ls st I r Q ↔ mm_E 131 35 ls (.int (-2) :: st) I r Q := me_bi mc_131 dX6_drive_33 (by decide)
theorem e131_35 : mm_E 131 35 ls [.int x] I r Q ↔ Q (some (.int x)) I r := me_ri mc_131 dX6_drive_35 rfl
theorem e131_36 : mm_E 131 36 [some (.ref a), l1, l2, l3] st I r Q ↔ mm_E 131 37 [some (.ref a), l1, l2, l3] (.ref a :: st) I r Q := me_al mc_131 dX6_drive_36 rfl
theorem e131_37 : (mm_E 131 37 ls (.ref a :: st) I r Q ↔ (mm_w8 st = true ∧ mm_S r a = (1, 6)) ∧ mm_E 123 0 [some (.ref a)] [] I r (fun v I2 r2 => mm_E 131 40 ls (mm_pu v st) I2 r2 Q)) := me_vc (n := 0) (As := []) (xs := []) (a := a) mc_131 dX6_drive_37 (by decide +kernel) (by decide +kernel) rfl rfl (Nat.le_of_ble_eq_true rfl) rfl
theorem e131_40 : mm_E 131 40 [some (.ref a), l1, l2, l3] st I r Q ↔ mm_E 131 41 [some (.ref a), l1, l2, l3] (.ref a :: st) I r Q := me_al mc_131 dX6_drive_40 rfl
theorem e131_41 : mm_E 131 41 ls (.ref a :: st) I r Q ↔ mm_S r a = (1, 6) ∧ mm_E 131 44 ls (va_rf (mm_P r a 7) :: st) I r Q := me_gr mc_131 dX6_drive_41 (by decide +kernel) rfl
theorem e131_44 : mm_E 131 44 ls st I r Q ↔ mm_E 131 46 ls (.int 21 :: st) I r Q := me_bi mc_131 dX6_drive_44 (by decide)
theorem e131_46 : mm_E 131 46 [l0, some (.int x), l2, l3] st I r Q ↔ mm_E 131 47 [l0, some (.int x), l2, l3] (.int x :: st) I r Q := me_il mc_131 dX6_drive_46 rfl
theorem e131_47 : mm_E 131 47 ls (.int y :: .int x :: st) I r Q ↔ mm_E 131 48 ls (.int (x + y) :: st) I r Q := me_iadd mc_131 dX6_drive_47
theorem e131_48 : mm_E 131 48 [l0, l1, some (.int x), l3] st I r Q ↔ mm_E 131 49 [l0, l1, some (.int x), l3] (.int x :: st) I r Q := me_il mc_131 dX6_drive_48 rfl
theorem e131_49 : mm_E 131 49 ls (.int y :: .int x :: .ref a :: st) I r Q ↔ mm_ix r a 2 x ∧ mm_E 131 50 ls st (mm_uI I a x.toNatClampNeg y) r Q := me_is mc_131 dX6_drive_49
theorem e131_50 : mm_E 131 50 [l0, l1, l2, some (.int x)] st I r Q ↔ mm_E 131 51 [l0, l1, l2, some (.int x)] (.int x :: st) I r Q := me_il mc_131 dX6_drive_50 rfl
theorem e131_51 : mm_E 131 51 ls [.int x] I r Q ↔ Q (some (.int x)) I r := me_ri mc_131 dX6_drive_51 rfl
theorem mc_132 : mm_c 132 = cX6_forgive := rfl
theorem e132_0 : mm_E 132 0 [some (.ref a), l1, l2] st I r Q ↔ mm_E 132 1 [some (.ref a), l1, l2] (.ref a :: st) I r Q := me_al mc_132 dX6_forgive_0 rfl
theorem e132_1 : mm_E 132 1 [l0, some (.int x), l2] st I r Q ↔ mm_E 132 2 [l0, some (.int x), l2] (.int x :: st) I r Q := me_il mc_132 dX6_forgive_1 rfl
theorem e132_2 : ∀ (x0 : Int32), (mm_E 132 2 ls (.int x0 :: .ref a :: st) I r Q ↔ (mm_w8 st = true ∧ mm_S r a = (1, 6)) ∧ mm_E 97 0 [some (.ref a), some (.int x0)] [] I r (fun v I2 r2 => mm_E 132 5 ls (mm_pu v st) I2 r2 Q)) := fun x0 => me_vc (n := 1) (As := [.int x0]) (xs := [.int x0]) (a := a) mc_132 dX6_forgive_2 (by decide +kernel) (by decide +kernel) rfl rfl (Nat.le_of_ble_eq_true rfl) rfl
theorem e132_5 : mm_E 132 5 ls (.int x :: st) I r Q ↔ if ¬ x = 0 then mm_E 132 10 ls st I r Q else mm_E 132 8 ls st I r Q := me_zne mc_132 dX6_forgive_5 (by decide)
theorem e132_8 : mm_E 132 8 ls st I r Q ↔ mm_E 132 9 ls (.int (-1) :: st) I r Q := me_ic mc_132 dX6_forgive_8 (by decide)
theorem e132_9 : mm_E 132 9 ls [.int x] I r Q ↔ Q (some (.int x)) I r := me_ri mc_132 dX6_forgive_9 rfl
theorem e132_10 : mm_E 132 10 [some (.ref a), l1, l2] st I r Q ↔ mm_E 132 11 [some (.ref a), l1, l2] (.ref a :: st) I r Q := me_al mc_132 dX6_forgive_10 rfl
theorem e132_11 : mm_E 132 11 ls (.ref a :: st) I r Q ↔ mm_S r a = (1, 6) ∧ mm_E 132 14 ls (va_rf (mm_P r a 7) :: st) I r Q := me_gr mc_132 dX6_forgive_11 (by decide +kernel) rfl
theorem e132_14 : mm_E 132 14 ls st I r Q ↔ mm_E 132 16 ls (.int 15 :: st) I r Q := me_bi mc_132 dX6_forgive_14 (by decide)
theorem e132_16 : mm_E 132 16 [l0, some (.int x), l2] st I r Q ↔ mm_E 132 17 [l0, some (.int x), l2] (.int x :: st) I r Q := me_il mc_132 dX6_forgive_16 rfl
theorem e132_17 : mm_E 132 17 ls (.int y :: .int x :: st) I r Q ↔ mm_E 132 18 ls (.int (x + y) :: st) I r Q := me_iadd mc_132 dX6_forgive_17
theorem e132_18 : mm_E 132 18 ls (.int x :: .ref a :: st) I r Q ↔ mm_ix r a 2 x ∧ mm_E 132 19 ls (.int (mm_rd I a x.toNatClampNeg) :: st) I r Q := me_ia mc_132 dX6_forgive_18
theorem e132_19 : mm_E 132 19 [l0, l1, l2] (.int x :: st) I r Q ↔ mm_c1 l1 ∧ mm_E 132 20 [l0, l1, some (.int x)] st I r Q := me_st (k := 2) (v := .int x) mc_132 dX6_forgive_19 rfl rfl (Nat.le_of_ble_eq_true rfl) rfl ⟨Or.inr, fun h => h.resolve_left (by decide)⟩
theorem e132_20 : mm_E 132 20 [l0, l1, some (.int x)] st I r Q ↔ mm_E 132 21 [l0, l1, some (.int x)] (.int x :: st) I r Q := me_il mc_132 dX6_forgive_20 rfl
theorem e132_21 : mm_E 132 21 ls (.int x :: st) I r Q ↔ if ¬ x = 0 then mm_E 132 27 ls st I r Q else mm_E 132 24 ls st I r Q := me_zne mc_132 dX6_forgive_21 (by decide)
theorem e132_24 : mm_E 132 24 ls st I r Q ↔ mm_E 132 26 ls (.int (-2) :: st) I r Q := me_bi mc_132 dX6_forgive_24 (by decide)
theorem e132_26 : mm_E 132 26 ls [.int x] I r Q ↔ Q (some (.int x)) I r := me_ri mc_132 dX6_forgive_26 rfl
theorem e132_27 : mm_E 132 27 [some (.ref a), l1, l2] st I r Q ↔ mm_E 132 28 [some (.ref a), l1, l2] (.ref a :: st) I r Q := me_al mc_132 dX6_forgive_27 rfl
theorem e132_28 : (mm_E 132 28 ls (.ref a :: st) I r Q ↔ (mm_w8 st = true ∧ mm_S r a = (1, 6)) ∧ mm_E 123 0 [some (.ref a)] [] I r (fun v I2 r2 => mm_E 132 31 ls (mm_pu v st) I2 r2 Q)) := me_vc (n := 0) (As := []) (xs := []) (a := a) mc_132 dX6_forgive_28 (by decide +kernel) (by decide +kernel) rfl rfl (Nat.le_of_ble_eq_true rfl) rfl
theorem e132_31 : mm_E 132 31 [some (.ref a), l1, l2] st I r Q ↔ mm_E 132 32 [some (.ref a), l1, l2] (.ref a :: st) I r Q := me_al mc_132 dX6_forgive_31 rfl
theorem e132_32 : mm_E 132 32 ls (.ref a :: st) I r Q ↔ mm_S r a = (1, 6) ∧ mm_E 132 35 ls (va_rf (mm_P r a 7) :: st) I r Q := me_gr mc_132 dX6_forgive_32 (by decide +kernel) rfl
theorem e132_35 : mm_E 132 35 ls st I r Q ↔ mm_E 132 37 ls (.int 15 :: st) I r Q := me_bi mc_132 dX6_forgive_35 (by decide)
theorem e132_37 : mm_E 132 37 [l0, some (.int x), l2] st I r Q ↔ mm_E 132 38 [l0, some (.int x), l2] (.int x :: st) I r Q := me_il mc_132 dX6_forgive_37 rfl
theorem e132_38 : mm_E 132 38 ls (.int y :: .int x :: st) I r Q ↔ mm_E 132 39 ls (.int (x + y) :: st) I r Q := me_iadd mc_132 dX6_forgive_38
theorem e132_39 : mm_E 132 39 ls st I r Q ↔ mm_E 132 40 ls (.int 0 :: st) I r Q := me_ic mc_132 dX6_forgive_39 (by decide)
theorem e132_40 : mm_E 132 40 ls (.int y :: .int x :: .ref a :: st) I r Q ↔ mm_ix r a 2 x ∧ mm_E 132 41 ls st (mm_uI I a x.toNatClampNeg y) r Q := me_is mc_132 dX6_forgive_40
theorem e132_41 : mm_E 132 41 [l0, l1, some (.int x)] st I r Q ↔ mm_E 132 42 [l0, l1, some (.int x)] (.int x :: st) I r Q := me_il mc_132 dX6_forgive_41 rfl
theorem e132_42 : mm_E 132 42 ls [.int x] I r Q ↔ Q (some (.int x)) I r := me_ri mc_132 dX6_forgive_42 rfl
theorem mc_133 : mm_c 133 = cX6_drift := rfl
theorem e133_0 : mm_E 133 0 [l0, some (.int x), l2] st I r Q ↔ mm_E 133 1 [l0, some (.int x), l2] (.int x :: st) I r Q := me_il mc_133 dX6_drift_0 rfl
theorem e133_1 : mm_E 133 1 ls st I r Q ↔ mm_E 133 2 ls (.int 1 :: st) I r Q := me_ic mc_133 dX6_drift_1 (by decide)
theorem e133_2 : mm_E 133 2 ls st I r Q ↔ mm_E 133 4 ls (.int 40 :: st) I r Q := me_bi mc_133 dX6_drift_2 (by decide)
theorem e133_4 : ∀ (x0 : Int32) (x1 : Int32) (x2 : Int32), (mm_E 133 4 ls (.int x2 :: .int x1 :: .int x0 :: st) I r Q ↔ mm_w8 st = true ∧ mm_E 93 0 [some (.int x0), some (.int x1), some (.int x2)] [] I r (fun v I2 r2 => mm_E 133 7 ls (mm_pu v st) I2 r2 Q)) := fun x0 x1 x2 => me_sc (n := 3) (As := [.int x0, .int x1, .int x2]) (xs := [.int x2, .int x1, .int x0]) mc_133 dX6_drift_4 (by decide +kernel) (by decide +kernel) rfl rfl (Nat.le_of_ble_eq_true rfl) rfl
theorem e133_7 : mm_E 133 7 ls (.int x :: st) I r Q ↔ if ¬ x = 0 then mm_E 133 12 ls st I r Q else mm_E 133 10 ls st I r Q := me_zne mc_133 dX6_drift_7 (by decide)
theorem e133_10 : mm_E 133 10 ls st I r Q ↔ mm_E 133 11 ls (.int (-1) :: st) I r Q := me_ic mc_133 dX6_drift_10 (by decide)
theorem e133_11 : mm_E 133 11 ls [.int x] I r Q ↔ Q (some (.int x)) I r := me_ri mc_133 dX6_drift_11 rfl
theorem e133_12 : mm_E 133 12 [some (.ref a), l1, l2] st I r Q ↔ mm_E 133 13 [some (.ref a), l1, l2] (.ref a :: st) I r Q := me_al mc_133 dX6_drift_12 rfl
theorem e133_13 : mm_E 133 13 ls (.ref a :: st) I r Q ↔ mm_S r a = (1, 6) ∧ mm_E 133 16 ls (va_rf (mm_P r a 7) :: st) I r Q := me_gr mc_133 dX6_drift_13 (by decide +kernel) rfl
theorem e133_16 : mm_E 133 16 ls st I r Q ↔ mm_E 133 17 ls (.int 0 :: st) I r Q := me_ic mc_133 dX6_drift_16 (by decide)
theorem e133_17 : mm_E 133 17 ls (.int x :: .ref a :: st) I r Q ↔ mm_ix r a 2 x ∧ mm_E 133 18 ls (.int (mm_rd I a x.toNatClampNeg) :: st) I r Q := me_ia mc_133 dX6_drift_17
theorem e133_18 : mm_E 133 18 [l0, some (.int x), l2] st I r Q ↔ mm_E 133 19 [l0, some (.int x), l2] (.int x :: st) I r Q := me_il mc_133 dX6_drift_18 rfl
theorem e133_19 : mm_E 133 19 ls (.int y :: .int x :: st) I r Q ↔ mm_E 133 20 ls (.int (x + y) :: st) I r Q := me_iadd mc_133 dX6_drift_19
theorem e133_20 : mm_E 133 20 ls st I r Q ↔ mm_E 133 23 ls (.int 9999 :: st) I r Q := me_si mc_133 dX6_drift_20 (by decide)
theorem e133_23 : mm_E 133 23 ls (.int y :: .int x :: st) I r Q ↔ if x ≤ y then mm_E 133 29 ls st I r Q else mm_E 133 26 ls st I r Q := me_cle mc_133 dX6_drift_23 (by decide)
theorem e133_26 : mm_E 133 26 ls st I r Q ↔ mm_E 133 28 ls (.int (-3) :: st) I r Q := me_bi mc_133 dX6_drift_26 (by decide)
theorem e133_28 : mm_E 133 28 ls [.int x] I r Q ↔ Q (some (.int x)) I r := me_ri mc_133 dX6_drift_28 rfl
theorem e133_29 : mm_E 133 29 ls st I r Q ↔ mm_E 133 30 ls (.int 0 :: st) I r Q := me_ic mc_133 dX6_drift_29 (by decide)
theorem e133_30 : mm_E 133 30 [l0, l1, l2] (.int x :: st) I r Q ↔ mm_c1 l1 ∧ mm_E 133 31 [l0, l1, some (.int x)] st I r Q := me_st (k := 2) (v := .int x) mc_133 dX6_drift_30 rfl rfl (Nat.le_of_ble_eq_true rfl) rfl ⟨Or.inr, fun h => h.resolve_left (by decide)⟩
theorem e133_31 : mm_E 133 31 [l0, l1, some (.int x)] st I r Q ↔ mm_E 133 32 [l0, l1, some (.int x)] (.int x :: st) I r Q := me_il mc_133 dX6_drift_31 rfl
theorem e133_32 : mm_E 133 32 [l0, some (.int x), l2] st I r Q ↔ mm_E 133 33 [l0, some (.int x), l2] (.int x :: st) I r Q := me_il mc_133 dX6_drift_32 rfl
theorem e133_33 : mm_E 133 33 ls (.int y :: .int x :: st) I r Q ↔ if y ≤ x then mm_E 133 129 ls st I r Q else mm_E 133 36 ls st I r Q := me_cge mc_133 dX6_drift_33 (by decide)
theorem e133_36 : mm_E 133 36 [some (.ref a), l1, l2] st I r Q ↔ mm_E 133 37 [some (.ref a), l1, l2] (.ref a :: st) I r Q := me_al mc_133 dX6_drift_36 rfl
theorem e133_37 : (mm_E 133 37 ls (.ref a :: st) I r Q ↔ (mm_w8 st = true ∧ mm_S r a = (1, 6)) ∧ mm_E 123 0 [some (.ref a)] [] I r (fun v I2 r2 => mm_E 133 40 ls (mm_pu v st) I2 r2 Q)) := me_vc (n := 0) (As := []) (xs := []) (a := a) mc_133 dX6_drift_37 (by decide +kernel) (by decide +kernel) rfl rfl (Nat.le_of_ble_eq_true rfl) rfl
theorem e133_40 : mm_E 133 40 [some (.ref a), l1, l2] st I r Q ↔ mm_E 133 41 [some (.ref a), l1, l2] (.ref a :: st) I r Q := me_al mc_133 dX6_drift_40 rfl
theorem e133_41 : mm_E 133 41 ls (.ref a :: st) I r Q ↔ mm_S r a = (1, 6) ∧ mm_E 133 44 ls (va_rf (mm_P r a 7) :: st) I r Q := me_gr mc_133 dX6_drift_41 (by decide +kernel) rfl
theorem e133_44 : mm_E 133 44 ls st I r Q ↔ mm_E 133 45 ls (.int 1 :: st) I r Q := me_ic mc_133 dX6_drift_44 (by decide)
theorem e133_45 : mm_E 133 45 [some (.ref a), l1, l2] st I r Q ↔ mm_E 133 46 [some (.ref a), l1, l2] (.ref a :: st) I r Q := me_al mc_133 dX6_drift_45 rfl
theorem e133_46 : mm_E 133 46 ls (.ref a :: st) I r Q ↔ mm_S r a = (1, 6) ∧ mm_E 133 49 ls (va_rf (mm_P r a 7) :: st) I r Q := me_gr mc_133 dX6_drift_46 (by decide +kernel) rfl
theorem e133_49 : mm_E 133 49 ls st I r Q ↔ mm_E 133 50 ls (.int 1 :: st) I r Q := me_ic mc_133 dX6_drift_49 (by decide)
theorem e133_50 : mm_E 133 50 ls (.int x :: .ref a :: st) I r Q ↔ mm_ix r a 2 x ∧ mm_E 133 51 ls (.int (mm_rd I a x.toNatClampNeg) :: st) I r Q := me_ia mc_133 dX6_drift_50
theorem e133_51 : mm_E 133 51 ls (.int x :: st) I r Q ↔ mm_E 133 52 ls (.long x.toInt64 :: st) I r Q := me_i2l mc_133 dX6_drift_51
theorem e133_52 : mm_E 133 52 ls st I r Q ↔ mm_E 133 55 ls (.long 1103515245 :: st) I r Q := me_ldc2 mc_133 dX6_drift_52 (by decide +kernel)
theorem e133_55 : mm_E 133 55 ls (.long w :: .long z :: st) I r Q ↔ mm_E 133 56 ls (.long (z * w) :: st) I r Q := me_lmul mc_133 dX6_drift_55
theorem e133_56 : mm_E 133 56 ls st I r Q ↔ mm_E 133 59 ls (.long 12345 :: st) I r Q := me_ldc2 mc_133 dX6_drift_56 (by decide +kernel)
theorem e133_59 : mm_E 133 59 ls (.long w :: .long z :: st) I r Q ↔ mm_E 133 60 ls (.long (z + w) :: st) I r Q := me_ladd mc_133 dX6_drift_59
theorem e133_60 : mm_E 133 60 ls st I r Q ↔ mm_E 133 63 ls (.long 2147483648 :: st) I r Q := me_ldc2 mc_133 dX6_drift_60 (by decide +kernel)
theorem e133_63 : mm_E 133 63 ls (.long w :: .long z :: st) I r Q ↔ ¬ w = 0 ∧ mm_E 133 64 ls (.long (z - z / w * w) :: st) I r Q := me_lrem mc_133 dX6_drift_63
theorem e133_64 : mm_E 133 64 ls (.long z :: st) I r Q ↔ mm_E 133 65 ls (.int z.toInt32 :: st) I r Q := me_l2i mc_133 dX6_drift_64
theorem e133_65 : mm_E 133 65 ls (.int y :: .int x :: .ref a :: st) I r Q ↔ mm_ix r a 2 x ∧ mm_E 133 66 ls st (mm_uI I a x.toNatClampNeg y) r Q := me_is mc_133 dX6_drift_65
theorem e133_66 : mm_E 133 66 [some (.ref a), l1, l2] st I r Q ↔ mm_E 133 67 [some (.ref a), l1, l2] (.ref a :: st) I r Q := me_al mc_133 dX6_drift_66 rfl
theorem e133_67 : mm_E 133 67 ls (.ref a :: st) I r Q ↔ mm_S r a = (1, 6) ∧ mm_E 133 70 ls (va_rf (mm_P r a 7) :: st) I r Q := me_gr mc_133 dX6_drift_67 (by decide +kernel) rfl
theorem e133_70 : mm_E 133 70 ls st I r Q ↔ mm_E 133 72 ls (.int 27 :: st) I r Q := me_bi mc_133 dX6_drift_70 (by decide)
theorem e133_72 : mm_E 133 72 ls (.int x :: .ref a :: st) I r Q ↔ mm_ix r a 2 x ∧ mm_E 133 73 ls (.int (mm_rd I a x.toNatClampNeg) :: st) I r Q := me_ia mc_133 dX6_drift_72
theorem e133_73 : mm_E 133 73 ls (.int x :: st) I r Q ↔ if x ≤ 0 then mm_E 133 114 ls st I r Q else mm_E 133 76 ls st I r Q := me_zle mc_133 dX6_drift_73 (by decide)
theorem e133_76 : mm_E 133 76 [some (.ref a), l1, l2] st I r Q ↔ mm_E 133 77 [some (.ref a), l1, l2] (.ref a :: st) I r Q := me_al mc_133 dX6_drift_76 rfl
theorem e133_77 : mm_E 133 77 ls (.ref a :: st) I r Q ↔ mm_S r a = (1, 6) ∧ mm_E 133 80 ls (va_rf (mm_P r a 7) :: st) I r Q := me_gr mc_133 dX6_drift_77 (by decide +kernel) rfl
theorem e133_80 : mm_E 133 80 ls st I r Q ↔ mm_E 133 82 ls (.int 9 :: st) I r Q := me_bi mc_133 dX6_drift_80 (by decide)
theorem e133_82 : mm_E 133 82 [some (.ref a), l1, l2] st I r Q ↔ mm_E 133 83 [some (.ref a), l1, l2] (.ref a :: st) I r Q := me_al mc_133 dX6_drift_82 rfl
theorem e133_83 : mm_E 133 83 ls (.ref a :: st) I r Q ↔ mm_S r a = (1, 6) ∧ mm_E 133 86 ls (va_rf (mm_P r a 7) :: st) I r Q := me_gr mc_133 dX6_drift_83 (by decide +kernel) rfl
theorem e133_86 : mm_E 133 86 ls st I r Q ↔ mm_E 133 87 ls (.int 1 :: st) I r Q := me_ic mc_133 dX6_drift_86 (by decide)
theorem e133_87 : mm_E 133 87 ls (.int x :: .ref a :: st) I r Q ↔ mm_ix r a 2 x ∧ mm_E 133 88 ls (.int (mm_rd I a x.toNatClampNeg) :: st) I r Q := me_ia mc_133 dX6_drift_87
theorem e133_88 : mm_E 133 88 ls st I r Q ↔ mm_E 133 90 ls (.int 65536 :: st) I r Q := me_ldc mc_133 dX6_drift_88 (by decide +kernel)
theorem e133_90 : mm_E 133 90 ls (.int y :: .int x :: st) I r Q ↔ ¬ y = 0 ∧ mm_E 133 91 ls (.int (x / y) :: st) I r Q := me_idiv mc_133 dX6_drift_90
theorem e133_91 : mm_E 133 91 [some (.ref a), l1, l2] st I r Q ↔ mm_E 133 92 [some (.ref a), l1, l2] (.ref a :: st) I r Q := me_al mc_133 dX6_drift_91 rfl
theorem e133_92 : mm_E 133 92 ls (.ref a :: st) I r Q ↔ mm_S r a = (1, 6) ∧ mm_E 133 95 ls (va_rf (mm_P r a 7) :: st) I r Q := me_gr mc_133 dX6_drift_92 (by decide +kernel) rfl
theorem e133_95 : mm_E 133 95 ls st I r Q ↔ mm_E 133 97 ls (.int 27 :: st) I r Q := me_bi mc_133 dX6_drift_95 (by decide)
theorem e133_97 : mm_E 133 97 ls (.int x :: .ref a :: st) I r Q ↔ mm_ix r a 2 x ∧ mm_E 133 98 ls (.int (mm_rd I a x.toNatClampNeg) :: st) I r Q := me_ia mc_133 dX6_drift_97
theorem e133_98 : mm_E 133 98 ls (.int y :: .int x :: st) I r Q ↔ ¬ y = 0 ∧ mm_E 133 99 ls (.int (x - x / y * y) :: st) I r Q := me_irem mc_133 dX6_drift_98
theorem e133_99 : mm_E 133 99 ls (.int y :: .int x :: st) I r Q ↔ mm_E 133 100 ls (.int (x + y) :: st) I r Q := me_iadd mc_133 dX6_drift_99
theorem e133_100 : mm_E 133 100 [some (.ref a), l1, l2] st I r Q ↔ mm_E 133 101 [some (.ref a), l1, l2] (.ref a :: st) I r Q := me_al mc_133 dX6_drift_100 rfl
theorem e133_101 : mm_E 133 101 ls (.ref a :: st) I r Q ↔ mm_S r a = (1, 6) ∧ mm_E 133 104 ls (va_rf (mm_P r a 7) :: st) I r Q := me_gr mc_133 dX6_drift_101 (by decide +kernel) rfl
theorem e133_104 : mm_E 133 104 ls st I r Q ↔ mm_E 133 105 ls (.int 1 :: st) I r Q := me_ic mc_133 dX6_drift_104 (by decide)
theorem e133_105 : mm_E 133 105 ls (.int x :: .ref a :: st) I r Q ↔ mm_ix r a 2 x ∧ mm_E 133 106 ls (.int (mm_rd I a x.toNatClampNeg) :: st) I r Q := me_ia mc_133 dX6_drift_105
theorem e133_106 : mm_E 133 106 ls st I r Q ↔ mm_E 133 109 ls (.int 128 :: st) I r Q := me_si mc_133 dX6_drift_106 (by decide)
theorem e133_109 : mm_E 133 109 ls (.int y :: .int x :: st) I r Q ↔ ¬ y = 0 ∧ mm_E 133 110 ls (.int (x / y) :: st) I r Q := me_idiv mc_133 dX6_drift_109
theorem e133_110 : mm_E 133 110 ls st I r Q ↔ mm_E 133 112 ls (.int 21 :: st) I r Q := me_bi mc_133 dX6_drift_110 (by decide)
theorem e133_112 : mm_E 133 112 ls (.int y :: .int x :: st) I r Q ↔ ¬ y = 0 ∧ mm_E 133 113 ls (.int (x - x / y * y) :: st) I r Q := me_irem mc_133 dX6_drift_112
theorem e133_113 : mm_E 133 113 ls (.int y :: .int x :: .ref a :: st) I r Q ↔ mm_ix r a 2 x ∧ mm_E 133 114 ls st (mm_uI I a x.toNatClampNeg y) r Q := me_is mc_133 dX6_drift_113
theorem e133_114 : mm_E 133 114 [some (.ref a), l1, l2] st I r Q ↔ mm_E 133 115 [some (.ref a), l1, l2] (.ref a :: st) I r Q := me_al mc_133 dX6_drift_114 rfl
theorem e133_115 : mm_E 133 115 [some (.ref a), l1, l2] st I r Q ↔ mm_E 133 116 [some (.ref a), l1, l2] (.ref a :: st) I r Q := me_al mc_133 dX6_drift_115 rfl
theorem e133_116 : mm_E 133 116 ls (.ref a :: st) I r Q ↔ mm_S r a = (1, 6) ∧ mm_E 133 119 ls (va_rf (mm_P r a 7) :: st) I r Q := me_gr mc_133 dX6_drift_116 (by decide +kernel) rfl
theorem e133_119 : mm_E 133 119 ls st I r Q ↔ mm_E 133 120 ls (.int 0 :: st) I r Q := me_ic mc_133 dX6_drift_119 (by decide)
theorem e133_120 : ∀ (x0 : Nat) (x1 : Int32), (mm_E 133 120 ls (.int x1 :: .ref x0 :: .ref a :: st) I r Q ↔ (mm_w8 st = true ∧ mm_S r a = (1, 6)) ∧ mm_E 127 0 [some (.ref a), some (.ref x0), some (.int x1), none, none, none] [] I r (fun v I2 r2 => mm_E 133 123 ls (mm_pu v st) I2 r2 Q)) := fun x0 x1 => me_vc (n := 2) (As := [.ref x0, .int x1]) (xs := [.int x1, .ref x0]) (a := a) mc_133 dX6_drift_120 (by decide +kernel) (by decide +kernel) rfl rfl (Nat.le_of_ble_eq_true rfl) rfl
theorem e133_123 : mm_E 133 123 [l0, l1, some (.int x)] st I r Q ↔ mm_c1 l1 ∧ mm_E 133 126 [l0, l1, some (.int (x + 1))] st I r Q := me_st (k := 2) (v := .int (x + 1)) mc_133 dX6_drift_123 rfl rfl (Nat.le_of_ble_eq_true rfl) rfl ⟨Or.inr, fun h => h.resolve_left (by decide)⟩
theorem e133_126 : mm_E 133 126 ls st I r Q ↔ mm_E 133 31 ls st I r Q := me_goto mc_133 dX6_drift_126 (by decide)
theorem e133_129 : mm_E 133 129 [some (.ref a), l1, l2] st I r Q ↔ mm_E 133 130 [some (.ref a), l1, l2] (.ref a :: st) I r Q := me_al mc_133 dX6_drift_129 rfl
theorem e133_130 : mm_E 133 130 ls (.ref a :: st) I r Q ↔ mm_S r a = (1, 6) ∧ mm_E 133 133 ls (va_rf (mm_P r a 7) :: st) I r Q := me_gr mc_133 dX6_drift_130 (by decide +kernel) rfl
theorem e133_133 : ∀ (x0 : Nat), (mm_E 133 133 ls (.ref x0 :: st) I r Q ↔ mm_w8 st = true ∧ mm_E 119 0 [some (.ref x0), none, none] [] I r (fun v I2 r2 => mm_E 133 136 ls (mm_pu v st) I2 r2 Q)) := fun x0 => me_sc (n := 1) (As := [.ref x0]) (xs := [.ref x0]) mc_133 dX6_drift_133 (by decide +kernel) (by decide +kernel) rfl rfl (Nat.le_of_ble_eq_true rfl) rfl
theorem e133_136 : mm_E 133 136 ls [.int x] I r Q ↔ Q (some (.int x)) I r := me_ri mc_133 dX6_drift_136 rfl
theorem mc_134 : mm_c 134 = cX6_undo := rfl
theorem e134_0 : mm_E 134 0 [some (.ref a)] st I r Q ↔ mm_E 134 1 [some (.ref a)] (.ref a :: st) I r Q := me_al mc_134 dX6_undo_0 rfl
theorem e134_1 : mm_E 134 1 ls (.ref a :: st) I r Q ↔ mm_S r a = (1, 6) ∧ mm_E 134 4 ls (va_rf (mm_P r a 7) :: st) I r Q := me_gr mc_134 dX6_undo_1 (by decide +kernel) rfl
theorem e134_4 : mm_E 134 4 ls st I r Q ↔ mm_E 134 6 ls (.int 39 :: st) I r Q := me_bi mc_134 dX6_undo_4 (by decide)
theorem e134_6 : mm_E 134 6 ls (.int x :: .ref a :: st) I r Q ↔ mm_ix r a 2 x ∧ mm_E 134 7 ls (.int (mm_rd I a x.toNatClampNeg) :: st) I r Q := me_ia mc_134 dX6_undo_6
theorem e134_7 : mm_E 134 7 ls (.int x :: st) I r Q ↔ if ¬ x = 0 then mm_E 134 13 ls st I r Q else mm_E 134 10 ls st I r Q := me_zne mc_134 dX6_undo_7 (by decide)
theorem e134_10 : mm_E 134 10 ls st I r Q ↔ mm_E 134 12 ls (.int (-4) :: st) I r Q := me_bi mc_134 dX6_undo_10 (by decide)
theorem e134_12 : mm_E 134 12 ls [.int x] I r Q ↔ Q (some (.int x)) I r := me_ri mc_134 dX6_undo_12 rfl
theorem e134_13 : mm_E 134 13 [some (.ref a)] st I r Q ↔ mm_E 134 14 [some (.ref a)] (.ref a :: st) I r Q := me_al mc_134 dX6_undo_13 rfl
theorem e134_14 : mm_E 134 14 ls (.ref a :: st) I r Q ↔ mm_S r a = (1, 6) ∧ mm_E 134 17 ls (va_rf (mm_P r a 7) :: st) I r Q := me_gr mc_134 dX6_undo_14 (by decide +kernel) rfl
theorem e134_17 : mm_E 134 17 ls st I r Q ↔ mm_E 134 19 ls (.int 39 :: st) I r Q := me_bi mc_134 dX6_undo_17 (by decide)
theorem e134_19 : mm_E 134 19 ls (u :: v :: st) I r Q ↔ (v.category = 1 ∧ u.category = 1) ∧ mm_E 134 20 ls (u :: v :: u :: v :: st) I r Q := me_dup2 mc_134 dX6_undo_19
theorem e134_20 : mm_E 134 20 ls (.int x :: .ref a :: st) I r Q ↔ mm_ix r a 2 x ∧ mm_E 134 21 ls (.int (mm_rd I a x.toNatClampNeg) :: st) I r Q := me_ia mc_134 dX6_undo_20
theorem e134_21 : mm_E 134 21 ls st I r Q ↔ mm_E 134 22 ls (.int 1 :: st) I r Q := me_ic mc_134 dX6_undo_21 (by decide)
theorem e134_22 : mm_E 134 22 ls (.int y :: .int x :: st) I r Q ↔ mm_E 134 23 ls (.int (x - y) :: st) I r Q := me_isub mc_134 dX6_undo_22
theorem e134_23 : mm_E 134 23 ls (.int y :: .int x :: .ref a :: st) I r Q ↔ mm_ix r a 2 x ∧ mm_E 134 24 ls st (mm_uI I a x.toNatClampNeg y) r Q := me_is mc_134 dX6_undo_23
theorem e134_24 : mm_E 134 24 [some (.ref a)] st I r Q ↔ mm_E 134 25 [some (.ref a)] (.ref a :: st) I r Q := me_al mc_134 dX6_undo_24 rfl
theorem e134_25 : mm_E 134 25 ls (.ref a :: st) I r Q ↔ mm_S r a = (1, 6) ∧ mm_E 134 28 ls (va_rf (mm_P r a 7) :: st) I r Q := me_gr mc_134 dX6_undo_25 (by decide +kernel) rfl
theorem e134_28 : mm_E 134 28 ls st I r Q ↔ mm_E 134 30 ls (.int 40 :: st) I r Q := me_bi mc_134 dX6_undo_28 (by decide)
theorem e134_30 : mm_E 134 30 ls st I r Q ↔ mm_E 134 32 ls (.int 26 :: st) I r Q := me_bi mc_134 dX6_undo_30 (by decide)
theorem e134_32 : mm_E 134 32 [some (.ref a)] st I r Q ↔ mm_E 134 33 [some (.ref a)] (.ref a :: st) I r Q := me_al mc_134 dX6_undo_32 rfl
theorem e134_33 : mm_E 134 33 ls (.ref a :: st) I r Q ↔ mm_S r a = (1, 6) ∧ mm_E 134 36 ls (va_rf (mm_P r a 7) :: st) I r Q := me_gr mc_134 dX6_undo_33 (by decide +kernel) rfl
theorem e134_36 : mm_E 134 36 ls st I r Q ↔ mm_E 134 38 ls (.int 39 :: st) I r Q := me_bi mc_134 dX6_undo_36 (by decide)
theorem e134_38 : mm_E 134 38 ls (.int x :: .ref a :: st) I r Q ↔ mm_ix r a 2 x ∧ mm_E 134 39 ls (.int (mm_rd I a x.toNatClampNeg) :: st) I r Q := me_ia mc_134 dX6_undo_38
theorem e134_39 : mm_E 134 39 ls (.int y :: .int x :: st) I r Q ↔ mm_E 134 40 ls (.int (x * y) :: st) I r Q := me_imul mc_134 dX6_undo_39
theorem e134_40 : mm_E 134 40 ls (.int y :: .int x :: st) I r Q ↔ mm_E 134 41 ls (.int (x + y) :: st) I r Q := me_iadd mc_134 dX6_undo_40
theorem e134_41 : mm_E 134 41 [some (.ref a)] st I r Q ↔ mm_E 134 42 [some (.ref a)] (.ref a :: st) I r Q := me_al mc_134 dX6_undo_41 rfl
theorem e134_42 : mm_E 134 42 ls (.ref a :: st) I r Q ↔ mm_S r a = (1, 6) ∧ mm_E 134 45 ls (va_rf (mm_P r a 7) :: st) I r Q := me_gr mc_134 dX6_undo_42 (by decide +kernel) rfl
theorem e134_45 : mm_E 134 45 ls st I r Q ↔ mm_E 134 46 ls (.int 0 :: st) I r Q := me_ic mc_134 dX6_undo_45 (by decide)
theorem e134_46 : mm_E 134 46 ls st I r Q ↔ mm_E 134 48 ls (.int 26 :: st) I r Q := me_bi mc_134 dX6_undo_46 (by decide)
theorem e134_48 : ∀ (x0 : Nat) (x1 : Int32) (x2 : Nat) (x3 : Int32) (x4 : Int32), (mm_E 134 48 ls (.int x4 :: .int x3 :: .ref x2 :: .int x1 :: .ref x0 :: st) I r Q ↔ mm_w8 st = true ∧ mm_E 96 0 [some (.ref x0), some (.int x1), some (.ref x2), some (.int x3), some (.int x4), none] [] I r (fun v I2 r2 => mm_E 134 51 ls (mm_pu v st) I2 r2 Q)) := fun x0 x1 x2 x3 x4 => me_sc (n := 5) (As := [.ref x0, .int x1, .ref x2, .int x3, .int x4]) (xs := [.int x4, .int x3, .ref x2, .int x1, .ref x0]) mc_134 dX6_undo_48 (by decide +kernel) (by decide +kernel) rfl rfl (Nat.le_of_ble_eq_true rfl) rfl
theorem e134_51 : mm_E 134 51 [some (.ref a)] st I r Q ↔ mm_E 134 52 [some (.ref a)] (.ref a :: st) I r Q := me_al mc_134 dX6_undo_51 rfl
theorem e134_52 : mm_E 134 52 ls (.ref a :: st) I r Q ↔ mm_S r a = (1, 6) ∧ mm_E 134 55 ls (va_rf (mm_P r a 7) :: st) I r Q := me_gr mc_134 dX6_undo_52 (by decide +kernel) rfl
theorem e134_55 : mm_E 134 55 ls st I r Q ↔ mm_E 134 57 ls (.int 39 :: st) I r Q := me_bi mc_134 dX6_undo_55 (by decide)
theorem e134_57 : mm_E 134 57 ls (.int x :: .ref a :: st) I r Q ↔ mm_ix r a 2 x ∧ mm_E 134 58 ls (.int (mm_rd I a x.toNatClampNeg) :: st) I r Q := me_ia mc_134 dX6_undo_57
theorem e134_58 : mm_E 134 58 ls [.int x] I r Q ↔ Q (some (.int x)) I r := me_ri mc_134 dX6_undo_58 rfl
theorem mc_135 : mm_c 135 = cX6_seed := rfl
theorem e135_0 : mm_E 135 0 [l0, some (.int x), l2] st I r Q ↔ mm_E 135 1 [l0, some (.int x), l2] (.int x :: st) I r Q := me_il mc_135 dX6_seed_0 rfl
theorem e135_1 : mm_E 135 1 ls (.int x :: st) I r Q ↔ if 0 ≤ x then mm_E 135 6 ls st I r Q else mm_E 135 4 ls st I r Q := me_zge mc_135 dX6_seed_1 (by decide)
theorem e135_4 : mm_E 135 4 ls st I r Q ↔ mm_E 135 5 ls (.int (-1) :: st) I r Q := me_ic mc_135 dX6_seed_4 (by decide)
theorem e135_5 : mm_E 135 5 ls [.int x] I r Q ↔ Q (some (.int x)) I r := me_ri mc_135 dX6_seed_5 rfl
theorem e135_6 : mm_E 135 6 [some (.ref a), l1, l2] st I r Q ↔ mm_E 135 7 [some (.ref a), l1, l2] (.ref a :: st) I r Q := me_al mc_135 dX6_seed_6 rfl
theorem e135_7 : mm_E 135 7 ls (.ref a :: st) I r Q ↔ mm_S r a = (1, 6) ∧ mm_E 135 10 ls (va_rf (mm_P r a 7) :: st) I r Q := me_gr mc_135 dX6_seed_7 (by decide +kernel) rfl
theorem e135_10 : mm_E 135 10 ls st I r Q ↔ mm_E 135 11 ls (.int 1 :: st) I r Q := me_ic mc_135 dX6_seed_10 (by decide)
theorem e135_11 : mm_E 135 11 ls (.int x :: .ref a :: st) I r Q ↔ mm_ix r a 2 x ∧ mm_E 135 12 ls (.int (mm_rd I a x.toNatClampNeg) :: st) I r Q := me_ia mc_135 dX6_seed_11
theorem e135_12 : mm_E 135 12 [l0, l1, l2] (.int x :: st) I r Q ↔ mm_c1 l1 ∧ mm_E 135 13 [l0, l1, some (.int x)] st I r Q := me_st (k := 2) (v := .int x) mc_135 dX6_seed_12 rfl rfl (Nat.le_of_ble_eq_true rfl) rfl ⟨Or.inr, fun h => h.resolve_left (by decide)⟩
theorem e135_13 : mm_E 135 13 [some (.ref a), l1, l2] st I r Q ↔ mm_E 135 14 [some (.ref a), l1, l2] (.ref a :: st) I r Q := me_al mc_135 dX6_seed_13 rfl
theorem e135_14 : mm_E 135 14 ls (.ref a :: st) I r Q ↔ mm_S r a = (1, 6) ∧ mm_E 135 17 ls (va_rf (mm_P r a 7) :: st) I r Q := me_gr mc_135 dX6_seed_14 (by decide +kernel) rfl
theorem e135_17 : mm_E 135 17 ls st I r Q ↔ mm_E 135 18 ls (.int 1 :: st) I r Q := me_ic mc_135 dX6_seed_17 (by decide)
theorem e135_18 : mm_E 135 18 [l0, some (.int x), l2] st I r Q ↔ mm_E 135 19 [l0, some (.int x), l2] (.int x :: st) I r Q := me_il mc_135 dX6_seed_18 rfl
theorem e135_19 : mm_E 135 19 ls (.int y :: .int x :: .ref a :: st) I r Q ↔ mm_ix r a 2 x ∧ mm_E 135 20 ls st (mm_uI I a x.toNatClampNeg y) r Q := me_is mc_135 dX6_seed_19
theorem e135_20 : mm_E 135 20 [l0, l1, some (.int x)] st I r Q ↔ mm_E 135 21 [l0, l1, some (.int x)] (.int x :: st) I r Q := me_il mc_135 dX6_seed_20 rfl
theorem e135_21 : mm_E 135 21 ls [.int x] I r Q ↔ Q (some (.int x)) I r := me_ri mc_135 dX6_seed_21 rfl
theorem mc_136 : mm_c 136 = cX6_begin := rfl
theorem e136_0 : mm_E 136 0 [some (.ref a), l1] st I r Q ↔ mm_E 136 1 [some (.ref a), l1] (.ref a :: st) I r Q := me_al mc_136 dX6_begin_0 rfl
theorem e136_1 : mm_E 136 1 ls (.ref a :: st) I r Q ↔ mm_S r a = (1, 6) ∧ mm_E 136 4 ls (va_rf (mm_P r a 7) :: st) I r Q := me_gr mc_136 dX6_begin_1 (by decide +kernel) rfl
theorem e136_4 : mm_E 136 4 ls st I r Q ↔ mm_E 136 5 ls (.int 0 :: st) I r Q := me_ic mc_136 dX6_begin_4 (by decide)
theorem e136_5 : mm_E 136 5 [some (.ref a), l1] st I r Q ↔ mm_E 136 6 [some (.ref a), l1] (.ref a :: st) I r Q := me_al mc_136 dX6_begin_5 rfl
theorem e136_6 : mm_E 136 6 ls (.ref a :: st) I r Q ↔ mm_S r a = (1, 6) ∧ mm_E 136 9 ls (va_rf (mm_P r a 8) :: st) I r Q := me_gr mc_136 dX6_begin_6 (by decide +kernel) rfl
theorem e136_9 : mm_E 136 9 ls st I r Q ↔ mm_E 136 10 ls (.int 0 :: st) I r Q := me_ic mc_136 dX6_begin_9 (by decide)
theorem e136_10 : mm_E 136 10 ls st I r Q ↔ mm_E 136 13 ls (.int 248 :: st) I r Q := me_si mc_136 dX6_begin_10 (by decide)
theorem e136_13 : ∀ (x0 : Nat) (x1 : Int32) (x2 : Nat) (x3 : Int32) (x4 : Int32), (mm_E 136 13 ls (.int x4 :: .int x3 :: .ref x2 :: .int x1 :: .ref x0 :: st) I r Q ↔ mm_w8 st = true ∧ mm_E 96 0 [some (.ref x0), some (.int x1), some (.ref x2), some (.int x3), some (.int x4), none] [] I r (fun v I2 r2 => mm_E 136 16 ls (mm_pu v st) I2 r2 Q)) := fun x0 x1 x2 x3 x4 => me_sc (n := 5) (As := [.ref x0, .int x1, .ref x2, .int x3, .int x4]) (xs := [.int x4, .int x3, .ref x2, .int x1, .ref x0]) mc_136 dX6_begin_13 (by decide +kernel) (by decide +kernel) rfl rfl (Nat.le_of_ble_eq_true rfl) rfl
theorem e136_16 : mm_E 136 16 ls st I r Q ↔ mm_E 136 17 ls (.int 0 :: st) I r Q := me_ic mc_136 dX6_begin_16 (by decide)
theorem e136_17 : mm_E 136 17 [l0, l1] (.int x :: st) I r Q ↔ mm_c1 l0 ∧ mm_E 136 18 [l0, some (.int x)] st I r Q := me_st (k := 1) (v := .int x) mc_136 dX6_begin_17 rfl rfl (Nat.le_of_ble_eq_true rfl) rfl ⟨Or.inr, fun h => h.resolve_left (by decide)⟩
theorem e136_18 : mm_E 136 18 [l0, some (.int x)] st I r Q ↔ mm_E 136 19 [l0, some (.int x)] (.int x :: st) I r Q := me_il mc_136 dX6_begin_18 rfl
theorem e136_19 : mm_E 136 19 ls st I r Q ↔ mm_E 136 21 ls (.int 6 :: st) I r Q := me_bi mc_136 dX6_begin_19 (by decide)
theorem e136_21 : mm_E 136 21 ls (.int y :: .int x :: st) I r Q ↔ if y ≤ x then mm_E 136 37 ls st I r Q else mm_E 136 24 ls st I r Q := me_cge mc_136 dX6_begin_21 (by decide)
theorem e136_24 : mm_E 136 24 [some (.ref a), l1] st I r Q ↔ mm_E 136 25 [some (.ref a), l1] (.ref a :: st) I r Q := me_al mc_136 dX6_begin_24 rfl
theorem e136_25 : mm_E 136 25 ls (.ref a :: st) I r Q ↔ mm_S r a = (1, 6) ∧ mm_E 136 28 ls (va_rf (mm_P r a 13) :: st) I r Q := me_gr mc_136 dX6_begin_25 (by decide +kernel) rfl
theorem e136_28 : mm_E 136 28 [l0, some (.int x)] st I r Q ↔ mm_E 136 29 [l0, some (.int x)] (.int x :: st) I r Q := me_il mc_136 dX6_begin_28 rfl
theorem e136_29 : mm_E 136 29 ls st I r Q ↔ mm_E 136 30 ls (.int 0 :: st) I r Q := me_ic mc_136 dX6_begin_29 (by decide)
theorem e136_30 : mm_E 136 30 ls (.int y :: .int x :: .ref a :: st) I r Q ↔ mm_ix r a 2 x ∧ mm_E 136 31 ls st (mm_uI I a x.toNatClampNeg y) r Q := me_is mc_136 dX6_begin_30
theorem e136_31 : mm_E 136 31 [l0, some (.int x)] st I r Q ↔ mm_c1 l0 ∧ mm_E 136 34 [l0, some (.int (x + 1))] st I r Q := me_st (k := 1) (v := .int (x + 1)) mc_136 dX6_begin_31 rfl rfl (Nat.le_of_ble_eq_true rfl) rfl ⟨Or.inr, fun h => h.resolve_left (by decide)⟩
theorem e136_34 : mm_E 136 34 ls st I r Q ↔ mm_E 136 18 ls st I r Q := me_goto mc_136 dX6_begin_34 (by decide)
theorem e136_37 : mm_E 136 37 ls [] I r Q ↔ Q none I r := me_rv mc_136 dX6_begin_37 rfl
theorem mc_137 : mm_c 137 = cX6_goOn := rfl
theorem e137_0 : mm_E 137 0 ls st I r Q ↔ mm_E 137 1 ls (.int 0 :: st) I r Q := me_ic mc_137 dX6_goOn_0 (by decide)
theorem e137_1 : mm_E 137 1 [l0, l1, l2] (.int x :: st) I r Q ↔ mm_c1 l1 ∧ mm_E 137 2 [l0, l1, some (.int x)] st I r Q := me_st (k := 2) (v := .int x) mc_137 dX6_goOn_1 rfl rfl (Nat.le_of_ble_eq_true rfl) rfl ⟨Or.inr, fun h => h.resolve_left (by decide)⟩
theorem e137_2 : mm_E 137 2 [l0, l1, some (.int x)] st I r Q ↔ mm_E 137 3 [l0, l1, some (.int x)] (.int x :: st) I r Q := me_il mc_137 dX6_goOn_2 rfl
theorem e137_3 : mm_E 137 3 [l0, some (.int x), l2] st I r Q ↔ mm_E 137 4 [l0, some (.int x), l2] (.int x :: st) I r Q := me_il mc_137 dX6_goOn_3 rfl
theorem e137_4 : mm_E 137 4 ls (.int y :: .int x :: st) I r Q ↔ if y ≤ x then mm_E 137 22 ls st I r Q else mm_E 137 7 ls st I r Q := me_cge mc_137 dX6_goOn_4 (by decide)
theorem e137_7 : mm_E 137 7 [some (.ref a), l1, l2] st I r Q ↔ mm_E 137 8 [some (.ref a), l1, l2] (.ref a :: st) I r Q := me_al mc_137 dX6_goOn_7 rfl
theorem e137_8 : mm_E 137 8 [some (.ref a), l1, l2] st I r Q ↔ mm_E 137 9 [some (.ref a), l1, l2] (.ref a :: st) I r Q := me_al mc_137 dX6_goOn_8 rfl
theorem e137_9 : mm_E 137 9 ls (.ref a :: st) I r Q ↔ mm_S r a = (1, 6) ∧ mm_E 137 12 ls (va_rf (mm_P r a 8) :: st) I r Q := me_gr mc_137 dX6_goOn_9 (by decide +kernel) rfl
theorem e137_12 : mm_E 137 12 ls st I r Q ↔ mm_E 137 13 ls (.int 0 :: st) I r Q := me_ic mc_137 dX6_goOn_12 (by decide)
theorem e137_13 : ∀ (x0 : Nat) (x1 : Int32), (mm_E 137 13 ls (.int x1 :: .ref x0 :: .ref a :: st) I r Q ↔ (mm_w8 st = true ∧ mm_S r a = (1, 6)) ∧ mm_E 127 0 [some (.ref a), some (.ref x0), some (.int x1), none, none, none] [] I r (fun v I2 r2 => mm_E 137 16 ls (mm_pu v st) I2 r2 Q)) := fun x0 x1 => me_vc (n := 2) (As := [.ref x0, .int x1]) (xs := [.int x1, .ref x0]) (a := a) mc_137 dX6_goOn_13 (by decide +kernel) (by decide +kernel) rfl rfl (Nat.le_of_ble_eq_true rfl) rfl
theorem e137_16 : mm_E 137 16 [l0, l1, some (.int x)] st I r Q ↔ mm_c1 l1 ∧ mm_E 137 19 [l0, l1, some (.int (x + 1))] st I r Q := me_st (k := 2) (v := .int (x + 1)) mc_137 dX6_goOn_16 rfl rfl (Nat.le_of_ble_eq_true rfl) rfl ⟨Or.inr, fun h => h.resolve_left (by decide)⟩
theorem e137_19 : mm_E 137 19 ls st I r Q ↔ mm_E 137 2 ls st I r Q := me_goto mc_137 dX6_goOn_19 (by decide)
theorem e137_22 : mm_E 137 22 ls [] I r Q ↔ Q none I r := me_rv mc_137 dX6_goOn_22 rfl
theorem mc_138 : mm_c 138 = cX6_ahead := rfl
theorem e138_0 : mm_E 138 0 [some (.ref a), l1, l2, l3] st I r Q ↔ mm_E 138 1 [some (.ref a), l1, l2, l3] (.ref a :: st) I r Q := me_al mc_138 dX6_ahead_0 rfl
theorem e138_1 : mm_E 138 1 [l0, some (.int x), l2, l3] st I r Q ↔ mm_E 138 2 [l0, some (.int x), l2, l3] (.int x :: st) I r Q := me_il mc_138 dX6_ahead_1 rfl
theorem e138_2 : ∀ (x0 : Int32), (mm_E 138 2 ls (.int x0 :: .ref a :: st) I r Q ↔ (mm_w8 st = true ∧ mm_S r a = (1, 6)) ∧ mm_E 97 0 [some (.ref a), some (.int x0)] [] I r (fun v I2 r2 => mm_E 138 5 ls (mm_pu v st) I2 r2 Q)) := fun x0 => me_vc (n := 1) (As := [.int x0]) (xs := [.int x0]) (a := a) mc_138 dX6_ahead_2 (by decide +kernel) (by decide +kernel) rfl rfl (Nat.le_of_ble_eq_true rfl) rfl
theorem e138_5 : mm_E 138 5 ls (.int x :: st) I r Q ↔ if x = 0 then mm_E 138 27 ls st I r Q else mm_E 138 8 ls st I r Q := me_zeq mc_138 dX6_ahead_5 (by decide)
theorem e138_8 : mm_E 138 8 [l0, l1, some (.int x), l3] st I r Q ↔ mm_E 138 9 [l0, l1, some (.int x), l3] (.int x :: st) I r Q := me_il mc_138 dX6_ahead_8 rfl
theorem e138_9 : mm_E 138 9 ls st I r Q ↔ mm_E 138 10 ls (.int 0 :: st) I r Q := me_ic mc_138 dX6_ahead_9 (by decide)
theorem e138_10 : mm_E 138 10 ls st I r Q ↔ mm_E 138 12 ls (.int 60 :: st) I r Q := me_bi mc_138 dX6_ahead_10 (by decide)
theorem e138_12 : ∀ (x0 : Int32) (x1 : Int32) (x2 : Int32), (mm_E 138 12 ls (.int x2 :: .int x1 :: .int x0 :: st) I r Q ↔ mm_w8 st = true ∧ mm_E 93 0 [some (.int x0), some (.int x1), some (.int x2)] [] I r (fun v I2 r2 => mm_E 138 15 ls (mm_pu v st) I2 r2 Q)) := fun x0 x1 x2 => me_sc (n := 3) (As := [.int x0, .int x1, .int x2]) (xs := [.int x2, .int x1, .int x0]) mc_138 dX6_ahead_12 (by decide +kernel) (by decide +kernel) rfl rfl (Nat.le_of_ble_eq_true rfl) rfl
theorem e138_15 : mm_E 138 15 ls (.int x :: st) I r Q ↔ if x = 0 then mm_E 138 27 ls st I r Q else mm_E 138 18 ls st I r Q := me_zeq mc_138 dX6_ahead_15 (by decide)
theorem e138_18 : mm_E 138 18 [l0, l1, l2, some (.int x)] st I r Q ↔ mm_E 138 19 [l0, l1, l2, some (.int x)] (.int x :: st) I r Q := me_il mc_138 dX6_ahead_18 rfl
theorem e138_19 : mm_E 138 19 ls st I r Q ↔ mm_E 138 20 ls (.int 0 :: st) I r Q := me_ic mc_138 dX6_ahead_19 (by decide)
theorem e138_20 : mm_E 138 20 ls st I r Q ↔ mm_E 138 21 ls (.int 1 :: st) I r Q := me_ic mc_138 dX6_ahead_20 (by decide)
theorem e138_21 : ∀ (x0 : Int32) (x1 : Int32) (x2 : Int32), (mm_E 138 21 ls (.int x2 :: .int x1 :: .int x0 :: st) I r Q ↔ mm_w8 st = true ∧ mm_E 93 0 [some (.int x0), some (.int x1), some (.int x2)] [] I r (fun v I2 r2 => mm_E 138 24 ls (mm_pu v st) I2 r2 Q)) := fun x0 x1 x2 => me_sc (n := 3) (As := [.int x0, .int x1, .int x2]) (xs := [.int x2, .int x1, .int x0]) mc_138 dX6_ahead_21 (by decide +kernel) (by decide +kernel) rfl rfl (Nat.le_of_ble_eq_true rfl) rfl
theorem e138_24 : mm_E 138 24 ls (.int x :: st) I r Q ↔ if ¬ x = 0 then mm_E 138 29 ls st I r Q else mm_E 138 27 ls st I r Q := me_zne mc_138 dX6_ahead_24 (by decide)
theorem e138_27 : mm_E 138 27 ls st I r Q ↔ mm_E 138 28 ls (.int (-1) :: st) I r Q := me_ic mc_138 dX6_ahead_27 (by decide)
theorem e138_28 : mm_E 138 28 ls [.int x] I r Q ↔ Q (some (.int x)) I r := me_ri mc_138 dX6_ahead_28 rfl
theorem e138_29 : mm_E 138 29 [some (.ref a), l1, l2, l3] st I r Q ↔ mm_E 138 30 [some (.ref a), l1, l2, l3] (.ref a :: st) I r Q := me_al mc_138 dX6_ahead_29 rfl
theorem e138_30 : (mm_E 138 30 ls (.ref a :: st) I r Q ↔ (mm_w8 st = true ∧ mm_S r a = (1, 6)) ∧ mm_E 136 0 [some (.ref a), none] [] I r (fun v I2 r2 => mm_E 138 33 ls (mm_pu v st) I2 r2 Q)) := me_vc (n := 0) (As := []) (xs := []) (a := a) mc_138 dX6_ahead_30 (by decide +kernel) (by decide +kernel) rfl rfl (Nat.le_of_ble_eq_true rfl) rfl
theorem e138_33 : mm_E 138 33 [some (.ref a), l1, l2, l3] st I r Q ↔ mm_E 138 34 [some (.ref a), l1, l2, l3] (.ref a :: st) I r Q := me_al mc_138 dX6_ahead_33 rfl
theorem e138_34 : mm_E 138 34 [l0, l1, some (.int x), l3] st I r Q ↔ mm_E 138 35 [l0, l1, some (.int x), l3] (.int x :: st) I r Q := me_il mc_138 dX6_ahead_34 rfl
theorem e138_35 : ∀ (x0 : Int32), (mm_E 138 35 ls (.int x0 :: .ref a :: st) I r Q ↔ (mm_w8 st = true ∧ mm_S r a = (1, 6)) ∧ mm_E 137 0 [some (.ref a), some (.int x0), none] [] I r (fun v I2 r2 => mm_E 138 38 ls (mm_pu v st) I2 r2 Q)) := fun x0 => me_vc (n := 1) (As := [.int x0]) (xs := [.int x0]) (a := a) mc_138 dX6_ahead_35 (by decide +kernel) (by decide +kernel) rfl rfl (Nat.le_of_ble_eq_true rfl) rfl
theorem e138_38 : mm_E 138 38 [l0, l1, l2, some (.int x)] st I r Q ↔ mm_E 138 39 [l0, l1, l2, some (.int x)] (.int x :: st) I r Q := me_il mc_138 dX6_ahead_38 rfl
theorem e138_39 : mm_E 138 39 ls (.int x :: st) I r Q ↔ if ¬ x = 0 then mm_E 138 53 ls st I r Q else mm_E 138 42 ls st I r Q := me_zne mc_138 dX6_ahead_39 (by decide)
theorem e138_42 : mm_E 138 42 [some (.ref a), l1, l2, l3] st I r Q ↔ mm_E 138 43 [some (.ref a), l1, l2, l3] (.ref a :: st) I r Q := me_al mc_138 dX6_ahead_42 rfl
theorem e138_43 : mm_E 138 43 ls (.ref a :: st) I r Q ↔ mm_S r a = (1, 6) ∧ mm_E 138 46 ls (va_rf (mm_P r a 8) :: st) I r Q := me_gr mc_138 dX6_ahead_43 (by decide +kernel) rfl
theorem e138_46 : mm_E 138 46 ls st I r Q ↔ mm_E 138 47 ls (.int 3 :: st) I r Q := me_ic mc_138 dX6_ahead_46 (by decide)
theorem e138_47 : mm_E 138 47 [l0, some (.int x), l2, l3] st I r Q ↔ mm_E 138 48 [l0, some (.int x), l2, l3] (.int x :: st) I r Q := me_il mc_138 dX6_ahead_47 rfl
theorem e138_48 : mm_E 138 48 ls (.int y :: .int x :: st) I r Q ↔ mm_E 138 49 ls (.int (x + y) :: st) I r Q := me_iadd mc_138 dX6_ahead_48
theorem e138_49 : mm_E 138 49 ls (.int x :: .ref a :: st) I r Q ↔ mm_ix r a 2 x ∧ mm_E 138 50 ls (.int (mm_rd I a x.toNatClampNeg) :: st) I r Q := me_ia mc_138 dX6_ahead_49
theorem e138_50 : mm_E 138 50 ls st I r Q ↔ mm_E 138 62 ls st I r Q := me_goto mc_138 dX6_ahead_50 (by decide)
theorem e138_53 : mm_E 138 53 [some (.ref a), l1, l2, l3] st I r Q ↔ mm_E 138 54 [some (.ref a), l1, l2, l3] (.ref a :: st) I r Q := me_al mc_138 dX6_ahead_53 rfl
theorem e138_54 : mm_E 138 54 ls (.ref a :: st) I r Q ↔ mm_S r a = (1, 6) ∧ mm_E 138 57 ls (va_rf (mm_P r a 8) :: st) I r Q := me_gr mc_138 dX6_ahead_54 (by decide +kernel) rfl
theorem e138_57 : mm_E 138 57 ls st I r Q ↔ mm_E 138 59 ls (.int 15 :: st) I r Q := me_bi mc_138 dX6_ahead_57 (by decide)
theorem e138_59 : mm_E 138 59 [l0, some (.int x), l2, l3] st I r Q ↔ mm_E 138 60 [l0, some (.int x), l2, l3] (.int x :: st) I r Q := me_il mc_138 dX6_ahead_59 rfl
theorem e138_60 : mm_E 138 60 ls (.int y :: .int x :: st) I r Q ↔ mm_E 138 61 ls (.int (x + y) :: st) I r Q := me_iadd mc_138 dX6_ahead_60
theorem e138_61 : mm_E 138 61 ls (.int x :: .ref a :: st) I r Q ↔ mm_ix r a 2 x ∧ mm_E 138 62 ls (.int (mm_rd I a x.toNatClampNeg) :: st) I r Q := me_ia mc_138 dX6_ahead_61
theorem e138_62 : mm_E 138 62 ls [.int x] I r Q ↔ Q (some (.int x)) I r := me_ri mc_138 dX6_ahead_62 rfl
theorem mc_139 : mm_c 139 = cX6_where := rfl
theorem e139_0 : mm_E 139 0 [some (.ref a), l1, l2] st I r Q ↔ mm_E 139 1 [some (.ref a), l1, l2] (.ref a :: st) I r Q := me_al mc_139 dX6_where_0 rfl
theorem e139_1 : mm_E 139 1 [l0, some (.int x), l2] st I r Q ↔ mm_E 139 2 [l0, some (.int x), l2] (.int x :: st) I r Q := me_il mc_139 dX6_where_1 rfl
theorem e139_2 : ∀ (x0 : Int32), (mm_E 139 2 ls (.int x0 :: .ref a :: st) I r Q ↔ (mm_w8 st = true ∧ mm_S r a = (1, 6)) ∧ mm_E 98 0 [some (.ref a), some (.int x0)] [] I r (fun v I2 r2 => mm_E 139 5 ls (mm_pu v st) I2 r2 Q)) := fun x0 => me_vc (n := 1) (As := [.int x0]) (xs := [.int x0]) (a := a) mc_139 dX6_where_2 (by decide +kernel) (by decide +kernel) rfl rfl (Nat.le_of_ble_eq_true rfl) rfl
theorem e139_5 : mm_E 139 5 ls (.int x :: st) I r Q ↔ if x = 0 then mm_E 139 18 ls st I r Q else mm_E 139 8 ls st I r Q := me_zeq mc_139 dX6_where_5 (by decide)
theorem e139_8 : mm_E 139 8 [l0, l1, some (.int x)] st I r Q ↔ mm_E 139 9 [l0, l1, some (.int x)] (.int x :: st) I r Q := me_il mc_139 dX6_where_8 rfl
theorem e139_9 : mm_E 139 9 ls st I r Q ↔ mm_E 139 10 ls (.int 0 :: st) I r Q := me_ic mc_139 dX6_where_9 (by decide)
theorem e139_10 : mm_E 139 10 ls st I r Q ↔ mm_E 139 12 ls (.int 60 :: st) I r Q := me_bi mc_139 dX6_where_10 (by decide)
theorem e139_12 : ∀ (x0 : Int32) (x1 : Int32) (x2 : Int32), (mm_E 139 12 ls (.int x2 :: .int x1 :: .int x0 :: st) I r Q ↔ mm_w8 st = true ∧ mm_E 93 0 [some (.int x0), some (.int x1), some (.int x2)] [] I r (fun v I2 r2 => mm_E 139 15 ls (mm_pu v st) I2 r2 Q)) := fun x0 x1 x2 => me_sc (n := 3) (As := [.int x0, .int x1, .int x2]) (xs := [.int x2, .int x1, .int x0]) mc_139 dX6_where_12 (by decide +kernel) (by decide +kernel) rfl rfl (Nat.le_of_ble_eq_true rfl) rfl
theorem e139_15 : mm_E 139 15 ls (.int x :: st) I r Q ↔ if ¬ x = 0 then mm_E 139 20 ls st I r Q else mm_E 139 18 ls st I r Q := me_zne mc_139 dX6_where_15 (by decide)
theorem e139_18 : mm_E 139 18 ls st I r Q ↔ mm_E 139 19 ls (.int (-1) :: st) I r Q := me_ic mc_139 dX6_where_18 (by decide)
theorem e139_19 : mm_E 139 19 ls [.int x] I r Q ↔ Q (some (.int x)) I r := me_ri mc_139 dX6_where_19 rfl
theorem e139_20 : mm_E 139 20 [some (.ref a), l1, l2] st I r Q ↔ mm_E 139 21 [some (.ref a), l1, l2] (.ref a :: st) I r Q := me_al mc_139 dX6_where_20 rfl
theorem e139_21 : (mm_E 139 21 ls (.ref a :: st) I r Q ↔ (mm_w8 st = true ∧ mm_S r a = (1, 6)) ∧ mm_E 136 0 [some (.ref a), none] [] I r (fun v I2 r2 => mm_E 139 24 ls (mm_pu v st) I2 r2 Q)) := me_vc (n := 0) (As := []) (xs := []) (a := a) mc_139 dX6_where_21 (by decide +kernel) (by decide +kernel) rfl rfl (Nat.le_of_ble_eq_true rfl) rfl
theorem e139_24 : mm_E 139 24 [some (.ref a), l1, l2] st I r Q ↔ mm_E 139 25 [some (.ref a), l1, l2] (.ref a :: st) I r Q := me_al mc_139 dX6_where_24 rfl
theorem e139_25 : mm_E 139 25 [l0, l1, some (.int x)] st I r Q ↔ mm_E 139 26 [l0, l1, some (.int x)] (.int x :: st) I r Q := me_il mc_139 dX6_where_25 rfl
theorem e139_26 : ∀ (x0 : Int32), (mm_E 139 26 ls (.int x0 :: .ref a :: st) I r Q ↔ (mm_w8 st = true ∧ mm_S r a = (1, 6)) ∧ mm_E 137 0 [some (.ref a), some (.int x0), none] [] I r (fun v I2 r2 => mm_E 139 29 ls (mm_pu v st) I2 r2 Q)) := fun x0 => me_vc (n := 1) (As := [.int x0]) (xs := [.int x0]) (a := a) mc_139 dX6_where_26 (by decide +kernel) (by decide +kernel) rfl rfl (Nat.le_of_ble_eq_true rfl) rfl
theorem e139_29 : mm_E 139 29 [some (.ref a), l1, l2] st I r Q ↔ mm_E 139 30 [some (.ref a), l1, l2] (.ref a :: st) I r Q := me_al mc_139 dX6_where_29 rfl
theorem e139_30 : mm_E 139 30 ls (.ref a :: st) I r Q ↔ mm_S r a = (1, 6) ∧ mm_E 139 33 ls (va_rf (mm_P r a 8) :: st) I r Q := me_gr mc_139 dX6_where_30 (by decide +kernel) rfl
theorem e139_33 : mm_E 139 33 ls st I r Q ↔ mm_E 139 35 ls (.int 21 :: st) I r Q := me_bi mc_139 dX6_where_33 (by decide)
theorem e139_35 : mm_E 139 35 [l0, some (.int x), l2] st I r Q ↔ mm_E 139 36 [l0, some (.int x), l2] (.int x :: st) I r Q := me_il mc_139 dX6_where_35 rfl
theorem e139_36 : mm_E 139 36 ls (.int y :: .int x :: st) I r Q ↔ mm_E 139 37 ls (.int (x + y) :: st) I r Q := me_iadd mc_139 dX6_where_36
theorem e139_37 : mm_E 139 37 ls (.int x :: .ref a :: st) I r Q ↔ mm_ix r a 2 x ∧ mm_E 139 38 ls (.int (mm_rd I a x.toNatClampNeg) :: st) I r Q := me_ia mc_139 dX6_where_37
theorem e139_38 : mm_E 139 38 ls [.int x] I r Q ↔ Q (some (.int x)) I r := me_ri mc_139 dX6_where_38 rfl
theorem mc_140 : mm_c 140 = cX6_then := rfl
theorem e140_0 : mm_E 140 0 [l0, some (.int x), l2] st I r Q ↔ mm_E 140 1 [l0, some (.int x), l2] (.int x :: st) I r Q := me_il mc_140 dX6_then_0 rfl
theorem e140_1 : mm_E 140 1 ls st I r Q ↔ mm_E 140 2 ls (.int 0 :: st) I r Q := me_ic mc_140 dX6_then_1 (by decide)
theorem e140_2 : mm_E 140 2 ls st I r Q ↔ mm_E 140 4 ls (.int 60 :: st) I r Q := me_bi mc_140 dX6_then_2 (by decide)
theorem e140_4 : ∀ (x0 : Int32) (x1 : Int32) (x2 : Int32), (mm_E 140 4 ls (.int x2 :: .int x1 :: .int x0 :: st) I r Q ↔ mm_w8 st = true ∧ mm_E 93 0 [some (.int x0), some (.int x1), some (.int x2)] [] I r (fun v I2 r2 => mm_E 140 7 ls (mm_pu v st) I2 r2 Q)) := fun x0 x1 x2 => me_sc (n := 3) (As := [.int x0, .int x1, .int x2]) (xs := [.int x2, .int x1, .int x0]) mc_140 dX6_then_4 (by decide +kernel) (by decide +kernel) rfl rfl (Nat.le_of_ble_eq_true rfl) rfl
theorem e140_7 : mm_E 140 7 ls (.int x :: st) I r Q ↔ if x = 0 then mm_E 140 19 ls st I r Q else mm_E 140 10 ls st I r Q := me_zeq mc_140 dX6_then_7 (by decide)
theorem e140_10 : mm_E 140 10 [l0, l1, some (.int x)] st I r Q ↔ mm_E 140 11 [l0, l1, some (.int x)] (.int x :: st) I r Q := me_il mc_140 dX6_then_10 rfl
theorem e140_11 : mm_E 140 11 ls st I r Q ↔ mm_E 140 12 ls (.int 0 :: st) I r Q := me_ic mc_140 dX6_then_11 (by decide)
theorem e140_12 : mm_E 140 12 ls st I r Q ↔ mm_E 140 13 ls (.int 1 :: st) I r Q := me_ic mc_140 dX6_then_12 (by decide)
theorem e140_13 : ∀ (x0 : Int32) (x1 : Int32) (x2 : Int32), (mm_E 140 13 ls (.int x2 :: .int x1 :: .int x0 :: st) I r Q ↔ mm_w8 st = true ∧ mm_E 93 0 [some (.int x0), some (.int x1), some (.int x2)] [] I r (fun v I2 r2 => mm_E 140 16 ls (mm_pu v st) I2 r2 Q)) := fun x0 x1 x2 => me_sc (n := 3) (As := [.int x0, .int x1, .int x2]) (xs := [.int x2, .int x1, .int x0]) mc_140 dX6_then_13 (by decide +kernel) (by decide +kernel) rfl rfl (Nat.le_of_ble_eq_true rfl) rfl
theorem e140_16 : mm_E 140 16 ls (.int x :: st) I r Q ↔ if ¬ x = 0 then mm_E 140 21 ls st I r Q else mm_E 140 19 ls st I r Q := me_zne mc_140 dX6_then_16 (by decide)
theorem e140_19 : mm_E 140 19 ls st I r Q ↔ mm_E 140 20 ls (.int (-1) :: st) I r Q := me_ic mc_140 dX6_then_19 (by decide)
theorem e140_20 : mm_E 140 20 ls [.int x] I r Q ↔ Q (some (.int x)) I r := me_ri mc_140 dX6_then_20 rfl
theorem e140_21 : mm_E 140 21 [some (.ref a), l1, l2] st I r Q ↔ mm_E 140 22 [some (.ref a), l1, l2] (.ref a :: st) I r Q := me_al mc_140 dX6_then_21 rfl
theorem e140_22 : (mm_E 140 22 ls (.ref a :: st) I r Q ↔ (mm_w8 st = true ∧ mm_S r a = (1, 6)) ∧ mm_E 136 0 [some (.ref a), none] [] I r (fun v I2 r2 => mm_E 140 25 ls (mm_pu v st) I2 r2 Q)) := me_vc (n := 0) (As := []) (xs := []) (a := a) mc_140 dX6_then_22 (by decide +kernel) (by decide +kernel) rfl rfl (Nat.le_of_ble_eq_true rfl) rfl
theorem e140_25 : mm_E 140 25 [some (.ref a), l1, l2] st I r Q ↔ mm_E 140 26 [some (.ref a), l1, l2] (.ref a :: st) I r Q := me_al mc_140 dX6_then_25 rfl
theorem e140_26 : mm_E 140 26 [l0, some (.int x), l2] st I r Q ↔ mm_E 140 27 [l0, some (.int x), l2] (.int x :: st) I r Q := me_il mc_140 dX6_then_26 rfl
theorem e140_27 : ∀ (x0 : Int32), (mm_E 140 27 ls (.int x0 :: .ref a :: st) I r Q ↔ (mm_w8 st = true ∧ mm_S r a = (1, 6)) ∧ mm_E 137 0 [some (.ref a), some (.int x0), none] [] I r (fun v I2 r2 => mm_E 140 30 ls (mm_pu v st) I2 r2 Q)) := fun x0 => me_vc (n := 1) (As := [.int x0]) (xs := [.int x0]) (a := a) mc_140 dX6_then_27 (by decide +kernel) (by decide +kernel) rfl rfl (Nat.le_of_ble_eq_true rfl) rfl
theorem e140_30 : mm_E 140 30 [l0, l1, some (.int x)] st I r Q ↔ mm_E 140 31 [l0, l1, some (.int x)] (.int x :: st) I r Q := me_il mc_140 dX6_then_30 rfl
theorem e140_31 : mm_E 140 31 ls (.int x :: st) I r Q ↔ if ¬ x = 0 then mm_E 140 44 ls st I r Q else mm_E 140 34 ls st I r Q := me_zne mc_140 dX6_then_31 (by decide)
theorem e140_34 : mm_E 140 34 [some (.ref a), l1, l2] st I r Q ↔ mm_E 140 35 [some (.ref a), l1, l2] (.ref a :: st) I r Q := me_al mc_140 dX6_then_34 rfl
theorem e140_35 : mm_E 140 35 ls (.ref a :: st) I r Q ↔ mm_S r a = (1, 6) ∧ mm_E 140 38 ls (va_rf (mm_P r a 8) :: st) I r Q := me_gr mc_140 dX6_then_35 (by decide +kernel) rfl
theorem e140_38 : ∀ (x0 : Nat), (mm_E 140 38 ls (.ref x0 :: st) I r Q ↔ mm_w8 st = true ∧ mm_E 119 0 [some (.ref x0), none, none] [] I r (fun v I2 r2 => mm_E 140 41 ls (mm_pu v st) I2 r2 Q)) := fun x0 => me_sc (n := 1) (As := [.ref x0]) (xs := [.ref x0]) mc_140 dX6_then_38 (by decide +kernel) (by decide +kernel) rfl rfl (Nat.le_of_ble_eq_true rfl) rfl
theorem e140_41 : mm_E 140 41 ls st I r Q ↔ mm_E 140 50 ls st I r Q := me_goto mc_140 dX6_then_41 (by decide)
theorem e140_44 : mm_E 140 44 [some (.ref a), l1, l2] st I r Q ↔ mm_E 140 45 [some (.ref a), l1, l2] (.ref a :: st) I r Q := me_al mc_140 dX6_then_44 rfl
theorem e140_45 : mm_E 140 45 ls (.ref a :: st) I r Q ↔ mm_S r a = (1, 6) ∧ mm_E 140 48 ls (va_rf (mm_P r a 8) :: st) I r Q := me_gr mc_140 dX6_then_45 (by decide +kernel) rfl
theorem e140_48 : mm_E 140 48 ls st I r Q ↔ mm_E 140 49 ls (.int 2 :: st) I r Q := me_ic mc_140 dX6_then_48 (by decide)
theorem e140_49 : mm_E 140 49 ls (.int x :: .ref a :: st) I r Q ↔ mm_ix r a 2 x ∧ mm_E 140 50 ls (.int (mm_rd I a x.toNatClampNeg) :: st) I r Q := me_ia mc_140 dX6_then_49
theorem e140_50 : mm_E 140 50 ls [.int x] I r Q ↔ Q (some (.int x)) I r := me_ri mc_140 dX6_then_50 rfl
theorem mc_141 : mm_c 141 = cX6_lost := rfl
theorem e141_0 : mm_E 141 0 [some (.ref a), l1, l2] st I r Q ↔ mm_E 141 1 [some (.ref a), l1, l2] (.ref a :: st) I r Q := me_al mc_141 dX6_lost_0 rfl
theorem e141_1 : mm_E 141 1 [l0, some (.int x), l2] st I r Q ↔ mm_E 141 2 [l0, some (.int x), l2] (.int x :: st) I r Q := me_il mc_141 dX6_lost_1 rfl
theorem e141_2 : ∀ (x0 : Int32), (mm_E 141 2 ls (.int x0 :: .ref a :: st) I r Q ↔ (mm_w8 st = true ∧ mm_S r a = (1, 6)) ∧ mm_E 97 0 [some (.ref a), some (.int x0)] [] I r (fun v I2 r2 => mm_E 141 5 ls (mm_pu v st) I2 r2 Q)) := fun x0 => me_vc (n := 1) (As := [.int x0]) (xs := [.int x0]) (a := a) mc_141 dX6_lost_2 (by decide +kernel) (by decide +kernel) rfl rfl (Nat.le_of_ble_eq_true rfl) rfl
theorem e141_5 : mm_E 141 5 ls (.int x :: st) I r Q ↔ if ¬ x = 0 then mm_E 141 10 ls st I r Q else mm_E 141 8 ls st I r Q := me_zne mc_141 dX6_lost_5 (by decide)
theorem e141_8 : mm_E 141 8 ls st I r Q ↔ mm_E 141 9 ls (.int (-1) :: st) I r Q := me_ic mc_141 dX6_lost_8 (by decide)
theorem e141_9 : mm_E 141 9 ls [.int x] I r Q ↔ Q (some (.int x)) I r := me_ri mc_141 dX6_lost_9 rfl
theorem e141_10 : mm_E 141 10 [some (.ref a), l1, l2] st I r Q ↔ mm_E 141 11 [some (.ref a), l1, l2] (.ref a :: st) I r Q := me_al mc_141 dX6_lost_10 rfl
theorem e141_11 : (mm_E 141 11 ls (.ref a :: st) I r Q ↔ (mm_w8 st = true ∧ mm_S r a = (1, 6)) ∧ mm_E 136 0 [some (.ref a), none] [] I r (fun v I2 r2 => mm_E 141 14 ls (mm_pu v st) I2 r2 Q)) := me_vc (n := 0) (As := []) (xs := []) (a := a) mc_141 dX6_lost_11 (by decide +kernel) (by decide +kernel) rfl rfl (Nat.le_of_ble_eq_true rfl) rfl
theorem e141_14 : mm_E 141 14 ls st I r Q ↔ mm_E 141 15 ls (.int 0 :: st) I r Q := me_ic mc_141 dX6_lost_14 (by decide)
theorem e141_15 : mm_E 141 15 [l0, l1, l2] (.int x :: st) I r Q ↔ mm_c1 l1 ∧ mm_E 141 16 [l0, l1, some (.int x)] st I r Q := me_st (k := 2) (v := .int x) mc_141 dX6_lost_15 rfl rfl (Nat.le_of_ble_eq_true rfl) rfl ⟨Or.inr, fun h => h.resolve_left (by decide)⟩
theorem e141_16 : mm_E 141 16 [l0, l1, some (.int x)] st I r Q ↔ mm_E 141 17 [l0, l1, some (.int x)] (.int x :: st) I r Q := me_il mc_141 dX6_lost_16 rfl
theorem e141_17 : mm_E 141 17 ls st I r Q ↔ mm_E 141 19 ls (.int 60 :: st) I r Q := me_bi mc_141 dX6_lost_17 (by decide)
theorem e141_19 : mm_E 141 19 ls (.int y :: .int x :: st) I r Q ↔ if y < x then mm_E 141 50 ls st I r Q else mm_E 141 22 ls st I r Q := me_cgt mc_141 dX6_lost_19 (by decide)
theorem e141_22 : mm_E 141 22 [some (.ref a), l1, l2] st I r Q ↔ mm_E 141 23 [some (.ref a), l1, l2] (.ref a :: st) I r Q := me_al mc_141 dX6_lost_22 rfl
theorem e141_23 : mm_E 141 23 ls (.ref a :: st) I r Q ↔ mm_S r a = (1, 6) ∧ mm_E 141 26 ls (va_rf (mm_P r a 8) :: st) I r Q := me_gr mc_141 dX6_lost_23 (by decide +kernel) rfl
theorem e141_26 : mm_E 141 26 [l0, some (.int x), l2] st I r Q ↔ mm_E 141 27 [l0, some (.int x), l2] (.int x :: st) I r Q := me_il mc_141 dX6_lost_26 rfl
theorem e141_27 : ∀ (x0 : Nat) (x1 : Int32), (mm_E 141 27 ls (.int x1 :: .ref x0 :: st) I r Q ↔ mm_w8 st = true ∧ mm_E 105 0 [some (.ref x0), some (.int x1)] [] I r (fun v I2 r2 => mm_E 141 30 ls (mm_pu v st) I2 r2 Q)) := fun x0 x1 => me_sc (n := 2) (As := [.ref x0, .int x1]) (xs := [.int x1, .ref x0]) mc_141 dX6_lost_27 (by decide +kernel) (by decide +kernel) rfl rfl (Nat.le_of_ble_eq_true rfl) rfl
theorem e141_30 : mm_E 141 30 ls (.int x :: st) I r Q ↔ if x = 0 then mm_E 141 35 ls st I r Q else mm_E 141 33 ls st I r Q := me_zeq mc_141 dX6_lost_30 (by decide)
theorem e141_33 : mm_E 141 33 [l0, l1, some (.int x)] st I r Q ↔ mm_E 141 34 [l0, l1, some (.int x)] (.int x :: st) I r Q := me_il mc_141 dX6_lost_33 rfl
theorem e141_34 : mm_E 141 34 ls [.int x] I r Q ↔ Q (some (.int x)) I r := me_ri mc_141 dX6_lost_34 rfl
theorem e141_35 : mm_E 141 35 [some (.ref a), l1, l2] st I r Q ↔ mm_E 141 36 [some (.ref a), l1, l2] (.ref a :: st) I r Q := me_al mc_141 dX6_lost_35 rfl
theorem e141_36 : mm_E 141 36 [some (.ref a), l1, l2] st I r Q ↔ mm_E 141 37 [some (.ref a), l1, l2] (.ref a :: st) I r Q := me_al mc_141 dX6_lost_36 rfl
theorem e141_37 : mm_E 141 37 ls (.ref a :: st) I r Q ↔ mm_S r a = (1, 6) ∧ mm_E 141 40 ls (va_rf (mm_P r a 8) :: st) I r Q := me_gr mc_141 dX6_lost_37 (by decide +kernel) rfl
theorem e141_40 : mm_E 141 40 ls st I r Q ↔ mm_E 141 41 ls (.int 0 :: st) I r Q := me_ic mc_141 dX6_lost_40 (by decide)
theorem e141_41 : ∀ (x0 : Nat) (x1 : Int32), (mm_E 141 41 ls (.int x1 :: .ref x0 :: .ref a :: st) I r Q ↔ (mm_w8 st = true ∧ mm_S r a = (1, 6)) ∧ mm_E 127 0 [some (.ref a), some (.ref x0), some (.int x1), none, none, none] [] I r (fun v I2 r2 => mm_E 141 44 ls (mm_pu v st) I2 r2 Q)) := fun x0 x1 => me_vc (n := 2) (As := [.ref x0, .int x1]) (xs := [.int x1, .ref x0]) (a := a) mc_141 dX6_lost_41 (by decide +kernel) (by decide +kernel) rfl rfl (Nat.le_of_ble_eq_true rfl) rfl
theorem e141_44 : mm_E 141 44 [l0, l1, some (.int x)] st I r Q ↔ mm_c1 l1 ∧ mm_E 141 47 [l0, l1, some (.int (x + 1))] st I r Q := me_st (k := 2) (v := .int (x + 1)) mc_141 dX6_lost_44 rfl rfl (Nat.le_of_ble_eq_true rfl) rfl ⟨Or.inr, fun h => h.resolve_left (by decide)⟩
theorem e141_47 : mm_E 141 47 ls st I r Q ↔ mm_E 141 16 ls st I r Q := me_goto mc_141 dX6_lost_47 (by decide)
theorem e141_50 : mm_E 141 50 ls st I r Q ↔ mm_E 141 52 ls (.int (-4) :: st) I r Q := me_bi mc_141 dX6_lost_50 (by decide)
theorem e141_52 : mm_E 141 52 ls [.int x] I r Q ↔ Q (some (.int x)) I r := me_ri mc_141 dX6_lost_52 rfl
theorem mc_142 : mm_c 142 = cX6_free := rfl
theorem e142_0 : mm_E 142 0 [some (.ref a), l1, l2] st I r Q ↔ mm_E 142 1 [some (.ref a), l1, l2] (.ref a :: st) I r Q := me_al mc_142 dX6_free_0 rfl
theorem e142_1 : mm_E 142 1 [l0, some (.int x), l2] st I r Q ↔ mm_E 142 2 [l0, some (.int x), l2] (.int x :: st) I r Q := me_il mc_142 dX6_free_1 rfl
theorem e142_2 : ∀ (x0 : Int32), (mm_E 142 2 ls (.int x0 :: .ref a :: st) I r Q ↔ (mm_w8 st = true ∧ mm_S r a = (1, 6)) ∧ mm_E 97 0 [some (.ref a), some (.int x0)] [] I r (fun v I2 r2 => mm_E 142 5 ls (mm_pu v st) I2 r2 Q)) := fun x0 => me_vc (n := 1) (As := [.int x0]) (xs := [.int x0]) (a := a) mc_142 dX6_free_2 (by decide +kernel) (by decide +kernel) rfl rfl (Nat.le_of_ble_eq_true rfl) rfl
theorem e142_5 : mm_E 142 5 ls (.int x :: st) I r Q ↔ if ¬ x = 0 then mm_E 142 10 ls st I r Q else mm_E 142 8 ls st I r Q := me_zne mc_142 dX6_free_5 (by decide)
theorem e142_8 : mm_E 142 8 ls st I r Q ↔ mm_E 142 9 ls (.int (-1) :: st) I r Q := me_ic mc_142 dX6_free_8 (by decide)
theorem e142_9 : mm_E 142 9 ls [.int x] I r Q ↔ Q (some (.int x)) I r := me_ri mc_142 dX6_free_9 rfl
theorem e142_10 : mm_E 142 10 [some (.ref a), l1, l2] st I r Q ↔ mm_E 142 11 [some (.ref a), l1, l2] (.ref a :: st) I r Q := me_al mc_142 dX6_free_10 rfl
theorem e142_11 : (mm_E 142 11 ls (.ref a :: st) I r Q ↔ (mm_w8 st = true ∧ mm_S r a = (1, 6)) ∧ mm_E 136 0 [some (.ref a), none] [] I r (fun v I2 r2 => mm_E 142 14 ls (mm_pu v st) I2 r2 Q)) := me_vc (n := 0) (As := []) (xs := []) (a := a) mc_142 dX6_free_11 (by decide +kernel) (by decide +kernel) rfl rfl (Nat.le_of_ble_eq_true rfl) rfl
theorem e142_14 : mm_E 142 14 ls st I r Q ↔ mm_E 142 15 ls (.int 0 :: st) I r Q := me_ic mc_142 dX6_free_14 (by decide)
theorem e142_15 : mm_E 142 15 [l0, l1, l2] (.int x :: st) I r Q ↔ mm_c1 l1 ∧ mm_E 142 16 [l0, l1, some (.int x)] st I r Q := me_st (k := 2) (v := .int x) mc_142 dX6_free_15 rfl rfl (Nat.le_of_ble_eq_true rfl) rfl ⟨Or.inr, fun h => h.resolve_left (by decide)⟩
theorem e142_16 : mm_E 142 16 [l0, l1, some (.int x)] st I r Q ↔ mm_E 142 17 [l0, l1, some (.int x)] (.int x :: st) I r Q := me_il mc_142 dX6_free_16 rfl
theorem e142_17 : mm_E 142 17 ls st I r Q ↔ mm_E 142 19 ls (.int 60 :: st) I r Q := me_bi mc_142 dX6_free_17 (by decide)
theorem e142_19 : mm_E 142 19 ls (.int y :: .int x :: st) I r Q ↔ if y < x then mm_E 142 50 ls st I r Q else mm_E 142 22 ls st I r Q := me_cgt mc_142 dX6_free_19 (by decide)
theorem e142_22 : mm_E 142 22 [some (.ref a), l1, l2] st I r Q ↔ mm_E 142 23 [some (.ref a), l1, l2] (.ref a :: st) I r Q := me_al mc_142 dX6_free_22 rfl
theorem e142_23 : mm_E 142 23 ls (.ref a :: st) I r Q ↔ mm_S r a = (1, 6) ∧ mm_E 142 26 ls (va_rf (mm_P r a 8) :: st) I r Q := me_gr mc_142 dX6_free_23 (by decide +kernel) rfl
theorem e142_26 : mm_E 142 26 ls st I r Q ↔ mm_E 142 27 ls (.int 3 :: st) I r Q := me_ic mc_142 dX6_free_26 (by decide)
theorem e142_27 : mm_E 142 27 [l0, some (.int x), l2] st I r Q ↔ mm_E 142 28 [l0, some (.int x), l2] (.int x :: st) I r Q := me_il mc_142 dX6_free_27 rfl
theorem e142_28 : mm_E 142 28 ls (.int y :: .int x :: st) I r Q ↔ mm_E 142 29 ls (.int (x + y) :: st) I r Q := me_iadd mc_142 dX6_free_28
theorem e142_29 : mm_E 142 29 ls (.int x :: .ref a :: st) I r Q ↔ mm_ix r a 2 x ∧ mm_E 142 30 ls (.int (mm_rd I a x.toNatClampNeg) :: st) I r Q := me_ia mc_142 dX6_free_29
theorem e142_30 : mm_E 142 30 ls (.int x :: st) I r Q ↔ if ¬ x = 0 then mm_E 142 35 ls st I r Q else mm_E 142 33 ls st I r Q := me_zne mc_142 dX6_free_30 (by decide)
theorem e142_33 : mm_E 142 33 [l0, l1, some (.int x)] st I r Q ↔ mm_E 142 34 [l0, l1, some (.int x)] (.int x :: st) I r Q := me_il mc_142 dX6_free_33 rfl
theorem e142_34 : mm_E 142 34 ls [.int x] I r Q ↔ Q (some (.int x)) I r := me_ri mc_142 dX6_free_34 rfl
theorem e142_35 : mm_E 142 35 [some (.ref a), l1, l2] st I r Q ↔ mm_E 142 36 [some (.ref a), l1, l2] (.ref a :: st) I r Q := me_al mc_142 dX6_free_35 rfl
theorem e142_36 : mm_E 142 36 [some (.ref a), l1, l2] st I r Q ↔ mm_E 142 37 [some (.ref a), l1, l2] (.ref a :: st) I r Q := me_al mc_142 dX6_free_36 rfl
theorem e142_37 : mm_E 142 37 ls (.ref a :: st) I r Q ↔ mm_S r a = (1, 6) ∧ mm_E 142 40 ls (va_rf (mm_P r a 8) :: st) I r Q := me_gr mc_142 dX6_free_37 (by decide +kernel) rfl
theorem e142_40 : mm_E 142 40 ls st I r Q ↔ mm_E 142 41 ls (.int 0 :: st) I r Q := me_ic mc_142 dX6_free_40 (by decide)
theorem e142_41 : ∀ (x0 : Nat) (x1 : Int32), (mm_E 142 41 ls (.int x1 :: .ref x0 :: .ref a :: st) I r Q ↔ (mm_w8 st = true ∧ mm_S r a = (1, 6)) ∧ mm_E 127 0 [some (.ref a), some (.ref x0), some (.int x1), none, none, none] [] I r (fun v I2 r2 => mm_E 142 44 ls (mm_pu v st) I2 r2 Q)) := fun x0 x1 => me_vc (n := 2) (As := [.ref x0, .int x1]) (xs := [.int x1, .ref x0]) (a := a) mc_142 dX6_free_41 (by decide +kernel) (by decide +kernel) rfl rfl (Nat.le_of_ble_eq_true rfl) rfl
theorem e142_44 : mm_E 142 44 [l0, l1, some (.int x)] st I r Q ↔ mm_c1 l1 ∧ mm_E 142 47 [l0, l1, some (.int (x + 1))] st I r Q := me_st (k := 2) (v := .int (x + 1)) mc_142 dX6_free_44 rfl rfl (Nat.le_of_ble_eq_true rfl) rfl ⟨Or.inr, fun h => h.resolve_left (by decide)⟩
theorem e142_47 : mm_E 142 47 ls st I r Q ↔ mm_E 142 16 ls st I r Q := me_goto mc_142 dX6_free_47 (by decide)
theorem e142_50 : mm_E 142 50 ls st I r Q ↔ mm_E 142 52 ls (.int (-4) :: st) I r Q := me_bi mc_142 dX6_free_50 (by decide)
theorem e142_52 : mm_E 142 52 ls [.int x] I r Q ↔ Q (some (.int x)) I r := me_ri mc_142 dX6_free_52 rfl
theorem mc_143 : mm_c 143 = cX6_keep := rfl
theorem e143_0 : mm_E 143 0 [some (.ref a), l1, l2, l3] st I r Q ↔ mm_E 143 1 [some (.ref a), l1, l2, l3] (.ref a :: st) I r Q := me_al mc_143 dX6_keep_0 rfl
theorem e143_1 : mm_E 143 1 [l0, some (.int x), l2, l3] st I r Q ↔ mm_E 143 2 [l0, some (.int x), l2, l3] (.int x :: st) I r Q := me_il mc_143 dX6_keep_1 rfl
theorem e143_2 : ∀ (x0 : Int32), (mm_E 143 2 ls (.int x0 :: .ref a :: st) I r Q ↔ (mm_w8 st = true ∧ mm_S r a = (1, 6)) ∧ mm_E 97 0 [some (.ref a), some (.int x0)] [] I r (fun v I2 r2 => mm_E 143 5 ls (mm_pu v st) I2 r2 Q)) := fun x0 => me_vc (n := 1) (As := [.int x0]) (xs := [.int x0]) (a := a) mc_143 dX6_keep_2 (by decide +kernel) (by decide +kernel) rfl rfl (Nat.le_of_ble_eq_true rfl) rfl
theorem e143_5 : mm_E 143 5 ls (.int x :: st) I r Q ↔ if x = 0 then mm_E 143 18 ls st I r Q else mm_E 143 8 ls st I r Q := me_zeq mc_143 dX6_keep_5 (by decide)
theorem e143_8 : mm_E 143 8 [l0, l1, some (.int x), l3] st I r Q ↔ mm_E 143 9 [l0, l1, some (.int x), l3] (.int x :: st) I r Q := me_il mc_143 dX6_keep_8 rfl
theorem e143_9 : mm_E 143 9 ls st I r Q ↔ mm_E 143 10 ls (.int 1 :: st) I r Q := me_ic mc_143 dX6_keep_9 (by decide)
theorem e143_10 : mm_E 143 10 ls st I r Q ↔ mm_E 143 12 ls (.int 40 :: st) I r Q := me_bi mc_143 dX6_keep_10 (by decide)
theorem e143_12 : ∀ (x0 : Int32) (x1 : Int32) (x2 : Int32), (mm_E 143 12 ls (.int x2 :: .int x1 :: .int x0 :: st) I r Q ↔ mm_w8 st = true ∧ mm_E 93 0 [some (.int x0), some (.int x1), some (.int x2)] [] I r (fun v I2 r2 => mm_E 143 15 ls (mm_pu v st) I2 r2 Q)) := fun x0 x1 x2 => me_sc (n := 3) (As := [.int x0, .int x1, .int x2]) (xs := [.int x2, .int x1, .int x0]) mc_143 dX6_keep_12 (by decide +kernel) (by decide +kernel) rfl rfl (Nat.le_of_ble_eq_true rfl) rfl
theorem e143_15 : mm_E 143 15 ls (.int x :: st) I r Q ↔ if ¬ x = 0 then mm_E 143 20 ls st I r Q else mm_E 143 18 ls st I r Q := me_zne mc_143 dX6_keep_15 (by decide)
theorem e143_18 : mm_E 143 18 ls st I r Q ↔ mm_E 143 19 ls (.int (-1) :: st) I r Q := me_ic mc_143 dX6_keep_18 (by decide)
theorem e143_19 : mm_E 143 19 ls [.int x] I r Q ↔ Q (some (.int x)) I r := me_ri mc_143 dX6_keep_19 rfl
theorem e143_20 : mm_E 143 20 ls st I r Q ↔ mm_E 143 21 ls (.int 0 :: st) I r Q := me_ic mc_143 dX6_keep_20 (by decide)
theorem e143_21 : mm_E 143 21 [l0, l1, l2, l3] (.int x :: st) I r Q ↔ mm_c1 l2 ∧ mm_E 143 22 [l0, l1, l2, some (.int x)] st I r Q := me_st (k := 3) (v := .int x) mc_143 dX6_keep_21 rfl rfl (Nat.le_of_ble_eq_true rfl) rfl ⟨Or.inr, fun h => h.resolve_left (by decide)⟩
theorem e143_22 : mm_E 143 22 [l0, l1, l2, some (.int x)] st I r Q ↔ mm_E 143 23 [l0, l1, l2, some (.int x)] (.int x :: st) I r Q := me_il mc_143 dX6_keep_22 rfl
theorem e143_23 : mm_E 143 23 ls st I r Q ↔ mm_E 143 25 ls (.int 20 :: st) I r Q := me_bi mc_143 dX6_keep_23 (by decide)
theorem e143_25 : mm_E 143 25 ls (.int y :: .int x :: st) I r Q ↔ if y < x then mm_E 143 66 ls st I r Q else mm_E 143 28 ls st I r Q := me_cgt mc_143 dX6_keep_25 (by decide)
theorem e143_28 : mm_E 143 28 [some (.ref a), l1, l2, l3] st I r Q ↔ mm_E 143 29 [some (.ref a), l1, l2, l3] (.ref a :: st) I r Q := me_al mc_143 dX6_keep_28 rfl
theorem e143_29 : (mm_E 143 29 ls (.ref a :: st) I r Q ↔ (mm_w8 st = true ∧ mm_S r a = (1, 6)) ∧ mm_E 136 0 [some (.ref a), none] [] I r (fun v I2 r2 => mm_E 143 32 ls (mm_pu v st) I2 r2 Q)) := me_vc (n := 0) (As := []) (xs := []) (a := a) mc_143 dX6_keep_29 (by decide +kernel) (by decide +kernel) rfl rfl (Nat.le_of_ble_eq_true rfl) rfl
theorem e143_32 : mm_E 143 32 [some (.ref a), l1, l2, l3] st I r Q ↔ mm_E 143 33 [some (.ref a), l1, l2, l3] (.ref a :: st) I r Q := me_al mc_143 dX6_keep_32 rfl
theorem e143_33 : mm_E 143 33 ls (.ref a :: st) I r Q ↔ mm_S r a = (1, 6) ∧ mm_E 143 36 ls (va_rf (mm_P r a 8) :: st) I r Q := me_gr mc_143 dX6_keep_33 (by decide +kernel) rfl
theorem e143_36 : mm_E 143 36 ls st I r Q ↔ mm_E 143 38 ls (.int 9 :: st) I r Q := me_bi mc_143 dX6_keep_36 (by decide)
theorem e143_38 : mm_E 143 38 [l0, some (.int x), l2, l3] st I r Q ↔ mm_E 143 39 [l0, some (.int x), l2, l3] (.int x :: st) I r Q := me_il mc_143 dX6_keep_38 rfl
theorem e143_39 : mm_E 143 39 ls (.int y :: .int x :: st) I r Q ↔ mm_E 143 40 ls (.int (x + y) :: st) I r Q := me_iadd mc_143 dX6_keep_39
theorem e143_40 : mm_E 143 40 [l0, l1, l2, some (.int x)] st I r Q ↔ mm_E 143 41 [l0, l1, l2, some (.int x)] (.int x :: st) I r Q := me_il mc_143 dX6_keep_40 rfl
theorem e143_41 : mm_E 143 41 ls (.int y :: .int x :: .ref a :: st) I r Q ↔ mm_ix r a 2 x ∧ mm_E 143 42 ls st (mm_uI I a x.toNatClampNeg y) r Q := me_is mc_143 dX6_keep_41
theorem e143_42 : mm_E 143 42 [some (.ref a), l1, l2, l3] st I r Q ↔ mm_E 143 43 [some (.ref a), l1, l2, l3] (.ref a :: st) I r Q := me_al mc_143 dX6_keep_42 rfl
theorem e143_43 : mm_E 143 43 [l0, l1, some (.int x), l3] st I r Q ↔ mm_E 143 44 [l0, l1, some (.int x), l3] (.int x :: st) I r Q := me_il mc_143 dX6_keep_43 rfl
theorem e143_44 : ∀ (x0 : Int32), (mm_E 143 44 ls (.int x0 :: .ref a :: st) I r Q ↔ (mm_w8 st = true ∧ mm_S r a = (1, 6)) ∧ mm_E 137 0 [some (.ref a), some (.int x0), none] [] I r (fun v I2 r2 => mm_E 143 47 ls (mm_pu v st) I2 r2 Q)) := fun x0 => me_vc (n := 1) (As := [.int x0]) (xs := [.int x0]) (a := a) mc_143 dX6_keep_44 (by decide +kernel) (by decide +kernel) rfl rfl (Nat.le_of_ble_eq_true rfl) rfl
theorem e143_47 : mm_E 143 47 [some (.ref a), l1, l2, l3] st I r Q ↔ mm_E 143 48 [some (.ref a), l1, l2, l3] (.ref a :: st) I r Q := me_al mc_143 dX6_keep_47 rfl
theorem e143_48 : mm_E 143 48 ls (.ref a :: st) I r Q ↔ mm_S r a = (1, 6) ∧ mm_E 143 51 ls (va_rf (mm_P r a 8) :: st) I r Q := me_gr mc_143 dX6_keep_48 (by decide +kernel) rfl
theorem e143_51 : mm_E 143 51 [l0, some (.int x), l2, l3] st I r Q ↔ mm_E 143 52 [l0, some (.int x), l2, l3] (.int x :: st) I r Q := me_il mc_143 dX6_keep_51 rfl
theorem e143_52 : ∀ (x0 : Nat) (x1 : Int32), (mm_E 143 52 ls (.int x1 :: .ref x0 :: st) I r Q ↔ mm_w8 st = true ∧ mm_E 105 0 [some (.ref x0), some (.int x1)] [] I r (fun v I2 r2 => mm_E 143 55 ls (mm_pu v st) I2 r2 Q)) := fun x0 x1 => me_sc (n := 2) (As := [.ref x0, .int x1]) (xs := [.int x1, .ref x0]) mc_143 dX6_keep_52 (by decide +kernel) (by decide +kernel) rfl rfl (Nat.le_of_ble_eq_true rfl) rfl
theorem e143_55 : mm_E 143 55 ls (.int x :: st) I r Q ↔ if ¬ x = 0 then mm_E 143 60 ls st I r Q else mm_E 143 58 ls st I r Q := me_zne mc_143 dX6_keep_55 (by decide)
theorem e143_58 : mm_E 143 58 [l0, l1, l2, some (.int x)] st I r Q ↔ mm_E 143 59 [l0, l1, l2, some (.int x)] (.int x :: st) I r Q := me_il mc_143 dX6_keep_58 rfl
theorem e143_59 : mm_E 143 59 ls [.int x] I r Q ↔ Q (some (.int x)) I r := me_ri mc_143 dX6_keep_59 rfl
theorem e143_60 : mm_E 143 60 [l0, l1, l2, some (.int x)] st I r Q ↔ mm_c1 l2 ∧ mm_E 143 63 [l0, l1, l2, some (.int (x + 1))] st I r Q := me_st (k := 3) (v := .int (x + 1)) mc_143 dX6_keep_60 rfl rfl (Nat.le_of_ble_eq_true rfl) rfl ⟨Or.inr, fun h => h.resolve_left (by decide)⟩
theorem e143_63 : mm_E 143 63 ls st I r Q ↔ mm_E 143 22 ls st I r Q := me_goto mc_143 dX6_keep_63 (by decide)
theorem e143_66 : mm_E 143 66 ls st I r Q ↔ mm_E 143 68 ls (.int (-4) :: st) I r Q := me_bi mc_143 dX6_keep_66 (by decide)
theorem e143_68 : mm_E 143 68 ls [.int x] I r Q ↔ Q (some (.int x)) I r := me_ri mc_143 dX6_keep_68 rfl
end
