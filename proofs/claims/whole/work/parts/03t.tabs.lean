def mm_Rn (o : Nat) : String := match o with
  | 0 => RX0
  | 1 => RX1
  | 2 => RX2
  | 3 => RX3
  | 4 => RX4
  | 5 => RX5
  | 6 => RX6
  | _ => RJ6
def mm_Tn (o : Nat) : u_T := match o with
  | 0 => TX0
  | 1 => TX1
  | 2 => TX2
  | 3 => TX3
  | 4 => TX4
  | 5 => TX5
  | _ => TX6
def mm_tyn (o : Nat) : Nat → FieldType := match o with
  | 0 => tyX0
  | 1 => tyX1
  | 2 => tyX2
  | 3 => tyX3
  | 4 => tyX4
  | 5 => tyX5
  | _ => tyX6
def mm_N (o : Nat) : Nat := match o with
  | 0 => 14
  | 1 => 4
  | 2 => 2
  | 3 => 4
  | 4 => 5
  | 5 => 9
  | _ => 16
def mm_yL : List MethodName := [yX0_init, yX0_takeFrom, yX0_beginAnew, yX0_hasHouse, yX0_hasHog, yX0_addHouse, yX0_addHog, yX0_isLost, yX0_isWinter, yX0_lostSet, yX0_owedByAll, yX0_guests, yX0_appetite, yX0_takeOff, yX0_drawSaucer, yX0_passNights, yX0_passNight, yX0_visit, yX0_eat, yX0_nextHouse, yX0_addInterest, yX1_init, yX1_find, yX1_judge, yX1_nextWay, yX2_init, yX2_forget, yX2_remember, yX2_dropOldest, yX2_bringBack, yX2_takeFrom, yX3_init, yX3_begin, yX3_hasItems, yX3_refusal, yX3_write, yX4_init, yX4_add, yX4_tellLane, yX4_tellHouses, yX4_tellHouse, yX4_tellHogs, yX4_tellHog, yX4_kindOf, yX4_number, yX4_isDigit, yX4_look, yX4_takes, yX4_faultAt, yX5_init, yX5_house, yX5_hog, yX5_interest, yX5_of, yX5_at, yX5_type, yX5_read, yX5_count, yX5_nights, yX5_put, yX5_pay, yX5_drive, yX5_forgive, yX5_drift, yX5_undo, yX5_seed, yX5_ahead, yX5_where, yX5_then, yX5_lost, yX5_free, yX5_keep, yX5_part, yX5_drives, yX5_visits, yX5_solvent, yX5_sleep, yX5_image, yX5_restore, yX5_dawns, yX5_film, yX5_sheet, yX5_drop, yX5_item, yX5_copy, yX5_within, yX5_foretell, yX5_foretellDriven, yX5_chance, yX5_looksMore, yX5_commonDivisor, yX5_dawnsAs, yX6_init, yX6_in, yX6_has, yX6_bits, yX6_bring, yX6_isHouse, yX6_isHog, yX6_addHouse, yX6_addHog, yX6_house, yX6_hog, yX6_interest, yX6_hogsAt, yX6_isLost, yX6_of, yX6_mealOf, yX6_at, yX6_type, yX6_peek, yX6_isSign, yX6_isDigit, yX6_isNumber, yX6_kindBy, yX6_isHouseItem, yX6_isHogItem, yX6_isLane, yX6_read, yX6_lostOnes, yX6_owedBy, yX6_isWinter, yX6_count, yX6_note, yX6_nextOf, yX6_goesOn, yX6_turnIn, yX6_nightIn, yX6_nights, yX6_put, yX6_pay, yX6_drive, yX6_forgive, yX6_drift, yX6_undo, yX6_seed, yX6_begin, yX6_goOn, yX6_ahead, yX6_where, yX6_then, yX6_lost, yX6_free, yX6_keep, yX6_layParts, yX6_part, yX6_drives, yX6_visits, yX6_solvent, yX6_sleep, yX6_image, yX6_restore, yX6_isSheet, yX6_isPart, yX6_wrong, yX6_isLeft, yX6_dawns, yX6_cutTo, yX6_film, yX6_sheet, yX6_drop, yX6_item, yX6_copy, yJ6_bitCount_0f7a4]
def mm_cL : List ByteArray := [cX0_init, cX0_takeFrom, cX0_beginAnew, cX0_hasHouse, cX0_hasHog, cX0_addHouse, cX0_addHog, cX0_isLost, cX0_isWinter, cX0_lostSet, cX0_owedByAll, cX0_guests, cX0_appetite, cX0_takeOff, cX0_drawSaucer, cX0_passNights, cX0_passNight, cX0_visit, cX0_eat, cX0_nextHouse, cX0_addInterest, cX1_init, cX1_find, cX1_judge, cX1_nextWay, cX2_init, cX2_forget, cX2_remember, cX2_dropOldest, cX2_bringBack, cX2_takeFrom, cX3_init, cX3_begin, cX3_hasItems, cX3_refusal, cX3_write, cX4_init, cX4_add, cX4_tellLane, cX4_tellHouses, cX4_tellHouse, cX4_tellHogs, cX4_tellHog, cX4_kindOf, cX4_number, cX4_isDigit, cX4_look, cX4_takes, cX4_faultAt, cX5_init, cX5_house, cX5_hog, cX5_interest, cX5_of, cX5_at, cX5_type, cX5_read, cX5_count, cX5_nights, cX5_put, cX5_pay, cX5_drive, cX5_forgive, cX5_drift, cX5_undo, cX5_seed, cX5_ahead, cX5_where, cX5_then, cX5_lost, cX5_free, cX5_keep, cX5_part, cX5_drives, cX5_visits, cX5_solvent, cX5_sleep, cX5_image, cX5_restore, cX5_dawns, cX5_film, cX5_sheet, cX5_drop, cX5_item, cX5_copy, cX5_within, cX5_foretell, cX5_foretellDriven, cX5_chance, cX5_looksMore, cX5_commonDivisor, cX5_dawnsAs, cX6_init, cX6_in, cX6_has, cX6_bits, cX6_bring, cX6_isHouse, cX6_isHog, cX6_addHouse, cX6_addHog, cX6_house, cX6_hog, cX6_interest, cX6_hogsAt, cX6_isLost, cX6_of, cX6_mealOf, cX6_at, cX6_type, cX6_peek, cX6_isSign, cX6_isDigit, cX6_isNumber, cX6_kindBy, cX6_isHouseItem, cX6_isHogItem, cX6_isLane, cX6_read, cX6_lostOnes, cX6_owedBy, cX6_isWinter, cX6_count, cX6_note, cX6_nextOf, cX6_goesOn, cX6_turnIn, cX6_nightIn, cX6_nights, cX6_put, cX6_pay, cX6_drive, cX6_forgive, cX6_drift, cX6_undo, cX6_seed, cX6_begin, cX6_goOn, cX6_ahead, cX6_where, cX6_then, cX6_lost, cX6_free, cX6_keep, cX6_layParts, cX6_part, cX6_drives, cX6_visits, cX6_solvent, cX6_sleep, cX6_image, cX6_restore, cX6_isSheet, cX6_isPart, cX6_wrong, cX6_isLeft, cX6_dawns, cX6_cutTo, cX6_film, cX6_sheet, cX6_drop, cX6_item, cX6_copy, cJ6_bitCount_0f7a4]
def mm_xL : List Nat := [1, 3, 1, 2, 2, 5, 5, 2, 1, 3, 3, 4, 2, 3, 1, 3, 4, 5, 5, 7, 3, 1, 8, 8, 4, 2, 1, 2, 3, 2, 3, 1, 4, 3, 4, 4, 1, 2, 2, 2, 4, 2, 4, 1, 5, 1, 1, 2, 2, 2, 3, 4, 3, 3, 3, 2, 3, 2, 3, 4, 3, 4, 3, 3, 2, 3, 4, 3, 3, 3, 3, 4, 4, 11, 5, 4, 8, 1, 1, 14, 9, 4, 3, 8, 8, 3, 2, 4, 5, 3, 6, 6, 2, 3, 2, 3, 6, 2, 2, 4, 5, 3, 4, 3, 4, 2, 3, 3, 3, 2, 1, 2, 3, 4, 1, 4, 3, 2, 2, 3, 3, 1, 2, 1, 5, 6, 6, 6, 3, 4, 3, 4, 3, 3, 1, 3, 2, 3, 4, 3, 3, 3, 3, 4, 6, 10, 10, 5, 4, 9, 1, 1, 1, 3, 5, 7, 11, 3, 8, 5, 2, 7, 9, 1]
def mm_rL : List (Option FieldType) := [none, none, none, some .boolean, some .boolean, some .int, some .int, some .boolean, some .boolean, some .int, some .int, some .int, some .int, none, none, none, none, none, some .boolean, some .int, none, none, none, none, some .boolean, none, none, none, none, none, none, none, none, some .boolean, some .int, none, none, some .int, some .boolean, some .boolean, some .boolean, some .boolean, some .boolean, some .int, some .int, some .boolean, some .int, some .boolean, some .boolean, none, some .int, some .int, some .int, some .int, some .int, some .int, some .int, some .int, some .int, some .int, some .int, some .int, some .int, some .int, some .int, some .int, some .int, some .int, some .int, some .int, some .int, some .int, some .int, some .int, some .int, some .int, some .int, some .int, some .int, some .int, some .int, some .int, some .int, some .int, some .int, some .boolean, none, none, some .int, some .boolean, some .int, some .boolean, none, some .boolean, some .boolean, some .int, none, some .boolean, some .boolean, some .int, some .int, some .int, some .int, some .int, some .int, some .boolean, some .int, some .int, some .int, some .int, some .int, some .boolean, some .boolean, some .boolean, some .int, some .boolean, some .boolean, some .boolean, some .int, some .int, some .int, some .boolean, some .int, none, some .int, none, none, none, some .int, some .int, some .int, some .int, some .int, some .int, some .int, some .int, none, none, some .int, some .int, some .int, some .int, some .int, some .int, some .boolean, some .int, some .int, some .int, some .int, some .int, some .int, some .int, some .boolean, some .boolean, some .int, some .boolean, some .int, some .long, some .int, some .int, some .int, some .int, some .int, some .int]
def mm_oL : List Nat := [0, 0, 0, 0, 0, 0, 0, 0, 0, 0, 0, 0, 0, 0, 0, 0, 0, 0, 0, 0, 0, 1, 1, 1, 1, 2, 2, 2, 2, 2, 2, 3, 3, 3, 3, 3, 4, 4, 4, 4, 4, 4, 4, 4, 4, 4, 4, 4, 4, 5, 5, 5, 5, 5, 5, 5, 5, 5, 5, 5, 5, 5, 5, 5, 5, 5, 5, 5, 5, 5, 5, 5, 5, 5, 5, 5, 5, 5, 5, 5, 5, 5, 5, 5, 5, 5, 5, 5, 5, 5, 5, 5, 6, 6, 6, 6, 6, 6, 6, 6, 6, 6, 6, 6, 6, 6, 6, 6, 6, 6, 6, 6, 6, 6, 6, 6, 6, 6, 6, 6, 6, 6, 6, 6, 6, 6, 6, 6, 6, 6, 6, 6, 6, 6, 6, 6, 6, 6, 6, 6, 6, 6, 6, 6, 6, 6, 6, 6, 6, 6, 6, 6, 6, 6, 6, 6, 6, 6, 6, 6, 6, 6, 6, 7]
def mm_kL : List Nat := [2, 0, 0, 0, 0, 0, 0, 0, 0, 0, 0, 0, 0, 0, 0, 0, 0, 0, 0, 0, 0, 2, 0, 0, 0, 2, 0, 0, 0, 0, 0, 2, 0, 0, 0, 0, 2, 0, 0, 0, 0, 0, 0, 1, 0, 1, 0, 0, 0, 2, 0, 0, 0, 0, 0, 0, 0, 0, 0, 0, 0, 0, 0, 0, 0, 0, 0, 0, 0, 0, 0, 0, 0, 0, 0, 0, 0, 0, 0, 0, 0, 0, 0, 0, 0, 1, 0, 0, 0, 0, 1, 0, 2, 1, 1, 1, 1, 0, 0, 1, 1, 0, 0, 0, 1, 1, 0, 1, 0, 0, 0, 0, 0, 0, 1, 0, 0, 0, 0, 1, 1, 1, 0, 0, 1, 1, 0, 0, 0, 0, 0, 0, 0, 0, 0, 0, 0, 0, 0, 0, 0, 0, 0, 0, 0, 0, 0, 0, 0, 0, 0, 0, 1, 1, 0, 0, 0, 1, 0, 0, 0, 0, 0, 1]
def mm_hL : List Nat := [1, 0, 0, 0, 0, 0, 0, 0, 0, 1, 0, 0, 0, 0, 0, 4, 3, 2, 1, 1, 1, 1, 5, 4, 0, 2, 0, 1, 0, 1, 1, 1, 0, 0, 1, 1, 2, 0, 4, 3, 2, 3, 2, 0, 1, 0, 0, 1, 0, 3, 1, 1, 1, 1, 1, 1, 5, 2, 4, 2, 2, 2, 2, 4, 2, 0, 6, 6, 6, 4, 4, 5, 6, 6, 6, 5, 5, 2, 2, 5, 4, 1, 1, 2, 1, 0, 5, 5, 0, 4, 0, 4, 1, 0, 0, 0, 0, 1, 1, 0, 0, 1, 2, 1, 0, 0, 2, 0, 2, 1, 0, 1, 1, 2, 0, 3, 2, 4, 5, 1, 0, 0, 2, 1, 1, 2, 3, 4, 5, 2, 2, 2, 2, 5, 1, 0, 1, 5, 6, 6, 6, 5, 5, 6, 0, 6, 6, 6, 6, 5, 1, 1, 1, 0, 1, 5, 6, 0, 5, 2, 2, 2, 2, 0]
def mm_aL : List Nat := [0, 1, 0, 1, 1, 3, 3, 1, 0, 0, 0, 1, 1, 2, 0, 1, 1, 1, 2, 2, 0, 0, 4, 3, 1, 0, 0, 1, 0, 1, 1, 0, 2, 2, 3, 2, 0, 1, 0, 0, 0, 0, 0, 1, 1, 1, 0, 1, 1, 0, 2, 3, 1, 2, 2, 1, 0, 1, 1, 2, 2, 2, 1, 1, 0, 1, 3, 2, 2, 1, 1, 2, 3, 3, 2, 2, 3, 0, 0, 7, 5, 3, 1, 4, 5, 3, 1, 3, 2, 2, 2, 4, 0, 3, 2, 1, 5, 1, 1, 3, 4, 2, 3, 1, 2, 2, 2, 2, 2, 1, 0, 1, 2, 1, 1, 0, 0, 0, 0, 1, 1, 1, 1, 0, 3, 3, 2, 2, 1, 2, 2, 2, 1, 1, 0, 1, 0, 1, 3, 2, 2, 1, 1, 2, 2, 3, 3, 2, 2, 3, 0, 0, 1, 3, 4, 4, 7, 2, 5, 3, 1, 4, 5, 1]
def mm_y (j : Nat) : MethodName := mm_yL.getD j yX0_init
def mm_c (j : Nat) : ByteArray := mm_cL.getD j cX0_init
def mm_x (j : Nat) : Nat := mm_xL.getD j 1
def mm_r (j : Nat) : Option FieldType := mm_rL.getD j none
def mm_o (j : Nat) : Nat := mm_oL.getD j 0
def mm_k (j : Nat) : Nat := mm_kL.getD j 2
def mm_h (j : Nat) : Nat := mm_hL.getD j 1
def mm_a (j : Nat) : Nat := mm_aL.getD j 0
def mm_fT_0 : List (Nat × Nat × Nat × Nat) := [(5, 10, 5, 0), (5, 16, 5, 1), (5, 22, 5, 2), (5, 29, 5, 3), (5, 36, 5, 4), (5, 42, 5, 5), (5, 47, 5, 6), (5, 50, 5, 7), (5, 53, 5, 8), (0, 9, 0, 6), (0, 15, 0, 7), (0, 18, 0, 8), (0, 21, 0, 9), (0, 24, 0, 10), (0, 27, 0, 11), (0, 30, 0, 12)]
theorem mm_fT_0_ok : ∀ q ∈ mm_fT_0, Cond.fieldLink (mm_Rn q.1) q.2.1 (mm_Tn q.2.2.1 q.2.2.2).1 (mm_Tn q.2.2.1 q.2.2.2).2.1 (mm_Tn q.2.2.1 q.2.2.2).2.2.1 ∈ mm_U ∧ q.2.2.1 < 7 ∧ q.2.2.2 < mm_N q.2.2.1 := List.forall_mem_cons.mpr ⟨⟨mw_16, by decide, by decide⟩, List.forall_mem_cons.mpr ⟨⟨mw_17, by decide, by decide⟩, List.forall_mem_cons.mpr ⟨⟨mw_21, by decide, by decide⟩, List.forall_mem_cons.mpr ⟨⟨mw_25, by decide, by decide⟩, List.forall_mem_cons.mpr ⟨⟨mw_29, by decide, by decide⟩, List.forall_mem_cons.mpr ⟨⟨mw_31, by decide, by decide⟩, List.forall_mem_cons.mpr ⟨⟨mw_34, by decide, by decide⟩, List.forall_mem_cons.mpr ⟨⟨mw_35, by decide, by decide⟩, List.forall_mem_cons.mpr ⟨⟨mw_36, by decide, by decide⟩, List.forall_mem_cons.mpr ⟨⟨mw_42, by decide, by decide⟩, List.forall_mem_cons.mpr ⟨⟨mw_43, by decide, by decide⟩, List.forall_mem_cons.mpr ⟨⟨mw_44, by decide, by decide⟩, List.forall_mem_cons.mpr ⟨⟨mw_45, by decide, by decide⟩, List.forall_mem_cons.mpr ⟨⟨mw_46, by decide, by decide⟩, List.forall_mem_cons.mpr ⟨⟨mw_47, by decide, by decide⟩, List.forall_mem_cons.mpr ⟨⟨mw_48, by decide, by decide⟩, fun _ h => absurd h List.not_mem_nil⟩⟩⟩⟩⟩⟩⟩⟩⟩⟩⟩⟩⟩⟩⟩⟩
def mm_fT_1 : List (Nat × Nat × Nat × Nat) := [(0, 33, 0, 13), (0, 36, 0, 2), (0, 40, 0, 5), (2, 11, 2, 0), (1, 9, 1, 2), (1, 15, 1, 3), (4, 9, 4, 3), (4, 18, 4, 2), (3, 9, 3, 3), (6, 7, 6, 0), (6, 13, 6, 1), (6, 16, 6, 2), (6, 20, 6, 4), (6, 23, 6, 7), (6, 26, 6, 8), (6, 29, 6, 9)]
theorem mm_fT_1_ok : ∀ q ∈ mm_fT_1, Cond.fieldLink (mm_Rn q.1) q.2.1 (mm_Tn q.2.2.1 q.2.2.2).1 (mm_Tn q.2.2.1 q.2.2.2).2.1 (mm_Tn q.2.2.1 q.2.2.2).2.2.1 ∈ mm_U ∧ q.2.2.1 < 7 ∧ q.2.2.2 < mm_N q.2.2.1 := List.forall_mem_cons.mpr ⟨⟨mw_49, by decide, by decide⟩, List.forall_mem_cons.mpr ⟨⟨mw_50, by decide, by decide⟩, List.forall_mem_cons.mpr ⟨⟨mw_51, by decide, by decide⟩, List.forall_mem_cons.mpr ⟨⟨mw_57, by decide, by decide⟩, List.forall_mem_cons.mpr ⟨⟨mw_63, by decide, by decide⟩, List.forall_mem_cons.mpr ⟨⟨mw_64, by decide, by decide⟩, List.forall_mem_cons.mpr ⟨⟨mw_69, by decide, by decide⟩, List.forall_mem_cons.mpr ⟨⟨mw_71, by decide, by decide⟩, List.forall_mem_cons.mpr ⟨⟨mw_78, by decide, by decide⟩, List.forall_mem_cons.mpr ⟨⟨mw_83, by decide, by decide⟩, List.forall_mem_cons.mpr ⟨⟨mw_84, by decide, by decide⟩, List.forall_mem_cons.mpr ⟨⟨mw_85, by decide, by decide⟩, List.forall_mem_cons.mpr ⟨⟨mw_86, by decide, by decide⟩, List.forall_mem_cons.mpr ⟨⟨mw_87, by decide, by decide⟩, List.forall_mem_cons.mpr ⟨⟨mw_88, by decide, by decide⟩, List.forall_mem_cons.mpr ⟨⟨mw_89, by decide, by decide⟩, fun _ h => absurd h List.not_mem_nil⟩⟩⟩⟩⟩⟩⟩⟩⟩⟩⟩⟩⟩⟩⟩⟩
def mm_fT_2 : List (Nat × Nat × Nat × Nat) := [(6, 32, 6, 10), (6, 35, 6, 12), (6, 38, 6, 13), (6, 41, 6, 14), (6, 44, 6, 15), (5, 61, 0, 0), (2, 18, 2, 1), (0, 43, 0, 0), (5, 76, 0, 1), (0, 46, 0, 1), (5, 82, 0, 2), (5, 85, 0, 6), (5, 89, 0, 7), (5, 92, 0, 8), (5, 105, 0, 9), (5, 108, 0, 10)]
theorem mm_fT_2_ok : ∀ q ∈ mm_fT_2, Cond.fieldLink (mm_Rn q.1) q.2.1 (mm_Tn q.2.2.1 q.2.2.2).1 (mm_Tn q.2.2.1 q.2.2.2).2.1 (mm_Tn q.2.2.1 q.2.2.2).2.2.1 ∈ mm_U ∧ q.2.2.1 < 7 ∧ q.2.2.2 < mm_N q.2.2.1 := List.forall_mem_cons.mpr ⟨⟨mw_90, by decide, by decide⟩, List.forall_mem_cons.mpr ⟨⟨mw_91, by decide, by decide⟩, List.forall_mem_cons.mpr ⟨⟨mw_92, by decide, by decide⟩, List.forall_mem_cons.mpr ⟨⟨mw_93, by decide, by decide⟩, List.forall_mem_cons.mpr ⟨⟨mw_94, by decide, by decide⟩, List.forall_mem_cons.mpr ⟨⟨mw_99, by decide, by decide⟩, List.forall_mem_cons.mpr ⟨⟨mw_107, by decide, by decide⟩, List.forall_mem_cons.mpr ⟨⟨mw_112, by decide, by decide⟩, List.forall_mem_cons.mpr ⟨⟨mw_127, by decide, by decide⟩, List.forall_mem_cons.mpr ⟨⟨mw_136, by decide, by decide⟩, List.forall_mem_cons.mpr ⟨⟨mw_152, by decide, by decide⟩, List.forall_mem_cons.mpr ⟨⟨mw_161, by decide, by decide⟩, List.forall_mem_cons.mpr ⟨⟨mw_162, by decide, by decide⟩, List.forall_mem_cons.mpr ⟨⟨mw_163, by decide, by decide⟩, List.forall_mem_cons.mpr ⟨⟨mw_186, by decide, by decide⟩, List.forall_mem_cons.mpr ⟨⟨mw_187, by decide, by decide⟩, fun _ h => absurd h List.not_mem_nil⟩⟩⟩⟩⟩⟩⟩⟩⟩⟩⟩⟩⟩⟩⟩⟩
def mm_fT_3 : List (Nat × Nat × Nat × Nat) := [(5, 111, 0, 11), (5, 117, 4, 0), (4, 22, 4, 0), (6, 77, 6, 3), (5, 127, 4, 1), (5, 130, 0, 5), (5, 133, 4, 2), (4, 26, 4, 4), (4, 36, 0, 2), (0, 49, 0, 3), (0, 52, 0, 4), (4, 79, 4, 1), (6, 81, 6, 5), (6, 88, 6, 6), (5, 140, 0, 3), (5, 143, 0, 4)]
theorem mm_fT_3_ok : ∀ q ∈ mm_fT_3, Cond.fieldLink (mm_Rn q.1) q.2.1 (mm_Tn q.2.2.1 q.2.2.2).1 (mm_Tn q.2.2.1 q.2.2.2).2.1 (mm_Tn q.2.2.1 q.2.2.2).2.2.1 ∈ mm_U ∧ q.2.2.1 < 7 ∧ q.2.2.2 < mm_N q.2.2.1 := List.forall_mem_cons.mpr ⟨⟨mw_188, by decide, by decide⟩, List.forall_mem_cons.mpr ⟨⟨mw_212, by decide, by decide⟩, List.forall_mem_cons.mpr ⟨⟨mw_217, by decide, by decide⟩, List.forall_mem_cons.mpr ⟨⟨mw_222, by decide, by decide⟩, List.forall_mem_cons.mpr ⟨⟨mw_227, by decide, by decide⟩, List.forall_mem_cons.mpr ⟨⟨mw_228, by decide, by decide⟩, List.forall_mem_cons.mpr ⟨⟨mw_229, by decide, by decide⟩, List.forall_mem_cons.mpr ⟨⟨mw_234, by decide, by decide⟩, List.forall_mem_cons.mpr ⟨⟨mw_235, by decide, by decide⟩, List.forall_mem_cons.mpr ⟨⟨mw_240, by decide, by decide⟩, List.forall_mem_cons.mpr ⟨⟨mw_241, by decide, by decide⟩, List.forall_mem_cons.mpr ⟨⟨mw_257, by decide, by decide⟩, List.forall_mem_cons.mpr ⟨⟨mw_292, by decide, by decide⟩, List.forall_mem_cons.mpr ⟨⟨mw_297, by decide, by decide⟩, List.forall_mem_cons.mpr ⟨⟨mw_332, by decide, by decide⟩, List.forall_mem_cons.mpr ⟨⟨mw_333, by decide, by decide⟩, fun _ h => absurd h List.not_mem_nil⟩⟩⟩⟩⟩⟩⟩⟩⟩⟩⟩⟩⟩⟩⟩⟩
def mm_fT_4 : List (Nat × Nat × Nat × Nat) := [(5, 156, 2, 1), (5, 184, 1, 0), (5, 187, 1, 1), (5, 190, 1, 2), (1, 18, 0, 0), (1, 24, 1, 0), (1, 39, 0, 7), (1, 59, 1, 1), (5, 197, 0, 13), (6, 171, 6, 11), (3, 15, 3, 0), (3, 19, 3, 1), (3, 23, 3, 2), (5, 238, 3, 3), (5, 248, 0, 12), (5, 228, 3, 0)]
theorem mm_fT_4_ok : ∀ q ∈ mm_fT_4, Cond.fieldLink (mm_Rn q.1) q.2.1 (mm_Tn q.2.2.1 q.2.2.2).1 (mm_Tn q.2.2.1 q.2.2.2).2.1 (mm_Tn q.2.2.1 q.2.2.2).2.2.1 ∈ mm_U ∧ q.2.2.1 < 7 ∧ q.2.2.2 < mm_N q.2.2.1 := List.forall_mem_cons.mpr ⟨⟨mw_334, by decide, by decide⟩, List.forall_mem_cons.mpr ⟨⟨mw_569, by decide, by decide⟩, List.forall_mem_cons.mpr ⟨⟨mw_570, by decide, by decide⟩, List.forall_mem_cons.mpr ⟨⟨mw_571, by decide, by decide⟩, List.forall_mem_cons.mpr ⟨⟨mw_576, by decide, by decide⟩, List.forall_mem_cons.mpr ⟨⟨mw_577, by decide, by decide⟩, List.forall_mem_cons.mpr ⟨⟨mw_582, by decide, by decide⟩, List.forall_mem_cons.mpr ⟨⟨mw_583, by decide, by decide⟩, List.forall_mem_cons.mpr ⟨⟨mw_626, by decide, by decide⟩, List.forall_mem_cons.mpr ⟨⟨mw_670, by decide, by decide⟩, List.forall_mem_cons.mpr ⟨⟨mw_687, by decide, by decide⟩, List.forall_mem_cons.mpr ⟨⟨mw_688, by decide, by decide⟩, List.forall_mem_cons.mpr ⟨⟨mw_693, by decide, by decide⟩, List.forall_mem_cons.mpr ⟨⟨mw_698, by decide, by decide⟩, List.forall_mem_cons.mpr ⟨⟨mw_699, by decide, by decide⟩, List.forall_mem_cons.mpr ⟨⟨mw_749, by decide, by decide⟩, fun _ h => absurd h List.not_mem_nil⟩⟩⟩⟩⟩⟩⟩⟩⟩⟩⟩⟩⟩⟩⟩⟩
def mm_fT_5 : List (Nat × Nat × Nat × Nat) := [(5, 231, 3, 2), (5, 232, 3, 1)]
theorem mm_fT_5_ok : ∀ q ∈ mm_fT_5, Cond.fieldLink (mm_Rn q.1) q.2.1 (mm_Tn q.2.2.1 q.2.2.2).1 (mm_Tn q.2.2.1 q.2.2.2).2.1 (mm_Tn q.2.2.1 q.2.2.2).2.2.1 ∈ mm_U ∧ q.2.2.1 < 7 ∧ q.2.2.2 < mm_N q.2.2.1 := List.forall_mem_cons.mpr ⟨⟨mw_750, by decide, by decide⟩, List.forall_mem_cons.mpr ⟨⟨mw_767, by decide, by decide⟩, fun _ h => absurd h List.not_mem_nil⟩⟩
def mm_fT : List (Nat × Nat × Nat × Nat) := mm_fT_0 ++ (mm_fT_1 ++ (mm_fT_2 ++ (mm_fT_3 ++ (mm_fT_4 ++ (mm_fT_5)))))
theorem mm_fT_ok : ∀ q ∈ mm_fT, Cond.fieldLink (mm_Rn q.1) q.2.1 (mm_Tn q.2.2.1 q.2.2.2).1 (mm_Tn q.2.2.1 q.2.2.2).2.1 (mm_Tn q.2.2.1 q.2.2.2).2.2.1 ∈ mm_U ∧ q.2.2.1 < 7 ∧ q.2.2.2 < mm_N q.2.2.1 := List.forall_mem_append.mpr ⟨mm_fT_0_ok, List.forall_mem_append.mpr ⟨mm_fT_1_ok, List.forall_mem_append.mpr ⟨mm_fT_2_ok, List.forall_mem_append.mpr ⟨mm_fT_3_ok, List.forall_mem_append.mpr ⟨mm_fT_4_ok, mm_fT_5_ok⟩⟩⟩⟩⟩
def mm_f (o i : Nat) : Option (Nat × Nat) := (mm_fT.find? (fun q => q.1 == o && q.2.1 == i)).map (fun q => q.2.2)
def mm_mT_0 : List (Nat × Nat × Nat) := [(0, 55, 7), (0, 66, 16), (0, 70, 8), (0, 74, 17), (0, 77, 20), (0, 80, 3), (0, 83, 18), (0, 87, 19), (0, 91, 12), (0, 95, 13), (0, 99, 11), (1, 27, 23), (1, 31, 24), (1, 35, 1), (1, 42, 16), (1, 46, 9)]
theorem mm_mT_0_ok : ∀ q ∈ mm_mT_0, Cond.methodLink (mm_Rn q.1) q.2.1 (mm_y q.2.2) ∈ mm_U ∧ q.2.2 < 164 := List.forall_mem_cons.mpr ⟨⟨mw_339, by decide⟩, List.forall_mem_cons.mpr ⟨⟨mw_512, by decide⟩, List.forall_mem_cons.mpr ⟨⟨mw_378, by decide⟩, List.forall_mem_cons.mpr ⟨⟨mw_379, by decide⟩, List.forall_mem_cons.mpr ⟨⟨mw_398, by decide⟩, List.forall_mem_cons.mpr ⟨⟨mw_383, by decide⟩, List.forall_mem_cons.mpr ⟨⟨mw_384, by decide⟩, List.forall_mem_cons.mpr ⟨⟨mw_393, by decide⟩, List.forall_mem_cons.mpr ⟨⟨mw_388, by decide⟩, List.forall_mem_cons.mpr ⟨⟨mw_389, by decide⟩, List.forall_mem_cons.mpr ⟨⟨mw_397, by decide⟩, List.forall_mem_cons.mpr ⟨⟨mw_578, by decide⟩, List.forall_mem_cons.mpr ⟨⟨mw_595, by decide⟩, List.forall_mem_cons.mpr ⟨⟨mw_584, by decide⟩, List.forall_mem_cons.mpr ⟨⟨mw_585, by decide⟩, List.forall_mem_cons.mpr ⟨⟨mw_586, by decide⟩, fun _ h => absurd h List.not_mem_nil⟩⟩⟩⟩⟩⟩⟩⟩⟩⟩⟩⟩⟩⟩⟩⟩
def mm_mT_1 : List (Nat × Nat × Nat) := [(1, 50, 163), (1, 56, 10), (2, 17, 0), (2, 22, 28), (2, 25, 1), (3, 26, 33), (4, 17, 0), (4, 29, 2), (4, 32, 44), (4, 39, 47), (4, 43, 48), (4, 46, 39), (4, 50, 41), (4, 53, 46), (4, 57, 40), (4, 60, 5)]
theorem mm_mT_1_ok : ∀ q ∈ mm_mT_1, Cond.methodLink (mm_Rn q.1) q.2.1 (mm_y q.2.2) ∈ mm_U ∧ q.2.2 < 164 := List.forall_mem_cons.mpr ⟨⟨mw_587, by decide⟩, List.forall_mem_cons.mpr ⟨⟨mw_594, by decide⟩, List.forall_mem_cons.mpr ⟨⟨mw_58, by decide⟩, List.forall_mem_cons.mpr ⟨⟨mw_369, by decide⟩, List.forall_mem_cons.mpr ⟨⟨mw_373, by decide⟩, List.forall_mem_cons.mpr ⟨⟨mw_689, by decide⟩, List.forall_mem_cons.mpr ⟨⟨mw_72, by decide⟩, List.forall_mem_cons.mpr ⟨⟨mw_236, by decide⟩, List.forall_mem_cons.mpr ⟨⟨mw_242, by decide⟩, List.forall_mem_cons.mpr ⟨⟨mw_258, by decide⟩, List.forall_mem_cons.mpr ⟨⟨mw_253, by decide⟩, List.forall_mem_cons.mpr ⟨⟨mw_262, by decide⟩, List.forall_mem_cons.mpr ⟨⟨mw_271, by decide⟩, List.forall_mem_cons.mpr ⟨⟨mw_246, by decide⟩, List.forall_mem_cons.mpr ⟨⟨mw_266, by decide⟩, List.forall_mem_cons.mpr ⟨⟨mw_270, by decide⟩, fun _ h => absurd h List.not_mem_nil⟩⟩⟩⟩⟩⟩⟩⟩⟩⟩⟩⟩⟩⟩⟩⟩
def mm_mT_2 : List (Nat × Nat × Nat) := [(4, 64, 42), (4, 67, 43), (4, 70, 3), (4, 73, 6), (4, 76, 45), (5, 9, 0), (5, 21, 25), (5, 28, 21), (5, 35, 36), (5, 46, 31), (5, 57, 85), (5, 65, 26), (5, 68, 5), (5, 72, 3), (5, 79, 6), (5, 95, 7)]
theorem mm_mT_2_ok : ∀ q ∈ mm_mT_2, Cond.methodLink (mm_Rn q.1) q.2.1 (mm_y q.2.2) ∈ mm_U ∧ q.2.2 < 164 := List.forall_mem_cons.mpr ⟨⟨mw_275, by decide⟩, List.forall_mem_cons.mpr ⟨⟨mw_279, by decide⟩, List.forall_mem_cons.mpr ⟨⟨mw_282, by decide⟩, List.forall_mem_cons.mpr ⟨⟨mw_283, by decide⟩, List.forall_mem_cons.mpr ⟨⟨mw_250, by decide⟩, List.forall_mem_cons.mpr ⟨⟨mw_37, by decide⟩, List.forall_mem_cons.mpr ⟨⟨mw_52, by decide⟩, List.forall_mem_cons.mpr ⟨⟨mw_59, by decide⟩, List.forall_mem_cons.mpr ⟨⟨mw_65, by decide⟩, List.forall_mem_cons.mpr ⟨⟨mw_73, by decide⟩, List.forall_mem_cons.mpr ⟨⟨mw_100, by decide⟩, List.forall_mem_cons.mpr ⟨⟨mw_103, by decide⟩, List.forall_mem_cons.mpr ⟨⟨mw_108, by decide⟩, List.forall_mem_cons.mpr ⟨⟨mw_128, by decide⟩, List.forall_mem_cons.mpr ⟨⟨mw_132, by decide⟩, List.forall_mem_cons.mpr ⟨⟨mw_164, by decide⟩, fun _ h => absurd h List.not_mem_nil⟩⟩⟩⟩⟩⟩⟩⟩⟩⟩⟩⟩⟩⟩⟩⟩
def mm_mT_3 : List (Nat × Nat × Nat) := [(5, 98, 11), (5, 102, 4), (5, 114, 12), (5, 120, 37), (5, 123, 38), (5, 136, 1), (5, 146, 9), (5, 150, 10), (5, 153, 8), (5, 157, 27), (5, 160, 16), (5, 164, 13), (5, 168, 14), (5, 171, 29), (5, 174, 86), (5, 177, 15)]
theorem mm_mT_3_ok : ∀ q ∈ mm_mT_3, Cond.methodLink (mm_Rn q.1) q.2.1 (mm_y q.2.2) ∈ mm_U ∧ q.2.2 < 164 := List.forall_mem_cons.mpr ⟨⟨mw_168, by decide⟩, List.forall_mem_cons.mpr ⟨⟨mw_189, by decide⟩, List.forall_mem_cons.mpr ⟨⟨mw_193, by decide⟩, List.forall_mem_cons.mpr ⟨⟨mw_213, by decide⟩, List.forall_mem_cons.mpr ⟨⟨mw_230, by decide⟩, List.forall_mem_cons.mpr ⟨⟨mw_284, by decide⟩, List.forall_mem_cons.mpr ⟨⟨mw_335, by decide⟩, List.forall_mem_cons.mpr ⟨⟨mw_340, by decide⟩, List.forall_mem_cons.mpr ⟨⟨mw_344, by decide⟩, List.forall_mem_cons.mpr ⟨⟨mw_365, by decide⟩, List.forall_mem_cons.mpr ⟨⟨mw_374, by decide⟩, List.forall_mem_cons.mpr ⟨⟨mw_439, by decide⟩, List.forall_mem_cons.mpr ⟨⟨mw_464, by decide⟩, List.forall_mem_cons.mpr ⟨⟨mw_484, by decide⟩, List.forall_mem_cons.mpr ⟨⟨mw_504, by decide⟩, List.forall_mem_cons.mpr ⟨⟨mw_508, by decide⟩, fun _ h => absurd h List.not_mem_nil⟩⟩⟩⟩⟩⟩⟩⟩⟩⟩⟩⟩⟩⟩⟩⟩
def mm_mT_4 : List (Nat × Nat × Nat) := [(5, 180, 22), (5, 193, 87), (5, 200, 88), (5, 204, 89), (5, 208, 90), (5, 211, 30), (5, 214, 34), (5, 217, 91), (5, 221, 35), (5, 225, 32), (5, 235, 33), (6, 47, 93), (6, 51, 99), (6, 55, 97), (6, 59, 100), (6, 63, 105)]
theorem mm_mT_4_ok : ∀ q ∈ mm_mT_4, Cond.methodLink (mm_Rn q.1) q.2.1 (mm_y q.2.2) ∈ mm_U ∧ q.2.2 < 164 := List.forall_mem_cons.mpr ⟨⟨mw_572, by decide⟩, List.forall_mem_cons.mpr ⟨⟨mw_614, by decide⟩, List.forall_mem_cons.mpr ⟨⟨mw_643, by decide⟩, List.forall_mem_cons.mpr ⟨⟨mw_647, by decide⟩, List.forall_mem_cons.mpr ⟨⟨mw_651, by decide⟩, List.forall_mem_cons.mpr ⟨⟨mw_662, by decide⟩, List.forall_mem_cons.mpr ⟨⟨mw_683, by decide⟩, List.forall_mem_cons.mpr ⟨⟨mw_694, by decide⟩, List.forall_mem_cons.mpr ⟨⟨mw_722, by decide⟩, List.forall_mem_cons.mpr ⟨⟨mw_737, by decide⟩, List.forall_mem_cons.mpr ⟨⟨mw_772, by decide⟩, List.forall_mem_cons.mpr ⟨⟨mw_117, by decide⟩, List.forall_mem_cons.mpr ⟨⟨mw_120, by decide⟩, List.forall_mem_cons.mpr ⟨⟨mw_141, by decide⟩, List.forall_mem_cons.mpr ⟨⟨mw_145, by decide⟩, List.forall_mem_cons.mpr ⟨⟨mw_176, by decide⟩, fun _ h => absurd h List.not_mem_nil⟩⟩⟩⟩⟩⟩⟩⟩⟩⟩⟩⟩⟩⟩⟩⟩
def mm_mT_5 : List (Nat × Nat × Nat) := [(6, 67, 104), (6, 71, 98), (6, 74, 107), (6, 84, 110), (6, 91, 112), (6, 95, 113), (6, 98, 111), (6, 101, 114), (6, 105, 115), (6, 109, 116), (6, 112, 117), (6, 115, 96), (6, 119, 119), (6, 123, 120), (6, 126, 121), (6, 130, 124)]
theorem mm_mT_5_ok : ∀ q ∈ mm_mT_5, Cond.methodLink (mm_Rn q.1) q.2.1 (mm_y q.2.2) ∈ mm_U ∧ q.2.2 < 164 := List.forall_mem_cons.mpr ⟨⟨mw_179, by decide⟩, List.forall_mem_cons.mpr ⟨⟨mw_201, by decide⟩, List.forall_mem_cons.mpr ⟨⟨mw_205, by decide⟩, List.forall_mem_cons.mpr ⟨⟨mw_306, by decide⟩, List.forall_mem_cons.mpr ⟨⟨mw_302, by decide⟩, List.forall_mem_cons.mpr ⟨⟨mw_298, by decide⟩, List.forall_mem_cons.mpr ⟨⟨mw_310, by decide⟩, List.forall_mem_cons.mpr ⟨⟨mw_322, by decide⟩, List.forall_mem_cons.mpr ⟨⟨mw_314, by decide⟩, List.forall_mem_cons.mpr ⟨⟨mw_318, by decide⟩, List.forall_mem_cons.mpr ⟨⟨mw_293, by decide⟩, List.forall_mem_cons.mpr ⟨⟨mw_325, by decide⟩, List.forall_mem_cons.mpr ⟨⟨mw_352, by decide⟩, List.forall_mem_cons.mpr ⟨⟨mw_355, by decide⟩, List.forall_mem_cons.mpr ⟨⟨mw_358, by decide⟩, List.forall_mem_cons.mpr ⟨⟨mw_424, by decide⟩, fun _ h => absurd h List.not_mem_nil⟩⟩⟩⟩⟩⟩⟩⟩⟩⟩⟩⟩⟩⟩⟩⟩
def mm_mT_6 : List (Nat × Nat × Nat) := [(6, 134, 125), (6, 138, 94), (6, 141, 126), (6, 145, 123), (6, 148, 127), (6, 158, 136), (6, 161, 137), (6, 165, 144), (6, 168, 95), (6, 175, 153), (6, 178, 152), (6, 181, 154), (6, 185, 155), (6, 189, 157)]
theorem mm_mT_6_ok : ∀ q ∈ mm_mT_6, Cond.methodLink (mm_Rn q.1) q.2.1 (mm_y q.2.2) ∈ mm_U ∧ q.2.2 < 164 := List.forall_mem_cons.mpr ⟨⟨mw_421, by decide⟩, List.forall_mem_cons.mpr ⟨⟨mw_414, by decide⟩, List.forall_mem_cons.mpr ⟨⟨mw_417, by decide⟩, List.forall_mem_cons.mpr ⟨⟨mw_406, by decide⟩, List.forall_mem_cons.mpr ⟨⟨mw_410, by decide⟩, List.forall_mem_cons.mpr ⟨⟨mw_517, by decide⟩, List.forall_mem_cons.mpr ⟨⟨mw_521, by decide⟩, List.forall_mem_cons.mpr ⟨⟨mw_603, by decide⟩, List.forall_mem_cons.mpr ⟨⟨mw_607, by decide⟩, List.forall_mem_cons.mpr ⟨⟨mw_711, by decide⟩, List.forall_mem_cons.mpr ⟨⟨mw_704, by decide⟩, List.forall_mem_cons.mpr ⟨⟨mw_707, by decide⟩, List.forall_mem_cons.mpr ⟨⟨mw_714, by decide⟩, List.forall_mem_cons.mpr ⟨⟨mw_730, by decide⟩, fun _ h => absurd h List.not_mem_nil⟩⟩⟩⟩⟩⟩⟩⟩⟩⟩⟩⟩⟩⟩
def mm_mT : List (Nat × Nat × Nat) := mm_mT_0 ++ (mm_mT_1 ++ (mm_mT_2 ++ (mm_mT_3 ++ (mm_mT_4 ++ (mm_mT_5 ++ (mm_mT_6))))))
theorem mm_mT_ok : ∀ q ∈ mm_mT, Cond.methodLink (mm_Rn q.1) q.2.1 (mm_y q.2.2) ∈ mm_U ∧ q.2.2 < 164 := List.forall_mem_append.mpr ⟨mm_mT_0_ok, List.forall_mem_append.mpr ⟨mm_mT_1_ok, List.forall_mem_append.mpr ⟨mm_mT_2_ok, List.forall_mem_append.mpr ⟨mm_mT_3_ok, List.forall_mem_append.mpr ⟨mm_mT_4_ok, List.forall_mem_append.mpr ⟨mm_mT_5_ok, mm_mT_6_ok⟩⟩⟩⟩⟩⟩
def mm_m (o i : Nat) : Option Nat := (mm_mT.find? (fun q => q.1 == o && q.2.1 == i)).map (fun q => q.2.2)
def mm_oT_0 : List (Nat × Nat) := [(0, 3), (1, 3), (2, 3), (3, 3), (4, 3), (5, 1), (6, 1)]
theorem mm_oT_0_ok : ∀ q ∈ mm_oT_0, Cond.methodLink (mm_Rn q.1) q.2 objectInit ∈ mm_U := List.forall_mem_cons.mpr ⟨mw_40, List.forall_mem_cons.mpr ⟨mw_62, List.forall_mem_cons.mpr ⟨mw_55, List.forall_mem_cons.mpr ⟨mw_76, List.forall_mem_cons.mpr ⟨mw_68, List.forall_mem_cons.mpr ⟨mw_10, List.forall_mem_cons.mpr ⟨mw_82, fun _ h => absurd h List.not_mem_nil⟩⟩⟩⟩⟩⟩⟩
def mm_oT : List (Nat × Nat) := mm_oT_0
theorem mm_oT_ok : ∀ q ∈ mm_oT, Cond.methodLink (mm_Rn q.1) q.2 objectInit ∈ mm_U := mm_oT_0_ok
def mm_nT_0 : List (Nat × Nat) := [(5, 242)]
theorem mm_nT_0_ok : ∀ q ∈ mm_nT_0, Cond.methodLink (mm_Rn q.1) q.2 arraycopyName ∈ mm_U := List.forall_mem_cons.mpr ⟨mw_768, fun _ h => absurd h List.not_mem_nil⟩
def mm_nT : List (Nat × Nat) := mm_nT_0
theorem mm_nT_ok : ∀ q ∈ mm_nT, Cond.methodLink (mm_Rn q.1) q.2 arraycopyName ∈ mm_U := mm_nT_0_ok
def mm_kT_0 : List (Nat × Nat × Nat) := [(5, 7, 0), (5, 19, 2), (5, 26, 1), (5, 33, 4), (5, 40, 3), (2, 9, 0), (4, 15, 0)]
theorem mm_kT_0_ok : ∀ q ∈ mm_kT_0, Cond.classLink (mm_Rn q.1) q.2.1 (mm_Rn q.2.2) ∈ mm_U ∧ q.2.2 < 7 := List.forall_mem_cons.mpr ⟨⟨mw_13, by decide⟩, List.forall_mem_cons.mpr ⟨⟨mw_18, by decide⟩, List.forall_mem_cons.mpr ⟨⟨mw_22, by decide⟩, List.forall_mem_cons.mpr ⟨⟨mw_26, by decide⟩, List.forall_mem_cons.mpr ⟨⟨mw_30, by decide⟩, List.forall_mem_cons.mpr ⟨⟨mw_56, by decide⟩, List.forall_mem_cons.mpr ⟨⟨mw_70, by decide⟩, fun _ h => absurd h List.not_mem_nil⟩⟩⟩⟩⟩⟩⟩
def mm_kT : List (Nat × Nat × Nat) := mm_kT_0
theorem mm_kT_ok : ∀ q ∈ mm_kT, Cond.classLink (mm_Rn q.1) q.2.1 (mm_Rn q.2.2) ∈ mm_U ∧ q.2.2 < 7 := mm_kT_0_ok
def mm_kk (o i : Nat) : Option Nat := (mm_kT.find? (fun q => q.1 == o && q.2.1 == i)).map (fun q => q.2.2)
def mm_cT_0 : List (Nat × Nat × Int32) := [(0, 65, 65536), (6, 157, 65536), (7, 265, 1431655765), (7, 266, 858993459), (7, 267, 252645135)]
theorem mm_cT_0_ok : ∀ q ∈ mm_cT_0, Cond.constant (mm_Rn q.1) q.2.1 q.2.2 ∈ mm_U := List.forall_mem_cons.mpr ⟨mw_471, List.forall_mem_cons.mpr ⟨mw_479, List.forall_mem_cons.mpr ⟨mw_591, List.forall_mem_cons.mpr ⟨mw_592, List.forall_mem_cons.mpr ⟨mw_593, fun _ h => absurd h List.not_mem_nil⟩⟩⟩⟩⟩
def mm_cT : List (Nat × Nat × Int32) := mm_cT_0
theorem mm_cT_ok : ∀ q ∈ mm_cT, Cond.constant (mm_Rn q.1) q.2.1 q.2.2 ∈ mm_U := mm_cT_0_ok
def mm_lT_0 : List (Nat × Nat × Int64) := [(0, 59, 1103515245), (0, 61, 12345), (0, 63, 2147483647), (6, 151, 1103515245), (6, 153, 12345), (6, 155, 2147483648)]
theorem mm_lT_0_ok : ∀ q ∈ mm_lT_0, Cond.constantLong (mm_Rn q.1) q.2.1 q.2.2 ∈ mm_U := List.forall_mem_cons.mpr ⟨mw_468, List.forall_mem_cons.mpr ⟨mw_469, List.forall_mem_cons.mpr ⟨mw_470, List.forall_mem_cons.mpr ⟨mw_476, List.forall_mem_cons.mpr ⟨mw_477, List.forall_mem_cons.mpr ⟨mw_478, fun _ h => absurd h List.not_mem_nil⟩⟩⟩⟩⟩⟩
def mm_lT : List (Nat × Nat × Int64) := mm_lT_0
theorem mm_lT_ok : ∀ q ∈ mm_lT, Cond.constantLong (mm_Rn q.1) q.2.1 q.2.2 ∈ mm_U := mm_lT_0_ok
def mm_ci (o i : Nat) : Option Int32 := (mm_cT.find? (fun q => q.1 == o && q.2.1 == i)).map (fun q => q.2.2)
def mm_cl (o i : Nat) : Option Int64 := (mm_lT.find? (fun q => q.1 == o && q.2.1 == i)).map (fun q => q.2.2)
/-- what the tables say of a method -/
def mm_ok (j : Nat) : Prop := Cond.code (mm_y j) (mm_c j) (mm_x j) (mm_r j) ∈ mm_U ∧ Cond.initialized (mm_Rn (mm_o j)) ∈ mm_U ∧ ((mm_y j).cls = mm_Rn (mm_o j) ∧ plainName (mm_y j).cls = true ∧ (mm_y j).cls ≠ "java/lang/invoke/MethodHandle" ∧ (mm_y j).cls ≠ "java/lang/invoke/VarHandle" ∧ (parseMethodDescriptor (mm_y j).desc).map (fun d => d.parameters.length) = some (mm_a j)) ∧ (mm_k j = 0 → Cond.instanceMethod (mm_y j) ∈ mm_U ∧ Cond.selects (mm_Rn (mm_o j)) (mm_y j) (mm_y j) ∈ mm_U) ∧ (mm_k j = 1 → Cond.static (mm_y j) ∈ mm_U) ∧ (mm_k j = 2 → (mm_y j).name = "<init>" ∧ Cond.instanceMethod (mm_y j) ∈ mm_U ∧ mm_r j = none)
theorem mm_ok_0 : mm_ok 0 := ⟨mw_39, mw_15, by decide +kernel, fun h => absurd h (by decide), fun h => absurd h (by decide), fun _ => ⟨rfl, mw_38, rfl⟩⟩
theorem mm_ok_1 : mm_ok 1 := ⟨mw_287, mw_15, by decide +kernel, fun _ => ⟨mw_285, mw_286⟩, fun h => absurd h (by decide), fun h => absurd h (by decide)⟩
theorem mm_ok_2 : mm_ok 2 := ⟨mw_239, mw_15, by decide +kernel, fun _ => ⟨mw_237, mw_238⟩, fun h => absurd h (by decide), fun h => absurd h (by decide)⟩
theorem mm_ok_3 : mm_ok 3 := ⟨mw_131, mw_15, by decide +kernel, fun _ => ⟨mw_129, mw_130⟩, fun h => absurd h (by decide), fun h => absurd h (by decide)⟩
theorem mm_ok_4 : mm_ok 4 := ⟨mw_192, mw_15, by decide +kernel, fun _ => ⟨mw_190, mw_191⟩, fun h => absurd h (by decide), fun h => absurd h (by decide)⟩
theorem mm_ok_5 : mm_ok 5 := ⟨mw_111, mw_15, by decide +kernel, fun _ => ⟨mw_109, mw_110⟩, fun h => absurd h (by decide), fun h => absurd h (by decide)⟩
theorem mm_ok_6 : mm_ok 6 := ⟨mw_135, mw_15, by decide +kernel, fun _ => ⟨mw_133, mw_134⟩, fun h => absurd h (by decide), fun h => absurd h (by decide)⟩
theorem mm_ok_7 : mm_ok 7 := ⟨mw_167, mw_15, by decide +kernel, fun _ => ⟨mw_165, mw_166⟩, fun h => absurd h (by decide), fun h => absurd h (by decide)⟩
theorem mm_ok_8 : mm_ok 8 := ⟨mw_347, mw_15, by decide +kernel, fun _ => ⟨mw_345, mw_346⟩, fun h => absurd h (by decide), fun h => absurd h (by decide)⟩
theorem mm_ok_9 : mm_ok 9 := ⟨mw_338, mw_15, by decide +kernel, fun _ => ⟨mw_336, mw_337⟩, fun h => absurd h (by decide), fun h => absurd h (by decide)⟩
theorem mm_ok_10 : mm_ok 10 := ⟨mw_343, mw_15, by decide +kernel, fun _ => ⟨mw_341, mw_342⟩, fun h => absurd h (by decide), fun h => absurd h (by decide)⟩
theorem mm_ok_11 : mm_ok 11 := ⟨mw_171, mw_15, by decide +kernel, fun _ => ⟨mw_169, mw_170⟩, fun h => absurd h (by decide), fun h => absurd h (by decide)⟩
theorem mm_ok_12 : mm_ok 12 := ⟨mw_196, mw_15, by decide +kernel, fun _ => ⟨mw_194, mw_195⟩, fun h => absurd h (by decide), fun h => absurd h (by decide)⟩
theorem mm_ok_13 : mm_ok 13 := ⟨mw_392, mw_15, by decide +kernel, fun _ => ⟨mw_390, mw_391⟩, fun h => absurd h (by decide), fun h => absurd h (by decide)⟩
theorem mm_ok_14 : mm_ok 14 := ⟨mw_467, mw_15, by decide +kernel, fun _ => ⟨mw_465, mw_466⟩, fun h => absurd h (by decide), fun h => absurd h (by decide)⟩
theorem mm_ok_15 : mm_ok 15 := ⟨mw_511, mw_15, by decide +kernel, fun _ => ⟨mw_509, mw_510⟩, fun h => absurd h (by decide), fun h => absurd h (by decide)⟩
theorem mm_ok_16 : mm_ok 16 := ⟨mw_377, mw_15, by decide +kernel, fun _ => ⟨mw_375, mw_376⟩, fun h => absurd h (by decide), fun h => absurd h (by decide)⟩
theorem mm_ok_17 : mm_ok 17 := ⟨mw_382, mw_15, by decide +kernel, fun _ => ⟨mw_380, mw_381⟩, fun h => absurd h (by decide), fun h => absurd h (by decide)⟩
theorem mm_ok_18 : mm_ok 18 := ⟨mw_387, mw_15, by decide +kernel, fun _ => ⟨mw_385, mw_386⟩, fun h => absurd h (by decide), fun h => absurd h (by decide)⟩
theorem mm_ok_19 : mm_ok 19 := ⟨mw_396, mw_15, by decide +kernel, fun _ => ⟨mw_394, mw_395⟩, fun h => absurd h (by decide), fun h => absurd h (by decide)⟩
theorem mm_ok_20 : mm_ok 20 := ⟨mw_401, mw_15, by decide +kernel, fun _ => ⟨mw_399, mw_400⟩, fun h => absurd h (by decide), fun h => absurd h (by decide)⟩
theorem mm_ok_21 : mm_ok 21 := ⟨mw_61, mw_24, by decide +kernel, fun h => absurd h (by decide), fun h => absurd h (by decide), fun _ => ⟨rfl, mw_60, rfl⟩⟩
theorem mm_ok_22 : mm_ok 22 := ⟨mw_575, mw_24, by decide +kernel, fun _ => ⟨mw_573, mw_574⟩, fun h => absurd h (by decide), fun h => absurd h (by decide)⟩
theorem mm_ok_23 : mm_ok 23 := ⟨mw_581, mw_24, by decide +kernel, fun _ => ⟨mw_579, mw_580⟩, fun h => absurd h (by decide), fun h => absurd h (by decide)⟩
theorem mm_ok_24 : mm_ok 24 := ⟨mw_598, mw_24, by decide +kernel, fun _ => ⟨mw_596, mw_597⟩, fun h => absurd h (by decide), fun h => absurd h (by decide)⟩
theorem mm_ok_25 : mm_ok 25 := ⟨mw_54, mw_20, by decide +kernel, fun h => absurd h (by decide), fun h => absurd h (by decide), fun _ => ⟨rfl, mw_53, rfl⟩⟩
theorem mm_ok_26 : mm_ok 26 := ⟨mw_106, mw_20, by decide +kernel, fun _ => ⟨mw_104, mw_105⟩, fun h => absurd h (by decide), fun h => absurd h (by decide)⟩
theorem mm_ok_27 : mm_ok 27 := ⟨mw_368, mw_20, by decide +kernel, fun _ => ⟨mw_366, mw_367⟩, fun h => absurd h (by decide), fun h => absurd h (by decide)⟩
theorem mm_ok_28 : mm_ok 28 := ⟨mw_372, mw_20, by decide +kernel, fun _ => ⟨mw_370, mw_371⟩, fun h => absurd h (by decide), fun h => absurd h (by decide)⟩
theorem mm_ok_29 : mm_ok 29 := ⟨mw_487, mw_20, by decide +kernel, fun _ => ⟨mw_485, mw_486⟩, fun h => absurd h (by decide), fun h => absurd h (by decide)⟩
theorem mm_ok_30 : mm_ok 30 := ⟨mw_665, mw_20, by decide +kernel, fun _ => ⟨mw_663, mw_664⟩, fun h => absurd h (by decide), fun h => absurd h (by decide)⟩
theorem mm_ok_31 : mm_ok 31 := ⟨mw_75, mw_33, by decide +kernel, fun h => absurd h (by decide), fun h => absurd h (by decide), fun _ => ⟨rfl, mw_74, rfl⟩⟩
theorem mm_ok_32 : mm_ok 32 := ⟨mw_740, mw_33, by decide +kernel, fun _ => ⟨mw_738, mw_739⟩, fun h => absurd h (by decide), fun h => absurd h (by decide)⟩
theorem mm_ok_33 : mm_ok 33 := ⟨mw_692, mw_33, by decide +kernel, fun _ => ⟨mw_690, mw_691⟩, fun h => absurd h (by decide), fun h => absurd h (by decide)⟩
theorem mm_ok_34 : mm_ok 34 := ⟨mw_686, mw_33, by decide +kernel, fun _ => ⟨mw_684, mw_685⟩, fun h => absurd h (by decide), fun h => absurd h (by decide)⟩
theorem mm_ok_35 : mm_ok 35 := ⟨mw_725, mw_33, by decide +kernel, fun _ => ⟨mw_723, mw_724⟩, fun h => absurd h (by decide), fun h => absurd h (by decide)⟩
theorem mm_ok_36 : mm_ok 36 := ⟨mw_67, mw_28, by decide +kernel, fun h => absurd h (by decide), fun h => absurd h (by decide), fun _ => ⟨rfl, mw_66, rfl⟩⟩
theorem mm_ok_37 : mm_ok 37 := ⟨mw_216, mw_28, by decide +kernel, fun _ => ⟨mw_214, mw_215⟩, fun h => absurd h (by decide), fun h => absurd h (by decide)⟩
theorem mm_ok_38 : mm_ok 38 := ⟨mw_233, mw_28, by decide +kernel, fun _ => ⟨mw_231, mw_232⟩, fun h => absurd h (by decide), fun h => absurd h (by decide)⟩
theorem mm_ok_39 : mm_ok 39 := ⟨mw_265, mw_28, by decide +kernel, fun _ => ⟨mw_263, mw_264⟩, fun h => absurd h (by decide), fun h => absurd h (by decide)⟩
theorem mm_ok_40 : mm_ok 40 := ⟨mw_269, mw_28, by decide +kernel, fun _ => ⟨mw_267, mw_268⟩, fun h => absurd h (by decide), fun h => absurd h (by decide)⟩
theorem mm_ok_41 : mm_ok 41 := ⟨mw_274, mw_28, by decide +kernel, fun _ => ⟨mw_272, mw_273⟩, fun h => absurd h (by decide), fun h => absurd h (by decide)⟩
theorem mm_ok_42 : mm_ok 42 := ⟨mw_278, mw_28, by decide +kernel, fun _ => ⟨mw_276, mw_277⟩, fun h => absurd h (by decide), fun h => absurd h (by decide)⟩
theorem mm_ok_43 : mm_ok 43 := ⟨mw_281, mw_28, by decide +kernel, fun h => absurd h (by decide), fun _ => mw_280, fun h => absurd h (by decide)⟩
theorem mm_ok_44 : mm_ok 44 := ⟨mw_245, mw_28, by decide +kernel, fun _ => ⟨mw_243, mw_244⟩, fun h => absurd h (by decide), fun h => absurd h (by decide)⟩
theorem mm_ok_45 : mm_ok 45 := ⟨mw_252, mw_28, by decide +kernel, fun h => absurd h (by decide), fun _ => mw_251, fun h => absurd h (by decide)⟩
theorem mm_ok_46 : mm_ok 46 := ⟨mw_249, mw_28, by decide +kernel, fun _ => ⟨mw_247, mw_248⟩, fun h => absurd h (by decide), fun h => absurd h (by decide)⟩
theorem mm_ok_47 : mm_ok 47 := ⟨mw_261, mw_28, by decide +kernel, fun _ => ⟨mw_259, mw_260⟩, fun h => absurd h (by decide), fun h => absurd h (by decide)⟩
theorem mm_ok_48 : mm_ok 48 := ⟨mw_256, mw_28, by decide +kernel, fun _ => ⟨mw_254, mw_255⟩, fun h => absurd h (by decide), fun h => absurd h (by decide)⟩
theorem mm_ok_49 : mm_ok 49 := ⟨mw_9, mw_2, by decide +kernel, fun h => absurd h (by decide), fun h => absurd h (by decide), fun _ => ⟨rfl, mw_8, rfl⟩⟩
theorem mm_ok_50 : mm_ok 50 := ⟨mw_98, mw_2, by decide +kernel, fun _ => ⟨mw_96, mw_97⟩, fun h => absurd h (by decide), fun h => absurd h (by decide)⟩
theorem mm_ok_51 : mm_ok 51 := ⟨mw_126, mw_2, by decide +kernel, fun _ => ⟨mw_124, mw_125⟩, fun h => absurd h (by decide), fun h => absurd h (by decide)⟩
theorem mm_ok_52 : mm_ok 52 := ⟨mw_151, mw_2, by decide +kernel, fun _ => ⟨mw_149, mw_150⟩, fun h => absurd h (by decide), fun h => absurd h (by decide)⟩
theorem mm_ok_53 : mm_ok 53 := ⟨mw_160, mw_2, by decide +kernel, fun _ => ⟨mw_158, mw_159⟩, fun h => absurd h (by decide), fun h => absurd h (by decide)⟩
theorem mm_ok_54 : mm_ok 54 := ⟨mw_185, mw_2, by decide +kernel, fun _ => ⟨mw_183, mw_184⟩, fun h => absurd h (by decide), fun h => absurd h (by decide)⟩
theorem mm_ok_55 : mm_ok 55 := ⟨mw_211, mw_2, by decide +kernel, fun _ => ⟨mw_209, mw_210⟩, fun h => absurd h (by decide), fun h => absurd h (by decide)⟩
theorem mm_ok_56 : mm_ok 56 := ⟨mw_226, mw_2, by decide +kernel, fun _ => ⟨mw_224, mw_225⟩, fun h => absurd h (by decide), fun h => absurd h (by decide)⟩
theorem mm_ok_57 : mm_ok 57 := ⟨mw_331, mw_2, by decide +kernel, fun _ => ⟨mw_329, mw_330⟩, fun h => absurd h (by decide), fun h => absurd h (by decide)⟩
theorem mm_ok_58 : mm_ok 58 := ⟨mw_364, mw_2, by decide +kernel, fun _ => ⟨mw_362, mw_363⟩, fun h => absurd h (by decide), fun h => absurd h (by decide)⟩
theorem mm_ok_59 : mm_ok 59 := ⟨mw_430, mw_2, by decide +kernel, fun _ => ⟨mw_428, mw_429⟩, fun h => absurd h (by decide), fun h => absurd h (by decide)⟩
theorem mm_ok_60 : mm_ok 60 := ⟨mw_438, mw_2, by decide +kernel, fun _ => ⟨mw_436, mw_437⟩, fun h => absurd h (by decide), fun h => absurd h (by decide)⟩
theorem mm_ok_61 : mm_ok 61 := ⟨mw_447, mw_2, by decide +kernel, fun _ => ⟨mw_445, mw_446⟩, fun h => absurd h (by decide), fun h => absurd h (by decide)⟩
theorem mm_ok_62 : mm_ok 62 := ⟨mw_455, mw_2, by decide +kernel, fun _ => ⟨mw_453, mw_454⟩, fun h => absurd h (by decide), fun h => absurd h (by decide)⟩
theorem mm_ok_63 : mm_ok 63 := ⟨mw_463, mw_2, by decide +kernel, fun _ => ⟨mw_461, mw_462⟩, fun h => absurd h (by decide), fun h => absurd h (by decide)⟩
theorem mm_ok_64 : mm_ok 64 := ⟨mw_483, mw_2, by decide +kernel, fun _ => ⟨mw_481, mw_482⟩, fun h => absurd h (by decide), fun h => absurd h (by decide)⟩
theorem mm_ok_65 : mm_ok 65 := ⟨mw_495, mw_2, by decide +kernel, fun _ => ⟨mw_493, mw_494⟩, fun h => absurd h (by decide), fun h => absurd h (by decide)⟩
theorem mm_ok_66 : mm_ok 66 := ⟨mw_503, mw_2, by decide +kernel, fun _ => ⟨mw_501, mw_502⟩, fun h => absurd h (by decide), fun h => absurd h (by decide)⟩
theorem mm_ok_67 : mm_ok 67 := ⟨mw_528, mw_2, by decide +kernel, fun _ => ⟨mw_526, mw_527⟩, fun h => absurd h (by decide), fun h => absurd h (by decide)⟩
theorem mm_ok_68 : mm_ok 68 := ⟨mw_536, mw_2, by decide +kernel, fun _ => ⟨mw_534, mw_535⟩, fun h => absurd h (by decide), fun h => absurd h (by decide)⟩
theorem mm_ok_69 : mm_ok 69 := ⟨mw_544, mw_2, by decide +kernel, fun _ => ⟨mw_542, mw_543⟩, fun h => absurd h (by decide), fun h => absurd h (by decide)⟩
theorem mm_ok_70 : mm_ok 70 := ⟨mw_552, mw_2, by decide +kernel, fun _ => ⟨mw_550, mw_551⟩, fun h => absurd h (by decide), fun h => absurd h (by decide)⟩
theorem mm_ok_71 : mm_ok 71 := ⟨mw_560, mw_2, by decide +kernel, fun _ => ⟨mw_558, mw_559⟩, fun h => absurd h (by decide), fun h => absurd h (by decide)⟩
theorem mm_ok_72 : mm_ok 72 := ⟨mw_568, mw_2, by decide +kernel, fun _ => ⟨mw_566, mw_567⟩, fun h => absurd h (by decide), fun h => absurd h (by decide)⟩
theorem mm_ok_73 : mm_ok 73 := ⟨mw_613, mw_2, by decide +kernel, fun _ => ⟨mw_611, mw_612⟩, fun h => absurd h (by decide), fun h => absurd h (by decide)⟩
theorem mm_ok_74 : mm_ok 74 := ⟨mw_625, mw_2, by decide +kernel, fun _ => ⟨mw_623, mw_624⟩, fun h => absurd h (by decide), fun h => absurd h (by decide)⟩
theorem mm_ok_75 : mm_ok 75 := ⟨mw_634, mw_2, by decide +kernel, fun _ => ⟨mw_632, mw_633⟩, fun h => absurd h (by decide), fun h => absurd h (by decide)⟩
theorem mm_ok_76 : mm_ok 76 := ⟨mw_642, mw_2, by decide +kernel, fun _ => ⟨mw_640, mw_641⟩, fun h => absurd h (by decide), fun h => absurd h (by decide)⟩
theorem mm_ok_77 : mm_ok 77 := ⟨mw_661, mw_2, by decide +kernel, fun _ => ⟨mw_659, mw_660⟩, fun h => absurd h (by decide), fun h => absurd h (by decide)⟩
theorem mm_ok_78 : mm_ok 78 := ⟨mw_674, mw_2, by decide +kernel, fun _ => ⟨mw_672, mw_673⟩, fun h => absurd h (by decide), fun h => absurd h (by decide)⟩
theorem mm_ok_79 : mm_ok 79 := ⟨mw_682, mw_2, by decide +kernel, fun _ => ⟨mw_680, mw_681⟩, fun h => absurd h (by decide), fun h => absurd h (by decide)⟩
theorem mm_ok_80 : mm_ok 80 := ⟨mw_721, mw_2, by decide +kernel, fun _ => ⟨mw_719, mw_720⟩, fun h => absurd h (by decide), fun h => absurd h (by decide)⟩
theorem mm_ok_81 : mm_ok 81 := ⟨mw_736, mw_2, by decide +kernel, fun _ => ⟨mw_734, mw_735⟩, fun h => absurd h (by decide), fun h => absurd h (by decide)⟩
theorem mm_ok_82 : mm_ok 82 := ⟨mw_748, mw_2, by decide +kernel, fun _ => ⟨mw_746, mw_747⟩, fun h => absurd h (by decide), fun h => absurd h (by decide)⟩
theorem mm_ok_83 : mm_ok 83 := ⟨mw_758, mw_2, by decide +kernel, fun _ => ⟨mw_756, mw_757⟩, fun h => absurd h (by decide), fun h => absurd h (by decide)⟩
theorem mm_ok_84 : mm_ok 84 := ⟨mw_766, mw_2, by decide +kernel, fun _ => ⟨mw_764, mw_765⟩, fun h => absurd h (by decide), fun h => absurd h (by decide)⟩
theorem mm_ok_85 : mm_ok 85 := ⟨mw_102, mw_2, by decide +kernel, fun h => absurd h (by decide), fun _ => mw_101, fun h => absurd h (by decide)⟩
theorem mm_ok_86 : mm_ok 86 := ⟨mw_507, mw_2, by decide +kernel, fun _ => ⟨mw_505, mw_506⟩, fun h => absurd h (by decide), fun h => absurd h (by decide)⟩
theorem mm_ok_87 : mm_ok 87 := ⟨mw_617, mw_2, by decide +kernel, fun _ => ⟨mw_615, mw_616⟩, fun h => absurd h (by decide), fun h => absurd h (by decide)⟩
theorem mm_ok_88 : mm_ok 88 := ⟨mw_646, mw_2, by decide +kernel, fun _ => ⟨mw_644, mw_645⟩, fun h => absurd h (by decide), fun h => absurd h (by decide)⟩
theorem mm_ok_89 : mm_ok 89 := ⟨mw_650, mw_2, by decide +kernel, fun _ => ⟨mw_648, mw_649⟩, fun h => absurd h (by decide), fun h => absurd h (by decide)⟩
theorem mm_ok_90 : mm_ok 90 := ⟨mw_653, mw_2, by decide +kernel, fun h => absurd h (by decide), fun _ => mw_652, fun h => absurd h (by decide)⟩
theorem mm_ok_91 : mm_ok 91 := ⟨mw_697, mw_2, by decide +kernel, fun _ => ⟨mw_695, mw_696⟩, fun h => absurd h (by decide), fun h => absurd h (by decide)⟩
theorem mm_ok_92 : mm_ok 92 := ⟨mw_81, mw_5, by decide +kernel, fun h => absurd h (by decide), fun h => absurd h (by decide), fun _ => ⟨rfl, mw_80, rfl⟩⟩
theorem mm_ok_93 : mm_ok 93 := ⟨mw_119, mw_5, by decide +kernel, fun h => absurd h (by decide), fun _ => mw_118, fun h => absurd h (by decide)⟩
theorem mm_ok_94 : mm_ok 94 := ⟨mw_416, mw_5, by decide +kernel, fun h => absurd h (by decide), fun _ => mw_415, fun h => absurd h (by decide)⟩
theorem mm_ok_95 : mm_ok 95 := ⟨mw_609, mw_5, by decide +kernel, fun h => absurd h (by decide), fun _ => mw_608, fun h => absurd h (by decide)⟩
theorem mm_ok_96 : mm_ok 96 := ⟨mw_327, mw_5, by decide +kernel, fun h => absurd h (by decide), fun _ => mw_326, fun h => absurd h (by decide)⟩
theorem mm_ok_97 : mm_ok 97 := ⟨mw_144, mw_5, by decide +kernel, fun _ => ⟨mw_142, mw_143⟩, fun h => absurd h (by decide), fun h => absurd h (by decide)⟩
theorem mm_ok_98 : mm_ok 98 := ⟨mw_204, mw_5, by decide +kernel, fun _ => ⟨mw_202, mw_203⟩, fun h => absurd h (by decide), fun h => absurd h (by decide)⟩
theorem mm_ok_99 : mm_ok 99 := ⟨mw_122, mw_5, by decide +kernel, fun h => absurd h (by decide), fun _ => mw_121, fun h => absurd h (by decide)⟩
theorem mm_ok_100 : mm_ok 100 := ⟨mw_147, mw_5, by decide +kernel, fun h => absurd h (by decide), fun _ => mw_146, fun h => absurd h (by decide)⟩
theorem mm_ok_101 : mm_ok 101 := ⟨mw_116, mw_5, by decide +kernel, fun _ => ⟨mw_114, mw_115⟩, fun h => absurd h (by decide), fun h => absurd h (by decide)⟩
theorem mm_ok_102 : mm_ok 102 := ⟨mw_140, mw_5, by decide +kernel, fun _ => ⟨mw_138, mw_139⟩, fun h => absurd h (by decide), fun h => absurd h (by decide)⟩
theorem mm_ok_103 : mm_ok 103 := ⟨mw_156, mw_5, by decide +kernel, fun _ => ⟨mw_154, mw_155⟩, fun h => absurd h (by decide), fun h => absurd h (by decide)⟩
theorem mm_ok_104 : mm_ok 104 := ⟨mw_181, mw_5, by decide +kernel, fun h => absurd h (by decide), fun _ => mw_180, fun h => absurd h (by decide)⟩
theorem mm_ok_105 : mm_ok 105 := ⟨mw_178, mw_5, by decide +kernel, fun h => absurd h (by decide), fun _ => mw_177, fun h => absurd h (by decide)⟩
theorem mm_ok_106 : mm_ok 106 := ⟨mw_175, mw_5, by decide +kernel, fun _ => ⟨mw_173, mw_174⟩, fun h => absurd h (by decide), fun h => absurd h (by decide)⟩
theorem mm_ok_107 : mm_ok 107 := ⟨mw_207, mw_5, by decide +kernel, fun h => absurd h (by decide), fun _ => mw_206, fun h => absurd h (by decide)⟩
theorem mm_ok_108 : mm_ok 108 := ⟨mw_200, mw_5, by decide +kernel, fun _ => ⟨mw_198, mw_199⟩, fun h => absurd h (by decide), fun h => absurd h (by decide)⟩
theorem mm_ok_109 : mm_ok 109 := ⟨mw_221, mw_5, by decide +kernel, fun _ => ⟨mw_219, mw_220⟩, fun h => absurd h (by decide), fun h => absurd h (by decide)⟩
theorem mm_ok_110 : mm_ok 110 := ⟨mw_309, mw_5, by decide +kernel, fun _ => ⟨mw_307, mw_308⟩, fun h => absurd h (by decide), fun h => absurd h (by decide)⟩
theorem mm_ok_111 : mm_ok 111 := ⟨mw_313, mw_5, by decide +kernel, fun _ => ⟨mw_311, mw_312⟩, fun h => absurd h (by decide), fun h => absurd h (by decide)⟩
theorem mm_ok_112 : mm_ok 112 := ⟨mw_305, mw_5, by decide +kernel, fun _ => ⟨mw_303, mw_304⟩, fun h => absurd h (by decide), fun h => absurd h (by decide)⟩
theorem mm_ok_113 : mm_ok 113 := ⟨mw_301, mw_5, by decide +kernel, fun _ => ⟨mw_299, mw_300⟩, fun h => absurd h (by decide), fun h => absurd h (by decide)⟩
theorem mm_ok_114 : mm_ok 114 := ⟨mw_324, mw_5, by decide +kernel, fun h => absurd h (by decide), fun _ => mw_323, fun h => absurd h (by decide)⟩
theorem mm_ok_115 : mm_ok 115 := ⟨mw_317, mw_5, by decide +kernel, fun _ => ⟨mw_315, mw_316⟩, fun h => absurd h (by decide), fun h => absurd h (by decide)⟩
theorem mm_ok_116 : mm_ok 116 := ⟨mw_321, mw_5, by decide +kernel, fun _ => ⟨mw_319, mw_320⟩, fun h => absurd h (by decide), fun h => absurd h (by decide)⟩
theorem mm_ok_117 : mm_ok 117 := ⟨mw_296, mw_5, by decide +kernel, fun _ => ⟨mw_294, mw_295⟩, fun h => absurd h (by decide), fun h => absurd h (by decide)⟩
theorem mm_ok_118 : mm_ok 118 := ⟨mw_291, mw_5, by decide +kernel, fun _ => ⟨mw_289, mw_290⟩, fun h => absurd h (by decide), fun h => absurd h (by decide)⟩
theorem mm_ok_119 : mm_ok 119 := ⟨mw_354, mw_5, by decide +kernel, fun h => absurd h (by decide), fun _ => mw_353, fun h => absurd h (by decide)⟩
theorem mm_ok_120 : mm_ok 120 := ⟨mw_357, mw_5, by decide +kernel, fun h => absurd h (by decide), fun _ => mw_356, fun h => absurd h (by decide)⟩
theorem mm_ok_121 : mm_ok 121 := ⟨mw_360, mw_5, by decide +kernel, fun h => absurd h (by decide), fun _ => mw_359, fun h => absurd h (by decide)⟩
theorem mm_ok_122 : mm_ok 122 := ⟨mw_351, mw_5, by decide +kernel, fun _ => ⟨mw_349, mw_350⟩, fun h => absurd h (by decide), fun h => absurd h (by decide)⟩
theorem mm_ok_123 : mm_ok 123 := ⟨mw_409, mw_5, by decide +kernel, fun _ => ⟨mw_407, mw_408⟩, fun h => absurd h (by decide), fun h => absurd h (by decide)⟩
theorem mm_ok_124 : mm_ok 124 := ⟨mw_426, mw_5, by decide +kernel, fun h => absurd h (by decide), fun _ => mw_425, fun h => absurd h (by decide)⟩
theorem mm_ok_125 : mm_ok 125 := ⟨mw_423, mw_5, by decide +kernel, fun h => absurd h (by decide), fun _ => mw_422, fun h => absurd h (by decide)⟩
theorem mm_ok_126 : mm_ok 126 := ⟨mw_420, mw_5, by decide +kernel, fun _ => ⟨mw_418, mw_419⟩, fun h => absurd h (by decide), fun h => absurd h (by decide)⟩
theorem mm_ok_127 : mm_ok 127 := ⟨mw_413, mw_5, by decide +kernel, fun _ => ⟨mw_411, mw_412⟩, fun h => absurd h (by decide), fun h => absurd h (by decide)⟩
theorem mm_ok_128 : mm_ok 128 := ⟨mw_405, mw_5, by decide +kernel, fun _ => ⟨mw_403, mw_404⟩, fun h => absurd h (by decide), fun h => absurd h (by decide)⟩
theorem mm_ok_129 : mm_ok 129 := ⟨mw_434, mw_5, by decide +kernel, fun _ => ⟨mw_432, mw_433⟩, fun h => absurd h (by decide), fun h => absurd h (by decide)⟩
theorem mm_ok_130 : mm_ok 130 := ⟨mw_443, mw_5, by decide +kernel, fun _ => ⟨mw_441, mw_442⟩, fun h => absurd h (by decide), fun h => absurd h (by decide)⟩
theorem mm_ok_131 : mm_ok 131 := ⟨mw_451, mw_5, by decide +kernel, fun _ => ⟨mw_449, mw_450⟩, fun h => absurd h (by decide), fun h => absurd h (by decide)⟩
theorem mm_ok_132 : mm_ok 132 := ⟨mw_459, mw_5, by decide +kernel, fun _ => ⟨mw_457, mw_458⟩, fun h => absurd h (by decide), fun h => absurd h (by decide)⟩
theorem mm_ok_133 : mm_ok 133 := ⟨mw_475, mw_5, by decide +kernel, fun _ => ⟨mw_473, mw_474⟩, fun h => absurd h (by decide), fun h => absurd h (by decide)⟩
theorem mm_ok_134 : mm_ok 134 := ⟨mw_491, mw_5, by decide +kernel, fun _ => ⟨mw_489, mw_490⟩, fun h => absurd h (by decide), fun h => absurd h (by decide)⟩
theorem mm_ok_135 : mm_ok 135 := ⟨mw_499, mw_5, by decide +kernel, fun _ => ⟨mw_497, mw_498⟩, fun h => absurd h (by decide), fun h => absurd h (by decide)⟩
theorem mm_ok_136 : mm_ok 136 := ⟨mw_520, mw_5, by decide +kernel, fun _ => ⟨mw_518, mw_519⟩, fun h => absurd h (by decide), fun h => absurd h (by decide)⟩
theorem mm_ok_137 : mm_ok 137 := ⟨mw_524, mw_5, by decide +kernel, fun _ => ⟨mw_522, mw_523⟩, fun h => absurd h (by decide), fun h => absurd h (by decide)⟩
theorem mm_ok_138 : mm_ok 138 := ⟨mw_516, mw_5, by decide +kernel, fun _ => ⟨mw_514, mw_515⟩, fun h => absurd h (by decide), fun h => absurd h (by decide)⟩
theorem mm_ok_139 : mm_ok 139 := ⟨mw_532, mw_5, by decide +kernel, fun _ => ⟨mw_530, mw_531⟩, fun h => absurd h (by decide), fun h => absurd h (by decide)⟩
theorem mm_ok_140 : mm_ok 140 := ⟨mw_540, mw_5, by decide +kernel, fun _ => ⟨mw_538, mw_539⟩, fun h => absurd h (by decide), fun h => absurd h (by decide)⟩
theorem mm_ok_141 : mm_ok 141 := ⟨mw_548, mw_5, by decide +kernel, fun _ => ⟨mw_546, mw_547⟩, fun h => absurd h (by decide), fun h => absurd h (by decide)⟩
theorem mm_ok_142 : mm_ok 142 := ⟨mw_556, mw_5, by decide +kernel, fun _ => ⟨mw_554, mw_555⟩, fun h => absurd h (by decide), fun h => absurd h (by decide)⟩
theorem mm_ok_143 : mm_ok 143 := ⟨mw_564, mw_5, by decide +kernel, fun _ => ⟨mw_562, mw_563⟩, fun h => absurd h (by decide), fun h => absurd h (by decide)⟩
theorem mm_ok_144 : mm_ok 144 := ⟨mw_606, mw_5, by decide +kernel, fun _ => ⟨mw_604, mw_605⟩, fun h => absurd h (by decide), fun h => absurd h (by decide)⟩
theorem mm_ok_145 : mm_ok 145 := ⟨mw_602, mw_5, by decide +kernel, fun _ => ⟨mw_600, mw_601⟩, fun h => absurd h (by decide), fun h => absurd h (by decide)⟩
theorem mm_ok_146 : mm_ok 146 := ⟨mw_621, mw_5, by decide +kernel, fun _ => ⟨mw_619, mw_620⟩, fun h => absurd h (by decide), fun h => absurd h (by decide)⟩
theorem mm_ok_147 : mm_ok 147 := ⟨mw_630, mw_5, by decide +kernel, fun _ => ⟨mw_628, mw_629⟩, fun h => absurd h (by decide), fun h => absurd h (by decide)⟩
theorem mm_ok_148 : mm_ok 148 := ⟨mw_638, mw_5, by decide +kernel, fun _ => ⟨mw_636, mw_637⟩, fun h => absurd h (by decide), fun h => absurd h (by decide)⟩
theorem mm_ok_149 : mm_ok 149 := ⟨mw_657, mw_5, by decide +kernel, fun _ => ⟨mw_655, mw_656⟩, fun h => absurd h (by decide), fun h => absurd h (by decide)⟩
theorem mm_ok_150 : mm_ok 150 := ⟨mw_669, mw_5, by decide +kernel, fun _ => ⟨mw_667, mw_668⟩, fun h => absurd h (by decide), fun h => absurd h (by decide)⟩
theorem mm_ok_151 : mm_ok 151 := ⟨mw_678, mw_5, by decide +kernel, fun _ => ⟨mw_676, mw_677⟩, fun h => absurd h (by decide), fun h => absurd h (by decide)⟩
theorem mm_ok_152 : mm_ok 152 := ⟨mw_706, mw_5, by decide +kernel, fun h => absurd h (by decide), fun _ => mw_705, fun h => absurd h (by decide)⟩
theorem mm_ok_153 : mm_ok 153 := ⟨mw_713, mw_5, by decide +kernel, fun h => absurd h (by decide), fun _ => mw_712, fun h => absurd h (by decide)⟩
theorem mm_ok_154 : mm_ok 154 := ⟨mw_710, mw_5, by decide +kernel, fun _ => ⟨mw_708, mw_709⟩, fun h => absurd h (by decide), fun h => absurd h (by decide)⟩
theorem mm_ok_155 : mm_ok 155 := ⟨mw_717, mw_5, by decide +kernel, fun _ => ⟨mw_715, mw_716⟩, fun h => absurd h (by decide), fun h => absurd h (by decide)⟩
theorem mm_ok_156 : mm_ok 156 := ⟨mw_703, mw_5, by decide +kernel, fun _ => ⟨mw_701, mw_702⟩, fun h => absurd h (by decide), fun h => absurd h (by decide)⟩
theorem mm_ok_157 : mm_ok 157 := ⟨mw_732, mw_5, by decide +kernel, fun h => absurd h (by decide), fun _ => mw_731, fun h => absurd h (by decide)⟩
theorem mm_ok_158 : mm_ok 158 := ⟨mw_729, mw_5, by decide +kernel, fun _ => ⟨mw_727, mw_728⟩, fun h => absurd h (by decide), fun h => absurd h (by decide)⟩
theorem mm_ok_159 : mm_ok 159 := ⟨mw_744, mw_5, by decide +kernel, fun _ => ⟨mw_742, mw_743⟩, fun h => absurd h (by decide), fun h => absurd h (by decide)⟩
theorem mm_ok_160 : mm_ok 160 := ⟨mw_754, mw_5, by decide +kernel, fun _ => ⟨mw_752, mw_753⟩, fun h => absurd h (by decide), fun h => absurd h (by decide)⟩
theorem mm_ok_161 : mm_ok 161 := ⟨mw_762, mw_5, by decide +kernel, fun _ => ⟨mw_760, mw_761⟩, fun h => absurd h (by decide), fun h => absurd h (by decide)⟩
theorem mm_ok_162 : mm_ok 162 := ⟨mw_776, mw_5, by decide +kernel, fun _ => ⟨mw_774, mw_775⟩, fun h => absurd h (by decide), fun h => absurd h (by decide)⟩
theorem mm_ok_163 : mm_ok 163 := ⟨mw_590, mw_589, by decide +kernel, fun h => absurd h (by decide), fun _ => mw_588, fun h => absurd h (by decide)⟩
theorem mm_ok_all : ∀ j, j < 164 → mm_ok j := fun j h => match j, h with
  | 0, _ => mm_ok_0
  | 1, _ => mm_ok_1
  | 2, _ => mm_ok_2
  | 3, _ => mm_ok_3
  | 4, _ => mm_ok_4
  | 5, _ => mm_ok_5
  | 6, _ => mm_ok_6
  | 7, _ => mm_ok_7
  | 8, _ => mm_ok_8
  | 9, _ => mm_ok_9
  | 10, _ => mm_ok_10
  | 11, _ => mm_ok_11
  | 12, _ => mm_ok_12
  | 13, _ => mm_ok_13
  | 14, _ => mm_ok_14
  | 15, _ => mm_ok_15
  | 16, _ => mm_ok_16
  | 17, _ => mm_ok_17
  | 18, _ => mm_ok_18
  | 19, _ => mm_ok_19
  | 20, _ => mm_ok_20
  | 21, _ => mm_ok_21
  | 22, _ => mm_ok_22
  | 23, _ => mm_ok_23
  | 24, _ => mm_ok_24
  | 25, _ => mm_ok_25
  | 26, _ => mm_ok_26
  | 27, _ => mm_ok_27
  | 28, _ => mm_ok_28
  | 29, _ => mm_ok_29
  | 30, _ => mm_ok_30
  | 31, _ => mm_ok_31
  | 32, _ => mm_ok_32
  | 33, _ => mm_ok_33
  | 34, _ => mm_ok_34
  | 35, _ => mm_ok_35
  | 36, _ => mm_ok_36
  | 37, _ => mm_ok_37
  | 38, _ => mm_ok_38
  | 39, _ => mm_ok_39
  | 40, _ => mm_ok_40
  | 41, _ => mm_ok_41
  | 42, _ => mm_ok_42
  | 43, _ => mm_ok_43
  | 44, _ => mm_ok_44
  | 45, _ => mm_ok_45
  | 46, _ => mm_ok_46
  | 47, _ => mm_ok_47
  | 48, _ => mm_ok_48
  | 49, _ => mm_ok_49
  | 50, _ => mm_ok_50
  | 51, _ => mm_ok_51
  | 52, _ => mm_ok_52
  | 53, _ => mm_ok_53
  | 54, _ => mm_ok_54
  | 55, _ => mm_ok_55
  | 56, _ => mm_ok_56
  | 57, _ => mm_ok_57
  | 58, _ => mm_ok_58
  | 59, _ => mm_ok_59
  | 60, _ => mm_ok_60
  | 61, _ => mm_ok_61
  | 62, _ => mm_ok_62
  | 63, _ => mm_ok_63
  | 64, _ => mm_ok_64
  | 65, _ => mm_ok_65
  | 66, _ => mm_ok_66
  | 67, _ => mm_ok_67
  | 68, _ => mm_ok_68
  | 69, _ => mm_ok_69
  | 70, _ => mm_ok_70
  | 71, _ => mm_ok_71
  | 72, _ => mm_ok_72
  | 73, _ => mm_ok_73
  | 74, _ => mm_ok_74
  | 75, _ => mm_ok_75
  | 76, _ => mm_ok_76
  | 77, _ => mm_ok_77
  | 78, _ => mm_ok_78
  | 79, _ => mm_ok_79
  | 80, _ => mm_ok_80
  | 81, _ => mm_ok_81
  | 82, _ => mm_ok_82
  | 83, _ => mm_ok_83
  | 84, _ => mm_ok_84
  | 85, _ => mm_ok_85
  | 86, _ => mm_ok_86
  | 87, _ => mm_ok_87
  | 88, _ => mm_ok_88
  | 89, _ => mm_ok_89
  | 90, _ => mm_ok_90
  | 91, _ => mm_ok_91
  | 92, _ => mm_ok_92
  | 93, _ => mm_ok_93
  | 94, _ => mm_ok_94
  | 95, _ => mm_ok_95
  | 96, _ => mm_ok_96
  | 97, _ => mm_ok_97
  | 98, _ => mm_ok_98
  | 99, _ => mm_ok_99
  | 100, _ => mm_ok_100
  | 101, _ => mm_ok_101
  | 102, _ => mm_ok_102
  | 103, _ => mm_ok_103
  | 104, _ => mm_ok_104
  | 105, _ => mm_ok_105
  | 106, _ => mm_ok_106
  | 107, _ => mm_ok_107
  | 108, _ => mm_ok_108
  | 109, _ => mm_ok_109
  | 110, _ => mm_ok_110
  | 111, _ => mm_ok_111
  | 112, _ => mm_ok_112
  | 113, _ => mm_ok_113
  | 114, _ => mm_ok_114
  | 115, _ => mm_ok_115
  | 116, _ => mm_ok_116
  | 117, _ => mm_ok_117
  | 118, _ => mm_ok_118
  | 119, _ => mm_ok_119
  | 120, _ => mm_ok_120
  | 121, _ => mm_ok_121
  | 122, _ => mm_ok_122
  | 123, _ => mm_ok_123
  | 124, _ => mm_ok_124
  | 125, _ => mm_ok_125
  | 126, _ => mm_ok_126
  | 127, _ => mm_ok_127
  | 128, _ => mm_ok_128
  | 129, _ => mm_ok_129
  | 130, _ => mm_ok_130
  | 131, _ => mm_ok_131
  | 132, _ => mm_ok_132
  | 133, _ => mm_ok_133
  | 134, _ => mm_ok_134
  | 135, _ => mm_ok_135
  | 136, _ => mm_ok_136
  | 137, _ => mm_ok_137
  | 138, _ => mm_ok_138
  | 139, _ => mm_ok_139
  | 140, _ => mm_ok_140
  | 141, _ => mm_ok_141
  | 142, _ => mm_ok_142
  | 143, _ => mm_ok_143
  | 144, _ => mm_ok_144
  | 145, _ => mm_ok_145
  | 146, _ => mm_ok_146
  | 147, _ => mm_ok_147
  | 148, _ => mm_ok_148
  | 149, _ => mm_ok_149
  | 150, _ => mm_ok_150
  | 151, _ => mm_ok_151
  | 152, _ => mm_ok_152
  | 153, _ => mm_ok_153
  | 154, _ => mm_ok_154
  | 155, _ => mm_ok_155
  | 156, _ => mm_ok_156
  | 157, _ => mm_ok_157
  | 158, _ => mm_ok_158
  | 159, _ => mm_ok_159
  | 160, _ => mm_ok_160
  | 161, _ => mm_ok_161
  | 162, _ => mm_ok_162
  | 163, _ => mm_ok_163
  | k + 164, h => absurd h (by omega)
theorem mm_u0 : ∀ w ∈ u_ws RX0 TX0 14, w ∈ mm_U := fun w h => by
  have h1 : w ∈ [92, 94, 96, 98, 100, 102, 104, 106, 108, 110, 112, 114, 116, 118].filterMap (fun i => lw_tbl[i]?) := by
    have e : u_ws RX0 TX0 14 = [92, 94, 96, 98, 100, 102, 104, 106, 108, 110, 112, 114, 116, 118].filterMap (fun i => lw_tbl[i]?) := by decide +kernel
    rw [← e]; exact h
  obtain ⟨i, -, hi⟩ := List.mem_filterMap.mp h1
  exact mm_in i hi (List.all_eq_true.mp (show (u_ws RX0 TX0 14).all goodWord = true by decide +kernel) w h)
theorem mm_u1 : ∀ w ∈ u_ws RX1 TX1 4, w ∈ mm_U := fun w h => by
  have h1 : w ∈ [152, 154, 156, 158].filterMap (fun i => lw_tbl[i]?) := by
    have e : u_ws RX1 TX1 4 = [152, 154, 156, 158].filterMap (fun i => lw_tbl[i]?) := by decide +kernel
    rw [← e]; exact h
  obtain ⟨i, -, hi⟩ := List.mem_filterMap.mp h1
  exact mm_in i hi (List.all_eq_true.mp (show (u_ws RX1 TX1 4).all goodWord = true by decide +kernel) w h)
theorem mm_u2 : ∀ w ∈ u_ws RX2 TX2 2, w ∈ mm_U := fun w h => by
  have h1 : w ∈ [134, 136].filterMap (fun i => lw_tbl[i]?) := by
    have e : u_ws RX2 TX2 2 = [134, 136].filterMap (fun i => lw_tbl[i]?) := by decide +kernel
    rw [← e]; exact h
  obtain ⟨i, -, hi⟩ := List.mem_filterMap.mp h1
  exact mm_in i hi (List.all_eq_true.mp (show (u_ws RX2 TX2 2).all goodWord = true by decide +kernel) w h)
theorem mm_u3 : ∀ w ∈ u_ws RX3 TX3 4, w ∈ mm_U := fun w h => by
  have h1 : w ∈ [203, 205, 207, 209].filterMap (fun i => lw_tbl[i]?) := by
    have e : u_ws RX3 TX3 4 = [203, 205, 207, 209].filterMap (fun i => lw_tbl[i]?) := by decide +kernel
    rw [← e]; exact h
  obtain ⟨i, -, hi⟩ := List.mem_filterMap.mp h1
  exact mm_in i hi (List.all_eq_true.mp (show (u_ws RX3 TX3 4).all goodWord = true by decide +kernel) w h)
theorem mm_u4 : ∀ w ∈ u_ws RX4 TX4 5, w ∈ mm_U := fun w h => by
  have h1 : w ∈ [177, 179, 181, 183, 185].filterMap (fun i => lw_tbl[i]?) := by
    have e : u_ws RX4 TX4 5 = [177, 179, 181, 183, 185].filterMap (fun i => lw_tbl[i]?) := by decide +kernel
    rw [← e]; exact h
  obtain ⟨i, -, hi⟩ := List.mem_filterMap.mp h1
  exact mm_in i hi (List.all_eq_true.mp (show (u_ws RX4 TX4 5).all goodWord = true by decide +kernel) w h)
theorem mm_u5 : ∀ w ∈ u_ws RX5 TX5 9, w ∈ mm_U := fun w h => by
  have h1 : w ∈ [222, 224, 226, 228, 230, 232, 234, 236, 238].filterMap (fun i => lw_tbl[i]?) := by
    have e : u_ws RX5 TX5 9 = [222, 224, 226, 228, 230, 232, 234, 236, 238].filterMap (fun i => lw_tbl[i]?) := by decide +kernel
    rw [← e]; exact h
  obtain ⟨i, -, hi⟩ := List.mem_filterMap.mp h1
  exact mm_in i hi (List.all_eq_true.mp (show (u_ws RX5 TX5 9).all goodWord = true by decide +kernel) w h)
theorem mm_u6 : ∀ w ∈ u_ws RX6 TX6 16, w ∈ mm_U := fun w h => by
  have h1 : w ∈ [632, 634, 636, 638, 640, 642, 644, 646, 648, 650, 652, 654, 656, 658, 660, 662].filterMap (fun i => lw_tbl[i]?) := by
    have e : u_ws RX6 TX6 16 = [632, 634, 636, 638, 640, 642, 644, 646, 648, 650, 652, 654, 656, 658, 660, 662].filterMap (fun i => lw_tbl[i]?) := by decide +kernel
    rw [← e]; exact h
  obtain ⟨i, -, hi⟩ := List.mem_filterMap.mp h1
  exact mm_in i hi (List.all_eq_true.mp (show (u_ws RX6 TX6 16).all goodWord = true by decide +kernel) w h)
