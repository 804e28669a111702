section
-- ===== PART A: goes FIRST, ahead of the names: the tables' words, and 'selects' of the private methods out of them =====
/-- a private method of a class that the tables say can be made, by its rows of tables_1 -/
def lw_okq (q : MethodName × Nat) : Prop := (q.1.cls ≠ "java/lang/invoke/MethodHandle" ∧ q.1.cls ≠ "java/lang/invoke/VarHandle") ∧ Cond.instantiable q.1.cls q.2 ∈ tables_1 ∧ Cond.privateMethod q.1 ∈ tables_1 ∧ Cond.instanceMethod q.1 ∈ tables_1
theorem lw_p0 : lw_okq (⟨"HogMortgage$Tape", "number", "(I)I"⟩, 5) := ⟨⟨by decide +kernel, by decide +kernel⟩, List.mem_of_getElem? (i := 125) (by decide +kernel), List.mem_of_getElem? (i := 280) (by decide +kernel), List.mem_of_getElem? (i := 281) (by decide +kernel)⟩
theorem lw_p1 : lw_okq (⟨"HogMortgage$Tape", "look", "()I"⟩, 5) := ⟨⟨by decide +kernel, by decide +kernel⟩, List.mem_of_getElem? (i := 125) (by decide +kernel), List.mem_of_getElem? (i := 284) (by decide +kernel), List.mem_of_getElem? (i := 285) (by decide +kernel)⟩
theorem lw_p2 : lw_okq (⟨"HogMortgage$Tape", "faultAt", "(I)Z"⟩, 5) := ⟨⟨by decide +kernel, by decide +kernel⟩, List.mem_of_getElem? (i := 125) (by decide +kernel), List.mem_of_getElem? (i := 291) (by decide +kernel), List.mem_of_getElem? (i := 292) (by decide +kernel)⟩
theorem lw_p3 : lw_okq (⟨"HogMortgage$Tape", "takes", "(I)Z"⟩, 5) := ⟨⟨by decide +kernel, by decide +kernel⟩, List.mem_of_getElem? (i := 125) (by decide +kernel), List.mem_of_getElem? (i := 295) (by decide +kernel), List.mem_of_getElem? (i := 296) (by decide +kernel)⟩
theorem lw_p4 : lw_okq (⟨"HogMortgage$Tape", "tellHouses", "()Z"⟩, 5) := ⟨⟨by decide +kernel, by decide +kernel⟩, List.mem_of_getElem? (i := 125) (by decide +kernel), List.mem_of_getElem? (i := 299) (by decide +kernel), List.mem_of_getElem? (i := 300) (by decide +kernel)⟩
theorem lw_p5 : lw_okq (⟨"HogMortgage$Tape", "tellHouse", "()Z"⟩, 5) := ⟨⟨by decide +kernel, by decide +kernel⟩, List.mem_of_getElem? (i := 125) (by decide +kernel), List.mem_of_getElem? (i := 303) (by decide +kernel), List.mem_of_getElem? (i := 304) (by decide +kernel)⟩
theorem lw_p6 : lw_okq (⟨"HogMortgage$Tape", "tellHogs", "()Z"⟩, 5) := ⟨⟨by decide +kernel, by decide +kernel⟩, List.mem_of_getElem? (i := 125) (by decide +kernel), List.mem_of_getElem? (i := 308) (by decide +kernel), List.mem_of_getElem? (i := 309) (by decide +kernel)⟩
theorem lw_p7 : lw_okq (⟨"HogMortgage$Tape", "tellHog", "()Z"⟩, 5) := ⟨⟨by decide +kernel, by decide +kernel⟩, List.mem_of_getElem? (i := 125) (by decide +kernel), List.mem_of_getElem? (i := 312) (by decide +kernel), List.mem_of_getElem? (i := 313) (by decide +kernel)⟩
theorem lw_p8 : lw_okq (⟨"HogMortgage$Past", "dropOldest", "()V"⟩, 2) := ⟨⟨by decide +kernel, by decide +kernel⟩, List.mem_of_getElem? (i := 86) (by decide +kernel), List.mem_of_getElem? (i := 350) (by decide +kernel), List.mem_of_getElem? (i := 351) (by decide +kernel)⟩
theorem lw_p9 : lw_okq (⟨"HogMortgage$Lane", "visit", "(I)V"⟩, 14) := ⟨⟨by decide +kernel, by decide +kernel⟩, List.mem_of_getElem? (i := 19) (by decide +kernel), List.mem_of_getElem? (i := 360) (by decide +kernel), List.mem_of_getElem? (i := 361) (by decide +kernel)⟩
theorem lw_p10 : lw_okq (⟨"HogMortgage$Lane", "eat", "(II)Z"⟩, 14) := ⟨⟨by decide +kernel, by decide +kernel⟩, List.mem_of_getElem? (i := 19) (by decide +kernel), List.mem_of_getElem? (i := 365) (by decide +kernel), List.mem_of_getElem? (i := 366) (by decide +kernel)⟩
theorem lw_p11 : lw_okq (⟨"HogMortgage$Lane", "nextHouse", "(II)I"⟩, 14) := ⟨⟨by decide +kernel, by decide +kernel⟩, List.mem_of_getElem? (i := 19) (by decide +kernel), List.mem_of_getElem? (i := 374) (by decide +kernel), List.mem_of_getElem? (i := 375) (by decide +kernel)⟩
theorem lw_p12 : lw_okq (⟨"HogMortgage$Lane", "addInterest", "()V"⟩, 14) := ⟨⟨by decide +kernel, by decide +kernel⟩, List.mem_of_getElem? (i := 19) (by decide +kernel), List.mem_of_getElem? (i := 379) (by decide +kernel), List.mem_of_getElem? (i := 380) (by decide +kernel)⟩
theorem lw_p13 : lw_okq (⟨"HogMortgage", "foretell", "(I)V"⟩, 9) := ⟨⟨by decide +kernel, by decide +kernel⟩, List.mem_of_getElem? (i := 11) (by decide +kernel), List.mem_of_getElem? (i := 428) (by decide +kernel), List.mem_of_getElem? (i := 429) (by decide +kernel)⟩
theorem lw_p14 : lw_okq (⟨"HogMortgage$Parting", "judge", "(LHogMortgage$Lane;LHogMortgage$Lane;I)V"⟩, 4) := ⟨⟨by decide +kernel, by decide +kernel⟩, List.mem_of_getElem? (i := 103) (by decide +kernel), List.mem_of_getElem? (i := 465) (by decide +kernel), List.mem_of_getElem? (i := 466) (by decide +kernel)⟩
theorem lw_p15 : lw_okq (⟨"HogMortgage$Parting", "nextWay", "(I)Z"⟩, 4) := ⟨⟨by decide +kernel, by decide +kernel⟩, List.mem_of_getElem? (i := 103) (by decide +kernel), List.mem_of_getElem? (i := 479) (by decide +kernel), List.mem_of_getElem? (i := 480) (by decide +kernel)⟩
def lw_privs_1 : List (MethodName × Nat) := [(⟨"HogMortgage$Tape", "number", "(I)I"⟩, 5), (⟨"HogMortgage$Tape", "look", "()I"⟩, 5), (⟨"HogMortgage$Tape", "faultAt", "(I)Z"⟩, 5), (⟨"HogMortgage$Tape", "takes", "(I)Z"⟩, 5), (⟨"HogMortgage$Tape", "tellHouses", "()Z"⟩, 5), (⟨"HogMortgage$Tape", "tellHouse", "()Z"⟩, 5), (⟨"HogMortgage$Tape", "tellHogs", "()Z"⟩, 5), (⟨"HogMortgage$Tape", "tellHog", "()Z"⟩, 5), (⟨"HogMortgage$Past", "dropOldest", "()V"⟩, 2), (⟨"HogMortgage$Lane", "visit", "(I)V"⟩, 14), (⟨"HogMortgage$Lane", "eat", "(II)Z"⟩, 14), (⟨"HogMortgage$Lane", "nextHouse", "(II)I"⟩, 14), (⟨"HogMortgage$Lane", "addInterest", "()V"⟩, 14), (⟨"HogMortgage", "foretell", "(I)V"⟩, 9), (⟨"HogMortgage$Parting", "judge", "(LHogMortgage$Lane;LHogMortgage$Lane;I)V"⟩, 4), (⟨"HogMortgage$Parting", "nextWay", "(I)Z"⟩, 4)]
theorem lw_r1 : ∀ q ∈ lw_privs_1, lw_okq q := List.forall_mem_cons.mpr ⟨lw_p0, List.forall_mem_cons.mpr ⟨lw_p1, List.forall_mem_cons.mpr ⟨lw_p2, List.forall_mem_cons.mpr ⟨lw_p3, List.forall_mem_cons.mpr ⟨lw_p4, List.forall_mem_cons.mpr ⟨lw_p5, List.forall_mem_cons.mpr ⟨lw_p6, List.forall_mem_cons.mpr ⟨lw_p7, List.forall_mem_cons.mpr ⟨lw_p8, List.forall_mem_cons.mpr ⟨lw_p9, List.forall_mem_cons.mpr ⟨lw_p10, List.forall_mem_cons.mpr ⟨lw_p11, List.forall_mem_cons.mpr ⟨lw_p12, List.forall_mem_cons.mpr ⟨lw_p13, List.forall_mem_cons.mpr ⟨lw_p14, List.forall_mem_cons.mpr ⟨lw_p15, fun _ h => absurd h List.not_mem_nil⟩⟩⟩⟩⟩⟩⟩⟩⟩⟩⟩⟩⟩⟩⟩⟩
theorem lw_p16 : lw_okq (⟨"HogMortgage", "foretellDriven", "(III)V"⟩, 9) := ⟨⟨by decide +kernel, by decide +kernel⟩, List.mem_of_getElem? (i := 11) (by decide +kernel), List.mem_of_getElem? (i := 487) (by decide +kernel), List.mem_of_getElem? (i := 488) (by decide +kernel)⟩
theorem lw_p17 : lw_okq (⟨"HogMortgage", "chance", "(II)I"⟩, 9) := ⟨⟨by decide +kernel, by decide +kernel⟩, List.mem_of_getElem? (i := 11) (by decide +kernel), List.mem_of_getElem? (i := 503) (by decide +kernel), List.mem_of_getElem? (i := 504) (by decide +kernel)⟩
theorem lw_p18 : lw_okq (⟨"HogMortgage", "looksMore", "(II)Z"⟩, 9) := ⟨⟨by decide +kernel, by decide +kernel⟩, List.mem_of_getElem? (i := 11) (by decide +kernel), List.mem_of_getElem? (i := 507) (by decide +kernel), List.mem_of_getElem? (i := 508) (by decide +kernel)⟩
theorem lw_p19 : lw_okq (⟨"HogMortgage", "dawnsAs", "(ILHogMortgage$Sheet;II)Z"⟩, 9) := ⟨⟨by decide +kernel, by decide +kernel⟩, List.mem_of_getElem? (i := 11) (by decide +kernel), List.mem_of_getElem? (i := 538) (by decide +kernel), List.mem_of_getElem? (i := 539) (by decide +kernel)⟩
theorem lw_p20 : lw_okq (⟨"HogMortgageModel", "isHouse", "(I)Z"⟩, 16) := ⟨⟨by decide +kernel, by decide +kernel⟩, List.mem_of_getElem? (i := 574) (by decide +kernel), List.mem_of_getElem? (i := 643) (by decide +kernel), List.mem_of_getElem? (i := 644) (by decide +kernel)⟩
theorem lw_p21 : lw_okq (⟨"HogMortgageModel", "isHog", "(I)Z"⟩, 16) := ⟨⟨by decide +kernel, by decide +kernel⟩, List.mem_of_getElem? (i := 574) (by decide +kernel), List.mem_of_getElem? (i := 668) (by decide +kernel), List.mem_of_getElem? (i := 669) (by decide +kernel)⟩
theorem lw_p22 : lw_okq (⟨"HogMortgageModel", "isLane", "()Z"⟩, 16) := ⟨⟨by decide +kernel, by decide +kernel⟩, List.mem_of_getElem? (i := 574) (by decide +kernel), List.mem_of_getElem? (i := 683) (by decide +kernel), List.mem_of_getElem? (i := 684) (by decide +kernel)⟩
theorem lw_p23 : lw_okq (⟨"HogMortgageModel", "isNumber", "(I)Z"⟩, 16) := ⟨⟨by decide +kernel, by decide +kernel⟩, List.mem_of_getElem? (i := 574) (by decide +kernel), List.mem_of_getElem? (i := 687) (by decide +kernel), List.mem_of_getElem? (i := 688) (by decide +kernel)⟩
theorem lw_p24 : lw_okq (⟨"HogMortgageModel", "isDigit", "(II)Z"⟩, 16) := ⟨⟨by decide +kernel, by decide +kernel⟩, List.mem_of_getElem? (i := 574) (by decide +kernel), List.mem_of_getElem? (i := 691) (by decide +kernel), List.mem_of_getElem? (i := 692) (by decide +kernel)⟩
theorem lw_p25 : lw_okq (⟨"HogMortgageModel", "peek", "()I"⟩, 16) := ⟨⟨by decide +kernel, by decide +kernel⟩, List.mem_of_getElem? (i := 574) (by decide +kernel), List.mem_of_getElem? (i := 695) (by decide +kernel), List.mem_of_getElem? (i := 696) (by decide +kernel)⟩
theorem lw_p26 : lw_okq (⟨"HogMortgageModel", "isSign", "(I)Z"⟩, 16) := ⟨⟨by decide +kernel, by decide +kernel⟩, List.mem_of_getElem? (i := 574) (by decide +kernel), List.mem_of_getElem? (i := 699) (by decide +kernel), List.mem_of_getElem? (i := 700) (by decide +kernel)⟩
theorem lw_p27 : lw_okq (⟨"HogMortgageModel", "isHouseItem", "()Z"⟩, 16) := ⟨⟨by decide +kernel, by decide +kernel⟩, List.mem_of_getElem? (i := 574) (by decide +kernel), List.mem_of_getElem? (i := 703) (by decide +kernel), List.mem_of_getElem? (i := 704) (by decide +kernel)⟩
theorem lw_p28 : lw_okq (⟨"HogMortgageModel", "isHogItem", "()Z"⟩, 16) := ⟨⟨by decide +kernel, by decide +kernel⟩, List.mem_of_getElem? (i := 574) (by decide +kernel), List.mem_of_getElem? (i := 707) (by decide +kernel), List.mem_of_getElem? (i := 708) (by decide +kernel)⟩
theorem lw_p29 : lw_okq (⟨"HogMortgageModel", "note", "()V"⟩, 16) := ⟨⟨by decide +kernel, by decide +kernel⟩, List.mem_of_getElem? (i := 574) (by decide +kernel), List.mem_of_getElem? (i := 734) (by decide +kernel), List.mem_of_getElem? (i := 735) (by decide +kernel)⟩
theorem lw_p30 : lw_okq (⟨"HogMortgageModel", "nightIn", "([II)V"⟩, 16) := ⟨⟨by decide +kernel, by decide +kernel⟩, List.mem_of_getElem? (i := 574) (by decide +kernel), List.mem_of_getElem? (i := 738) (by decide +kernel), List.mem_of_getElem? (i := 739) (by decide +kernel)⟩
theorem lw_p31 : lw_okq (⟨"HogMortgageModel", "turnIn", "([II)V"⟩, 16) := ⟨⟨by decide +kernel, by decide +kernel⟩, List.mem_of_getElem? (i := 574) (by decide +kernel), List.mem_of_getElem? (i := 745) (by decide +kernel), List.mem_of_getElem? (i := 746) (by decide +kernel)⟩
def lw_privs_2 : List (MethodName × Nat) := [(⟨"HogMortgage", "foretellDriven", "(III)V"⟩, 9), (⟨"HogMortgage", "chance", "(II)I"⟩, 9), (⟨"HogMortgage", "looksMore", "(II)Z"⟩, 9), (⟨"HogMortgage", "dawnsAs", "(ILHogMortgage$Sheet;II)Z"⟩, 9), (⟨"HogMortgageModel", "isHouse", "(I)Z"⟩, 16), (⟨"HogMortgageModel", "isHog", "(I)Z"⟩, 16), (⟨"HogMortgageModel", "isLane", "()Z"⟩, 16), (⟨"HogMortgageModel", "isNumber", "(I)Z"⟩, 16), (⟨"HogMortgageModel", "isDigit", "(II)Z"⟩, 16), (⟨"HogMortgageModel", "peek", "()I"⟩, 16), (⟨"HogMortgageModel", "isSign", "(I)Z"⟩, 16), (⟨"HogMortgageModel", "isHouseItem", "()Z"⟩, 16), (⟨"HogMortgageModel", "isHogItem", "()Z"⟩, 16), (⟨"HogMortgageModel", "note", "()V"⟩, 16), (⟨"HogMortgageModel", "nightIn", "([II)V"⟩, 16), (⟨"HogMortgageModel", "turnIn", "([II)V"⟩, 16)]
theorem lw_r2 : ∀ q ∈ lw_privs_2, lw_okq q := List.forall_mem_cons.mpr ⟨lw_p16, List.forall_mem_cons.mpr ⟨lw_p17, List.forall_mem_cons.mpr ⟨lw_p18, List.forall_mem_cons.mpr ⟨lw_p19, List.forall_mem_cons.mpr ⟨lw_p20, List.forall_mem_cons.mpr ⟨lw_p21, List.forall_mem_cons.mpr ⟨lw_p22, List.forall_mem_cons.mpr ⟨lw_p23, List.forall_mem_cons.mpr ⟨lw_p24, List.forall_mem_cons.mpr ⟨lw_p25, List.forall_mem_cons.mpr ⟨lw_p26, List.forall_mem_cons.mpr ⟨lw_p27, List.forall_mem_cons.mpr ⟨lw_p28, List.forall_mem_cons.mpr ⟨lw_p29, List.forall_mem_cons.mpr ⟨lw_p30, List.forall_mem_cons.mpr ⟨lw_p31, fun _ h => absurd h List.not_mem_nil⟩⟩⟩⟩⟩⟩⟩⟩⟩⟩⟩⟩⟩⟩⟩⟩
theorem lw_p32 : lw_okq (⟨"HogMortgageModel", "begin", "()V"⟩, 16) := ⟨⟨by decide +kernel, by decide +kernel⟩, List.mem_of_getElem? (i := 574) (by decide +kernel), List.mem_of_getElem? (i := 791) (by decide +kernel), List.mem_of_getElem? (i := 792) (by decide +kernel)⟩
theorem lw_p33 : lw_okq (⟨"HogMortgageModel", "goOn", "(I)V"⟩, 16) := ⟨⟨by decide +kernel, by decide +kernel⟩, List.mem_of_getElem? (i := 574) (by decide +kernel), List.mem_of_getElem? (i := 795) (by decide +kernel), List.mem_of_getElem? (i := 796) (by decide +kernel)⟩
theorem lw_p34 : lw_okq (⟨"HogMortgageModel", "layParts", "(II)Z"⟩, 16) := ⟨⟨by decide +kernel, by decide +kernel⟩, List.mem_of_getElem? (i := 574) (by decide +kernel), List.mem_of_getElem? (i := 823) (by decide +kernel), List.mem_of_getElem? (i := 824) (by decide +kernel)⟩
theorem lw_p35 : lw_okq (⟨"HogMortgageModel", "wrong", "(IIII)I"⟩, 16) := ⟨⟨by decide +kernel, by decide +kernel⟩, List.mem_of_getElem? (i := 574) (by decide +kernel), List.mem_of_getElem? (i := 861) (by decide +kernel), List.mem_of_getElem? (i := 862) (by decide +kernel)⟩
theorem lw_p36 : lw_okq (⟨"HogMortgageModel", "isLeft", "(IIII)Z"⟩, 16) := ⟨⟨by decide +kernel, by decide +kernel⟩, List.mem_of_getElem? (i := 574) (by decide +kernel), List.mem_of_getElem? (i := 868) (by decide +kernel), List.mem_of_getElem? (i := 869) (by decide +kernel)⟩
def lw_privs_3 : List (MethodName × Nat) := [(⟨"HogMortgageModel", "begin", "()V"⟩, 16), (⟨"HogMortgageModel", "goOn", "(I)V"⟩, 16), (⟨"HogMortgageModel", "layParts", "(II)Z"⟩, 16), (⟨"HogMortgageModel", "wrong", "(IIII)I"⟩, 16), (⟨"HogMortgageModel", "isLeft", "(IIII)Z"⟩, 16)]
theorem lw_r3 : ∀ q ∈ lw_privs_3, lw_okq q := List.forall_mem_cons.mpr ⟨lw_p32, List.forall_mem_cons.mpr ⟨lw_p33, List.forall_mem_cons.mpr ⟨lw_p34, List.forall_mem_cons.mpr ⟨lw_p35, List.forall_mem_cons.mpr ⟨lw_p36, fun _ h => absurd h List.not_mem_nil⟩⟩⟩⟩⟩
def lw_privs : List (MethodName × Nat) := lw_privs_1 ++ (lw_privs_2 ++ (lw_privs_3))
def lw_tbl : List Cond := k2_sels lw_privs ++ tables_1
theorem lw_privs_ok : ∀ q ∈ lw_privs, lw_okq q := by
  show ∀ q ∈ lw_privs_1 ++ (lw_privs_2 ++ (lw_privs_3)), lw_okq q
  exact List.forall_mem_append.mpr ⟨lw_r1, List.forall_mem_append.mpr ⟨lw_r2, lw_r3⟩⟩
-- ===== end of PART A; then your names; then what follows =====
end
section
def RX0 : String := "HogMortgage$Lane"
def TX0 : u_T := fun k => match k with
  | 0 => ("HogMortgage$Lane", "houses", "I", false)
  | 1 => ("HogMortgage$Lane", "hogs", "I", false)
  | 2 => ("HogMortgage$Lane", "interest", "I", false)
  | 3 => ("HogMortgage$Lane", "night", "I", false)
  | 4 => ("HogMortgage$Lane", "eaten", "I", false)
  | 5 => ("HogMortgage$Lane", "draw", "I", false)
  | 6 => ("HogMortgage$Lane", "owes", "[I", true)
  | 7 => ("HogMortgage$Lane", "saucer", "[I", true)
  | 8 => ("HogMortgage$Lane", "looks", "[I", true)
  | 9 => ("HogMortgage$Lane", "kind", "[I", true)
  | 10 => ("HogMortgage$Lane", "hungry", "[I", true)
  | 11 => ("HogMortgage$Lane", "place", "[I", true)
  | 12 => ("HogMortgage$Lane", "left", "[I", true)
  | _ => ("HogMortgage$Lane", "meals", "[I", true)
def tyX0 : Nat → FieldType := fun k => match k with
  | 0 => .int
  | 1 => .int
  | 2 => .int
  | 3 => .int
  | 4 => .int
  | 5 => .int
  | 6 => .array .int
  | 7 => .array .int
  | 8 => .array .int
  | 9 => .array .int
  | 10 => .array .int
  | 11 => .array .int
  | 12 => .array .int
  | _ => .array .int
abbrev wsX00 : List Cond := u_ws RX0 TX0 14
theorem nmX0 : ∀ a, a < 14 → ∀ b, b < 14 → a ≠ b → (TX0 a).2.1 ≠ (TX0 b).2.1 := by decide +kernel
theorem tyX0_ok : ∀ k, k < 14 → parseFieldDescriptor (TX0 k).2.2.1 = some (tyX0 k) := by decide +kernel
abbrev cX0_init : ByteArray := prog_2_method_1_code
def yX0_init : MethodName := ⟨RX0, "<init>", "()V"⟩
abbrev cX0_takeFrom : ByteArray := prog_2_method_2_code
def yX0_takeFrom : MethodName := ⟨RX0, "takeFrom", "(LHogMortgage$Lane;)V"⟩
abbrev cX0_beginAnew : ByteArray := prog_2_method_3_code
def yX0_beginAnew : MethodName := ⟨RX0, "beginAnew", "()V"⟩
abbrev cX0_hasHouse : ByteArray := prog_2_method_4_code
def yX0_hasHouse : MethodName := ⟨RX0, "hasHouse", "(I)Z"⟩
abbrev cX0_hasHog : ByteArray := prog_2_method_5_code
def yX0_hasHog : MethodName := ⟨RX0, "hasHog", "(I)Z"⟩
abbrev cX0_addHouse : ByteArray := prog_2_method_6_code
def yX0_addHouse : MethodName := ⟨RX0, "addHouse", "(III)I"⟩
abbrev cX0_addHog : ByteArray := prog_2_method_7_code
def yX0_addHog : MethodName := ⟨RX0, "addHog", "(III)I"⟩
abbrev cX0_isLost : ByteArray := prog_2_method_8_code
def yX0_isLost : MethodName := ⟨RX0, "isLost", "(I)Z"⟩
abbrev cX0_isWinter : ByteArray := prog_2_method_9_code
def yX0_isWinter : MethodName := ⟨RX0, "isWinter", "()Z"⟩
abbrev cX0_lostSet : ByteArray := prog_2_method_10_code
def yX0_lostSet : MethodName := ⟨RX0, "lostSet", "()I"⟩
abbrev cX0_owedByAll : ByteArray := prog_2_method_11_code
def yX0_owedByAll : MethodName := ⟨RX0, "owedByAll", "()I"⟩
abbrev cX0_guests : ByteArray := prog_2_method_12_code
def yX0_guests : MethodName := ⟨RX0, "guests", "(I)I"⟩
abbrev cX0_appetite : ByteArray := prog_2_method_13_code
def yX0_appetite : MethodName := ⟨RX0, "appetite", "(I)I"⟩
abbrev cX0_takeOff : ByteArray := prog_2_method_14_code
def yX0_takeOff : MethodName := ⟨RX0, "takeOff", "(II)V"⟩
abbrev cX0_drawSaucer : ByteArray := prog_2_method_15_code
def yX0_drawSaucer : MethodName := ⟨RX0, "drawSaucer", "()V"⟩
abbrev cX0_passNights : ByteArray := prog_2_method_16_code
def yX0_passNights : MethodName := ⟨RX0, "passNights", "(I)V"⟩
abbrev cX0_passNight : ByteArray := prog_2_method_17_code
def yX0_passNight : MethodName := ⟨RX0, "passNight", "(I)V"⟩
abbrev cX0_visit : ByteArray := prog_2_method_18_code
def yX0_visit : MethodName := ⟨RX0, "visit", "(I)V"⟩
abbrev cX0_eat : ByteArray := prog_2_method_19_code
def yX0_eat : MethodName := ⟨RX0, "eat", "(II)Z"⟩
abbrev cX0_nextHouse : ByteArray := prog_2_method_20_code
def yX0_nextHouse : MethodName := ⟨RX0, "nextHouse", "(II)I"⟩
abbrev cX0_addInterest : ByteArray := prog_2_method_21_code
def yX0_addInterest : MethodName := ⟨RX0, "addInterest", "()V"⟩
def RX1 : String := "HogMortgage$Parting"
def TX1 : u_T := fun k => match k with
  | 0 => ("HogMortgage$Parting", "kept", "I", false)
  | 1 => ("HogMortgage$Parting", "owed", "I", false)
  | 2 => ("HogMortgage$Parting", "best", "[I", true)
  | _ => ("HogMortgage$Parting", "way", "[I", true)
def tyX1 : Nat → FieldType := fun k => match k with
  | 0 => .int
  | 1 => .int
  | 2 => .array .int
  | _ => .array .int
abbrev wsX10 : List Cond := u_ws RX1 TX1 4
theorem nmX1 : ∀ a, a < 4 → ∀ b, b < 4 → a ≠ b → (TX1 a).2.1 ≠ (TX1 b).2.1 := by decide +kernel
theorem tyX1_ok : ∀ k, k < 4 → parseFieldDescriptor (TX1 k).2.2.1 = some (tyX1 k) := by decide +kernel
abbrev cX1_init : ByteArray := prog_3_method_1_code
def yX1_init : MethodName := ⟨RX1, "<init>", "()V"⟩
abbrev cX1_find : ByteArray := prog_3_method_2_code
def yX1_find : MethodName := ⟨RX1, "find", "(LHogMortgage$Lane;LHogMortgage$Lane;II)V"⟩
abbrev cX1_judge : ByteArray := prog_3_method_3_code
def yX1_judge : MethodName := ⟨RX1, "judge", "(LHogMortgage$Lane;LHogMortgage$Lane;I)V"⟩
abbrev cX1_nextWay : ByteArray := prog_3_method_4_code
def yX1_nextWay : MethodName := ⟨RX1, "nextWay", "(I)Z"⟩
def RX2 : String := "HogMortgage$Past"
def TX2 : u_T := fun k => match k with
  | 0 => ("HogMortgage$Past", "lanes", "[LHogMortgage$Lane;", true)
  | _ => ("HogMortgage$Past", "size", "I", false)
def tyX2 : Nat → FieldType := fun k => match k with
  | 0 => .array (.object "HogMortgage$Lane")
  | _ => .int
abbrev wsX20 : List Cond := u_ws RX2 TX2 2
theorem nmX2 : ∀ a, a < 2 → ∀ b, b < 2 → a ≠ b → (TX2 a).2.1 ≠ (TX2 b).2.1 := by decide +kernel
theorem tyX2_ok : ∀ k, k < 2 → parseFieldDescriptor (TX2 k).2.2.1 = some (tyX2 k) := by decide +kernel
abbrev cX2_init : ByteArray := prog_4_method_1_code
def yX2_init : MethodName := ⟨RX2, "<init>", "()V"⟩
abbrev cX2_forget : ByteArray := prog_4_method_2_code
def yX2_forget : MethodName := ⟨RX2, "forget", "()V"⟩
abbrev cX2_remember : ByteArray := prog_4_method_3_code
def yX2_remember : MethodName := ⟨RX2, "remember", "(LHogMortgage$Lane;)V"⟩
abbrev cX2_dropOldest : ByteArray := prog_4_method_4_code
def yX2_dropOldest : MethodName := ⟨RX2, "dropOldest", "()V"⟩
abbrev cX2_bringBack : ByteArray := prog_4_method_5_code
def yX2_bringBack : MethodName := ⟨RX2, "bringBack", "(LHogMortgage$Lane;)V"⟩
abbrev cX2_takeFrom : ByteArray := prog_4_method_6_code
def yX2_takeFrom : MethodName := ⟨RX2, "takeFrom", "(LHogMortgage$Past;)V"⟩
def RX3 : String := "HogMortgage$Sheet"
def TX3 : u_T := fun k => match k with
  | 0 => ("HogMortgage$Sheet", "held", "Z", false)
  | 1 => ("HogMortgage$Sheet", "lane", "I", false)
  | 2 => ("HogMortgage$Sheet", "size", "I", false)
  | _ => ("HogMortgage$Sheet", "items", "[J", true)
def tyX3 : Nat → FieldType := fun k => match k with
  | 0 => .boolean
  | 1 => .int
  | 2 => .int
  | _ => .array .long
abbrev wsX30 : List Cond := u_ws RX3 TX3 4
theorem nmX3 : ∀ a, a < 4 → ∀ b, b < 4 → a ≠ b → (TX3 a).2.1 ≠ (TX3 b).2.1 := by decide +kernel
theorem tyX3_ok : ∀ k, k < 4 → parseFieldDescriptor (TX3 k).2.2.1 = some (tyX3 k) := by decide +kernel
abbrev cX3_init : ByteArray := prog_5_method_1_code
def yX3_init : MethodName := ⟨RX3, "<init>", "()V"⟩
abbrev cX3_begin : ByteArray := prog_5_method_2_code
def yX3_begin : MethodName := ⟨RX3, "begin", "(II)V"⟩
abbrev cX3_hasItems : ByteArray := prog_5_method_3_code
def yX3_hasItems : MethodName := ⟨RX3, "hasItems", "(II)Z"⟩
abbrev cX3_refusal : ByteArray := prog_5_method_4_code
def yX3_refusal : MethodName := ⟨RX3, "refusal", "(III)I"⟩
abbrev cX3_write : ByteArray := prog_5_method_5_code
def yX3_write : MethodName := ⟨RX3, "write", "(IJ)V"⟩
def RX4 : String := "HogMortgage$Tape"
def TX4 : u_T := fun k => match k with
  | 0 => ("HogMortgage$Tape", "size", "I", false)
  | 1 => ("HogMortgage$Tape", "fault", "I", false)
  | 2 => ("HogMortgage$Tape", "told", "LHogMortgage$Lane;", true)
  | 3 => ("HogMortgage$Tape", "letters", "[I", true)
  | _ => ("HogMortgage$Tape", "place", "I", false)
def tyX4 : Nat → FieldType := fun k => match k with
  | 0 => .int
  | 1 => .int
  | 2 => .object "HogMortgage$Lane"
  | 3 => .array .int
  | _ => .int
abbrev wsX40 : List Cond := u_ws RX4 TX4 5
theorem nmX4 : ∀ a, a < 5 → ∀ b, b < 5 → a ≠ b → (TX4 a).2.1 ≠ (TX4 b).2.1 := by decide +kernel
theorem tyX4_ok : ∀ k, k < 5 → parseFieldDescriptor (TX4 k).2.2.1 = some (tyX4 k) := by decide +kernel
abbrev cX4_init : ByteArray := prog_6_method_1_code
def yX4_init : MethodName := ⟨RX4, "<init>", "()V"⟩
abbrev cX4_add : ByteArray := prog_6_method_2_code
def yX4_add : MethodName := ⟨RX4, "add", "(I)I"⟩
abbrev cX4_tellLane : ByteArray := prog_6_method_3_code
def yX4_tellLane : MethodName := ⟨RX4, "tellLane", "()Z"⟩
abbrev cX4_tellHouses : ByteArray := prog_6_method_4_code
def yX4_tellHouses : MethodName := ⟨RX4, "tellHouses", "()Z"⟩
abbrev cX4_tellHouse : ByteArray := prog_6_method_5_code
def yX4_tellHouse : MethodName := ⟨RX4, "tellHouse", "()Z"⟩
abbrev cX4_tellHogs : ByteArray := prog_6_method_6_code
def yX4_tellHogs : MethodName := ⟨RX4, "tellHogs", "()Z"⟩
abbrev cX4_tellHog : ByteArray := prog_6_method_7_code
def yX4_tellHog : MethodName := ⟨RX4, "tellHog", "()Z"⟩
abbrev cX4_kindOf : ByteArray := prog_6_method_8_code
def yX4_kindOf : MethodName := ⟨RX4, "kindOf", "(I)I"⟩
abbrev cX4_number : ByteArray := prog_6_method_9_code
def yX4_number : MethodName := ⟨RX4, "number", "(I)I"⟩
abbrev cX4_isDigit : ByteArray := prog_6_method_10_code
def yX4_isDigit : MethodName := ⟨RX4, "isDigit", "(I)Z"⟩
abbrev cX4_look : ByteArray := prog_6_method_11_code
def yX4_look : MethodName := ⟨RX4, "look", "()I"⟩
abbrev cX4_takes : ByteArray := prog_6_method_12_code
def yX4_takes : MethodName := ⟨RX4, "takes", "(I)Z"⟩
abbrev cX4_faultAt : ByteArray := prog_6_method_13_code
def yX4_faultAt : MethodName := ⟨RX4, "faultAt", "(I)Z"⟩
def RX5 : String := "HogMortgage"
def TX5 : u_T := fun k => match k with
  | 0 => ("HogMortgage", "now", "LHogMortgage$Lane;", true)
  | 1 => ("HogMortgage", "trial", "LHogMortgage$Lane;", true)
  | 2 => ("HogMortgage", "past", "LHogMortgage$Past;", true)
  | 3 => ("HogMortgage", "parting", "LHogMortgage$Parting;", true)
  | 4 => ("HogMortgage", "tape", "LHogMortgage$Tape;", true)
  | 5 => ("HogMortgage", "sheets", "[LHogMortgage$Sheet;", true)
  | 6 => ("HogMortgage", "imageNow", "LHogMortgage$Lane;", true)
  | 7 => ("HogMortgage", "imagePast", "LHogMortgage$Past;", true)
  | _ => ("HogMortgage", "hasImage", "Z", false)
def tyX5 : Nat → FieldType := fun k => match k with
  | 0 => .object "HogMortgage$Lane"
  | 1 => .object "HogMortgage$Lane"
  | 2 => .object "HogMortgage$Past"
  | 3 => .object "HogMortgage$Parting"
  | 4 => .object "HogMortgage$Tape"
  | 5 => .array (.object "HogMortgage$Sheet")
  | 6 => .object "HogMortgage$Lane"
  | 7 => .object "HogMortgage$Past"
  | _ => .boolean
abbrev wsX50 : List Cond := u_ws RX5 TX5 9
theorem nmX5 : ∀ a, a < 9 → ∀ b, b < 9 → a ≠ b → (TX5 a).2.1 ≠ (TX5 b).2.1 := by decide +kernel
theorem tyX5_ok : ∀ k, k < 9 → parseFieldDescriptor (TX5 k).2.2.1 = some (tyX5 k) := by decide +kernel
abbrev cX5_init : ByteArray := prog_1_method_1_code
def yX5_init : MethodName := ⟨RX5, "<init>", "()V"⟩
abbrev cX5_house : ByteArray := prog_1_method_2_code
def yX5_house : MethodName := ⟨RX5, "house", "(II)I"⟩
abbrev cX5_hog : ByteArray := prog_1_method_3_code
def yX5_hog : MethodName := ⟨RX5, "hog", "(III)I"⟩
abbrev cX5_interest : ByteArray := prog_1_method_4_code
def yX5_interest : MethodName := ⟨RX5, "interest", "(I)I"⟩
abbrev cX5_of : ByteArray := prog_1_method_5_code
def yX5_of : MethodName := ⟨RX5, "of", "(II)I"⟩
abbrev cX5_at : ByteArray := prog_1_method_6_code
def yX5_at : MethodName := ⟨RX5, "at", "(II)I"⟩
abbrev cX5_type : ByteArray := prog_1_method_7_code
def yX5_type : MethodName := ⟨RX5, "type", "(I)I"⟩
abbrev cX5_read : ByteArray := prog_1_method_8_code
def yX5_read : MethodName := ⟨RX5, "read", "()I"⟩
abbrev cX5_count : ByteArray := prog_1_method_9_code
def yX5_count : MethodName := ⟨RX5, "count", "(I)I"⟩
abbrev cX5_nights : ByteArray := prog_1_method_10_code
def yX5_nights : MethodName := ⟨RX5, "nights", "(I)I"⟩
abbrev cX5_put : ByteArray := prog_1_method_11_code
def yX5_put : MethodName := ⟨RX5, "put", "(II)I"⟩
abbrev cX5_pay : ByteArray := prog_1_method_12_code
def yX5_pay : MethodName := ⟨RX5, "pay", "(II)I"⟩
abbrev cX5_drive : ByteArray := prog_1_method_13_code
def yX5_drive : MethodName := ⟨RX5, "drive", "(II)I"⟩
abbrev cX5_forgive : ByteArray := prog_1_method_14_code
def yX5_forgive : MethodName := ⟨RX5, "forgive", "(I)I"⟩
abbrev cX5_drift : ByteArray := prog_1_method_15_code
def yX5_drift : MethodName := ⟨RX5, "drift", "(I)I"⟩
abbrev cX5_undo : ByteArray := prog_1_method_16_code
def yX5_undo : MethodName := ⟨RX5, "undo", "()I"⟩
abbrev cX5_seed : ByteArray := prog_1_method_17_code
def yX5_seed : MethodName := ⟨RX5, "seed", "(I)I"⟩
abbrev cX5_ahead : ByteArray := prog_1_method_18_code
def yX5_ahead : MethodName := ⟨RX5, "ahead", "(III)I"⟩
abbrev cX5_where : ByteArray := prog_1_method_19_code
def yX5_where : MethodName := ⟨RX5, "where", "(II)I"⟩
abbrev cX5_then : ByteArray := prog_1_method_20_code
def yX5_then : MethodName := ⟨RX5, "then", "(II)I"⟩
abbrev cX5_lost : ByteArray := prog_1_method_21_code
def yX5_lost : MethodName := ⟨RX5, "lost", "(I)I"⟩
abbrev cX5_free : ByteArray := prog_1_method_22_code
def yX5_free : MethodName := ⟨RX5, "free", "(I)I"⟩
abbrev cX5_keep : ByteArray := prog_1_method_23_code
def yX5_keep : MethodName := ⟨RX5, "keep", "(II)I"⟩
abbrev cX5_part : ByteArray := prog_1_method_24_code
def yX5_part : MethodName := ⟨RX5, "part", "(III)I"⟩
abbrev cX5_drives : ByteArray := prog_1_method_25_code
def yX5_drives : MethodName := ⟨RX5, "drives", "(III)I"⟩
abbrev cX5_visits : ByteArray := prog_1_method_26_code
def yX5_visits : MethodName := ⟨RX5, "visits", "(II)I"⟩
abbrev cX5_solvent : ByteArray := prog_1_method_27_code
def yX5_solvent : MethodName := ⟨RX5, "solvent", "(II)I"⟩
abbrev cX5_sleep : ByteArray := prog_1_method_28_code
def yX5_sleep : MethodName := ⟨RX5, "sleep", "(III)I"⟩
abbrev cX5_image : ByteArray := prog_1_method_29_code
def yX5_image : MethodName := ⟨RX5, "image", "()I"⟩
abbrev cX5_restore : ByteArray := prog_1_method_30_code
def yX5_restore : MethodName := ⟨RX5, "restore", "()I"⟩
abbrev cX5_dawns : ByteArray := prog_1_method_31_code
def yX5_dawns : MethodName := ⟨RX5, "dawns", "(IIIIIII)I"⟩
abbrev cX5_film : ByteArray := prog_1_method_32_code
def yX5_film : MethodName := ⟨RX5, "film", "(IIIII)I"⟩
abbrev cX5_sheet : ByteArray := prog_1_method_33_code
def yX5_sheet : MethodName := ⟨RX5, "sheet", "(III)I"⟩
abbrev cX5_drop : ByteArray := prog_1_method_34_code
def yX5_drop : MethodName := ⟨RX5, "drop", "(I)I"⟩
abbrev cX5_item : ByteArray := prog_1_method_35_code
def yX5_item : MethodName := ⟨RX5, "item", "(IIIJ)I"⟩
abbrev cX5_copy : ByteArray := prog_1_method_36_code
def yX5_copy : MethodName := ⟨RX5, "copy", "(IIIII)I"⟩
abbrev cX5_within : ByteArray := prog_1_method_37_code
def yX5_within : MethodName := ⟨RX5, "within", "(III)Z"⟩
abbrev cX5_foretell : ByteArray := prog_1_method_38_code
def yX5_foretell : MethodName := ⟨RX5, "foretell", "(I)V"⟩
abbrev cX5_foretellDriven : ByteArray := prog_1_method_39_code
def yX5_foretellDriven : MethodName := ⟨RX5, "foretellDriven", "(III)V"⟩
abbrev cX5_chance : ByteArray := prog_1_method_40_code
def yX5_chance : MethodName := ⟨RX5, "chance", "(II)I"⟩
abbrev cX5_looksMore : ByteArray := prog_1_method_41_code
def yX5_looksMore : MethodName := ⟨RX5, "looksMore", "(II)Z"⟩
abbrev cX5_commonDivisor : ByteArray := prog_1_method_42_code
def yX5_commonDivisor : MethodName := ⟨RX5, "commonDivisor", "(II)I"⟩
abbrev cX5_dawnsAs : ByteArray := prog_1_method_43_code
def yX5_dawnsAs : MethodName := ⟨RX5, "dawnsAs", "(ILHogMortgage$Sheet;II)Z"⟩
def RX6 : String := "HogMortgageModel"
def TX6 : u_T := fun k => match k with
  | 0 => ("HogMortgageModel", "lane", "[I", true)
  | 1 => ("HogMortgageModel", "size", "[I", true)
  | 2 => ("HogMortgageModel", "item", "[J", true)
  | 3 => ("HogMortgageModel", "letters", "I", false)
  | 4 => ("HogMortgageModel", "tape", "[I", true)
  | 5 => ("HogMortgageModel", "position", "I", false)
  | 6 => ("HogMortgageModel", "number", "I", false)
  | 7 => ("HogMortgageModel", "now", "[I", true)
  | 8 => ("HogMortgageModel", "tried", "[I", true)
  | 9 => ("HogMortgageModel", "read", "[I", true)
  | 10 => ("HogMortgageModel", "kept", "[I", true)
  | 11 => ("HogMortgageModel", "isKept", "Z", false)
  | 12 => ("HogMortgageModel", "left", "[I", true)
  | 13 => ("HogMortgageModel", "often", "[I", true)
  | 14 => ("HogMortgageModel", "parted", "[I", true)
  | _ => ("HogMortgageModel", "bestParted", "[I", true)
def tyX6 : Nat → FieldType := fun k => match k with
  | 0 => .array .int
  | 1 => .array .int
  | 2 => .array .long
  | 3 => .int
  | 4 => .array .int
  | 5 => .int
  | 6 => .int
  | 7 => .array .int
  | 8 => .array .int
  | 9 => .array .int
  | 10 => .array .int
  | 11 => .boolean
  | 12 => .array .int
  | 13 => .array .int
  | 14 => .array .int
  | _ => .array .int
abbrev wsX60 : List Cond := u_ws RX6 TX6 16
theorem nmX6 : ∀ a, a < 16 → ∀ b, b < 16 → a ≠ b → (TX6 a).2.1 ≠ (TX6 b).2.1 := by decide +kernel
theorem tyX6_ok : ∀ k, k < 16 → parseFieldDescriptor (TX6 k).2.2.1 = some (tyX6 k) := by decide +kernel
abbrev cX6_init : ByteArray := prog_8_method_1_code
def yX6_init : MethodName := ⟨RX6, "<init>", "()V"⟩
abbrev cX6_in : ByteArray := prog_8_method_2_code
def yX6_in : MethodName := ⟨RX6, "in", "(III)Z"⟩
abbrev cX6_has : ByteArray := prog_8_method_3_code
def yX6_has : MethodName := ⟨RX6, "has", "(II)Z"⟩
abbrev cX6_bits : ByteArray := prog_8_method_4_code
def yX6_bits : MethodName := ⟨RX6, "bits", "(I)I"⟩
abbrev cX6_bring : ByteArray := prog_8_method_5_code
def yX6_bring : MethodName := ⟨RX6, "bring", "([II[III)V"⟩
abbrev cX6_isHouse : ByteArray := prog_8_method_6_code
def yX6_isHouse : MethodName := ⟨RX6, "isHouse", "(I)Z"⟩
abbrev cX6_isHog : ByteArray := prog_8_method_7_code
def yX6_isHog : MethodName := ⟨RX6, "isHog", "(I)Z"⟩
abbrev cX6_addHouse : ByteArray := prog_8_method_8_code
def yX6_addHouse : MethodName := ⟨RX6, "addHouse", "([III)I"⟩
abbrev cX6_addHog : ByteArray := prog_8_method_9_code
def yX6_addHog : MethodName := ⟨RX6, "addHog", "([IIII)I"⟩
abbrev cX6_house : ByteArray := prog_8_method_10_code
def yX6_house : MethodName := ⟨RX6, "house", "(II)I"⟩
abbrev cX6_hog : ByteArray := prog_8_method_11_code
def yX6_hog : MethodName := ⟨RX6, "hog", "(III)I"⟩
abbrev cX6_interest : ByteArray := prog_8_method_12_code
def yX6_interest : MethodName := ⟨RX6, "interest", "(I)I"⟩
abbrev cX6_hogsAt : ByteArray := prog_8_method_13_code
def yX6_hogsAt : MethodName := ⟨RX6, "hogsAt", "([II)I"⟩
abbrev cX6_isLost : ByteArray := prog_8_method_14_code
def yX6_isLost : MethodName := ⟨RX6, "isLost", "([II)Z"⟩
abbrev cX6_of : ByteArray := prog_8_method_15_code
def yX6_of : MethodName := ⟨RX6, "of", "(II)I"⟩
abbrev cX6_mealOf : ByteArray := prog_8_method_16_code
def yX6_mealOf : MethodName := ⟨RX6, "mealOf", "([II)I"⟩
abbrev cX6_at : ByteArray := prog_8_method_17_code
def yX6_at : MethodName := ⟨RX6, "at", "(II)I"⟩
abbrev cX6_type : ByteArray := prog_8_method_18_code
def yX6_type : MethodName := ⟨RX6, "type", "(I)I"⟩
abbrev cX6_peek : ByteArray := prog_8_method_19_code
def yX6_peek : MethodName := ⟨RX6, "peek", "()I"⟩
abbrev cX6_isSign : ByteArray := prog_8_method_20_code
def yX6_isSign : MethodName := ⟨RX6, "isSign", "(I)Z"⟩
abbrev cX6_isDigit : ByteArray := prog_8_method_21_code
def yX6_isDigit : MethodName := ⟨RX6, "isDigit", "(II)Z"⟩
abbrev cX6_isNumber : ByteArray := prog_8_method_22_code
def yX6_isNumber : MethodName := ⟨RX6, "isNumber", "(I)Z"⟩
abbrev cX6_kindBy : ByteArray := prog_8_method_23_code
def yX6_kindBy : MethodName := ⟨RX6, "kindBy", "(I)I"⟩
abbrev cX6_isHouseItem : ByteArray := prog_8_method_24_code
def yX6_isHouseItem : MethodName := ⟨RX6, "isHouseItem", "()Z"⟩
abbrev cX6_isHogItem : ByteArray := prog_8_method_25_code
def yX6_isHogItem : MethodName := ⟨RX6, "isHogItem", "()Z"⟩
abbrev cX6_isLane : ByteArray := prog_8_method_26_code
def yX6_isLane : MethodName := ⟨RX6, "isLane", "()Z"⟩
abbrev cX6_read : ByteArray := prog_8_method_27_code
def yX6_read : MethodName := ⟨RX6, "read", "()I"⟩
abbrev cX6_lostOnes : ByteArray := prog_8_method_28_code
def yX6_lostOnes : MethodName := ⟨RX6, "lostOnes", "([I)I"⟩
abbrev cX6_owedBy : ByteArray := prog_8_method_29_code
def yX6_owedBy : MethodName := ⟨RX6, "owedBy", "([I)I"⟩
abbrev cX6_isWinter : ByteArray := prog_8_method_30_code
def yX6_isWinter : MethodName := ⟨RX6, "isWinter", "([I)Z"⟩
abbrev cX6_count : ByteArray := prog_8_method_31_code
def yX6_count : MethodName := ⟨RX6, "count", "(I)I"⟩
abbrev cX6_note : ByteArray := prog_8_method_32_code
def yX6_note : MethodName := ⟨RX6, "note", "()V"⟩
abbrev cX6_nextOf : ByteArray := prog_8_method_33_code
def yX6_nextOf : MethodName := ⟨RX6, "nextOf", "([IIZ)I"⟩
abbrev cX6_goesOn : ByteArray := prog_8_method_34_code
def yX6_goesOn : MethodName := ⟨RX6, "goesOn", "([IIZ)V"⟩
abbrev cX6_turnIn : ByteArray := prog_8_method_35_code
def yX6_turnIn : MethodName := ⟨RX6, "turnIn", "([II)V"⟩
abbrev cX6_nightIn : ByteArray := prog_8_method_36_code
def yX6_nightIn : MethodName := ⟨RX6, "nightIn", "([II)V"⟩
abbrev cX6_nights : ByteArray := prog_8_method_37_code
def yX6_nights : MethodName := ⟨RX6, "nights", "(I)I"⟩
abbrev cX6_put : ByteArray := prog_8_method_38_code
def yX6_put : MethodName := ⟨RX6, "put", "(II)I"⟩
abbrev cX6_pay : ByteArray := prog_8_method_39_code
def yX6_pay : MethodName := ⟨RX6, "pay", "(II)I"⟩
abbrev cX6_drive : ByteArray := prog_8_method_40_code
def yX6_drive : MethodName := ⟨RX6, "drive", "(II)I"⟩
abbrev cX6_forgive : ByteArray := prog_8_method_41_code
def yX6_forgive : MethodName := ⟨RX6, "forgive", "(I)I"⟩
abbrev cX6_drift : ByteArray := prog_8_method_42_code
def yX6_drift : MethodName := ⟨RX6, "drift", "(I)I"⟩
abbrev cX6_undo : ByteArray := prog_8_method_43_code
def yX6_undo : MethodName := ⟨RX6, "undo", "()I"⟩
abbrev cX6_seed : ByteArray := prog_8_method_44_code
def yX6_seed : MethodName := ⟨RX6, "seed", "(I)I"⟩
abbrev cX6_begin : ByteArray := prog_8_method_45_code
def yX6_begin : MethodName := ⟨RX6, "begin", "()V"⟩
abbrev cX6_goOn : ByteArray := prog_8_method_46_code
def yX6_goOn : MethodName := ⟨RX6, "goOn", "(I)V"⟩
abbrev cX6_ahead : ByteArray := prog_8_method_47_code
def yX6_ahead : MethodName := ⟨RX6, "ahead", "(III)I"⟩
abbrev cX6_where : ByteArray := prog_8_method_48_code
def yX6_where : MethodName := ⟨RX6, "where", "(II)I"⟩
abbrev cX6_then : ByteArray := prog_8_method_49_code
def yX6_then : MethodName := ⟨RX6, "then", "(II)I"⟩
abbrev cX6_lost : ByteArray := prog_8_method_50_code
def yX6_lost : MethodName := ⟨RX6, "lost", "(I)I"⟩
abbrev cX6_free : ByteArray := prog_8_method_51_code
def yX6_free : MethodName := ⟨RX6, "free", "(I)I"⟩
abbrev cX6_keep : ByteArray := prog_8_method_52_code
def yX6_keep : MethodName := ⟨RX6, "keep", "(II)I"⟩
abbrev cX6_layParts : ByteArray := prog_8_method_53_code
def yX6_layParts : MethodName := ⟨RX6, "layParts", "(II)Z"⟩
abbrev cX6_part : ByteArray := prog_8_method_54_code
def yX6_part : MethodName := ⟨RX6, "part", "(III)I"⟩
abbrev cX6_drives : ByteArray := prog_8_method_55_code
def yX6_drives : MethodName := ⟨RX6, "drives", "(III)I"⟩
abbrev cX6_visits : ByteArray := prog_8_method_56_code
def yX6_visits : MethodName := ⟨RX6, "visits", "(II)I"⟩
abbrev cX6_solvent : ByteArray := prog_8_method_57_code
def yX6_solvent : MethodName := ⟨RX6, "solvent", "(II)I"⟩
abbrev cX6_sleep : ByteArray := prog_8_method_58_code
def yX6_sleep : MethodName := ⟨RX6, "sleep", "(III)I"⟩
abbrev cX6_image : ByteArray := prog_8_method_59_code
def yX6_image : MethodName := ⟨RX6, "image", "()I"⟩
abbrev cX6_restore : ByteArray := prog_8_method_60_code
def yX6_restore : MethodName := ⟨RX6, "restore", "()I"⟩
abbrev cX6_isSheet : ByteArray := prog_8_method_61_code
def yX6_isSheet : MethodName := ⟨RX6, "isSheet", "(I)Z"⟩
abbrev cX6_isPart : ByteArray := prog_8_method_62_code
def yX6_isPart : MethodName := ⟨RX6, "isPart", "(III)Z"⟩
abbrev cX6_wrong : ByteArray := prog_8_method_63_code
def yX6_wrong : MethodName := ⟨RX6, "wrong", "(IIII)I"⟩
abbrev cX6_isLeft : ByteArray := prog_8_method_64_code
def yX6_isLeft : MethodName := ⟨RX6, "isLeft", "(IIII)Z"⟩
abbrev cX6_dawns : ByteArray := prog_8_method_65_code
def yX6_dawns : MethodName := ⟨RX6, "dawns", "(IIIIIII)I"⟩
abbrev cX6_cutTo : ByteArray := prog_8_method_66_code
def yX6_cutTo : MethodName := ⟨RX6, "cutTo", "(IJ)J"⟩
abbrev cX6_film : ByteArray := prog_8_method_67_code
def yX6_film : MethodName := ⟨RX6, "film", "(IIIII)I"⟩
abbrev cX6_sheet : ByteArray := prog_8_method_68_code
def yX6_sheet : MethodName := ⟨RX6, "sheet", "(III)I"⟩
abbrev cX6_drop : ByteArray := prog_8_method_69_code
def yX6_drop : MethodName := ⟨RX6, "drop", "(I)I"⟩
abbrev cX6_item : ByteArray := prog_8_method_70_code
def yX6_item : MethodName := ⟨RX6, "item", "(IIIJ)I"⟩
abbrev cX6_copy : ByteArray := prog_8_method_71_code
def yX6_copy : MethodName := ⟨RX6, "copy", "(IIIII)I"⟩
def RJ6 : String := "java/lang/Integer"
def TJ6 : u_T := fun k => match k with
  | _ => ("", "", "", false)
def tyJ6 : Nat → FieldType := fun k => match k with
  | _ => .int
abbrev wsJ60 : List Cond := u_ws RJ6 TJ6 0
theorem nmJ6 : ∀ a, a < 0 → ∀ b, b < 0 → a ≠ b → (TJ6 a).2.1 ≠ (TJ6 b).2.1 := by decide +kernel
theorem tyJ6_ok : ∀ k, k < 0 → parseFieldDescriptor (TJ6 k).2.2.1 = some (tyJ6 k) := by decide +kernel
abbrev cJ6_bitCount_0f7a4 : ByteArray := prog_9_method_49_code
def yJ6_bitCount_0f7a4 : MethodName := ⟨RJ6, "bitCount", "(I)I"⟩
def RJ10 : String := "java/lang/System"
def TJ10 : u_T := fun k => match k with
  | _ => ("", "", "", false)
def tyJ10 : Nat → FieldType := fun k => match k with
  | _ => .int
abbrev wsJ100 : List Cond := u_ws RJ10 TJ10 0
theorem nmJ10 : ∀ a, a < 0 → ∀ b, b < 0 → a ≠ b → (TJ10 a).2.1 ≠ (TJ10 b).2.1 := by decide +kernel
theorem tyJ10_ok : ∀ k, k < 0 → parseFieldDescriptor (TJ10 k).2.2.1 = some (tyJ10 k) := by decide +kernel
def RL : String := "HogMortgageLaw"
abbrev cL_law : ByteArray := code
def yL_law : MethodName := ⟨RL, "law", "([I)Z"⟩
abbrev vwCl : List vw_C := [(RX0, TX0, 14), (RX1, TX1, 4), (RX2, TX2, 2), (RX3, TX3, 4), (RX4, TX4, 5), (RX5, TX5, 9), (RX6, TX6, 16)]
end
section
def mm_U : List Cond := lw_tbl.filter goodWord
theorem mm_in {w : Cond} (i : Nat) (h : lw_tbl[i]? = some w) (g : goodWord w = true) : w ∈ mm_U := List.mem_filter.mpr ⟨List.mem_of_getElem? h, g⟩
theorem mm_U_in : ∀ w ∈ mm_U, w ∈ lw_tbl := fun w h => (List.mem_filter.mp h).1
theorem mm_U_good : ∀ w ∈ mm_U, (w.onTables && w.keeps) = true ∨ ∃ ty, w = .arrayClass ty := fun w h => good_of_word (List.mem_filter.mp h).2
theorem mw_0 : Cond.classLink RL 7 RX5 ∈ mm_U := mm_in 47 (by decide +kernel) (by decide +kernel)
theorem mw_1 : Cond.instantiable RX5 9 ∈ mm_U := mm_in 48 (by decide +kernel) (by decide +kernel)
theorem mw_2 : Cond.initialized RX5 ∈ mm_U := mm_in 38 (by decide +kernel) (by decide +kernel)
theorem mw_3 : Cond.classLink RL 10 RX6 ∈ mm_U := mm_in 610 (by decide +kernel) (by decide +kernel)
theorem mw_4 : Cond.instantiable RX6 16 ∈ mm_U := mm_in 611 (by decide +kernel) (by decide +kernel)
theorem mw_5 : Cond.initialized RX6 ∈ mm_U := mm_in 44 (by decide +kernel) (by decide +kernel)
theorem mw_6 : Cond.constantLong RL 151 (4294967295) ∈ mm_U := mm_in 931 (by decide +kernel) (by decide +kernel)
theorem mw_7 : Cond.methodLink RL 9 yX5_init ∈ mm_U := mm_in 49 (by decide +kernel) (by decide +kernel)
theorem mw_8 : Cond.instanceMethod yX5_init ∈ mm_U := mm_in 50 (by decide +kernel) (by decide +kernel)
theorem mw_9 : Cond.code yX5_init cX5_init 2 none ∈ mm_U := mm_in 51 (by decide +kernel) (by decide +kernel)
theorem mw_10 : Cond.methodLink RX5 1 objectInit ∈ mm_U := mm_in 52 (by decide +kernel) (by decide +kernel)
theorem mw_11 : Cond.instanceMethod objectInit ∈ mm_U := mm_in 53 (by decide +kernel) (by decide +kernel)
theorem mw_12 : Cond.code objectInit ⟨#[0xb1]⟩ 1 none ∈ mm_U := mm_in 54 (by decide +kernel) (by decide +kernel)
theorem mw_13 : Cond.classLink RX5 7 RX0 ∈ mm_U := mm_in 55 (by decide +kernel) (by decide +kernel)
theorem mw_14 : Cond.instantiable RX0 14 ∈ mm_U := mm_in 56 (by decide +kernel) (by decide +kernel)
theorem mw_15 : Cond.initialized RX0 ∈ mm_U := mm_in 39 (by decide +kernel) (by decide +kernel)
theorem mw_16 : Cond.fieldLink RX5 10 "HogMortgage" "now" "LHogMortgage$Lane;" ∈ mm_U := mm_in 213 (by decide +kernel) (by decide +kernel)
theorem mw_17 : Cond.fieldLink RX5 16 "HogMortgage" "trial" "LHogMortgage$Lane;" ∈ mm_U := mm_in 214 (by decide +kernel) (by decide +kernel)
theorem mw_18 : Cond.classLink RX5 19 RX2 ∈ mm_U := mm_in 122 (by decide +kernel) (by decide +kernel)
theorem mw_19 : Cond.instantiable RX2 2 ∈ mm_U := mm_in 123 (by decide +kernel) (by decide +kernel)
theorem mw_20 : Cond.initialized RX2 ∈ mm_U := mm_in 40 (by decide +kernel) (by decide +kernel)
theorem mw_21 : Cond.fieldLink RX5 22 "HogMortgage" "past" "LHogMortgage$Past;" ∈ mm_U := mm_in 215 (by decide +kernel) (by decide +kernel)
theorem mw_22 : Cond.classLink RX5 26 RX1 ∈ mm_U := mm_in 139 (by decide +kernel) (by decide +kernel)
theorem mw_23 : Cond.instantiable RX1 4 ∈ mm_U := mm_in 140 (by decide +kernel) (by decide +kernel)
theorem mw_24 : Cond.initialized RX1 ∈ mm_U := mm_in 41 (by decide +kernel) (by decide +kernel)
theorem mw_25 : Cond.fieldLink RX5 29 "HogMortgage" "parting" "LHogMortgage$Parting;" ∈ mm_U := mm_in 216 (by decide +kernel) (by decide +kernel)
theorem mw_26 : Cond.classLink RX5 33 RX4 ∈ mm_U := mm_in 161 (by decide +kernel) (by decide +kernel)
theorem mw_27 : Cond.instantiable RX4 5 ∈ mm_U := mm_in 162 (by decide +kernel) (by decide +kernel)
theorem mw_28 : Cond.initialized RX4 ∈ mm_U := mm_in 42 (by decide +kernel) (by decide +kernel)
theorem mw_29 : Cond.fieldLink RX5 36 "HogMortgage" "tape" "LHogMortgage$Tape;" ∈ mm_U := mm_in 217 (by decide +kernel) (by decide +kernel)
theorem mw_30 : Cond.classLink RX5 40 RX3 ∈ mm_U := mm_in 188 (by decide +kernel) (by decide +kernel)
theorem mw_31 : Cond.fieldLink RX5 42 "HogMortgage" "sheets" "[LHogMortgage$Sheet;" ∈ mm_U := mm_in 218 (by decide +kernel) (by decide +kernel)
theorem mw_32 : Cond.instantiable RX3 4 ∈ mm_U := mm_in 190 (by decide +kernel) (by decide +kernel)
theorem mw_33 : Cond.initialized RX3 ∈ mm_U := mm_in 43 (by decide +kernel) (by decide +kernel)
theorem mw_34 : Cond.fieldLink RX5 47 "HogMortgage" "imageNow" "LHogMortgage$Lane;" ∈ mm_U := mm_in 219 (by decide +kernel) (by decide +kernel)
theorem mw_35 : Cond.fieldLink RX5 50 "HogMortgage" "imagePast" "LHogMortgage$Past;" ∈ mm_U := mm_in 220 (by decide +kernel) (by decide +kernel)
theorem mw_36 : Cond.fieldLink RX5 53 "HogMortgage" "hasImage" "Z" ∈ mm_U := mm_in 221 (by decide +kernel) (by decide +kernel)
theorem mw_37 : Cond.methodLink RX5 9 yX0_init ∈ mm_U := mm_in 57 (by decide +kernel) (by decide +kernel)
theorem mw_38 : Cond.instanceMethod yX0_init ∈ mm_U := mm_in 58 (by decide +kernel) (by decide +kernel)
theorem mw_39 : Cond.code yX0_init cX0_init 1 none ∈ mm_U := mm_in 59 (by decide +kernel) (by decide +kernel)
theorem mw_40 : Cond.methodLink RX0 3 objectInit ∈ mm_U := mm_in 60 (by decide +kernel) (by decide +kernel)
theorem mw_41 : Cond.arrayClass .int ∈ mm_U := mm_in 121 (by decide +kernel) (by decide +kernel)
theorem mw_42 : Cond.fieldLink RX0 9 "HogMortgage$Lane" "owes" "[I" ∈ mm_U := mm_in 75 (by decide +kernel) (by decide +kernel)
theorem mw_43 : Cond.fieldLink RX0 15 "HogMortgage$Lane" "saucer" "[I" ∈ mm_U := mm_in 77 (by decide +kernel) (by decide +kernel)
theorem mw_44 : Cond.fieldLink RX0 18 "HogMortgage$Lane" "looks" "[I" ∈ mm_U := mm_in 80 (by decide +kernel) (by decide +kernel)
theorem mw_45 : Cond.fieldLink RX0 21 "HogMortgage$Lane" "kind" "[I" ∈ mm_U := mm_in 82 (by decide +kernel) (by decide +kernel)
theorem mw_46 : Cond.fieldLink RX0 24 "HogMortgage$Lane" "hungry" "[I" ∈ mm_U := mm_in 84 (by decide +kernel) (by decide +kernel)
theorem mw_47 : Cond.fieldLink RX0 27 "HogMortgage$Lane" "place" "[I" ∈ mm_U := mm_in 86 (by decide +kernel) (by decide +kernel)
theorem mw_48 : Cond.fieldLink RX0 30 "HogMortgage$Lane" "left" "[I" ∈ mm_U := mm_in 88 (by decide +kernel) (by decide +kernel)
theorem mw_49 : Cond.fieldLink RX0 33 "HogMortgage$Lane" "meals" "[I" ∈ mm_U := mm_in 90 (by decide +kernel) (by decide +kernel)
theorem mw_50 : Cond.fieldLink RX0 36 "HogMortgage$Lane" "interest" "I" ∈ mm_U := mm_in 66 (by decide +kernel) (by decide +kernel)
theorem mw_51 : Cond.fieldLink RX0 40 "HogMortgage$Lane" "draw" "I" ∈ mm_U := mm_in 73 (by decide +kernel) (by decide +kernel)
theorem mw_52 : Cond.methodLink RX5 21 yX2_init ∈ mm_U := mm_in 124 (by decide +kernel) (by decide +kernel)
theorem mw_53 : Cond.instanceMethod yX2_init ∈ mm_U := mm_in 125 (by decide +kernel) (by decide +kernel)
theorem mw_54 : Cond.code yX2_init cX2_init 2 none ∈ mm_U := mm_in 126 (by decide +kernel) (by decide +kernel)
theorem mw_55 : Cond.methodLink RX2 3 objectInit ∈ mm_U := mm_in 127 (by decide +kernel) (by decide +kernel)
theorem mw_56 : Cond.classLink RX2 9 RX0 ∈ mm_U := mm_in 128 (by decide +kernel) (by decide +kernel)
theorem mw_57 : Cond.fieldLink RX2 11 "HogMortgage$Past" "lanes" "[LHogMortgage$Lane;" ∈ mm_U := mm_in 131 (by decide +kernel) (by decide +kernel)
theorem mw_58 : Cond.methodLink RX2 17 yX0_init ∈ mm_U := mm_in 130 (by decide +kernel) (by decide +kernel)
theorem mw_59 : Cond.methodLink RX5 28 yX1_init ∈ mm_U := mm_in 141 (by decide +kernel) (by decide +kernel)
theorem mw_60 : Cond.instanceMethod yX1_init ∈ mm_U := mm_in 142 (by decide +kernel) (by decide +kernel)
theorem mw_61 : Cond.code yX1_init cX1_init 1 none ∈ mm_U := mm_in 143 (by decide +kernel) (by decide +kernel)
theorem mw_62 : Cond.methodLink RX1 3 objectInit ∈ mm_U := mm_in 144 (by decide +kernel) (by decide +kernel)
theorem mw_63 : Cond.fieldLink RX1 9 "HogMortgage$Parting" "best" "[I" ∈ mm_U := mm_in 149 (by decide +kernel) (by decide +kernel)
theorem mw_64 : Cond.fieldLink RX1 15 "HogMortgage$Parting" "way" "[I" ∈ mm_U := mm_in 151 (by decide +kernel) (by decide +kernel)
theorem mw_65 : Cond.methodLink RX5 35 yX4_init ∈ mm_U := mm_in 163 (by decide +kernel) (by decide +kernel)
theorem mw_66 : Cond.instanceMethod yX4_init ∈ mm_U := mm_in 164 (by decide +kernel) (by decide +kernel)
theorem mw_67 : Cond.code yX4_init cX4_init 1 none ∈ mm_U := mm_in 165 (by decide +kernel) (by decide +kernel)
theorem mw_68 : Cond.methodLink RX4 3 objectInit ∈ mm_U := mm_in 166 (by decide +kernel) (by decide +kernel)
theorem mw_69 : Cond.fieldLink RX4 9 "HogMortgage$Tape" "letters" "[I" ∈ mm_U := mm_in 175 (by decide +kernel) (by decide +kernel)
theorem mw_70 : Cond.classLink RX4 15 RX0 ∈ mm_U := mm_in 167 (by decide +kernel) (by decide +kernel)
theorem mw_71 : Cond.fieldLink RX4 18 "HogMortgage$Tape" "told" "LHogMortgage$Lane;" ∈ mm_U := mm_in 173 (by decide +kernel) (by decide +kernel)
theorem mw_72 : Cond.methodLink RX4 17 yX0_init ∈ mm_U := mm_in 168 (by decide +kernel) (by decide +kernel)
theorem mw_73 : Cond.methodLink RX5 46 yX3_init ∈ mm_U := mm_in 191 (by decide +kernel) (by decide +kernel)
theorem mw_74 : Cond.instanceMethod yX3_init ∈ mm_U := mm_in 192 (by decide +kernel) (by decide +kernel)
theorem mw_75 : Cond.code yX3_init cX3_init 1 none ∈ mm_U := mm_in 193 (by decide +kernel) (by decide +kernel)
theorem mw_76 : Cond.methodLink RX3 3 objectInit ∈ mm_U := mm_in 194 (by decide +kernel) (by decide +kernel)
theorem mw_77 : Cond.arrayClass .long ∈ mm_U := mm_in 212 (by decide +kernel) (by decide +kernel)
theorem mw_78 : Cond.fieldLink RX3 9 "HogMortgage$Sheet" "items" "[J" ∈ mm_U := mm_in 201 (by decide +kernel) (by decide +kernel)
theorem mw_79 : Cond.methodLink RL 12 yX6_init ∈ mm_U := mm_in 612 (by decide +kernel) (by decide +kernel)
theorem mw_80 : Cond.instanceMethod yX6_init ∈ mm_U := mm_in 613 (by decide +kernel) (by decide +kernel)
theorem mw_81 : Cond.code yX6_init cX6_init 2 none ∈ mm_U := mm_in 614 (by decide +kernel) (by decide +kernel)
theorem mw_82 : Cond.methodLink RX6 1 objectInit ∈ mm_U := mm_in 615 (by decide +kernel) (by decide +kernel)
theorem mw_83 : Cond.fieldLink RX6 7 "HogMortgageModel" "lane" "[I" ∈ mm_U := mm_in 616 (by decide +kernel) (by decide +kernel)
theorem mw_84 : Cond.fieldLink RX6 13 "HogMortgageModel" "size" "[I" ∈ mm_U := mm_in 617 (by decide +kernel) (by decide +kernel)
theorem mw_85 : Cond.fieldLink RX6 16 "HogMortgageModel" "item" "[J" ∈ mm_U := mm_in 618 (by decide +kernel) (by decide +kernel)
theorem mw_86 : Cond.fieldLink RX6 20 "HogMortgageModel" "tape" "[I" ∈ mm_U := mm_in 620 (by decide +kernel) (by decide +kernel)
theorem mw_87 : Cond.fieldLink RX6 23 "HogMortgageModel" "now" "[I" ∈ mm_U := mm_in 623 (by decide +kernel) (by decide +kernel)
theorem mw_88 : Cond.fieldLink RX6 26 "HogMortgageModel" "tried" "[I" ∈ mm_U := mm_in 624 (by decide +kernel) (by decide +kernel)
theorem mw_89 : Cond.fieldLink RX6 29 "HogMortgageModel" "read" "[I" ∈ mm_U := mm_in 625 (by decide +kernel) (by decide +kernel)
theorem mw_90 : Cond.fieldLink RX6 32 "HogMortgageModel" "kept" "[I" ∈ mm_U := mm_in 626 (by decide +kernel) (by decide +kernel)
theorem mw_91 : Cond.fieldLink RX6 35 "HogMortgageModel" "left" "[I" ∈ mm_U := mm_in 628 (by decide +kernel) (by decide +kernel)
theorem mw_92 : Cond.fieldLink RX6 38 "HogMortgageModel" "often" "[I" ∈ mm_U := mm_in 629 (by decide +kernel) (by decide +kernel)
theorem mw_93 : Cond.fieldLink RX6 41 "HogMortgageModel" "parted" "[I" ∈ mm_U := mm_in 630 (by decide +kernel) (by decide +kernel)
theorem mw_94 : Cond.fieldLink RX6 44 "HogMortgageModel" "bestParted" "[I" ∈ mm_U := mm_in 631 (by decide +kernel) (by decide +kernel)
theorem mw_95 : Cond.methodLink RL 13 yX5_house ∈ mm_U := mm_in 241 (by decide +kernel) (by decide +kernel)
theorem mw_96 : Cond.instanceMethod yX5_house ∈ mm_U := mm_in 242 (by decide +kernel) (by decide +kernel)
theorem mw_97 : Cond.selects RX5 yX5_house yX5_house ∈ mm_U := mm_in 243 (by decide +kernel) (by decide +kernel)
theorem mw_98 : Cond.code yX5_house cX5_house 3 (some .int) ∈ mm_U := mm_in 244 (by decide +kernel) (by decide +kernel)
theorem mw_99 : Cond.fieldLink RX5 61 "HogMortgage$Lane" "houses" "I" ∈ mm_U := mm_in 63 (by decide +kernel) (by decide +kernel)
theorem mw_100 : Cond.methodLink RX5 57 yX5_within ∈ mm_U := mm_in 245 (by decide +kernel) (by decide +kernel)
theorem mw_101 : Cond.static yX5_within ∈ mm_U := mm_in 246 (by decide +kernel) (by decide +kernel)
theorem mw_102 : Cond.code yX5_within cX5_within 3 (some .boolean) ∈ mm_U := mm_in 247 (by decide +kernel) (by decide +kernel)
theorem mw_103 : Cond.methodLink RX5 65 yX2_forget ∈ mm_U := mm_in 248 (by decide +kernel) (by decide +kernel)
theorem mw_104 : Cond.instanceMethod yX2_forget ∈ mm_U := mm_in 249 (by decide +kernel) (by decide +kernel)
theorem mw_105 : Cond.selects RX2 yX2_forget yX2_forget ∈ mm_U := mm_in 250 (by decide +kernel) (by decide +kernel)
theorem mw_106 : Cond.code yX2_forget cX2_forget 1 none ∈ mm_U := mm_in 251 (by decide +kernel) (by decide +kernel)
theorem mw_107 : Cond.fieldLink RX2 18 "HogMortgage$Past" "size" "I" ∈ mm_U := mm_in 132 (by decide +kernel) (by decide +kernel)
theorem mw_108 : Cond.methodLink RX5 68 yX0_addHouse ∈ mm_U := mm_in 252 (by decide +kernel) (by decide +kernel)
theorem mw_109 : Cond.instanceMethod yX0_addHouse ∈ mm_U := mm_in 253 (by decide +kernel) (by decide +kernel)
theorem mw_110 : Cond.selects RX0 yX0_addHouse yX0_addHouse ∈ mm_U := mm_in 254 (by decide +kernel) (by decide +kernel)
theorem mw_111 : Cond.code yX0_addHouse cX0_addHouse 5 (some .int) ∈ mm_U := mm_in 255 (by decide +kernel) (by decide +kernel)
theorem mw_112 : Cond.fieldLink RX0 43 "HogMortgage$Lane" "houses" "I" ∈ mm_U := mm_in 62 (by decide +kernel) (by decide +kernel)
theorem mw_113 : Cond.methodLink RL 17 yX6_house ∈ mm_U := mm_in 665 (by decide +kernel) (by decide +kernel)
theorem mw_114 : Cond.instanceMethod yX6_house ∈ mm_U := mm_in 666 (by decide +kernel) (by decide +kernel)
theorem mw_115 : Cond.selects RX6 yX6_house yX6_house ∈ mm_U := mm_in 667 (by decide +kernel) (by decide +kernel)
theorem mw_116 : Cond.code yX6_house cX6_house 3 (some .int) ∈ mm_U := mm_in 668 (by decide +kernel) (by decide +kernel)
theorem mw_117 : Cond.methodLink RX6 47 yX6_in ∈ mm_U := mm_in 669 (by decide +kernel) (by decide +kernel)
theorem mw_118 : Cond.static yX6_in ∈ mm_U := mm_in 670 (by decide +kernel) (by decide +kernel)
theorem mw_119 : Cond.code yX6_in cX6_in 3 (some .boolean) ∈ mm_U := mm_in 671 (by decide +kernel) (by decide +kernel)
theorem mw_120 : Cond.methodLink RX6 51 yX6_addHouse ∈ mm_U := mm_in 672 (by decide +kernel) (by decide +kernel)
theorem mw_121 : Cond.static yX6_addHouse ∈ mm_U := mm_in 673 (by decide +kernel) (by decide +kernel)
theorem mw_122 : Cond.code yX6_addHouse cX6_addHouse 4 (some .int) ∈ mm_U := mm_in 674 (by decide +kernel) (by decide +kernel)
theorem mw_123 : Cond.methodLink RL 18 yX5_hog ∈ mm_U := mm_in 256 (by decide +kernel) (by decide +kernel)
theorem mw_124 : Cond.instanceMethod yX5_hog ∈ mm_U := mm_in 257 (by decide +kernel) (by decide +kernel)
theorem mw_125 : Cond.selects RX5 yX5_hog yX5_hog ∈ mm_U := mm_in 258 (by decide +kernel) (by decide +kernel)
theorem mw_126 : Cond.code yX5_hog cX5_hog 4 (some .int) ∈ mm_U := mm_in 259 (by decide +kernel) (by decide +kernel)
theorem mw_127 : Cond.fieldLink RX5 76 "HogMortgage$Lane" "hogs" "I" ∈ mm_U := mm_in 65 (by decide +kernel) (by decide +kernel)
theorem mw_128 : Cond.methodLink RX5 72 yX0_hasHouse ∈ mm_U := mm_in 260 (by decide +kernel) (by decide +kernel)
theorem mw_129 : Cond.instanceMethod yX0_hasHouse ∈ mm_U := mm_in 261 (by decide +kernel) (by decide +kernel)
theorem mw_130 : Cond.selects RX0 yX0_hasHouse yX0_hasHouse ∈ mm_U := mm_in 262 (by decide +kernel) (by decide +kernel)
theorem mw_131 : Cond.code yX0_hasHouse cX0_hasHouse 2 (some .boolean) ∈ mm_U := mm_in 263 (by decide +kernel) (by decide +kernel)
theorem mw_132 : Cond.methodLink RX5 79 yX0_addHog ∈ mm_U := mm_in 264 (by decide +kernel) (by decide +kernel)
theorem mw_133 : Cond.instanceMethod yX0_addHog ∈ mm_U := mm_in 265 (by decide +kernel) (by decide +kernel)
theorem mw_134 : Cond.selects RX0 yX0_addHog yX0_addHog ∈ mm_U := mm_in 266 (by decide +kernel) (by decide +kernel)
theorem mw_135 : Cond.code yX0_addHog cX0_addHog 5 (some .int) ∈ mm_U := mm_in 267 (by decide +kernel) (by decide +kernel)
theorem mw_136 : Cond.fieldLink RX0 46 "HogMortgage$Lane" "hogs" "I" ∈ mm_U := mm_in 64 (by decide +kernel) (by decide +kernel)
theorem mw_137 : Cond.methodLink RL 22 yX6_hog ∈ mm_U := mm_in 675 (by decide +kernel) (by decide +kernel)
theorem mw_138 : Cond.instanceMethod yX6_hog ∈ mm_U := mm_in 676 (by decide +kernel) (by decide +kernel)
theorem mw_139 : Cond.selects RX6 yX6_hog yX6_hog ∈ mm_U := mm_in 677 (by decide +kernel) (by decide +kernel)
theorem mw_140 : Cond.code yX6_hog cX6_hog 4 (some .int) ∈ mm_U := mm_in 678 (by decide +kernel) (by decide +kernel)
theorem mw_141 : Cond.methodLink RX6 55 yX6_isHouse ∈ mm_U := mm_in 679 (by decide +kernel) (by decide +kernel)
theorem mw_142 : Cond.instanceMethod yX6_isHouse ∈ mm_U := mm_in 681 (by decide +kernel) (by decide +kernel)
theorem mw_143 : Cond.selects RX6 yX6_isHouse yX6_isHouse ∈ mm_U := mm_in 20 (by decide +kernel) (by decide +kernel)
theorem mw_144 : Cond.code yX6_isHouse cX6_isHouse 2 (some .boolean) ∈ mm_U := mm_in 682 (by decide +kernel) (by decide +kernel)
theorem mw_145 : Cond.methodLink RX6 59 yX6_addHog ∈ mm_U := mm_in 683 (by decide +kernel) (by decide +kernel)
theorem mw_146 : Cond.static yX6_addHog ∈ mm_U := mm_in 684 (by decide +kernel) (by decide +kernel)
theorem mw_147 : Cond.code yX6_addHog cX6_addHog 5 (some .int) ∈ mm_U := mm_in 685 (by decide +kernel) (by decide +kernel)
theorem mw_148 : Cond.methodLink RL 23 yX5_interest ∈ mm_U := mm_in 268 (by decide +kernel) (by decide +kernel)
theorem mw_149 : Cond.instanceMethod yX5_interest ∈ mm_U := mm_in 269 (by decide +kernel) (by decide +kernel)
theorem mw_150 : Cond.selects RX5 yX5_interest yX5_interest ∈ mm_U := mm_in 270 (by decide +kernel) (by decide +kernel)
theorem mw_151 : Cond.code yX5_interest cX5_interest 3 (some .int) ∈ mm_U := mm_in 271 (by decide +kernel) (by decide +kernel)
theorem mw_152 : Cond.fieldLink RX5 82 "HogMortgage$Lane" "interest" "I" ∈ mm_U := mm_in 68 (by decide +kernel) (by decide +kernel)
theorem mw_153 : Cond.methodLink RL 27 yX6_interest ∈ mm_U := mm_in 686 (by decide +kernel) (by decide +kernel)
theorem mw_154 : Cond.instanceMethod yX6_interest ∈ mm_U := mm_in 687 (by decide +kernel) (by decide +kernel)
theorem mw_155 : Cond.selects RX6 yX6_interest yX6_interest ∈ mm_U := mm_in 688 (by decide +kernel) (by decide +kernel)
theorem mw_156 : Cond.code yX6_interest cX6_interest 3 (some .int) ∈ mm_U := mm_in 689 (by decide +kernel) (by decide +kernel)
theorem mw_157 : Cond.methodLink RL 28 yX5_of ∈ mm_U := mm_in 272 (by decide +kernel) (by decide +kernel)
theorem mw_158 : Cond.instanceMethod yX5_of ∈ mm_U := mm_in 273 (by decide +kernel) (by decide +kernel)
theorem mw_159 : Cond.selects RX5 yX5_of yX5_of ∈ mm_U := mm_in 274 (by decide +kernel) (by decide +kernel)
theorem mw_160 : Cond.code yX5_of cX5_of 3 (some .int) ∈ mm_U := mm_in 275 (by decide +kernel) (by decide +kernel)
theorem mw_161 : Cond.fieldLink RX5 85 "HogMortgage$Lane" "owes" "[I" ∈ mm_U := mm_in 76 (by decide +kernel) (by decide +kernel)
theorem mw_162 : Cond.fieldLink RX5 89 "HogMortgage$Lane" "saucer" "[I" ∈ mm_U := mm_in 79 (by decide +kernel) (by decide +kernel)
theorem mw_163 : Cond.fieldLink RX5 92 "HogMortgage$Lane" "looks" "[I" ∈ mm_U := mm_in 81 (by decide +kernel) (by decide +kernel)
theorem mw_164 : Cond.methodLink RX5 95 yX0_isLost ∈ mm_U := mm_in 276 (by decide +kernel) (by decide +kernel)
theorem mw_165 : Cond.instanceMethod yX0_isLost ∈ mm_U := mm_in 277 (by decide +kernel) (by decide +kernel)
theorem mw_166 : Cond.selects RX0 yX0_isLost yX0_isLost ∈ mm_U := mm_in 278 (by decide +kernel) (by decide +kernel)
theorem mw_167 : Cond.code yX0_isLost cX0_isLost 2 (some .boolean) ∈ mm_U := mm_in 279 (by decide +kernel) (by decide +kernel)
theorem mw_168 : Cond.methodLink RX5 98 yX0_guests ∈ mm_U := mm_in 280 (by decide +kernel) (by decide +kernel)
theorem mw_169 : Cond.instanceMethod yX0_guests ∈ mm_U := mm_in 281 (by decide +kernel) (by decide +kernel)
theorem mw_170 : Cond.selects RX0 yX0_guests yX0_guests ∈ mm_U := mm_in 282 (by decide +kernel) (by decide +kernel)
theorem mw_171 : Cond.code yX0_guests cX0_guests 4 (some .int) ∈ mm_U := mm_in 283 (by decide +kernel) (by decide +kernel)
theorem mw_172 : Cond.methodLink RL 31 yX6_of ∈ mm_U := mm_in 690 (by decide +kernel) (by decide +kernel)
theorem mw_173 : Cond.instanceMethod yX6_of ∈ mm_U := mm_in 691 (by decide +kernel) (by decide +kernel)
theorem mw_174 : Cond.selects RX6 yX6_of yX6_of ∈ mm_U := mm_in 692 (by decide +kernel) (by decide +kernel)
theorem mw_175 : Cond.code yX6_of cX6_of 3 (some .int) ∈ mm_U := mm_in 693 (by decide +kernel) (by decide +kernel)
theorem mw_176 : Cond.methodLink RX6 63 yX6_isLost ∈ mm_U := mm_in 694 (by decide +kernel) (by decide +kernel)
theorem mw_177 : Cond.static yX6_isLost ∈ mm_U := mm_in 695 (by decide +kernel) (by decide +kernel)
theorem mw_178 : Cond.code yX6_isLost cX6_isLost 2 (some .boolean) ∈ mm_U := mm_in 696 (by decide +kernel) (by decide +kernel)
theorem mw_179 : Cond.methodLink RX6 67 yX6_hogsAt ∈ mm_U := mm_in 697 (by decide +kernel) (by decide +kernel)
theorem mw_180 : Cond.static yX6_hogsAt ∈ mm_U := mm_in 698 (by decide +kernel) (by decide +kernel)
theorem mw_181 : Cond.code yX6_hogsAt cX6_hogsAt 4 (some .int) ∈ mm_U := mm_in 699 (by decide +kernel) (by decide +kernel)
theorem mw_182 : Cond.methodLink RL 32 yX5_at ∈ mm_U := mm_in 284 (by decide +kernel) (by decide +kernel)
theorem mw_183 : Cond.instanceMethod yX5_at ∈ mm_U := mm_in 285 (by decide +kernel) (by decide +kernel)
theorem mw_184 : Cond.selects RX5 yX5_at yX5_at ∈ mm_U := mm_in 286 (by decide +kernel) (by decide +kernel)
theorem mw_185 : Cond.code yX5_at cX5_at 3 (some .int) ∈ mm_U := mm_in 287 (by decide +kernel) (by decide +kernel)
theorem mw_186 : Cond.fieldLink RX5 105 "HogMortgage$Lane" "kind" "[I" ∈ mm_U := mm_in 83 (by decide +kernel) (by decide +kernel)
theorem mw_187 : Cond.fieldLink RX5 108 "HogMortgage$Lane" "hungry" "[I" ∈ mm_U := mm_in 85 (by decide +kernel) (by decide +kernel)
theorem mw_188 : Cond.fieldLink RX5 111 "HogMortgage$Lane" "place" "[I" ∈ mm_U := mm_in 87 (by decide +kernel) (by decide +kernel)
theorem mw_189 : Cond.methodLink RX5 102 yX0_hasHog ∈ mm_U := mm_in 288 (by decide +kernel) (by decide +kernel)
theorem mw_190 : Cond.instanceMethod yX0_hasHog ∈ mm_U := mm_in 289 (by decide +kernel) (by decide +kernel)
theorem mw_191 : Cond.selects RX0 yX0_hasHog yX0_hasHog ∈ mm_U := mm_in 290 (by decide +kernel) (by decide +kernel)
theorem mw_192 : Cond.code yX0_hasHog cX0_hasHog 2 (some .boolean) ∈ mm_U := mm_in 291 (by decide +kernel) (by decide +kernel)
theorem mw_193 : Cond.methodLink RX5 114 yX0_appetite ∈ mm_U := mm_in 292 (by decide +kernel) (by decide +kernel)
theorem mw_194 : Cond.instanceMethod yX0_appetite ∈ mm_U := mm_in 293 (by decide +kernel) (by decide +kernel)
theorem mw_195 : Cond.selects RX0 yX0_appetite yX0_appetite ∈ mm_U := mm_in 294 (by decide +kernel) (by decide +kernel)
theorem mw_196 : Cond.code yX0_appetite cX0_appetite 2 (some .int) ∈ mm_U := mm_in 295 (by decide +kernel) (by decide +kernel)
theorem mw_197 : Cond.methodLink RL 35 yX6_at ∈ mm_U := mm_in 700 (by decide +kernel) (by decide +kernel)
theorem mw_198 : Cond.instanceMethod yX6_at ∈ mm_U := mm_in 701 (by decide +kernel) (by decide +kernel)
theorem mw_199 : Cond.selects RX6 yX6_at yX6_at ∈ mm_U := mm_in 702 (by decide +kernel) (by decide +kernel)
theorem mw_200 : Cond.code yX6_at cX6_at 3 (some .int) ∈ mm_U := mm_in 703 (by decide +kernel) (by decide +kernel)
theorem mw_201 : Cond.methodLink RX6 71 yX6_isHog ∈ mm_U := mm_in 704 (by decide +kernel) (by decide +kernel)
theorem mw_202 : Cond.instanceMethod yX6_isHog ∈ mm_U := mm_in 706 (by decide +kernel) (by decide +kernel)
theorem mw_203 : Cond.selects RX6 yX6_isHog yX6_isHog ∈ mm_U := mm_in 21 (by decide +kernel) (by decide +kernel)
theorem mw_204 : Cond.code yX6_isHog cX6_isHog 2 (some .boolean) ∈ mm_U := mm_in 707 (by decide +kernel) (by decide +kernel)
theorem mw_205 : Cond.methodLink RX6 74 yX6_mealOf ∈ mm_U := mm_in 708 (by decide +kernel) (by decide +kernel)
theorem mw_206 : Cond.static yX6_mealOf ∈ mm_U := mm_in 709 (by decide +kernel) (by decide +kernel)
theorem mw_207 : Cond.code yX6_mealOf cX6_mealOf 3 (some .int) ∈ mm_U := mm_in 710 (by decide +kernel) (by decide +kernel)
theorem mw_208 : Cond.methodLink RL 36 yX5_type ∈ mm_U := mm_in 296 (by decide +kernel) (by decide +kernel)
theorem mw_209 : Cond.instanceMethod yX5_type ∈ mm_U := mm_in 297 (by decide +kernel) (by decide +kernel)
theorem mw_210 : Cond.selects RX5 yX5_type yX5_type ∈ mm_U := mm_in 298 (by decide +kernel) (by decide +kernel)
theorem mw_211 : Cond.code yX5_type cX5_type 2 (some .int) ∈ mm_U := mm_in 299 (by decide +kernel) (by decide +kernel)
theorem mw_212 : Cond.fieldLink RX5 117 "HogMortgage$Tape" "size" "I" ∈ mm_U := mm_in 170 (by decide +kernel) (by decide +kernel)
theorem mw_213 : Cond.methodLink RX5 120 yX4_add ∈ mm_U := mm_in 300 (by decide +kernel) (by decide +kernel)
theorem mw_214 : Cond.instanceMethod yX4_add ∈ mm_U := mm_in 301 (by decide +kernel) (by decide +kernel)
theorem mw_215 : Cond.selects RX4 yX4_add yX4_add ∈ mm_U := mm_in 302 (by decide +kernel) (by decide +kernel)
theorem mw_216 : Cond.code yX4_add cX4_add 2 (some .int) ∈ mm_U := mm_in 303 (by decide +kernel) (by decide +kernel)
theorem mw_217 : Cond.fieldLink RX4 22 "HogMortgage$Tape" "size" "I" ∈ mm_U := mm_in 169 (by decide +kernel) (by decide +kernel)
theorem mw_218 : Cond.methodLink RL 39 yX6_type ∈ mm_U := mm_in 711 (by decide +kernel) (by decide +kernel)
theorem mw_219 : Cond.instanceMethod yX6_type ∈ mm_U := mm_in 712 (by decide +kernel) (by decide +kernel)
theorem mw_220 : Cond.selects RX6 yX6_type yX6_type ∈ mm_U := mm_in 713 (by decide +kernel) (by decide +kernel)
theorem mw_221 : Cond.code yX6_type cX6_type 2 (some .int) ∈ mm_U := mm_in 714 (by decide +kernel) (by decide +kernel)
theorem mw_222 : Cond.fieldLink RX6 77 "HogMortgageModel" "letters" "I" ∈ mm_U := mm_in 619 (by decide +kernel) (by decide +kernel)
theorem mw_223 : Cond.methodLink RL 40 yX5_read ∈ mm_U := mm_in 304 (by decide +kernel) (by decide +kernel)
theorem mw_224 : Cond.instanceMethod yX5_read ∈ mm_U := mm_in 305 (by decide +kernel) (by decide +kernel)
theorem mw_225 : Cond.selects RX5 yX5_read yX5_read ∈ mm_U := mm_in 306 (by decide +kernel) (by decide +kernel)
theorem mw_226 : Cond.code yX5_read cX5_read 3 (some .int) ∈ mm_U := mm_in 307 (by decide +kernel) (by decide +kernel)
theorem mw_227 : Cond.fieldLink RX5 127 "HogMortgage$Tape" "fault" "I" ∈ mm_U := mm_in 171 (by decide +kernel) (by decide +kernel)
theorem mw_228 : Cond.fieldLink RX5 130 "HogMortgage$Lane" "draw" "I" ∈ mm_U := mm_in 74 (by decide +kernel) (by decide +kernel)
theorem mw_229 : Cond.fieldLink RX5 133 "HogMortgage$Tape" "told" "LHogMortgage$Lane;" ∈ mm_U := mm_in 174 (by decide +kernel) (by decide +kernel)
theorem mw_230 : Cond.methodLink RX5 123 yX4_tellLane ∈ mm_U := mm_in 308 (by decide +kernel) (by decide +kernel)
theorem mw_231 : Cond.instanceMethod yX4_tellLane ∈ mm_U := mm_in 309 (by decide +kernel) (by decide +kernel)
theorem mw_232 : Cond.selects RX4 yX4_tellLane yX4_tellLane ∈ mm_U := mm_in 310 (by decide +kernel) (by decide +kernel)
theorem mw_233 : Cond.code yX4_tellLane cX4_tellLane 2 (some .boolean) ∈ mm_U := mm_in 311 (by decide +kernel) (by decide +kernel)
theorem mw_234 : Cond.fieldLink RX4 26 "HogMortgage$Tape" "place" "I" ∈ mm_U := mm_in 176 (by decide +kernel) (by decide +kernel)
theorem mw_235 : Cond.fieldLink RX4 36 "HogMortgage$Lane" "interest" "I" ∈ mm_U := mm_in 67 (by decide +kernel) (by decide +kernel)
theorem mw_236 : Cond.methodLink RX4 29 yX0_beginAnew ∈ mm_U := mm_in 312 (by decide +kernel) (by decide +kernel)
theorem mw_237 : Cond.instanceMethod yX0_beginAnew ∈ mm_U := mm_in 313 (by decide +kernel) (by decide +kernel)
theorem mw_238 : Cond.selects RX0 yX0_beginAnew yX0_beginAnew ∈ mm_U := mm_in 314 (by decide +kernel) (by decide +kernel)
theorem mw_239 : Cond.code yX0_beginAnew cX0_beginAnew 1 none ∈ mm_U := mm_in 315 (by decide +kernel) (by decide +kernel)
theorem mw_240 : Cond.fieldLink RX0 49 "HogMortgage$Lane" "night" "I" ∈ mm_U := mm_in 69 (by decide +kernel) (by decide +kernel)
theorem mw_241 : Cond.fieldLink RX0 52 "HogMortgage$Lane" "eaten" "I" ∈ mm_U := mm_in 71 (by decide +kernel) (by decide +kernel)
theorem mw_242 : Cond.methodLink RX4 32 yX4_number ∈ mm_U := mm_in 316 (by decide +kernel) (by decide +kernel)
theorem mw_243 : Cond.instanceMethod yX4_number ∈ mm_U := mm_in 318 (by decide +kernel) (by decide +kernel)
theorem mw_244 : Cond.selects RX4 yX4_number yX4_number ∈ mm_U := mm_in 0 (by decide +kernel) (by decide +kernel)
theorem mw_245 : Cond.code yX4_number cX4_number 5 (some .int) ∈ mm_U := mm_in 319 (by decide +kernel) (by decide +kernel)
theorem mw_246 : Cond.methodLink RX4 53 yX4_look ∈ mm_U := mm_in 320 (by decide +kernel) (by decide +kernel)
theorem mw_247 : Cond.instanceMethod yX4_look ∈ mm_U := mm_in 322 (by decide +kernel) (by decide +kernel)
theorem mw_248 : Cond.selects RX4 yX4_look yX4_look ∈ mm_U := mm_in 1 (by decide +kernel) (by decide +kernel)
theorem mw_249 : Cond.code yX4_look cX4_look 1 (some .int) ∈ mm_U := mm_in 323 (by decide +kernel) (by decide +kernel)
theorem mw_250 : Cond.methodLink RX4 76 yX4_isDigit ∈ mm_U := mm_in 324 (by decide +kernel) (by decide +kernel)
theorem mw_251 : Cond.static yX4_isDigit ∈ mm_U := mm_in 325 (by decide +kernel) (by decide +kernel)
theorem mw_252 : Cond.code yX4_isDigit cX4_isDigit 1 (some .boolean) ∈ mm_U := mm_in 326 (by decide +kernel) (by decide +kernel)
theorem mw_253 : Cond.methodLink RX4 43 yX4_faultAt ∈ mm_U := mm_in 327 (by decide +kernel) (by decide +kernel)
theorem mw_254 : Cond.instanceMethod yX4_faultAt ∈ mm_U := mm_in 329 (by decide +kernel) (by decide +kernel)
theorem mw_255 : Cond.selects RX4 yX4_faultAt yX4_faultAt ∈ mm_U := mm_in 2 (by decide +kernel) (by decide +kernel)
theorem mw_256 : Cond.code yX4_faultAt cX4_faultAt 2 (some .boolean) ∈ mm_U := mm_in 330 (by decide +kernel) (by decide +kernel)
theorem mw_257 : Cond.fieldLink RX4 79 "HogMortgage$Tape" "fault" "I" ∈ mm_U := mm_in 172 (by decide +kernel) (by decide +kernel)
theorem mw_258 : Cond.methodLink RX4 39 yX4_takes ∈ mm_U := mm_in 331 (by decide +kernel) (by decide +kernel)
theorem mw_259 : Cond.instanceMethod yX4_takes ∈ mm_U := mm_in 333 (by decide +kernel) (by decide +kernel)
theorem mw_260 : Cond.selects RX4 yX4_takes yX4_takes ∈ mm_U := mm_in 3 (by decide +kernel) (by decide +kernel)
theorem mw_261 : Cond.code yX4_takes cX4_takes 2 (some .boolean) ∈ mm_U := mm_in 334 (by decide +kernel) (by decide +kernel)
theorem mw_262 : Cond.methodLink RX4 46 yX4_tellHouses ∈ mm_U := mm_in 335 (by decide +kernel) (by decide +kernel)
theorem mw_263 : Cond.instanceMethod yX4_tellHouses ∈ mm_U := mm_in 337 (by decide +kernel) (by decide +kernel)
theorem mw_264 : Cond.selects RX4 yX4_tellHouses yX4_tellHouses ∈ mm_U := mm_in 4 (by decide +kernel) (by decide +kernel)
theorem mw_265 : Cond.code yX4_tellHouses cX4_tellHouses 2 (some .boolean) ∈ mm_U := mm_in 338 (by decide +kernel) (by decide +kernel)
theorem mw_266 : Cond.methodLink RX4 57 yX4_tellHouse ∈ mm_U := mm_in 339 (by decide +kernel) (by decide +kernel)
theorem mw_267 : Cond.instanceMethod yX4_tellHouse ∈ mm_U := mm_in 341 (by decide +kernel) (by decide +kernel)
theorem mw_268 : Cond.selects RX4 yX4_tellHouse yX4_tellHouse ∈ mm_U := mm_in 5 (by decide +kernel) (by decide +kernel)
theorem mw_269 : Cond.code yX4_tellHouse cX4_tellHouse 4 (some .boolean) ∈ mm_U := mm_in 342 (by decide +kernel) (by decide +kernel)
theorem mw_270 : Cond.methodLink RX4 60 yX0_addHouse ∈ mm_U := mm_in 343 (by decide +kernel) (by decide +kernel)
theorem mw_271 : Cond.methodLink RX4 50 yX4_tellHogs ∈ mm_U := mm_in 344 (by decide +kernel) (by decide +kernel)
theorem mw_272 : Cond.instanceMethod yX4_tellHogs ∈ mm_U := mm_in 346 (by decide +kernel) (by decide +kernel)
theorem mw_273 : Cond.selects RX4 yX4_tellHogs yX4_tellHogs ∈ mm_U := mm_in 6 (by decide +kernel) (by decide +kernel)
theorem mw_274 : Cond.code yX4_tellHogs cX4_tellHogs 2 (some .boolean) ∈ mm_U := mm_in 347 (by decide +kernel) (by decide +kernel)
theorem mw_275 : Cond.methodLink RX4 64 yX4_tellHog ∈ mm_U := mm_in 348 (by decide +kernel) (by decide +kernel)
theorem mw_276 : Cond.instanceMethod yX4_tellHog ∈ mm_U := mm_in 350 (by decide +kernel) (by decide +kernel)
theorem mw_277 : Cond.selects RX4 yX4_tellHog yX4_tellHog ∈ mm_U := mm_in 7 (by decide +kernel) (by decide +kernel)
theorem mw_278 : Cond.code yX4_tellHog cX4_tellHog 4 (some .boolean) ∈ mm_U := mm_in 351 (by decide +kernel) (by decide +kernel)
theorem mw_279 : Cond.methodLink RX4 67 yX4_kindOf ∈ mm_U := mm_in 352 (by decide +kernel) (by decide +kernel)
theorem mw_280 : Cond.static yX4_kindOf ∈ mm_U := mm_in 353 (by decide +kernel) (by decide +kernel)
theorem mw_281 : Cond.code yX4_kindOf cX4_kindOf 1 (some .int) ∈ mm_U := mm_in 354 (by decide +kernel) (by decide +kernel)
theorem mw_282 : Cond.methodLink RX4 70 yX0_hasHouse ∈ mm_U := mm_in 355 (by decide +kernel) (by decide +kernel)
theorem mw_283 : Cond.methodLink RX4 73 yX0_addHog ∈ mm_U := mm_in 356 (by decide +kernel) (by decide +kernel)
theorem mw_284 : Cond.methodLink RX5 136 yX0_takeFrom ∈ mm_U := mm_in 357 (by decide +kernel) (by decide +kernel)
theorem mw_285 : Cond.instanceMethod yX0_takeFrom ∈ mm_U := mm_in 358 (by decide +kernel) (by decide +kernel)
theorem mw_286 : Cond.selects RX0 yX0_takeFrom yX0_takeFrom ∈ mm_U := mm_in 359 (by decide +kernel) (by decide +kernel)
theorem mw_287 : Cond.code yX0_takeFrom cX0_takeFrom 3 none ∈ mm_U := mm_in 360 (by decide +kernel) (by decide +kernel)
theorem mw_288 : Cond.methodLink RL 44 yX6_read ∈ mm_U := mm_in 715 (by decide +kernel) (by decide +kernel)
theorem mw_289 : Cond.instanceMethod yX6_read ∈ mm_U := mm_in 716 (by decide +kernel) (by decide +kernel)
theorem mw_290 : Cond.selects RX6 yX6_read yX6_read ∈ mm_U := mm_in 717 (by decide +kernel) (by decide +kernel)
theorem mw_291 : Cond.code yX6_read cX6_read 2 (some .int) ∈ mm_U := mm_in 718 (by decide +kernel) (by decide +kernel)
theorem mw_292 : Cond.fieldLink RX6 81 "HogMortgageModel" "position" "I" ∈ mm_U := mm_in 621 (by decide +kernel) (by decide +kernel)
theorem mw_293 : Cond.methodLink RX6 112 yX6_isLane ∈ mm_U := mm_in 719 (by decide +kernel) (by decide +kernel)
theorem mw_294 : Cond.instanceMethod yX6_isLane ∈ mm_U := mm_in 721 (by decide +kernel) (by decide +kernel)
theorem mw_295 : Cond.selects RX6 yX6_isLane yX6_isLane ∈ mm_U := mm_in 22 (by decide +kernel) (by decide +kernel)
theorem mw_296 : Cond.code yX6_isLane cX6_isLane 2 (some .boolean) ∈ mm_U := mm_in 722 (by decide +kernel) (by decide +kernel)
theorem mw_297 : Cond.fieldLink RX6 88 "HogMortgageModel" "number" "I" ∈ mm_U := mm_in 622 (by decide +kernel) (by decide +kernel)
theorem mw_298 : Cond.methodLink RX6 95 yX6_isNumber ∈ mm_U := mm_in 723 (by decide +kernel) (by decide +kernel)
theorem mw_299 : Cond.instanceMethod yX6_isNumber ∈ mm_U := mm_in 725 (by decide +kernel) (by decide +kernel)
theorem mw_300 : Cond.selects RX6 yX6_isNumber yX6_isNumber ∈ mm_U := mm_in 23 (by decide +kernel) (by decide +kernel)
theorem mw_301 : Cond.code yX6_isNumber cX6_isNumber 4 (some .boolean) ∈ mm_U := mm_in 726 (by decide +kernel) (by decide +kernel)
theorem mw_302 : Cond.methodLink RX6 91 yX6_isDigit ∈ mm_U := mm_in 727 (by decide +kernel) (by decide +kernel)
theorem mw_303 : Cond.instanceMethod yX6_isDigit ∈ mm_U := mm_in 729 (by decide +kernel) (by decide +kernel)
theorem mw_304 : Cond.selects RX6 yX6_isDigit yX6_isDigit ∈ mm_U := mm_in 24 (by decide +kernel) (by decide +kernel)
theorem mw_305 : Cond.code yX6_isDigit cX6_isDigit 3 (some .boolean) ∈ mm_U := mm_in 730 (by decide +kernel) (by decide +kernel)
theorem mw_306 : Cond.methodLink RX6 84 yX6_peek ∈ mm_U := mm_in 731 (by decide +kernel) (by decide +kernel)
theorem mw_307 : Cond.instanceMethod yX6_peek ∈ mm_U := mm_in 733 (by decide +kernel) (by decide +kernel)
theorem mw_308 : Cond.selects RX6 yX6_peek yX6_peek ∈ mm_U := mm_in 25 (by decide +kernel) (by decide +kernel)
theorem mw_309 : Cond.code yX6_peek cX6_peek 1 (some .int) ∈ mm_U := mm_in 734 (by decide +kernel) (by decide +kernel)
theorem mw_310 : Cond.methodLink RX6 98 yX6_isSign ∈ mm_U := mm_in 735 (by decide +kernel) (by decide +kernel)
theorem mw_311 : Cond.instanceMethod yX6_isSign ∈ mm_U := mm_in 737 (by decide +kernel) (by decide +kernel)
theorem mw_312 : Cond.selects RX6 yX6_isSign yX6_isSign ∈ mm_U := mm_in 26 (by decide +kernel) (by decide +kernel)
theorem mw_313 : Cond.code yX6_isSign cX6_isSign 2 (some .boolean) ∈ mm_U := mm_in 738 (by decide +kernel) (by decide +kernel)
theorem mw_314 : Cond.methodLink RX6 105 yX6_isHouseItem ∈ mm_U := mm_in 739 (by decide +kernel) (by decide +kernel)
theorem mw_315 : Cond.instanceMethod yX6_isHouseItem ∈ mm_U := mm_in 741 (by decide +kernel) (by decide +kernel)
theorem mw_316 : Cond.selects RX6 yX6_isHouseItem yX6_isHouseItem ∈ mm_U := mm_in 27 (by decide +kernel) (by decide +kernel)
theorem mw_317 : Cond.code yX6_isHouseItem cX6_isHouseItem 4 (some .boolean) ∈ mm_U := mm_in 742 (by decide +kernel) (by decide +kernel)
theorem mw_318 : Cond.methodLink RX6 109 yX6_isHogItem ∈ mm_U := mm_in 743 (by decide +kernel) (by decide +kernel)
theorem mw_319 : Cond.instanceMethod yX6_isHogItem ∈ mm_U := mm_in 745 (by decide +kernel) (by decide +kernel)
theorem mw_320 : Cond.selects RX6 yX6_isHogItem yX6_isHogItem ∈ mm_U := mm_in 28 (by decide +kernel) (by decide +kernel)
theorem mw_321 : Cond.code yX6_isHogItem cX6_isHogItem 3 (some .boolean) ∈ mm_U := mm_in 746 (by decide +kernel) (by decide +kernel)
theorem mw_322 : Cond.methodLink RX6 101 yX6_kindBy ∈ mm_U := mm_in 747 (by decide +kernel) (by decide +kernel)
theorem mw_323 : Cond.static yX6_kindBy ∈ mm_U := mm_in 748 (by decide +kernel) (by decide +kernel)
theorem mw_324 : Cond.code yX6_kindBy cX6_kindBy 1 (some .int) ∈ mm_U := mm_in 749 (by decide +kernel) (by decide +kernel)
theorem mw_325 : Cond.methodLink RX6 115 yX6_bring ∈ mm_U := mm_in 750 (by decide +kernel) (by decide +kernel)
theorem mw_326 : Cond.static yX6_bring ∈ mm_U := mm_in 751 (by decide +kernel) (by decide +kernel)
theorem mw_327 : Cond.code yX6_bring cX6_bring 6 none ∈ mm_U := mm_in 752 (by decide +kernel) (by decide +kernel)
theorem mw_328 : Cond.methodLink RL 45 yX5_count ∈ mm_U := mm_in 361 (by decide +kernel) (by decide +kernel)
theorem mw_329 : Cond.instanceMethod yX5_count ∈ mm_U := mm_in 362 (by decide +kernel) (by decide +kernel)
theorem mw_330 : Cond.selects RX5 yX5_count yX5_count ∈ mm_U := mm_in 363 (by decide +kernel) (by decide +kernel)
theorem mw_331 : Cond.code yX5_count cX5_count 2 (some .int) ∈ mm_U := mm_in 364 (by decide +kernel) (by decide +kernel)
theorem mw_332 : Cond.fieldLink RX5 140 "HogMortgage$Lane" "night" "I" ∈ mm_U := mm_in 70 (by decide +kernel) (by decide +kernel)
theorem mw_333 : Cond.fieldLink RX5 143 "HogMortgage$Lane" "eaten" "I" ∈ mm_U := mm_in 72 (by decide +kernel) (by decide +kernel)
theorem mw_334 : Cond.fieldLink RX5 156 "HogMortgage$Past" "size" "I" ∈ mm_U := mm_in 133 (by decide +kernel) (by decide +kernel)
theorem mw_335 : Cond.methodLink RX5 146 yX0_lostSet ∈ mm_U := mm_in 365 (by decide +kernel) (by decide +kernel)
theorem mw_336 : Cond.instanceMethod yX0_lostSet ∈ mm_U := mm_in 366 (by decide +kernel) (by decide +kernel)
theorem mw_337 : Cond.selects RX0 yX0_lostSet yX0_lostSet ∈ mm_U := mm_in 367 (by decide +kernel) (by decide +kernel)
theorem mw_338 : Cond.code yX0_lostSet cX0_lostSet 3 (some .int) ∈ mm_U := mm_in 368 (by decide +kernel) (by decide +kernel)
theorem mw_339 : Cond.methodLink RX0 55 yX0_isLost ∈ mm_U := mm_in 369 (by decide +kernel) (by decide +kernel)
theorem mw_340 : Cond.methodLink RX5 150 yX0_owedByAll ∈ mm_U := mm_in 370 (by decide +kernel) (by decide +kernel)
theorem mw_341 : Cond.instanceMethod yX0_owedByAll ∈ mm_U := mm_in 371 (by decide +kernel) (by decide +kernel)
theorem mw_342 : Cond.selects RX0 yX0_owedByAll yX0_owedByAll ∈ mm_U := mm_in 372 (by decide +kernel) (by decide +kernel)
theorem mw_343 : Cond.code yX0_owedByAll cX0_owedByAll 3 (some .int) ∈ mm_U := mm_in 373 (by decide +kernel) (by decide +kernel)
theorem mw_344 : Cond.methodLink RX5 153 yX0_isWinter ∈ mm_U := mm_in 374 (by decide +kernel) (by decide +kernel)
theorem mw_345 : Cond.instanceMethod yX0_isWinter ∈ mm_U := mm_in 375 (by decide +kernel) (by decide +kernel)
theorem mw_346 : Cond.selects RX0 yX0_isWinter yX0_isWinter ∈ mm_U := mm_in 376 (by decide +kernel) (by decide +kernel)
theorem mw_347 : Cond.code yX0_isWinter cX0_isWinter 1 (some .boolean) ∈ mm_U := mm_in 377 (by decide +kernel) (by decide +kernel)
theorem mw_348 : Cond.methodLink RL 48 yX6_count ∈ mm_U := mm_in 753 (by decide +kernel) (by decide +kernel)
theorem mw_349 : Cond.instanceMethod yX6_count ∈ mm_U := mm_in 754 (by decide +kernel) (by decide +kernel)
theorem mw_350 : Cond.selects RX6 yX6_count yX6_count ∈ mm_U := mm_in 755 (by decide +kernel) (by decide +kernel)
theorem mw_351 : Cond.code yX6_count cX6_count 2 (some .int) ∈ mm_U := mm_in 756 (by decide +kernel) (by decide +kernel)
theorem mw_352 : Cond.methodLink RX6 119 yX6_lostOnes ∈ mm_U := mm_in 757 (by decide +kernel) (by decide +kernel)
theorem mw_353 : Cond.static yX6_lostOnes ∈ mm_U := mm_in 758 (by decide +kernel) (by decide +kernel)
theorem mw_354 : Cond.code yX6_lostOnes cX6_lostOnes 3 (some .int) ∈ mm_U := mm_in 759 (by decide +kernel) (by decide +kernel)
theorem mw_355 : Cond.methodLink RX6 123 yX6_owedBy ∈ mm_U := mm_in 760 (by decide +kernel) (by decide +kernel)
theorem mw_356 : Cond.static yX6_owedBy ∈ mm_U := mm_in 761 (by decide +kernel) (by decide +kernel)
theorem mw_357 : Cond.code yX6_owedBy cX6_owedBy 3 (some .int) ∈ mm_U := mm_in 762 (by decide +kernel) (by decide +kernel)
theorem mw_358 : Cond.methodLink RX6 126 yX6_isWinter ∈ mm_U := mm_in 763 (by decide +kernel) (by decide +kernel)
theorem mw_359 : Cond.static yX6_isWinter ∈ mm_U := mm_in 764 (by decide +kernel) (by decide +kernel)
theorem mw_360 : Cond.code yX6_isWinter cX6_isWinter 1 (some .boolean) ∈ mm_U := mm_in 765 (by decide +kernel) (by decide +kernel)
theorem mw_361 : Cond.methodLink RL 49 yX5_nights ∈ mm_U := mm_in 378 (by decide +kernel) (by decide +kernel)
theorem mw_362 : Cond.instanceMethod yX5_nights ∈ mm_U := mm_in 379 (by decide +kernel) (by decide +kernel)
theorem mw_363 : Cond.selects RX5 yX5_nights yX5_nights ∈ mm_U := mm_in 380 (by decide +kernel) (by decide +kernel)
theorem mw_364 : Cond.code yX5_nights cX5_nights 3 (some .int) ∈ mm_U := mm_in 381 (by decide +kernel) (by decide +kernel)
theorem mw_365 : Cond.methodLink RX5 157 yX2_remember ∈ mm_U := mm_in 382 (by decide +kernel) (by decide +kernel)
theorem mw_366 : Cond.instanceMethod yX2_remember ∈ mm_U := mm_in 383 (by decide +kernel) (by decide +kernel)
theorem mw_367 : Cond.selects RX2 yX2_remember yX2_remember ∈ mm_U := mm_in 384 (by decide +kernel) (by decide +kernel)
theorem mw_368 : Cond.code yX2_remember cX2_remember 2 none ∈ mm_U := mm_in 385 (by decide +kernel) (by decide +kernel)
theorem mw_369 : Cond.methodLink RX2 22 yX2_dropOldest ∈ mm_U := mm_in 386 (by decide +kernel) (by decide +kernel)
theorem mw_370 : Cond.instanceMethod yX2_dropOldest ∈ mm_U := mm_in 388 (by decide +kernel) (by decide +kernel)
theorem mw_371 : Cond.selects RX2 yX2_dropOldest yX2_dropOldest ∈ mm_U := mm_in 8 (by decide +kernel) (by decide +kernel)
theorem mw_372 : Cond.code yX2_dropOldest cX2_dropOldest 3 none ∈ mm_U := mm_in 389 (by decide +kernel) (by decide +kernel)
theorem mw_373 : Cond.methodLink RX2 25 yX0_takeFrom ∈ mm_U := mm_in 390 (by decide +kernel) (by decide +kernel)
theorem mw_374 : Cond.methodLink RX5 160 yX0_passNight ∈ mm_U := mm_in 391 (by decide +kernel) (by decide +kernel)
theorem mw_375 : Cond.instanceMethod yX0_passNight ∈ mm_U := mm_in 392 (by decide +kernel) (by decide +kernel)
theorem mw_376 : Cond.selects RX0 yX0_passNight yX0_passNight ∈ mm_U := mm_in 393 (by decide +kernel) (by decide +kernel)
theorem mw_377 : Cond.code yX0_passNight cX0_passNight 4 none ∈ mm_U := mm_in 394 (by decide +kernel) (by decide +kernel)
theorem mw_378 : Cond.methodLink RX0 70 yX0_isWinter ∈ mm_U := mm_in 395 (by decide +kernel) (by decide +kernel)
theorem mw_379 : Cond.methodLink RX0 74 yX0_visit ∈ mm_U := mm_in 396 (by decide +kernel) (by decide +kernel)
theorem mw_380 : Cond.instanceMethod yX0_visit ∈ mm_U := mm_in 398 (by decide +kernel) (by decide +kernel)
theorem mw_381 : Cond.selects RX0 yX0_visit yX0_visit ∈ mm_U := mm_in 9 (by decide +kernel) (by decide +kernel)
theorem mw_382 : Cond.code yX0_visit cX0_visit 5 none ∈ mm_U := mm_in 399 (by decide +kernel) (by decide +kernel)
theorem mw_383 : Cond.methodLink RX0 80 yX0_hasHouse ∈ mm_U := mm_in 400 (by decide +kernel) (by decide +kernel)
theorem mw_384 : Cond.methodLink RX0 83 yX0_eat ∈ mm_U := mm_in 401 (by decide +kernel) (by decide +kernel)
theorem mw_385 : Cond.instanceMethod yX0_eat ∈ mm_U := mm_in 403 (by decide +kernel) (by decide +kernel)
theorem mw_386 : Cond.selects RX0 yX0_eat yX0_eat ∈ mm_U := mm_in 10 (by decide +kernel) (by decide +kernel)
theorem mw_387 : Cond.code yX0_eat cX0_eat 5 (some .boolean) ∈ mm_U := mm_in 404 (by decide +kernel) (by decide +kernel)
theorem mw_388 : Cond.methodLink RX0 91 yX0_appetite ∈ mm_U := mm_in 405 (by decide +kernel) (by decide +kernel)
theorem mw_389 : Cond.methodLink RX0 95 yX0_takeOff ∈ mm_U := mm_in 406 (by decide +kernel) (by decide +kernel)
theorem mw_390 : Cond.instanceMethod yX0_takeOff ∈ mm_U := mm_in 407 (by decide +kernel) (by decide +kernel)
theorem mw_391 : Cond.selects RX0 yX0_takeOff yX0_takeOff ∈ mm_U := mm_in 408 (by decide +kernel) (by decide +kernel)
theorem mw_392 : Cond.code yX0_takeOff cX0_takeOff 3 none ∈ mm_U := mm_in 409 (by decide +kernel) (by decide +kernel)
theorem mw_393 : Cond.methodLink RX0 87 yX0_nextHouse ∈ mm_U := mm_in 410 (by decide +kernel) (by decide +kernel)
theorem mw_394 : Cond.instanceMethod yX0_nextHouse ∈ mm_U := mm_in 412 (by decide +kernel) (by decide +kernel)
theorem mw_395 : Cond.selects RX0 yX0_nextHouse yX0_nextHouse ∈ mm_U := mm_in 11 (by decide +kernel) (by decide +kernel)
theorem mw_396 : Cond.code yX0_nextHouse cX0_nextHouse 7 (some .int) ∈ mm_U := mm_in 413 (by decide +kernel) (by decide +kernel)
theorem mw_397 : Cond.methodLink RX0 99 yX0_guests ∈ mm_U := mm_in 414 (by decide +kernel) (by decide +kernel)
theorem mw_398 : Cond.methodLink RX0 77 yX0_addInterest ∈ mm_U := mm_in 415 (by decide +kernel) (by decide +kernel)
theorem mw_399 : Cond.instanceMethod yX0_addInterest ∈ mm_U := mm_in 417 (by decide +kernel) (by decide +kernel)
theorem mw_400 : Cond.selects RX0 yX0_addInterest yX0_addInterest ∈ mm_U := mm_in 12 (by decide +kernel) (by decide +kernel)
theorem mw_401 : Cond.code yX0_addInterest cX0_addInterest 3 none ∈ mm_U := mm_in 418 (by decide +kernel) (by decide +kernel)
theorem mw_402 : Cond.methodLink RL 52 yX6_nights ∈ mm_U := mm_in 766 (by decide +kernel) (by decide +kernel)
theorem mw_403 : Cond.instanceMethod yX6_nights ∈ mm_U := mm_in 767 (by decide +kernel) (by decide +kernel)
theorem mw_404 : Cond.selects RX6 yX6_nights yX6_nights ∈ mm_U := mm_in 768 (by decide +kernel) (by decide +kernel)
theorem mw_405 : Cond.code yX6_nights cX6_nights 3 (some .int) ∈ mm_U := mm_in 769 (by decide +kernel) (by decide +kernel)
theorem mw_406 : Cond.methodLink RX6 145 yX6_note ∈ mm_U := mm_in 770 (by decide +kernel) (by decide +kernel)
theorem mw_407 : Cond.instanceMethod yX6_note ∈ mm_U := mm_in 772 (by decide +kernel) (by decide +kernel)
theorem mw_408 : Cond.selects RX6 yX6_note yX6_note ∈ mm_U := mm_in 29 (by decide +kernel) (by decide +kernel)
theorem mw_409 : Cond.code yX6_note cX6_note 1 none ∈ mm_U := mm_in 773 (by decide +kernel) (by decide +kernel)
theorem mw_410 : Cond.methodLink RX6 148 yX6_nightIn ∈ mm_U := mm_in 774 (by decide +kernel) (by decide +kernel)
theorem mw_411 : Cond.instanceMethod yX6_nightIn ∈ mm_U := mm_in 776 (by decide +kernel) (by decide +kernel)
theorem mw_412 : Cond.selects RX6 yX6_nightIn yX6_nightIn ∈ mm_U := mm_in 30 (by decide +kernel) (by decide +kernel)
theorem mw_413 : Cond.code yX6_nightIn cX6_nightIn 6 none ∈ mm_U := mm_in 777 (by decide +kernel) (by decide +kernel)
theorem mw_414 : Cond.methodLink RX6 138 yX6_has ∈ mm_U := mm_in 778 (by decide +kernel) (by decide +kernel)
theorem mw_415 : Cond.static yX6_has ∈ mm_U := mm_in 779 (by decide +kernel) (by decide +kernel)
theorem mw_416 : Cond.code yX6_has cX6_has 2 (some .boolean) ∈ mm_U := mm_in 780 (by decide +kernel) (by decide +kernel)
theorem mw_417 : Cond.methodLink RX6 141 yX6_turnIn ∈ mm_U := mm_in 781 (by decide +kernel) (by decide +kernel)
theorem mw_418 : Cond.instanceMethod yX6_turnIn ∈ mm_U := mm_in 783 (by decide +kernel) (by decide +kernel)
theorem mw_419 : Cond.selects RX6 yX6_turnIn yX6_turnIn ∈ mm_U := mm_in 31 (by decide +kernel) (by decide +kernel)
theorem mw_420 : Cond.code yX6_turnIn cX6_turnIn 6 none ∈ mm_U := mm_in 784 (by decide +kernel) (by decide +kernel)
theorem mw_421 : Cond.methodLink RX6 134 yX6_goesOn ∈ mm_U := mm_in 785 (by decide +kernel) (by decide +kernel)
theorem mw_422 : Cond.static yX6_goesOn ∈ mm_U := mm_in 786 (by decide +kernel) (by decide +kernel)
theorem mw_423 : Cond.code yX6_goesOn cX6_goesOn 6 none ∈ mm_U := mm_in 787 (by decide +kernel) (by decide +kernel)
theorem mw_424 : Cond.methodLink RX6 130 yX6_nextOf ∈ mm_U := mm_in 788 (by decide +kernel) (by decide +kernel)
theorem mw_425 : Cond.static yX6_nextOf ∈ mm_U := mm_in 789 (by decide +kernel) (by decide +kernel)
theorem mw_426 : Cond.code yX6_nextOf cX6_nextOf 5 (some .int) ∈ mm_U := mm_in 790 (by decide +kernel) (by decide +kernel)
theorem mw_427 : Cond.methodLink RL 53 yX5_put ∈ mm_U := mm_in 419 (by decide +kernel) (by decide +kernel)
theorem mw_428 : Cond.instanceMethod yX5_put ∈ mm_U := mm_in 420 (by decide +kernel) (by decide +kernel)
theorem mw_429 : Cond.selects RX5 yX5_put yX5_put ∈ mm_U := mm_in 421 (by decide +kernel) (by decide +kernel)
theorem mw_430 : Cond.code yX5_put cX5_put 4 (some .int) ∈ mm_U := mm_in 422 (by decide +kernel) (by decide +kernel)
theorem mw_431 : Cond.methodLink RL 56 yX6_put ∈ mm_U := mm_in 791 (by decide +kernel) (by decide +kernel)
theorem mw_432 : Cond.instanceMethod yX6_put ∈ mm_U := mm_in 792 (by decide +kernel) (by decide +kernel)
theorem mw_433 : Cond.selects RX6 yX6_put yX6_put ∈ mm_U := mm_in 793 (by decide +kernel) (by decide +kernel)
theorem mw_434 : Cond.code yX6_put cX6_put 4 (some .int) ∈ mm_U := mm_in 794 (by decide +kernel) (by decide +kernel)
theorem mw_435 : Cond.methodLink RL 57 yX5_pay ∈ mm_U := mm_in 423 (by decide +kernel) (by decide +kernel)
theorem mw_436 : Cond.instanceMethod yX5_pay ∈ mm_U := mm_in 424 (by decide +kernel) (by decide +kernel)
theorem mw_437 : Cond.selects RX5 yX5_pay yX5_pay ∈ mm_U := mm_in 425 (by decide +kernel) (by decide +kernel)
theorem mw_438 : Cond.code yX5_pay cX5_pay 3 (some .int) ∈ mm_U := mm_in 426 (by decide +kernel) (by decide +kernel)
theorem mw_439 : Cond.methodLink RX5 164 yX0_takeOff ∈ mm_U := mm_in 427 (by decide +kernel) (by decide +kernel)
theorem mw_440 : Cond.methodLink RL 60 yX6_pay ∈ mm_U := mm_in 795 (by decide +kernel) (by decide +kernel)
theorem mw_441 : Cond.instanceMethod yX6_pay ∈ mm_U := mm_in 796 (by decide +kernel) (by decide +kernel)
theorem mw_442 : Cond.selects RX6 yX6_pay yX6_pay ∈ mm_U := mm_in 797 (by decide +kernel) (by decide +kernel)
theorem mw_443 : Cond.code yX6_pay cX6_pay 3 (some .int) ∈ mm_U := mm_in 798 (by decide +kernel) (by decide +kernel)
theorem mw_444 : Cond.methodLink RL 61 yX5_drive ∈ mm_U := mm_in 428 (by decide +kernel) (by decide +kernel)
theorem mw_445 : Cond.instanceMethod yX5_drive ∈ mm_U := mm_in 429 (by decide +kernel) (by decide +kernel)
theorem mw_446 : Cond.selects RX5 yX5_drive yX5_drive ∈ mm_U := mm_in 430 (by decide +kernel) (by decide +kernel)
theorem mw_447 : Cond.code yX5_drive cX5_drive 4 (some .int) ∈ mm_U := mm_in 431 (by decide +kernel) (by decide +kernel)
theorem mw_448 : Cond.methodLink RL 64 yX6_drive ∈ mm_U := mm_in 799 (by decide +kernel) (by decide +kernel)
theorem mw_449 : Cond.instanceMethod yX6_drive ∈ mm_U := mm_in 800 (by decide +kernel) (by decide +kernel)
theorem mw_450 : Cond.selects RX6 yX6_drive yX6_drive ∈ mm_U := mm_in 801 (by decide +kernel) (by decide +kernel)
theorem mw_451 : Cond.code yX6_drive cX6_drive 4 (some .int) ∈ mm_U := mm_in 802 (by decide +kernel) (by decide +kernel)
theorem mw_452 : Cond.methodLink RL 65 yX5_forgive ∈ mm_U := mm_in 432 (by decide +kernel) (by decide +kernel)
theorem mw_453 : Cond.instanceMethod yX5_forgive ∈ mm_U := mm_in 433 (by decide +kernel) (by decide +kernel)
theorem mw_454 : Cond.selects RX5 yX5_forgive yX5_forgive ∈ mm_U := mm_in 434 (by decide +kernel) (by decide +kernel)
theorem mw_455 : Cond.code yX5_forgive cX5_forgive 3 (some .int) ∈ mm_U := mm_in 435 (by decide +kernel) (by decide +kernel)
theorem mw_456 : Cond.methodLink RL 68 yX6_forgive ∈ mm_U := mm_in 803 (by decide +kernel) (by decide +kernel)
theorem mw_457 : Cond.instanceMethod yX6_forgive ∈ mm_U := mm_in 804 (by decide +kernel) (by decide +kernel)
theorem mw_458 : Cond.selects RX6 yX6_forgive yX6_forgive ∈ mm_U := mm_in 805 (by decide +kernel) (by decide +kernel)
theorem mw_459 : Cond.code yX6_forgive cX6_forgive 3 (some .int) ∈ mm_U := mm_in 806 (by decide +kernel) (by decide +kernel)
theorem mw_460 : Cond.methodLink RL 69 yX5_drift ∈ mm_U := mm_in 436 (by decide +kernel) (by decide +kernel)
theorem mw_461 : Cond.instanceMethod yX5_drift ∈ mm_U := mm_in 437 (by decide +kernel) (by decide +kernel)
theorem mw_462 : Cond.selects RX5 yX5_drift yX5_drift ∈ mm_U := mm_in 438 (by decide +kernel) (by decide +kernel)
theorem mw_463 : Cond.code yX5_drift cX5_drift 3 (some .int) ∈ mm_U := mm_in 439 (by decide +kernel) (by decide +kernel)
theorem mw_464 : Cond.methodLink RX5 168 yX0_drawSaucer ∈ mm_U := mm_in 440 (by decide +kernel) (by decide +kernel)
theorem mw_465 : Cond.instanceMethod yX0_drawSaucer ∈ mm_U := mm_in 441 (by decide +kernel) (by decide +kernel)
theorem mw_466 : Cond.selects RX0 yX0_drawSaucer yX0_drawSaucer ∈ mm_U := mm_in 442 (by decide +kernel) (by decide +kernel)
theorem mw_467 : Cond.code yX0_drawSaucer cX0_drawSaucer 1 none ∈ mm_U := mm_in 443 (by decide +kernel) (by decide +kernel)
theorem mw_468 : Cond.constantLong RX0 59 (1103515245) ∈ mm_U := mm_in 444 (by decide +kernel) (by decide +kernel)
theorem mw_469 : Cond.constantLong RX0 61 (12345) ∈ mm_U := mm_in 445 (by decide +kernel) (by decide +kernel)
theorem mw_470 : Cond.constantLong RX0 63 (2147483647) ∈ mm_U := mm_in 446 (by decide +kernel) (by decide +kernel)
theorem mw_471 : Cond.constant RX0 65 (65536) ∈ mm_U := mm_in 447 (by decide +kernel) (by decide +kernel)
theorem mw_472 : Cond.methodLink RL 72 yX6_drift ∈ mm_U := mm_in 807 (by decide +kernel) (by decide +kernel)
theorem mw_473 : Cond.instanceMethod yX6_drift ∈ mm_U := mm_in 808 (by decide +kernel) (by decide +kernel)
theorem mw_474 : Cond.selects RX6 yX6_drift yX6_drift ∈ mm_U := mm_in 809 (by decide +kernel) (by decide +kernel)
theorem mw_475 : Cond.code yX6_drift cX6_drift 3 (some .int) ∈ mm_U := mm_in 810 (by decide +kernel) (by decide +kernel)
theorem mw_476 : Cond.constantLong RX6 151 (1103515245) ∈ mm_U := mm_in 811 (by decide +kernel) (by decide +kernel)
theorem mw_477 : Cond.constantLong RX6 153 (12345) ∈ mm_U := mm_in 812 (by decide +kernel) (by decide +kernel)
theorem mw_478 : Cond.constantLong RX6 155 (2147483648) ∈ mm_U := mm_in 813 (by decide +kernel) (by decide +kernel)
theorem mw_479 : Cond.constant RX6 157 (65536) ∈ mm_U := mm_in 814 (by decide +kernel) (by decide +kernel)
theorem mw_480 : Cond.methodLink RL 73 yX5_undo ∈ mm_U := mm_in 448 (by decide +kernel) (by decide +kernel)
theorem mw_481 : Cond.instanceMethod yX5_undo ∈ mm_U := mm_in 449 (by decide +kernel) (by decide +kernel)
theorem mw_482 : Cond.selects RX5 yX5_undo yX5_undo ∈ mm_U := mm_in 450 (by decide +kernel) (by decide +kernel)
theorem mw_483 : Cond.code yX5_undo cX5_undo 2 (some .int) ∈ mm_U := mm_in 451 (by decide +kernel) (by decide +kernel)
theorem mw_484 : Cond.methodLink RX5 171 yX2_bringBack ∈ mm_U := mm_in 452 (by decide +kernel) (by decide +kernel)
theorem mw_485 : Cond.instanceMethod yX2_bringBack ∈ mm_U := mm_in 453 (by decide +kernel) (by decide +kernel)
theorem mw_486 : Cond.selects RX2 yX2_bringBack yX2_bringBack ∈ mm_U := mm_in 454 (by decide +kernel) (by decide +kernel)
theorem mw_487 : Cond.code yX2_bringBack cX2_bringBack 2 none ∈ mm_U := mm_in 455 (by decide +kernel) (by decide +kernel)
theorem mw_488 : Cond.methodLink RL 76 yX6_undo ∈ mm_U := mm_in 815 (by decide +kernel) (by decide +kernel)
theorem mw_489 : Cond.instanceMethod yX6_undo ∈ mm_U := mm_in 816 (by decide +kernel) (by decide +kernel)
theorem mw_490 : Cond.selects RX6 yX6_undo yX6_undo ∈ mm_U := mm_in 817 (by decide +kernel) (by decide +kernel)
theorem mw_491 : Cond.code yX6_undo cX6_undo 1 (some .int) ∈ mm_U := mm_in 818 (by decide +kernel) (by decide +kernel)
theorem mw_492 : Cond.methodLink RL 77 yX5_seed ∈ mm_U := mm_in 456 (by decide +kernel) (by decide +kernel)
theorem mw_493 : Cond.instanceMethod yX5_seed ∈ mm_U := mm_in 457 (by decide +kernel) (by decide +kernel)
theorem mw_494 : Cond.selects RX5 yX5_seed yX5_seed ∈ mm_U := mm_in 458 (by decide +kernel) (by decide +kernel)
theorem mw_495 : Cond.code yX5_seed cX5_seed 3 (some .int) ∈ mm_U := mm_in 459 (by decide +kernel) (by decide +kernel)
theorem mw_496 : Cond.methodLink RL 80 yX6_seed ∈ mm_U := mm_in 819 (by decide +kernel) (by decide +kernel)
theorem mw_497 : Cond.instanceMethod yX6_seed ∈ mm_U := mm_in 820 (by decide +kernel) (by decide +kernel)
theorem mw_498 : Cond.selects RX6 yX6_seed yX6_seed ∈ mm_U := mm_in 821 (by decide +kernel) (by decide +kernel)
theorem mw_499 : Cond.code yX6_seed cX6_seed 3 (some .int) ∈ mm_U := mm_in 822 (by decide +kernel) (by decide +kernel)
theorem mw_500 : Cond.methodLink RL 81 yX5_ahead ∈ mm_U := mm_in 460 (by decide +kernel) (by decide +kernel)
theorem mw_501 : Cond.instanceMethod yX5_ahead ∈ mm_U := mm_in 461 (by decide +kernel) (by decide +kernel)
theorem mw_502 : Cond.selects RX5 yX5_ahead yX5_ahead ∈ mm_U := mm_in 462 (by decide +kernel) (by decide +kernel)
theorem mw_503 : Cond.code yX5_ahead cX5_ahead 4 (some .int) ∈ mm_U := mm_in 463 (by decide +kernel) (by decide +kernel)
theorem mw_504 : Cond.methodLink RX5 174 yX5_foretell ∈ mm_U := mm_in 464 (by decide +kernel) (by decide +kernel)
theorem mw_505 : Cond.instanceMethod yX5_foretell ∈ mm_U := mm_in 466 (by decide +kernel) (by decide +kernel)
theorem mw_506 : Cond.selects RX5 yX5_foretell yX5_foretell ∈ mm_U := mm_in 13 (by decide +kernel) (by decide +kernel)
theorem mw_507 : Cond.code yX5_foretell cX5_foretell 2 none ∈ mm_U := mm_in 467 (by decide +kernel) (by decide +kernel)
theorem mw_508 : Cond.methodLink RX5 177 yX0_passNights ∈ mm_U := mm_in 468 (by decide +kernel) (by decide +kernel)
theorem mw_509 : Cond.instanceMethod yX0_passNights ∈ mm_U := mm_in 469 (by decide +kernel) (by decide +kernel)
theorem mw_510 : Cond.selects RX0 yX0_passNights yX0_passNights ∈ mm_U := mm_in 470 (by decide +kernel) (by decide +kernel)
theorem mw_511 : Cond.code yX0_passNights cX0_passNights 3 none ∈ mm_U := mm_in 471 (by decide +kernel) (by decide +kernel)
theorem mw_512 : Cond.methodLink RX0 66 yX0_passNight ∈ mm_U := mm_in 472 (by decide +kernel) (by decide +kernel)
theorem mw_513 : Cond.methodLink RL 84 yX6_ahead ∈ mm_U := mm_in 823 (by decide +kernel) (by decide +kernel)
theorem mw_514 : Cond.instanceMethod yX6_ahead ∈ mm_U := mm_in 824 (by decide +kernel) (by decide +kernel)
theorem mw_515 : Cond.selects RX6 yX6_ahead yX6_ahead ∈ mm_U := mm_in 825 (by decide +kernel) (by decide +kernel)
theorem mw_516 : Cond.code yX6_ahead cX6_ahead 4 (some .int) ∈ mm_U := mm_in 826 (by decide +kernel) (by decide +kernel)
theorem mw_517 : Cond.methodLink RX6 158 yX6_begin ∈ mm_U := mm_in 827 (by decide +kernel) (by decide +kernel)
theorem mw_518 : Cond.instanceMethod yX6_begin ∈ mm_U := mm_in 829 (by decide +kernel) (by decide +kernel)
theorem mw_519 : Cond.selects RX6 yX6_begin yX6_begin ∈ mm_U := mm_in 32 (by decide +kernel) (by decide +kernel)
theorem mw_520 : Cond.code yX6_begin cX6_begin 2 none ∈ mm_U := mm_in 830 (by decide +kernel) (by decide +kernel)
theorem mw_521 : Cond.methodLink RX6 161 yX6_goOn ∈ mm_U := mm_in 831 (by decide +kernel) (by decide +kernel)
theorem mw_522 : Cond.instanceMethod yX6_goOn ∈ mm_U := mm_in 833 (by decide +kernel) (by decide +kernel)
theorem mw_523 : Cond.selects RX6 yX6_goOn yX6_goOn ∈ mm_U := mm_in 33 (by decide +kernel) (by decide +kernel)
theorem mw_524 : Cond.code yX6_goOn cX6_goOn 3 none ∈ mm_U := mm_in 834 (by decide +kernel) (by decide +kernel)
theorem mw_525 : Cond.methodLink RL 85 yX5_where ∈ mm_U := mm_in 473 (by decide +kernel) (by decide +kernel)
theorem mw_526 : Cond.instanceMethod yX5_where ∈ mm_U := mm_in 474 (by decide +kernel) (by decide +kernel)
theorem mw_527 : Cond.selects RX5 yX5_where yX5_where ∈ mm_U := mm_in 475 (by decide +kernel) (by decide +kernel)
theorem mw_528 : Cond.code yX5_where cX5_where 3 (some .int) ∈ mm_U := mm_in 476 (by decide +kernel) (by decide +kernel)
theorem mw_529 : Cond.methodLink RL 88 yX6_where ∈ mm_U := mm_in 835 (by decide +kernel) (by decide +kernel)
theorem mw_530 : Cond.instanceMethod yX6_where ∈ mm_U := mm_in 836 (by decide +kernel) (by decide +kernel)
theorem mw_531 : Cond.selects RX6 yX6_where yX6_where ∈ mm_U := mm_in 837 (by decide +kernel) (by decide +kernel)
theorem mw_532 : Cond.code yX6_where cX6_where 3 (some .int) ∈ mm_U := mm_in 838 (by decide +kernel) (by decide +kernel)
theorem mw_533 : Cond.methodLink RL 89 yX5_then ∈ mm_U := mm_in 477 (by decide +kernel) (by decide +kernel)
theorem mw_534 : Cond.instanceMethod yX5_then ∈ mm_U := mm_in 478 (by decide +kernel) (by decide +kernel)
theorem mw_535 : Cond.selects RX5 yX5_then yX5_then ∈ mm_U := mm_in 479 (by decide +kernel) (by decide +kernel)
theorem mw_536 : Cond.code yX5_then cX5_then 3 (some .int) ∈ mm_U := mm_in 480 (by decide +kernel) (by decide +kernel)
theorem mw_537 : Cond.methodLink RL 92 yX6_then ∈ mm_U := mm_in 839 (by decide +kernel) (by decide +kernel)
theorem mw_538 : Cond.instanceMethod yX6_then ∈ mm_U := mm_in 840 (by decide +kernel) (by decide +kernel)
theorem mw_539 : Cond.selects RX6 yX6_then yX6_then ∈ mm_U := mm_in 841 (by decide +kernel) (by decide +kernel)
theorem mw_540 : Cond.code yX6_then cX6_then 3 (some .int) ∈ mm_U := mm_in 842 (by decide +kernel) (by decide +kernel)
theorem mw_541 : Cond.methodLink RL 93 yX5_lost ∈ mm_U := mm_in 481 (by decide +kernel) (by decide +kernel)
theorem mw_542 : Cond.instanceMethod yX5_lost ∈ mm_U := mm_in 482 (by decide +kernel) (by decide +kernel)
theorem mw_543 : Cond.selects RX5 yX5_lost yX5_lost ∈ mm_U := mm_in 483 (by decide +kernel) (by decide +kernel)
theorem mw_544 : Cond.code yX5_lost cX5_lost 3 (some .int) ∈ mm_U := mm_in 484 (by decide +kernel) (by decide +kernel)
theorem mw_545 : Cond.methodLink RL 96 yX6_lost ∈ mm_U := mm_in 843 (by decide +kernel) (by decide +kernel)
theorem mw_546 : Cond.instanceMethod yX6_lost ∈ mm_U := mm_in 844 (by decide +kernel) (by decide +kernel)
theorem mw_547 : Cond.selects RX6 yX6_lost yX6_lost ∈ mm_U := mm_in 845 (by decide +kernel) (by decide +kernel)
theorem mw_548 : Cond.code yX6_lost cX6_lost 3 (some .int) ∈ mm_U := mm_in 846 (by decide +kernel) (by decide +kernel)
theorem mw_549 : Cond.methodLink RL 97 yX5_free ∈ mm_U := mm_in 485 (by decide +kernel) (by decide +kernel)
theorem mw_550 : Cond.instanceMethod yX5_free ∈ mm_U := mm_in 486 (by decide +kernel) (by decide +kernel)
theorem mw_551 : Cond.selects RX5 yX5_free yX5_free ∈ mm_U := mm_in 487 (by decide +kernel) (by decide +kernel)
theorem mw_552 : Cond.code yX5_free cX5_free 3 (some .int) ∈ mm_U := mm_in 488 (by decide +kernel) (by decide +kernel)
theorem mw_553 : Cond.methodLink RL 100 yX6_free ∈ mm_U := mm_in 847 (by decide +kernel) (by decide +kernel)
theorem mw_554 : Cond.instanceMethod yX6_free ∈ mm_U := mm_in 848 (by decide +kernel) (by decide +kernel)
theorem mw_555 : Cond.selects RX6 yX6_free yX6_free ∈ mm_U := mm_in 849 (by decide +kernel) (by decide +kernel)
theorem mw_556 : Cond.code yX6_free cX6_free 3 (some .int) ∈ mm_U := mm_in 850 (by decide +kernel) (by decide +kernel)
theorem mw_557 : Cond.methodLink RL 101 yX5_keep ∈ mm_U := mm_in 489 (by decide +kernel) (by decide +kernel)
theorem mw_558 : Cond.instanceMethod yX5_keep ∈ mm_U := mm_in 490 (by decide +kernel) (by decide +kernel)
theorem mw_559 : Cond.selects RX5 yX5_keep yX5_keep ∈ mm_U := mm_in 491 (by decide +kernel) (by decide +kernel)
theorem mw_560 : Cond.code yX5_keep cX5_keep 4 (some .int) ∈ mm_U := mm_in 492 (by decide +kernel) (by decide +kernel)
theorem mw_561 : Cond.methodLink RL 104 yX6_keep ∈ mm_U := mm_in 851 (by decide +kernel) (by decide +kernel)
theorem mw_562 : Cond.instanceMethod yX6_keep ∈ mm_U := mm_in 852 (by decide +kernel) (by decide +kernel)
theorem mw_563 : Cond.selects RX6 yX6_keep yX6_keep ∈ mm_U := mm_in 853 (by decide +kernel) (by decide +kernel)
theorem mw_564 : Cond.code yX6_keep cX6_keep 4 (some .int) ∈ mm_U := mm_in 854 (by decide +kernel) (by decide +kernel)
theorem mw_565 : Cond.methodLink RL 105 yX5_part ∈ mm_U := mm_in 493 (by decide +kernel) (by decide +kernel)
theorem mw_566 : Cond.instanceMethod yX5_part ∈ mm_U := mm_in 494 (by decide +kernel) (by decide +kernel)
theorem mw_567 : Cond.selects RX5 yX5_part yX5_part ∈ mm_U := mm_in 495 (by decide +kernel) (by decide +kernel)
theorem mw_568 : Cond.code yX5_part cX5_part 4 (some .int) ∈ mm_U := mm_in 496 (by decide +kernel) (by decide +kernel)
theorem mw_569 : Cond.fieldLink RX5 184 "HogMortgage$Parting" "kept" "I" ∈ mm_U := mm_in 146 (by decide +kernel) (by decide +kernel)
theorem mw_570 : Cond.fieldLink RX5 187 "HogMortgage$Parting" "owed" "I" ∈ mm_U := mm_in 148 (by decide +kernel) (by decide +kernel)
theorem mw_571 : Cond.fieldLink RX5 190 "HogMortgage$Parting" "best" "[I" ∈ mm_U := mm_in 150 (by decide +kernel) (by decide +kernel)
theorem mw_572 : Cond.methodLink RX5 180 yX1_find ∈ mm_U := mm_in 497 (by decide +kernel) (by decide +kernel)
theorem mw_573 : Cond.instanceMethod yX1_find ∈ mm_U := mm_in 498 (by decide +kernel) (by decide +kernel)
theorem mw_574 : Cond.selects RX1 yX1_find yX1_find ∈ mm_U := mm_in 499 (by decide +kernel) (by decide +kernel)
theorem mw_575 : Cond.code yX1_find cX1_find 8 none ∈ mm_U := mm_in 500 (by decide +kernel) (by decide +kernel)
theorem mw_576 : Cond.fieldLink RX1 18 "HogMortgage$Lane" "houses" "I" ∈ mm_U := mm_in 61 (by decide +kernel) (by decide +kernel)
theorem mw_577 : Cond.fieldLink RX1 24 "HogMortgage$Parting" "kept" "I" ∈ mm_U := mm_in 145 (by decide +kernel) (by decide +kernel)
theorem mw_578 : Cond.methodLink RX1 27 yX1_judge ∈ mm_U := mm_in 501 (by decide +kernel) (by decide +kernel)
theorem mw_579 : Cond.instanceMethod yX1_judge ∈ mm_U := mm_in 503 (by decide +kernel) (by decide +kernel)
theorem mw_580 : Cond.selects RX1 yX1_judge yX1_judge ∈ mm_U := mm_in 14 (by decide +kernel) (by decide +kernel)
theorem mw_581 : Cond.code yX1_judge cX1_judge 8 none ∈ mm_U := mm_in 504 (by decide +kernel) (by decide +kernel)
theorem mw_582 : Cond.fieldLink RX1 39 "HogMortgage$Lane" "saucer" "[I" ∈ mm_U := mm_in 78 (by decide +kernel) (by decide +kernel)
theorem mw_583 : Cond.fieldLink RX1 59 "HogMortgage$Parting" "owed" "I" ∈ mm_U := mm_in 147 (by decide +kernel) (by decide +kernel)
theorem mw_584 : Cond.methodLink RX1 35 yX0_takeFrom ∈ mm_U := mm_in 505 (by decide +kernel) (by decide +kernel)
theorem mw_585 : Cond.methodLink RX1 42 yX0_passNight ∈ mm_U := mm_in 506 (by decide +kernel) (by decide +kernel)
theorem mw_586 : Cond.methodLink RX1 46 yX0_lostSet ∈ mm_U := mm_in 507 (by decide +kernel) (by decide +kernel)
theorem mw_587 : Cond.methodLink RX1 50 yJ6_bitCount_0f7a4 ∈ mm_U := mm_in 508 (by decide +kernel) (by decide +kernel)
theorem mw_588 : Cond.static yJ6_bitCount_0f7a4 ∈ mm_U := mm_in 509 (by decide +kernel) (by decide +kernel)
theorem mw_589 : Cond.initialized RJ6 ∈ mm_U := mm_in 45 (by decide +kernel) (by decide +kernel)
theorem mw_590 : Cond.code yJ6_bitCount_0f7a4 cJ6_bitCount_0f7a4 1 (some .int) ∈ mm_U := mm_in 510 (by decide +kernel) (by decide +kernel)
theorem mw_591 : Cond.constant RJ6 265 (1431655765) ∈ mm_U := mm_in 511 (by decide +kernel) (by decide +kernel)
theorem mw_592 : Cond.constant RJ6 266 (858993459) ∈ mm_U := mm_in 512 (by decide +kernel) (by decide +kernel)
theorem mw_593 : Cond.constant RJ6 267 (252645135) ∈ mm_U := mm_in 513 (by decide +kernel) (by decide +kernel)
theorem mw_594 : Cond.methodLink RX1 56 yX0_owedByAll ∈ mm_U := mm_in 514 (by decide +kernel) (by decide +kernel)
theorem mw_595 : Cond.methodLink RX1 31 yX1_nextWay ∈ mm_U := mm_in 515 (by decide +kernel) (by decide +kernel)
theorem mw_596 : Cond.instanceMethod yX1_nextWay ∈ mm_U := mm_in 517 (by decide +kernel) (by decide +kernel)
theorem mw_597 : Cond.selects RX1 yX1_nextWay yX1_nextWay ∈ mm_U := mm_in 15 (by decide +kernel) (by decide +kernel)
theorem mw_598 : Cond.code yX1_nextWay cX1_nextWay 4 (some .boolean) ∈ mm_U := mm_in 518 (by decide +kernel) (by decide +kernel)
theorem mw_599 : Cond.methodLink RL 108 yX6_part ∈ mm_U := mm_in 855 (by decide +kernel) (by decide +kernel)
theorem mw_600 : Cond.instanceMethod yX6_part ∈ mm_U := mm_in 856 (by decide +kernel) (by decide +kernel)
theorem mw_601 : Cond.selects RX6 yX6_part yX6_part ∈ mm_U := mm_in 857 (by decide +kernel) (by decide +kernel)
theorem mw_602 : Cond.code yX6_part cX6_part 10 (some .int) ∈ mm_U := mm_in 858 (by decide +kernel) (by decide +kernel)
theorem mw_603 : Cond.methodLink RX6 165 yX6_layParts ∈ mm_U := mm_in 859 (by decide +kernel) (by decide +kernel)
theorem mw_604 : Cond.instanceMethod yX6_layParts ∈ mm_U := mm_in 861 (by decide +kernel) (by decide +kernel)
theorem mw_605 : Cond.selects RX6 yX6_layParts yX6_layParts ∈ mm_U := mm_in 34 (by decide +kernel) (by decide +kernel)
theorem mw_606 : Cond.code yX6_layParts cX6_layParts 6 (some .boolean) ∈ mm_U := mm_in 862 (by decide +kernel) (by decide +kernel)
theorem mw_607 : Cond.methodLink RX6 168 yX6_bits ∈ mm_U := mm_in 863 (by decide +kernel) (by decide +kernel)
theorem mw_608 : Cond.static yX6_bits ∈ mm_U := mm_in 864 (by decide +kernel) (by decide +kernel)
theorem mw_609 : Cond.code yX6_bits cX6_bits 3 (some .int) ∈ mm_U := mm_in 865 (by decide +kernel) (by decide +kernel)
theorem mw_610 : Cond.methodLink RL 109 yX5_drives ∈ mm_U := mm_in 519 (by decide +kernel) (by decide +kernel)
theorem mw_611 : Cond.instanceMethod yX5_drives ∈ mm_U := mm_in 520 (by decide +kernel) (by decide +kernel)
theorem mw_612 : Cond.selects RX5 yX5_drives yX5_drives ∈ mm_U := mm_in 521 (by decide +kernel) (by decide +kernel)
theorem mw_613 : Cond.code yX5_drives cX5_drives 11 (some .int) ∈ mm_U := mm_in 522 (by decide +kernel) (by decide +kernel)
theorem mw_614 : Cond.methodLink RX5 193 yX5_foretellDriven ∈ mm_U := mm_in 523 (by decide +kernel) (by decide +kernel)
theorem mw_615 : Cond.instanceMethod yX5_foretellDriven ∈ mm_U := mm_in 525 (by decide +kernel) (by decide +kernel)
theorem mw_616 : Cond.selects RX5 yX5_foretellDriven yX5_foretellDriven ∈ mm_U := mm_in 16 (by decide +kernel) (by decide +kernel)
theorem mw_617 : Cond.code yX5_foretellDriven cX5_foretellDriven 4 none ∈ mm_U := mm_in 526 (by decide +kernel) (by decide +kernel)
theorem mw_618 : Cond.methodLink RL 112 yX6_drives ∈ mm_U := mm_in 866 (by decide +kernel) (by decide +kernel)
theorem mw_619 : Cond.instanceMethod yX6_drives ∈ mm_U := mm_in 867 (by decide +kernel) (by decide +kernel)
theorem mw_620 : Cond.selects RX6 yX6_drives yX6_drives ∈ mm_U := mm_in 868 (by decide +kernel) (by decide +kernel)
theorem mw_621 : Cond.code yX6_drives cX6_drives 10 (some .int) ∈ mm_U := mm_in 869 (by decide +kernel) (by decide +kernel)
theorem mw_622 : Cond.methodLink RL 113 yX5_visits ∈ mm_U := mm_in 527 (by decide +kernel) (by decide +kernel)
theorem mw_623 : Cond.instanceMethod yX5_visits ∈ mm_U := mm_in 528 (by decide +kernel) (by decide +kernel)
theorem mw_624 : Cond.selects RX5 yX5_visits yX5_visits ∈ mm_U := mm_in 529 (by decide +kernel) (by decide +kernel)
theorem mw_625 : Cond.code yX5_visits cX5_visits 5 (some .int) ∈ mm_U := mm_in 530 (by decide +kernel) (by decide +kernel)
theorem mw_626 : Cond.fieldLink RX5 197 "HogMortgage$Lane" "meals" "[I" ∈ mm_U := mm_in 91 (by decide +kernel) (by decide +kernel)
theorem mw_627 : Cond.methodLink RL 116 yX6_visits ∈ mm_U := mm_in 870 (by decide +kernel) (by decide +kernel)
theorem mw_628 : Cond.instanceMethod yX6_visits ∈ mm_U := mm_in 871 (by decide +kernel) (by decide +kernel)
theorem mw_629 : Cond.selects RX6 yX6_visits yX6_visits ∈ mm_U := mm_in 872 (by decide +kernel) (by decide +kernel)
theorem mw_630 : Cond.code yX6_visits cX6_visits 5 (some .int) ∈ mm_U := mm_in 873 (by decide +kernel) (by decide +kernel)
theorem mw_631 : Cond.methodLink RL 117 yX5_solvent ∈ mm_U := mm_in 531 (by decide +kernel) (by decide +kernel)
theorem mw_632 : Cond.instanceMethod yX5_solvent ∈ mm_U := mm_in 532 (by decide +kernel) (by decide +kernel)
theorem mw_633 : Cond.selects RX5 yX5_solvent yX5_solvent ∈ mm_U := mm_in 533 (by decide +kernel) (by decide +kernel)
theorem mw_634 : Cond.code yX5_solvent cX5_solvent 4 (some .int) ∈ mm_U := mm_in 534 (by decide +kernel) (by decide +kernel)
theorem mw_635 : Cond.methodLink RL 120 yX6_solvent ∈ mm_U := mm_in 874 (by decide +kernel) (by decide +kernel)
theorem mw_636 : Cond.instanceMethod yX6_solvent ∈ mm_U := mm_in 875 (by decide +kernel) (by decide +kernel)
theorem mw_637 : Cond.selects RX6 yX6_solvent yX6_solvent ∈ mm_U := mm_in 876 (by decide +kernel) (by decide +kernel)
theorem mw_638 : Cond.code yX6_solvent cX6_solvent 4 (some .int) ∈ mm_U := mm_in 877 (by decide +kernel) (by decide +kernel)
theorem mw_639 : Cond.methodLink RL 121 yX5_sleep ∈ mm_U := mm_in 535 (by decide +kernel) (by decide +kernel)
theorem mw_640 : Cond.instanceMethod yX5_sleep ∈ mm_U := mm_in 536 (by decide +kernel) (by decide +kernel)
theorem mw_641 : Cond.selects RX5 yX5_sleep yX5_sleep ∈ mm_U := mm_in 537 (by decide +kernel) (by decide +kernel)
theorem mw_642 : Cond.code yX5_sleep cX5_sleep 8 (some .int) ∈ mm_U := mm_in 538 (by decide +kernel) (by decide +kernel)
theorem mw_643 : Cond.methodLink RX5 200 yX5_chance ∈ mm_U := mm_in 539 (by decide +kernel) (by decide +kernel)
theorem mw_644 : Cond.instanceMethod yX5_chance ∈ mm_U := mm_in 541 (by decide +kernel) (by decide +kernel)
theorem mw_645 : Cond.selects RX5 yX5_chance yX5_chance ∈ mm_U := mm_in 17 (by decide +kernel) (by decide +kernel)
theorem mw_646 : Cond.code yX5_chance cX5_chance 5 (some .int) ∈ mm_U := mm_in 542 (by decide +kernel) (by decide +kernel)
theorem mw_647 : Cond.methodLink RX5 204 yX5_looksMore ∈ mm_U := mm_in 543 (by decide +kernel) (by decide +kernel)
theorem mw_648 : Cond.instanceMethod yX5_looksMore ∈ mm_U := mm_in 545 (by decide +kernel) (by decide +kernel)
theorem mw_649 : Cond.selects RX5 yX5_looksMore yX5_looksMore ∈ mm_U := mm_in 18 (by decide +kernel) (by decide +kernel)
theorem mw_650 : Cond.code yX5_looksMore cX5_looksMore 3 (some .boolean) ∈ mm_U := mm_in 546 (by decide +kernel) (by decide +kernel)
theorem mw_651 : Cond.methodLink RX5 208 yX5_commonDivisor ∈ mm_U := mm_in 547 (by decide +kernel) (by decide +kernel)
theorem mw_652 : Cond.static yX5_commonDivisor ∈ mm_U := mm_in 548 (by decide +kernel) (by decide +kernel)
theorem mw_653 : Cond.code yX5_commonDivisor cX5_commonDivisor 6 (some .int) ∈ mm_U := mm_in 549 (by decide +kernel) (by decide +kernel)
theorem mw_654 : Cond.methodLink RL 124 yX6_sleep ∈ mm_U := mm_in 878 (by decide +kernel) (by decide +kernel)
theorem mw_655 : Cond.instanceMethod yX6_sleep ∈ mm_U := mm_in 879 (by decide +kernel) (by decide +kernel)
theorem mw_656 : Cond.selects RX6 yX6_sleep yX6_sleep ∈ mm_U := mm_in 880 (by decide +kernel) (by decide +kernel)
theorem mw_657 : Cond.code yX6_sleep cX6_sleep 9 (some .int) ∈ mm_U := mm_in 881 (by decide +kernel) (by decide +kernel)
theorem mw_658 : Cond.methodLink RL 125 yX5_image ∈ mm_U := mm_in 550 (by decide +kernel) (by decide +kernel)
theorem mw_659 : Cond.instanceMethod yX5_image ∈ mm_U := mm_in 551 (by decide +kernel) (by decide +kernel)
theorem mw_660 : Cond.selects RX5 yX5_image yX5_image ∈ mm_U := mm_in 552 (by decide +kernel) (by decide +kernel)
theorem mw_661 : Cond.code yX5_image cX5_image 1 (some .int) ∈ mm_U := mm_in 553 (by decide +kernel) (by decide +kernel)
theorem mw_662 : Cond.methodLink RX5 211 yX2_takeFrom ∈ mm_U := mm_in 554 (by decide +kernel) (by decide +kernel)
theorem mw_663 : Cond.instanceMethod yX2_takeFrom ∈ mm_U := mm_in 555 (by decide +kernel) (by decide +kernel)
theorem mw_664 : Cond.selects RX2 yX2_takeFrom yX2_takeFrom ∈ mm_U := mm_in 556 (by decide +kernel) (by decide +kernel)
theorem mw_665 : Cond.code yX2_takeFrom cX2_takeFrom 3 none ∈ mm_U := mm_in 557 (by decide +kernel) (by decide +kernel)
theorem mw_666 : Cond.methodLink RL 128 yX6_image ∈ mm_U := mm_in 882 (by decide +kernel) (by decide +kernel)
theorem mw_667 : Cond.instanceMethod yX6_image ∈ mm_U := mm_in 883 (by decide +kernel) (by decide +kernel)
theorem mw_668 : Cond.selects RX6 yX6_image yX6_image ∈ mm_U := mm_in 884 (by decide +kernel) (by decide +kernel)
theorem mw_669 : Cond.code yX6_image cX6_image 1 (some .int) ∈ mm_U := mm_in 885 (by decide +kernel) (by decide +kernel)
theorem mw_670 : Cond.fieldLink RX6 171 "HogMortgageModel" "isKept" "Z" ∈ mm_U := mm_in 627 (by decide +kernel) (by decide +kernel)
theorem mw_671 : Cond.methodLink RL 129 yX5_restore ∈ mm_U := mm_in 558 (by decide +kernel) (by decide +kernel)
theorem mw_672 : Cond.instanceMethod yX5_restore ∈ mm_U := mm_in 559 (by decide +kernel) (by decide +kernel)
theorem mw_673 : Cond.selects RX5 yX5_restore yX5_restore ∈ mm_U := mm_in 560 (by decide +kernel) (by decide +kernel)
theorem mw_674 : Cond.code yX5_restore cX5_restore 1 (some .int) ∈ mm_U := mm_in 561 (by decide +kernel) (by decide +kernel)
theorem mw_675 : Cond.methodLink RL 132 yX6_restore ∈ mm_U := mm_in 886 (by decide +kernel) (by decide +kernel)
theorem mw_676 : Cond.instanceMethod yX6_restore ∈ mm_U := mm_in 887 (by decide +kernel) (by decide +kernel)
theorem mw_677 : Cond.selects RX6 yX6_restore yX6_restore ∈ mm_U := mm_in 888 (by decide +kernel) (by decide +kernel)
theorem mw_678 : Cond.code yX6_restore cX6_restore 1 (some .int) ∈ mm_U := mm_in 889 (by decide +kernel) (by decide +kernel)
theorem mw_679 : Cond.methodLink RL 133 yX5_dawns ∈ mm_U := mm_in 562 (by decide +kernel) (by decide +kernel)
theorem mw_680 : Cond.instanceMethod yX5_dawns ∈ mm_U := mm_in 563 (by decide +kernel) (by decide +kernel)
theorem mw_681 : Cond.selects RX5 yX5_dawns yX5_dawns ∈ mm_U := mm_in 564 (by decide +kernel) (by decide +kernel)
theorem mw_682 : Cond.code yX5_dawns cX5_dawns 14 (some .int) ∈ mm_U := mm_in 565 (by decide +kernel) (by decide +kernel)
theorem mw_683 : Cond.methodLink RX5 214 yX3_refusal ∈ mm_U := mm_in 566 (by decide +kernel) (by decide +kernel)
theorem mw_684 : Cond.instanceMethod yX3_refusal ∈ mm_U := mm_in 567 (by decide +kernel) (by decide +kernel)
theorem mw_685 : Cond.selects RX3 yX3_refusal yX3_refusal ∈ mm_U := mm_in 568 (by decide +kernel) (by decide +kernel)
theorem mw_686 : Cond.code yX3_refusal cX3_refusal 4 (some .int) ∈ mm_U := mm_in 569 (by decide +kernel) (by decide +kernel)
theorem mw_687 : Cond.fieldLink RX3 15 "HogMortgage$Sheet" "held" "Z" ∈ mm_U := mm_in 195 (by decide +kernel) (by decide +kernel)
theorem mw_688 : Cond.fieldLink RX3 19 "HogMortgage$Sheet" "lane" "I" ∈ mm_U := mm_in 197 (by decide +kernel) (by decide +kernel)
theorem mw_689 : Cond.methodLink RX3 26 yX3_hasItems ∈ mm_U := mm_in 570 (by decide +kernel) (by decide +kernel)
theorem mw_690 : Cond.instanceMethod yX3_hasItems ∈ mm_U := mm_in 571 (by decide +kernel) (by decide +kernel)
theorem mw_691 : Cond.selects RX3 yX3_hasItems yX3_hasItems ∈ mm_U := mm_in 572 (by decide +kernel) (by decide +kernel)
theorem mw_692 : Cond.code yX3_hasItems cX3_hasItems 3 (some .boolean) ∈ mm_U := mm_in 573 (by decide +kernel) (by decide +kernel)
theorem mw_693 : Cond.fieldLink RX3 23 "HogMortgage$Sheet" "size" "I" ∈ mm_U := mm_in 199 (by decide +kernel) (by decide +kernel)
theorem mw_694 : Cond.methodLink RX5 217 yX5_dawnsAs ∈ mm_U := mm_in 574 (by decide +kernel) (by decide +kernel)
theorem mw_695 : Cond.instanceMethod yX5_dawnsAs ∈ mm_U := mm_in 576 (by decide +kernel) (by decide +kernel)
theorem mw_696 : Cond.selects RX5 yX5_dawnsAs yX5_dawnsAs ∈ mm_U := mm_in 19 (by decide +kernel) (by decide +kernel)
theorem mw_697 : Cond.code yX5_dawnsAs cX5_dawnsAs 6 (some .boolean) ∈ mm_U := mm_in 577 (by decide +kernel) (by decide +kernel)
theorem mw_698 : Cond.fieldLink RX5 238 "HogMortgage$Sheet" "items" "[J" ∈ mm_U := mm_in 202 (by decide +kernel) (by decide +kernel)
theorem mw_699 : Cond.fieldLink RX5 248 "HogMortgage$Lane" "left" "[I" ∈ mm_U := mm_in 89 (by decide +kernel) (by decide +kernel)
theorem mw_700 : Cond.methodLink RL 137 yX6_dawns ∈ mm_U := mm_in 890 (by decide +kernel) (by decide +kernel)
theorem mw_701 : Cond.instanceMethod yX6_dawns ∈ mm_U := mm_in 891 (by decide +kernel) (by decide +kernel)
theorem mw_702 : Cond.selects RX6 yX6_dawns yX6_dawns ∈ mm_U := mm_in 892 (by decide +kernel) (by decide +kernel)
theorem mw_703 : Cond.code yX6_dawns cX6_dawns 11 (some .int) ∈ mm_U := mm_in 893 (by decide +kernel) (by decide +kernel)
theorem mw_704 : Cond.methodLink RX6 178 yX6_isSheet ∈ mm_U := mm_in 894 (by decide +kernel) (by decide +kernel)
theorem mw_705 : Cond.static yX6_isSheet ∈ mm_U := mm_in 895 (by decide +kernel) (by decide +kernel)
theorem mw_706 : Cond.code yX6_isSheet cX6_isSheet 1 (some .boolean) ∈ mm_U := mm_in 896 (by decide +kernel) (by decide +kernel)
theorem mw_707 : Cond.methodLink RX6 181 yX6_wrong ∈ mm_U := mm_in 897 (by decide +kernel) (by decide +kernel)
theorem mw_708 : Cond.instanceMethod yX6_wrong ∈ mm_U := mm_in 899 (by decide +kernel) (by decide +kernel)
theorem mw_709 : Cond.selects RX6 yX6_wrong yX6_wrong ∈ mm_U := mm_in 35 (by decide +kernel) (by decide +kernel)
theorem mw_710 : Cond.code yX6_wrong cX6_wrong 5 (some .int) ∈ mm_U := mm_in 900 (by decide +kernel) (by decide +kernel)
theorem mw_711 : Cond.methodLink RX6 175 yX6_isPart ∈ mm_U := mm_in 901 (by decide +kernel) (by decide +kernel)
theorem mw_712 : Cond.static yX6_isPart ∈ mm_U := mm_in 902 (by decide +kernel) (by decide +kernel)
theorem mw_713 : Cond.code yX6_isPart cX6_isPart 3 (some .boolean) ∈ mm_U := mm_in 903 (by decide +kernel) (by decide +kernel)
theorem mw_714 : Cond.methodLink RX6 185 yX6_isLeft ∈ mm_U := mm_in 904 (by decide +kernel) (by decide +kernel)
theorem mw_715 : Cond.instanceMethod yX6_isLeft ∈ mm_U := mm_in 906 (by decide +kernel) (by decide +kernel)
theorem mw_716 : Cond.selects RX6 yX6_isLeft yX6_isLeft ∈ mm_U := mm_in 36 (by decide +kernel) (by decide +kernel)
theorem mw_717 : Cond.code yX6_isLeft cX6_isLeft 7 (some .boolean) ∈ mm_U := mm_in 907 (by decide +kernel) (by decide +kernel)
theorem mw_718 : Cond.methodLink RL 138 yX5_film ∈ mm_U := mm_in 578 (by decide +kernel) (by decide +kernel)
theorem mw_719 : Cond.instanceMethod yX5_film ∈ mm_U := mm_in 579 (by decide +kernel) (by decide +kernel)
theorem mw_720 : Cond.selects RX5 yX5_film yX5_film ∈ mm_U := mm_in 580 (by decide +kernel) (by decide +kernel)
theorem mw_721 : Cond.code yX5_film cX5_film 9 (some .int) ∈ mm_U := mm_in 581 (by decide +kernel) (by decide +kernel)
theorem mw_722 : Cond.methodLink RX5 221 yX3_write ∈ mm_U := mm_in 582 (by decide +kernel) (by decide +kernel)
theorem mw_723 : Cond.instanceMethod yX3_write ∈ mm_U := mm_in 583 (by decide +kernel) (by decide +kernel)
theorem mw_724 : Cond.selects RX3 yX3_write yX3_write ∈ mm_U := mm_in 584 (by decide +kernel) (by decide +kernel)
theorem mw_725 : Cond.code yX3_write cX3_write 4 none ∈ mm_U := mm_in 585 (by decide +kernel) (by decide +kernel)
theorem mw_726 : Cond.methodLink RL 142 yX6_film ∈ mm_U := mm_in 908 (by decide +kernel) (by decide +kernel)
theorem mw_727 : Cond.instanceMethod yX6_film ∈ mm_U := mm_in 909 (by decide +kernel) (by decide +kernel)
theorem mw_728 : Cond.selects RX6 yX6_film yX6_film ∈ mm_U := mm_in 910 (by decide +kernel) (by decide +kernel)
theorem mw_729 : Cond.code yX6_film cX6_film 8 (some .int) ∈ mm_U := mm_in 911 (by decide +kernel) (by decide +kernel)
theorem mw_730 : Cond.methodLink RX6 189 yX6_cutTo ∈ mm_U := mm_in 912 (by decide +kernel) (by decide +kernel)
theorem mw_731 : Cond.static yX6_cutTo ∈ mm_U := mm_in 913 (by decide +kernel) (by decide +kernel)
theorem mw_732 : Cond.code yX6_cutTo cX6_cutTo 3 (some .long) ∈ mm_U := mm_in 914 (by decide +kernel) (by decide +kernel)
theorem mw_733 : Cond.methodLink RL 143 yX5_sheet ∈ mm_U := mm_in 586 (by decide +kernel) (by decide +kernel)
theorem mw_734 : Cond.instanceMethod yX5_sheet ∈ mm_U := mm_in 587 (by decide +kernel) (by decide +kernel)
theorem mw_735 : Cond.selects RX5 yX5_sheet yX5_sheet ∈ mm_U := mm_in 588 (by decide +kernel) (by decide +kernel)
theorem mw_736 : Cond.code yX5_sheet cX5_sheet 4 (some .int) ∈ mm_U := mm_in 589 (by decide +kernel) (by decide +kernel)
theorem mw_737 : Cond.methodLink RX5 225 yX3_begin ∈ mm_U := mm_in 590 (by decide +kernel) (by decide +kernel)
theorem mw_738 : Cond.instanceMethod yX3_begin ∈ mm_U := mm_in 591 (by decide +kernel) (by decide +kernel)
theorem mw_739 : Cond.selects RX3 yX3_begin yX3_begin ∈ mm_U := mm_in 592 (by decide +kernel) (by decide +kernel)
theorem mw_740 : Cond.code yX3_begin cX3_begin 4 none ∈ mm_U := mm_in 593 (by decide +kernel) (by decide +kernel)
theorem mw_741 : Cond.methodLink RL 146 yX6_sheet ∈ mm_U := mm_in 915 (by decide +kernel) (by decide +kernel)
theorem mw_742 : Cond.instanceMethod yX6_sheet ∈ mm_U := mm_in 916 (by decide +kernel) (by decide +kernel)
theorem mw_743 : Cond.selects RX6 yX6_sheet yX6_sheet ∈ mm_U := mm_in 917 (by decide +kernel) (by decide +kernel)
theorem mw_744 : Cond.code yX6_sheet cX6_sheet 5 (some .int) ∈ mm_U := mm_in 918 (by decide +kernel) (by decide +kernel)
theorem mw_745 : Cond.methodLink RL 147 yX5_drop ∈ mm_U := mm_in 594 (by decide +kernel) (by decide +kernel)
theorem mw_746 : Cond.instanceMethod yX5_drop ∈ mm_U := mm_in 595 (by decide +kernel) (by decide +kernel)
theorem mw_747 : Cond.selects RX5 yX5_drop yX5_drop ∈ mm_U := mm_in 596 (by decide +kernel) (by decide +kernel)
theorem mw_748 : Cond.code yX5_drop cX5_drop 3 (some .int) ∈ mm_U := mm_in 597 (by decide +kernel) (by decide +kernel)
theorem mw_749 : Cond.fieldLink RX5 228 "HogMortgage$Sheet" "held" "Z" ∈ mm_U := mm_in 196 (by decide +kernel) (by decide +kernel)
theorem mw_750 : Cond.fieldLink RX5 231 "HogMortgage$Sheet" "size" "I" ∈ mm_U := mm_in 200 (by decide +kernel) (by decide +kernel)
theorem mw_751 : Cond.methodLink RL 150 yX6_drop ∈ mm_U := mm_in 919 (by decide +kernel) (by decide +kernel)
theorem mw_752 : Cond.instanceMethod yX6_drop ∈ mm_U := mm_in 920 (by decide +kernel) (by decide +kernel)
theorem mw_753 : Cond.selects RX6 yX6_drop yX6_drop ∈ mm_U := mm_in 921 (by decide +kernel) (by decide +kernel)
theorem mw_754 : Cond.code yX6_drop cX6_drop 2 (some .int) ∈ mm_U := mm_in 922 (by decide +kernel) (by decide +kernel)
theorem mw_755 : Cond.methodLink RL 153 yX5_item ∈ mm_U := mm_in 598 (by decide +kernel) (by decide +kernel)
theorem mw_756 : Cond.instanceMethod yX5_item ∈ mm_U := mm_in 599 (by decide +kernel) (by decide +kernel)
theorem mw_757 : Cond.selects RX5 yX5_item yX5_item ∈ mm_U := mm_in 600 (by decide +kernel) (by decide +kernel)
theorem mw_758 : Cond.code yX5_item cX5_item 8 (some .int) ∈ mm_U := mm_in 601 (by decide +kernel) (by decide +kernel)
theorem mw_759 : Cond.methodLink RL 157 yX6_item ∈ mm_U := mm_in 923 (by decide +kernel) (by decide +kernel)
theorem mw_760 : Cond.instanceMethod yX6_item ∈ mm_U := mm_in 924 (by decide +kernel) (by decide +kernel)
theorem mw_761 : Cond.selects RX6 yX6_item yX6_item ∈ mm_U := mm_in 925 (by decide +kernel) (by decide +kernel)
theorem mw_762 : Cond.code yX6_item cX6_item 7 (some .int) ∈ mm_U := mm_in 926 (by decide +kernel) (by decide +kernel)
theorem mw_763 : Cond.methodLink RL 158 yX5_copy ∈ mm_U := mm_in 602 (by decide +kernel) (by decide +kernel)
theorem mw_764 : Cond.instanceMethod yX5_copy ∈ mm_U := mm_in 603 (by decide +kernel) (by decide +kernel)
theorem mw_765 : Cond.selects RX5 yX5_copy yX5_copy ∈ mm_U := mm_in 604 (by decide +kernel) (by decide +kernel)
theorem mw_766 : Cond.code yX5_copy cX5_copy 8 (some .int) ∈ mm_U := mm_in 605 (by decide +kernel) (by decide +kernel)
theorem mw_767 : Cond.fieldLink RX5 232 "HogMortgage$Sheet" "lane" "I" ∈ mm_U := mm_in 198 (by decide +kernel) (by decide +kernel)
theorem mw_768 : Cond.methodLink RX5 242 arraycopyName ∈ mm_U := mm_in 607 (by decide +kernel) (by decide +kernel)
theorem mw_769 : Cond.native arraycopyName ∈ mm_U := mm_in 609 (by decide +kernel) (by decide +kernel)
theorem mw_770 : Cond.static arraycopyName ∈ mm_U := mm_in 608 (by decide +kernel) (by decide +kernel)
theorem mw_771 : Cond.initialized "java/lang/System" ∈ mm_U := mm_in 46 (by decide +kernel) (by decide +kernel)
theorem mw_772 : Cond.methodLink RX5 235 yX3_hasItems ∈ mm_U := mm_in 606 (by decide +kernel) (by decide +kernel)
theorem mw_773 : Cond.methodLink RL 161 yX6_copy ∈ mm_U := mm_in 927 (by decide +kernel) (by decide +kernel)
theorem mw_774 : Cond.instanceMethod yX6_copy ∈ mm_U := mm_in 928 (by decide +kernel) (by decide +kernel)
theorem mw_775 : Cond.selects RX6 yX6_copy yX6_copy ∈ mm_U := mm_in 929 (by decide +kernel) (by decide +kernel)
theorem mw_776 : Cond.code yX6_copy cX6_copy 9 (some .int) ∈ mm_U := mm_in 930 (by decide +kernel) (by decide +kernel)
end
section
theorem dX0_init_0 : decode cX0_init 0 = .ok (.aload_n 0, 1) := by decide +kernel
theorem dX0_init_1 : decode cX0_init 1 = .ok (.invokespecial 3, 3) := by decide +kernel
theorem dX0_init_4 : decode cX0_init 4 = .ok (.aload_n 0, 1) := by decide +kernel
theorem dX0_init_5 : decode cX0_init 5 = .ok (.bipush 6, 2) := by decide +kernel
theorem dX0_init_7 : decode cX0_init 7 = .ok (.newarray .int, 2) := by decide +kernel
theorem dX0_init_9 : decode cX0_init 9 = .ok (.putfield 9, 3) := by decide +kernel
theorem dX0_init_12 : decode cX0_init 12 = .ok (.aload_n 0, 1) := by decide +kernel
theorem dX0_init_13 : decode cX0_init 13 = .ok (.bipush 6, 2) := by decide +kernel
theorem dX0_init_15 : decode cX0_init 15 = .ok (.newarray .int, 2) := by decide +kernel
theorem dX0_init_17 : decode cX0_init 17 = .ok (.putfield 15, 3) := by decide +kernel
theorem dX0_init_20 : decode cX0_init 20 = .ok (.aload_n 0, 1) := by decide +kernel
theorem dX0_init_21 : decode cX0_init 21 = .ok (.bipush 6, 2) := by decide +kernel
theorem dX0_init_23 : decode cX0_init 23 = .ok (.newarray .int, 2) := by decide +kernel
theorem dX0_init_25 : decode cX0_init 25 = .ok (.putfield 18, 3) := by decide +kernel
theorem dX0_init_28 : decode cX0_init 28 = .ok (.aload_n 0, 1) := by decide +kernel
theorem dX0_init_29 : decode cX0_init 29 = .ok (.iconst 5, 1) := by decide +kernel
theorem dX0_init_30 : decode cX0_init 30 = .ok (.newarray .int, 2) := by decide +kernel
theorem dX0_init_32 : decode cX0_init 32 = .ok (.putfield 21, 3) := by decide +kernel
theorem dX0_init_35 : decode cX0_init 35 = .ok (.aload_n 0, 1) := by decide +kernel
theorem dX0_init_36 : decode cX0_init 36 = .ok (.iconst 5, 1) := by decide +kernel
theorem dX0_init_37 : decode cX0_init 37 = .ok (.newarray .int, 2) := by decide +kernel
theorem dX0_init_39 : decode cX0_init 39 = .ok (.putfield 24, 3) := by decide +kernel
theorem dX0_init_42 : decode cX0_init 42 = .ok (.aload_n 0, 1) := by decide +kernel
theorem dX0_init_43 : decode cX0_init 43 = .ok (.iconst 5, 1) := by decide +kernel
theorem dX0_init_44 : decode cX0_init 44 = .ok (.newarray .int, 2) := by decide +kernel
theorem dX0_init_46 : decode cX0_init 46 = .ok (.putfield 27, 3) := by decide +kernel
theorem dX0_init_49 : decode cX0_init 49 = .ok (.aload_n 0, 1) := by decide +kernel
theorem dX0_init_50 : decode cX0_init 50 = .ok (.bipush 6, 2) := by decide +kernel
theorem dX0_init_52 : decode cX0_init 52 = .ok (.newarray .int, 2) := by decide +kernel
theorem dX0_init_54 : decode cX0_init 54 = .ok (.putfield 30, 3) := by decide +kernel
theorem dX0_init_57 : decode cX0_init 57 = .ok (.aload_n 0, 1) := by decide +kernel
theorem dX0_init_58 : decode cX0_init 58 = .ok (.bipush 6, 2) := by decide +kernel
theorem dX0_init_60 : decode cX0_init 60 = .ok (.newarray .int, 2) := by decide +kernel
theorem dX0_init_62 : decode cX0_init 62 = .ok (.putfield 33, 3) := by decide +kernel
theorem dX0_init_65 : decode cX0_init 65 = .ok (.aload_n 0, 1) := by decide +kernel
theorem dX0_init_66 : decode cX0_init 66 = .ok (.iconst 5, 1) := by decide +kernel
theorem dX0_init_67 : decode cX0_init 67 = .ok (.putfield 36, 3) := by decide +kernel
theorem dX0_init_70 : decode cX0_init 70 = .ok (.aload_n 0, 1) := by decide +kernel
theorem dX0_init_71 : decode cX0_init 71 = .ok (.iconst 1, 1) := by decide +kernel
theorem dX0_init_72 : decode cX0_init 72 = .ok (.putfield 40, 3) := by decide +kernel
theorem dX0_init_75 : decode cX0_init 75 = .ok (.return_, 1) := by decide +kernel
theorem dX0_takeFrom_0 : decode cX0_takeFrom 0 = .ok (.aload_n 0, 1) := by decide +kernel
theorem dX0_takeFrom_1 : decode cX0_takeFrom 1 = .ok (.aload_n 1, 1) := by decide +kernel
theorem dX0_takeFrom_2 : decode cX0_takeFrom 2 = .ok (.getfield 43, 3) := by decide +kernel
theorem dX0_takeFrom_5 : decode cX0_takeFrom 5 = .ok (.putfield 43, 3) := by decide +kernel
theorem dX0_takeFrom_8 : decode cX0_takeFrom 8 = .ok (.aload_n 0, 1) := by decide +kernel
theorem dX0_takeFrom_9 : decode cX0_takeFrom 9 = .ok (.aload_n 1, 1) := by decide +kernel
theorem dX0_takeFrom_10 : decode cX0_takeFrom 10 = .ok (.getfield 46, 3) := by decide +kernel
theorem dX0_takeFrom_13 : decode cX0_takeFrom 13 = .ok (.putfield 46, 3) := by decide +kernel
theorem dX0_takeFrom_16 : decode cX0_takeFrom 16 = .ok (.aload_n 0, 1) := by decide +kernel
theorem dX0_takeFrom_17 : decode cX0_takeFrom 17 = .ok (.aload_n 1, 1) := by decide +kernel
theorem dX0_takeFrom_18 : decode cX0_takeFrom 18 = .ok (.getfield 36, 3) := by decide +kernel
theorem dX0_takeFrom_21 : decode cX0_takeFrom 21 = .ok (.putfield 36, 3) := by decide +kernel
theorem dX0_takeFrom_24 : decode cX0_takeFrom 24 = .ok (.aload_n 0, 1) := by decide +kernel
theorem dX0_takeFrom_25 : decode cX0_takeFrom 25 = .ok (.aload_n 1, 1) := by decide +kernel
theorem dX0_takeFrom_26 : decode cX0_takeFrom 26 = .ok (.getfield 49, 3) := by decide +kernel
theorem dX0_takeFrom_29 : decode cX0_takeFrom 29 = .ok (.putfield 49, 3) := by decide +kernel
theorem dX0_takeFrom_32 : decode cX0_takeFrom 32 = .ok (.aload_n 0, 1) := by decide +kernel
theorem dX0_takeFrom_33 : decode cX0_takeFrom 33 = .ok (.aload_n 1, 1) := by decide +kernel
theorem dX0_takeFrom_34 : decode cX0_takeFrom 34 = .ok (.getfield 52, 3) := by decide +kernel
theorem dX0_takeFrom_37 : decode cX0_takeFrom 37 = .ok (.putfield 52, 3) := by decide +kernel
theorem dX0_takeFrom_40 : decode cX0_takeFrom 40 = .ok (.aload_n 0, 1) := by decide +kernel
theorem dX0_takeFrom_41 : decode cX0_takeFrom 41 = .ok (.aload_n 1, 1) := by decide +kernel
theorem dX0_takeFrom_42 : decode cX0_takeFrom 42 = .ok (.getfield 40, 3) := by decide +kernel
theorem dX0_takeFrom_45 : decode cX0_takeFrom 45 = .ok (.putfield 40, 3) := by decide +kernel
theorem dX0_takeFrom_48 : decode cX0_takeFrom 48 = .ok (.iconst 0, 1) := by decide +kernel
theorem dX0_takeFrom_49 : decode cX0_takeFrom 49 = .ok (.istore_n 2, 1) := by decide +kernel
theorem dX0_takeFrom_50 : decode cX0_takeFrom 50 = .ok (.iload_n 2, 1) := by decide +kernel
theorem dX0_takeFrom_51 : decode cX0_takeFrom 51 = .ok (.bipush 6, 2) := by decide +kernel
theorem dX0_takeFrom_53 : decode cX0_takeFrom 53 = .ok (.if_icmp .ge 52, 3) := by decide +kernel
theorem dX0_takeFrom_56 : decode cX0_takeFrom 56 = .ok (.aload_n 0, 1) := by decide +kernel
theorem dX0_takeFrom_57 : decode cX0_takeFrom 57 = .ok (.getfield 9, 3) := by decide +kernel
theorem dX0_takeFrom_60 : decode cX0_takeFrom 60 = .ok (.iload_n 2, 1) := by decide +kernel
theorem dX0_takeFrom_61 : decode cX0_takeFrom 61 = .ok (.aload_n 1, 1) := by decide +kernel
theorem dX0_takeFrom_62 : decode cX0_takeFrom 62 = .ok (.getfield 9, 3) := by decide +kernel
theorem dX0_takeFrom_65 : decode cX0_takeFrom 65 = .ok (.iload_n 2, 1) := by decide +kernel
theorem dX0_takeFrom_66 : decode cX0_takeFrom 66 = .ok (.iaload, 1) := by decide +kernel
theorem dX0_takeFrom_67 : decode cX0_takeFrom 67 = .ok (.iastore, 1) := by decide +kernel
theorem dX0_takeFrom_68 : decode cX0_takeFrom 68 = .ok (.aload_n 0, 1) := by decide +kernel
theorem dX0_takeFrom_69 : decode cX0_takeFrom 69 = .ok (.getfield 15, 3) := by decide +kernel
theorem dX0_takeFrom_72 : decode cX0_takeFrom 72 = .ok (.iload_n 2, 1) := by decide +kernel
theorem dX0_takeFrom_73 : decode cX0_takeFrom 73 = .ok (.aload_n 1, 1) := by decide +kernel
theorem dX0_takeFrom_74 : decode cX0_takeFrom 74 = .ok (.getfield 15, 3) := by decide +kernel
theorem dX0_takeFrom_77 : decode cX0_takeFrom 77 = .ok (.iload_n 2, 1) := by decide +kernel
theorem dX0_takeFrom_78 : decode cX0_takeFrom 78 = .ok (.iaload, 1) := by decide +kernel
theorem dX0_takeFrom_79 : decode cX0_takeFrom 79 = .ok (.iastore, 1) := by decide +kernel
theorem dX0_takeFrom_80 : decode cX0_takeFrom 80 = .ok (.aload_n 0, 1) := by decide +kernel
theorem dX0_takeFrom_81 : decode cX0_takeFrom 81 = .ok (.getfield 18, 3) := by decide +kernel
theorem dX0_takeFrom_84 : decode cX0_takeFrom 84 = .ok (.iload_n 2, 1) := by decide +kernel
theorem dX0_takeFrom_85 : decode cX0_takeFrom 85 = .ok (.aload_n 1, 1) := by decide +kernel
theorem dX0_takeFrom_86 : decode cX0_takeFrom 86 = .ok (.getfield 18, 3) := by decide +kernel
theorem dX0_takeFrom_89 : decode cX0_takeFrom 89 = .ok (.iload_n 2, 1) := by decide +kernel
theorem dX0_takeFrom_90 : decode cX0_takeFrom 90 = .ok (.iaload, 1) := by decide +kernel
theorem dX0_takeFrom_91 : decode cX0_takeFrom 91 = .ok (.iastore, 1) := by decide +kernel
theorem dX0_takeFrom_92 : decode cX0_takeFrom 92 = .ok (.aload_n 0, 1) := by decide +kernel
theorem dX0_takeFrom_93 : decode cX0_takeFrom 93 = .ok (.getfield 33, 3) := by decide +kernel
theorem dX0_takeFrom_96 : decode cX0_takeFrom 96 = .ok (.iload_n 2, 1) := by decide +kernel
theorem dX0_takeFrom_97 : decode cX0_takeFrom 97 = .ok (.iconst 0, 1) := by decide +kernel
theorem dX0_takeFrom_98 : decode cX0_takeFrom 98 = .ok (.iastore, 1) := by decide +kernel
theorem dX0_takeFrom_99 : decode cX0_takeFrom 99 = .ok (.iinc 2 1, 3) := by decide +kernel
theorem dX0_takeFrom_102 : decode cX0_takeFrom 102 = .ok (.goto (-52), 3) := by decide +kernel
theorem dX0_takeFrom_105 : decode cX0_takeFrom 105 = .ok (.iconst 0, 1) := by decide +kernel
theorem dX0_takeFrom_106 : decode cX0_takeFrom 106 = .ok (.istore_n 2, 1) := by decide +kernel
theorem dX0_takeFrom_107 : decode cX0_takeFrom 107 = .ok (.iload_n 2, 1) := by decide +kernel
theorem dX0_takeFrom_108 : decode cX0_takeFrom 108 = .ok (.iconst 5, 1) := by decide +kernel
theorem dX0_takeFrom_109 : decode cX0_takeFrom 109 = .ok (.if_icmp .ge 45, 3) := by decide +kernel
theorem dX0_takeFrom_112 : decode cX0_takeFrom 112 = .ok (.aload_n 0, 1) := by decide +kernel
theorem dX0_takeFrom_113 : decode cX0_takeFrom 113 = .ok (.getfield 21, 3) := by decide +kernel
theorem dX0_takeFrom_116 : decode cX0_takeFrom 116 = .ok (.iload_n 2, 1) := by decide +kernel
theorem dX0_takeFrom_117 : decode cX0_takeFrom 117 = .ok (.aload_n 1, 1) := by decide +kernel
theorem dX0_takeFrom_118 : decode cX0_takeFrom 118 = .ok (.getfield 21, 3) := by decide +kernel
theorem dX0_takeFrom_121 : decode cX0_takeFrom 121 = .ok (.iload_n 2, 1) := by decide +kernel
theorem dX0_takeFrom_122 : decode cX0_takeFrom 122 = .ok (.iaload, 1) := by decide +kernel
theorem dX0_takeFrom_123 : decode cX0_takeFrom 123 = .ok (.iastore, 1) := by decide +kernel
theorem dX0_takeFrom_124 : decode cX0_takeFrom 124 = .ok (.aload_n 0, 1) := by decide +kernel
theorem dX0_takeFrom_125 : decode cX0_takeFrom 125 = .ok (.getfield 24, 3) := by decide +kernel
theorem dX0_takeFrom_128 : decode cX0_takeFrom 128 = .ok (.iload_n 2, 1) := by decide +kernel
theorem dX0_takeFrom_129 : decode cX0_takeFrom 129 = .ok (.aload_n 1, 1) := by decide +kernel
theorem dX0_takeFrom_130 : decode cX0_takeFrom 130 = .ok (.getfield 24, 3) := by decide +kernel
theorem dX0_takeFrom_133 : decode cX0_takeFrom 133 = .ok (.iload_n 2, 1) := by decide +kernel
theorem dX0_takeFrom_134 : decode cX0_takeFrom 134 = .ok (.iaload, 1) := by decide +kernel
theorem dX0_takeFrom_135 : decode cX0_takeFrom 135 = .ok (.iastore, 1) := by decide +kernel
theorem dX0_takeFrom_136 : decode cX0_takeFrom 136 = .ok (.aload_n 0, 1) := by decide +kernel
theorem dX0_takeFrom_137 : decode cX0_takeFrom 137 = .ok (.getfield 27, 3) := by decide +kernel
theorem dX0_takeFrom_140 : decode cX0_takeFrom 140 = .ok (.iload_n 2, 1) := by decide +kernel
theorem dX0_takeFrom_141 : decode cX0_takeFrom 141 = .ok (.aload_n 1, 1) := by decide +kernel
theorem dX0_takeFrom_142 : decode cX0_takeFrom 142 = .ok (.getfield 27, 3) := by decide +kernel
theorem dX0_takeFrom_145 : decode cX0_takeFrom 145 = .ok (.iload_n 2, 1) := by decide +kernel
theorem dX0_takeFrom_146 : decode cX0_takeFrom 146 = .ok (.iaload, 1) := by decide +kernel
theorem dX0_takeFrom_147 : decode cX0_takeFrom 147 = .ok (.iastore, 1) := by decide +kernel
theorem dX0_takeFrom_148 : decode cX0_takeFrom 148 = .ok (.iinc 2 1, 3) := by decide +kernel
theorem dX0_takeFrom_151 : decode cX0_takeFrom 151 = .ok (.goto (-44), 3) := by decide +kernel
theorem dX0_takeFrom_154 : decode cX0_takeFrom 154 = .ok (.return_, 1) := by decide +kernel
theorem dX0_beginAnew_0 : decode cX0_beginAnew 0 = .ok (.aload_n 0, 1) := by decide +kernel
theorem dX0_beginAnew_1 : decode cX0_beginAnew 1 = .ok (.iconst 0, 1) := by decide +kernel
theorem dX0_beginAnew_2 : decode cX0_beginAnew 2 = .ok (.putfield 43, 3) := by decide +kernel
theorem dX0_beginAnew_5 : decode cX0_beginAnew 5 = .ok (.aload_n 0, 1) := by decide +kernel
theorem dX0_beginAnew_6 : decode cX0_beginAnew 6 = .ok (.iconst 0, 1) := by decide +kernel
theorem dX0_beginAnew_7 : decode cX0_beginAnew 7 = .ok (.putfield 46, 3) := by decide +kernel
theorem dX0_beginAnew_10 : decode cX0_beginAnew 10 = .ok (.aload_n 0, 1) := by decide +kernel
theorem dX0_beginAnew_11 : decode cX0_beginAnew 11 = .ok (.iconst 0, 1) := by decide +kernel
theorem dX0_beginAnew_12 : decode cX0_beginAnew 12 = .ok (.putfield 49, 3) := by decide +kernel
theorem dX0_beginAnew_15 : decode cX0_beginAnew 15 = .ok (.aload_n 0, 1) := by decide +kernel
theorem dX0_beginAnew_16 : decode cX0_beginAnew 16 = .ok (.iconst 0, 1) := by decide +kernel
theorem dX0_beginAnew_17 : decode cX0_beginAnew 17 = .ok (.putfield 52, 3) := by decide +kernel
theorem dX0_beginAnew_20 : decode cX0_beginAnew 20 = .ok (.return_, 1) := by decide +kernel
theorem dX0_hasHouse_0 : decode cX0_hasHouse 0 = .ok (.iload_n 1, 1) := by decide +kernel
theorem dX0_hasHouse_1 : decode cX0_hasHouse 1 = .ok (.ifCond .lt 15, 3) := by decide +kernel
theorem dX0_hasHouse_4 : decode cX0_hasHouse 4 = .ok (.iload_n 1, 1) := by decide +kernel
theorem dX0_hasHouse_5 : decode cX0_hasHouse 5 = .ok (.aload_n 0, 1) := by decide +kernel
theorem dX0_hasHouse_6 : decode cX0_hasHouse 6 = .ok (.getfield 43, 3) := by decide +kernel
theorem dX0_hasHouse_9 : decode cX0_hasHouse 9 = .ok (.if_icmp .ge 7, 3) := by decide +kernel
theorem dX0_hasHouse_12 : decode cX0_hasHouse 12 = .ok (.iconst 1, 1) := by decide +kernel
theorem dX0_hasHouse_13 : decode cX0_hasHouse 13 = .ok (.goto 4, 3) := by decide +kernel
theorem dX0_hasHouse_16 : decode cX0_hasHouse 16 = .ok (.iconst 0, 1) := by decide +kernel
theorem dX0_hasHouse_17 : decode cX0_hasHouse 17 = .ok (.ireturn, 1) := by decide +kernel
theorem dX0_hasHog_0 : decode cX0_hasHog 0 = .ok (.iload_n 1, 1) := by decide +kernel
theorem dX0_hasHog_1 : decode cX0_hasHog 1 = .ok (.ifCond .lt 15, 3) := by decide +kernel
theorem dX0_hasHog_4 : decode cX0_hasHog 4 = .ok (.iload_n 1, 1) := by decide +kernel
theorem dX0_hasHog_5 : decode cX0_hasHog 5 = .ok (.aload_n 0, 1) := by decide +kernel
theorem dX0_hasHog_6 : decode cX0_hasHog 6 = .ok (.getfield 46, 3) := by decide +kernel
theorem dX0_hasHog_9 : decode cX0_hasHog 9 = .ok (.if_icmp .ge 7, 3) := by decide +kernel
theorem dX0_hasHog_12 : decode cX0_hasHog 12 = .ok (.iconst 1, 1) := by decide +kernel
theorem dX0_hasHog_13 : decode cX0_hasHog 13 = .ok (.goto 4, 3) := by decide +kernel
theorem dX0_hasHog_16 : decode cX0_hasHog 16 = .ok (.iconst 0, 1) := by decide +kernel
theorem dX0_hasHog_17 : decode cX0_hasHog 17 = .ok (.ireturn, 1) := by decide +kernel
theorem dX0_addHouse_0 : decode cX0_addHouse 0 = .ok (.aload_n 0, 1) := by decide +kernel
theorem dX0_addHouse_1 : decode cX0_addHouse 1 = .ok (.getfield 43, 3) := by decide +kernel
theorem dX0_addHouse_4 : decode cX0_addHouse 4 = .ok (.istore 4, 2) := by decide +kernel
theorem dX0_addHouse_6 : decode cX0_addHouse 6 = .ok (.iload 4, 2) := by decide +kernel
theorem dX0_addHouse_8 : decode cX0_addHouse 8 = .ok (.bipush 6, 2) := by decide +kernel
theorem dX0_addHouse_10 : decode cX0_addHouse 10 = .ok (.if_icmp .lt 6, 3) := by decide +kernel
theorem dX0_addHouse_13 : decode cX0_addHouse 13 = .ok (.bipush (-3), 2) := by decide +kernel
theorem dX0_addHouse_15 : decode cX0_addHouse 15 = .ok (.ireturn, 1) := by decide +kernel
theorem dX0_addHouse_16 : decode cX0_addHouse 16 = .ok (.aload_n 0, 1) := by decide +kernel
theorem dX0_addHouse_17 : decode cX0_addHouse 17 = .ok (.getfield 9, 3) := by decide +kernel
theorem dX0_addHouse_20 : decode cX0_addHouse 20 = .ok (.iload 4, 2) := by decide +kernel
theorem dX0_addHouse_22 : decode cX0_addHouse 22 = .ok (.iload_n 1, 1) := by decide +kernel
theorem dX0_addHouse_23 : decode cX0_addHouse 23 = .ok (.iastore, 1) := by decide +kernel
theorem dX0_addHouse_24 : decode cX0_addHouse 24 = .ok (.aload_n 0, 1) := by decide +kernel
theorem dX0_addHouse_25 : decode cX0_addHouse 25 = .ok (.getfield 15, 3) := by decide +kernel
theorem dX0_addHouse_28 : decode cX0_addHouse 28 = .ok (.iload 4, 2) := by decide +kernel
theorem dX0_addHouse_30 : decode cX0_addHouse 30 = .ok (.iload_n 2, 1) := by decide +kernel
theorem dX0_addHouse_31 : decode cX0_addHouse 31 = .ok (.iastore, 1) := by decide +kernel
theorem dX0_addHouse_32 : decode cX0_addHouse 32 = .ok (.aload_n 0, 1) := by decide +kernel
theorem dX0_addHouse_33 : decode cX0_addHouse 33 = .ok (.getfield 18, 3) := by decide +kernel
theorem dX0_addHouse_36 : decode cX0_addHouse 36 = .ok (.iload 4, 2) := by decide +kernel
theorem dX0_addHouse_38 : decode cX0_addHouse 38 = .ok (.iload_n 3, 1) := by decide +kernel
theorem dX0_addHouse_39 : decode cX0_addHouse 39 = .ok (.iastore, 1) := by decide +kernel
theorem dX0_addHouse_40 : decode cX0_addHouse 40 = .ok (.aload_n 0, 1) := by decide +kernel
theorem dX0_addHouse_41 : decode cX0_addHouse 41 = .ok (.iload 4, 2) := by decide +kernel
theorem dX0_addHouse_43 : decode cX0_addHouse 43 = .ok (.iconst 1, 1) := by decide +kernel
theorem dX0_addHouse_44 : decode cX0_addHouse 44 = .ok (.iadd, 1) := by decide +kernel
theorem dX0_addHouse_45 : decode cX0_addHouse 45 = .ok (.putfield 43, 3) := by decide +kernel
theorem dX0_addHouse_48 : decode cX0_addHouse 48 = .ok (.iload 4, 2) := by decide +kernel
theorem dX0_addHouse_50 : decode cX0_addHouse 50 = .ok (.ireturn, 1) := by decide +kernel
theorem dX0_addHog_0 : decode cX0_addHog 0 = .ok (.aload_n 0, 1) := by decide +kernel
theorem dX0_addHog_1 : decode cX0_addHog 1 = .ok (.getfield 46, 3) := by decide +kernel
theorem dX0_addHog_4 : decode cX0_addHog 4 = .ok (.istore 4, 2) := by decide +kernel
theorem dX0_addHog_6 : decode cX0_addHog 6 = .ok (.iload 4, 2) := by decide +kernel
theorem dX0_addHog_8 : decode cX0_addHog 8 = .ok (.iconst 5, 1) := by decide +kernel
theorem dX0_addHog_9 : decode cX0_addHog 9 = .ok (.if_icmp .lt 6, 3) := by decide +kernel
theorem dX0_addHog_12 : decode cX0_addHog 12 = .ok (.bipush (-3), 2) := by decide +kernel
theorem dX0_addHog_14 : decode cX0_addHog 14 = .ok (.ireturn, 1) := by decide +kernel
theorem dX0_addHog_15 : decode cX0_addHog 15 = .ok (.aload_n 0, 1) := by decide +kernel
theorem dX0_addHog_16 : decode cX0_addHog 16 = .ok (.getfield 21, 3) := by decide +kernel
theorem dX0_addHog_19 : decode cX0_addHog 19 = .ok (.iload 4, 2) := by decide +kernel
theorem dX0_addHog_21 : decode cX0_addHog 21 = .ok (.iload_n 1, 1) := by decide +kernel
theorem dX0_addHog_22 : decode cX0_addHog 22 = .ok (.iastore, 1) := by decide +kernel
theorem dX0_addHog_23 : decode cX0_addHog 23 = .ok (.aload_n 0, 1) := by decide +kernel
theorem dX0_addHog_24 : decode cX0_addHog 24 = .ok (.getfield 24, 3) := by decide +kernel
theorem dX0_addHog_27 : decode cX0_addHog 27 = .ok (.iload 4, 2) := by decide +kernel
theorem dX0_addHog_29 : decode cX0_addHog 29 = .ok (.iload_n 2, 1) := by decide +kernel
theorem dX0_addHog_30 : decode cX0_addHog 30 = .ok (.iastore, 1) := by decide +kernel
theorem dX0_addHog_31 : decode cX0_addHog 31 = .ok (.aload_n 0, 1) := by decide +kernel
theorem dX0_addHog_32 : decode cX0_addHog 32 = .ok (.getfield 27, 3) := by decide +kernel
theorem dX0_addHog_35 : decode cX0_addHog 35 = .ok (.iload 4, 2) := by decide +kernel
theorem dX0_addHog_37 : decode cX0_addHog 37 = .ok (.iload_n 3, 1) := by decide +kernel
theorem dX0_addHog_38 : decode cX0_addHog 38 = .ok (.iastore, 1) := by decide +kernel
theorem dX0_addHog_39 : decode cX0_addHog 39 = .ok (.aload_n 0, 1) := by decide +kernel
theorem dX0_addHog_40 : decode cX0_addHog 40 = .ok (.iload 4, 2) := by decide +kernel
theorem dX0_addHog_42 : decode cX0_addHog 42 = .ok (.iconst 1, 1) := by decide +kernel
theorem dX0_addHog_43 : decode cX0_addHog 43 = .ok (.iadd, 1) := by decide +kernel
theorem dX0_addHog_44 : decode cX0_addHog 44 = .ok (.putfield 46, 3) := by decide +kernel
theorem dX0_addHog_47 : decode cX0_addHog 47 = .ok (.iload 4, 2) := by decide +kernel
theorem dX0_addHog_49 : decode cX0_addHog 49 = .ok (.ireturn, 1) := by decide +kernel
theorem dX0_isLost_0 : decode cX0_isLost 0 = .ok (.aload_n 0, 1) := by decide +kernel
theorem dX0_isLost_1 : decode cX0_isLost 1 = .ok (.getfield 18, 3) := by decide +kernel
theorem dX0_isLost_4 : decode cX0_isLost 4 = .ok (.iload_n 1, 1) := by decide +kernel
theorem dX0_isLost_5 : decode cX0_isLost 5 = .ok (.iaload, 1) := by decide +kernel
theorem dX0_isLost_6 : decode cX0_isLost 6 = .ok (.iconst 3, 1) := by decide +kernel
theorem dX0_isLost_7 : decode cX0_isLost 7 = .ok (.if_icmp .lt 7, 3) := by decide +kernel
theorem dX0_isLost_10 : decode cX0_isLost 10 = .ok (.iconst 1, 1) := by decide +kernel
theorem dX0_isLost_11 : decode cX0_isLost 11 = .ok (.goto 4, 3) := by decide +kernel
theorem dX0_isLost_14 : decode cX0_isLost 14 = .ok (.iconst 0, 1) := by decide +kernel
theorem dX0_isLost_15 : decode cX0_isLost 15 = .ok (.ireturn, 1) := by decide +kernel
theorem dX0_isWinter_0 : decode cX0_isWinter 0 = .ok (.aload_n 0, 1) := by decide +kernel
theorem dX0_isWinter_1 : decode cX0_isWinter 1 = .ok (.getfield 49, 3) := by decide +kernel
theorem dX0_isWinter_4 : decode cX0_isWinter 4 = .ok (.bipush 20, 2) := by decide +kernel
theorem dX0_isWinter_6 : decode cX0_isWinter 6 = .ok (.irem, 1) := by decide +kernel
theorem dX0_isWinter_7 : decode cX0_isWinter 7 = .ok (.bipush 15, 2) := by decide +kernel
theorem dX0_isWinter_9 : decode cX0_isWinter 9 = .ok (.if_icmp .lt 7, 3) := by decide +kernel
theorem dX0_isWinter_12 : decode cX0_isWinter 12 = .ok (.iconst 1, 1) := by decide +kernel
theorem dX0_isWinter_13 : decode cX0_isWinter 13 = .ok (.goto 4, 3) := by decide +kernel
theorem dX0_isWinter_16 : decode cX0_isWinter 16 = .ok (.iconst 0, 1) := by decide +kernel
theorem dX0_isWinter_17 : decode cX0_isWinter 17 = .ok (.ireturn, 1) := by decide +kernel
theorem dX0_lostSet_0 : decode cX0_lostSet 0 = .ok (.iconst 0, 1) := by decide +kernel
theorem dX0_lostSet_1 : decode cX0_lostSet 1 = .ok (.istore_n 1, 1) := by decide +kernel
theorem dX0_lostSet_2 : decode cX0_lostSet 2 = .ok (.iconst 0, 1) := by decide +kernel
theorem dX0_lostSet_3 : decode cX0_lostSet 3 = .ok (.istore_n 2, 1) := by decide +kernel
theorem dX0_lostSet_4 : decode cX0_lostSet 4 = .ok (.iload_n 2, 1) := by decide +kernel
theorem dX0_lostSet_5 : decode cX0_lostSet 5 = .ok (.aload_n 0, 1) := by decide +kernel
theorem dX0_lostSet_6 : decode cX0_lostSet 6 = .ok (.getfield 43, 3) := by decide +kernel
theorem dX0_lostSet_9 : decode cX0_lostSet 9 = .ok (.if_icmp .ge 23, 3) := by decide +kernel
theorem dX0_lostSet_12 : decode cX0_lostSet 12 = .ok (.aload_n 0, 1) := by decide +kernel
theorem dX0_lostSet_13 : decode cX0_lostSet 13 = .ok (.iload_n 2, 1) := by decide +kernel
theorem dX0_lostSet_14 : decode cX0_lostSet 14 = .ok (.invokevirtual 55, 3) := by decide +kernel
theorem dX0_lostSet_17 : decode cX0_lostSet 17 = .ok (.ifCond .eq 9, 3) := by decide +kernel
theorem dX0_lostSet_20 : decode cX0_lostSet 20 = .ok (.iload_n 1, 1) := by decide +kernel
theorem dX0_lostSet_21 : decode cX0_lostSet 21 = .ok (.iconst 1, 1) := by decide +kernel
theorem dX0_lostSet_22 : decode cX0_lostSet 22 = .ok (.iload_n 2, 1) := by decide +kernel
theorem dX0_lostSet_23 : decode cX0_lostSet 23 = .ok (.ishl, 1) := by decide +kernel
theorem dX0_lostSet_24 : decode cX0_lostSet 24 = .ok (.ior, 1) := by decide +kernel
theorem dX0_lostSet_25 : decode cX0_lostSet 25 = .ok (.istore_n 1, 1) := by decide +kernel
theorem dX0_lostSet_26 : decode cX0_lostSet 26 = .ok (.iinc 2 1, 3) := by decide +kernel
theorem dX0_lostSet_29 : decode cX0_lostSet 29 = .ok (.goto (-25), 3) := by decide +kernel
theorem dX0_lostSet_32 : decode cX0_lostSet 32 = .ok (.iload_n 1, 1) := by decide +kernel
theorem dX0_lostSet_33 : decode cX0_lostSet 33 = .ok (.ireturn, 1) := by decide +kernel
theorem dX0_owedByAll_0 : decode cX0_owedByAll 0 = .ok (.iconst 0, 1) := by decide +kernel
theorem dX0_owedByAll_1 : decode cX0_owedByAll 1 = .ok (.istore_n 1, 1) := by decide +kernel
theorem dX0_owedByAll_2 : decode cX0_owedByAll 2 = .ok (.iconst 0, 1) := by decide +kernel
theorem dX0_owedByAll_3 : decode cX0_owedByAll 3 = .ok (.istore_n 2, 1) := by decide +kernel
theorem dX0_owedByAll_4 : decode cX0_owedByAll 4 = .ok (.iload_n 2, 1) := by decide +kernel
theorem dX0_owedByAll_5 : decode cX0_owedByAll 5 = .ok (.aload_n 0, 1) := by decide +kernel
theorem dX0_owedByAll_6 : decode cX0_owedByAll 6 = .ok (.getfield 43, 3) := by decide +kernel
theorem dX0_owedByAll_9 : decode cX0_owedByAll 9 = .ok (.if_icmp .ge 18, 3) := by decide +kernel
theorem dX0_owedByAll_12 : decode cX0_owedByAll 12 = .ok (.iload_n 1, 1) := by decide +kernel
theorem dX0_owedByAll_13 : decode cX0_owedByAll 13 = .ok (.aload_n 0, 1) := by decide +kernel
theorem dX0_owedByAll_14 : decode cX0_owedByAll 14 = .ok (.getfield 9, 3) := by decide +kernel
theorem dX0_owedByAll_17 : decode cX0_owedByAll 17 = .ok (.iload_n 2, 1) := by decide +kernel
theorem dX0_owedByAll_18 : decode cX0_owedByAll 18 = .ok (.iaload, 1) := by decide +kernel
theorem dX0_owedByAll_19 : decode cX0_owedByAll 19 = .ok (.iadd, 1) := by decide +kernel
theorem dX0_owedByAll_20 : decode cX0_owedByAll 20 = .ok (.istore_n 1, 1) := by decide +kernel
theorem dX0_owedByAll_21 : decode cX0_owedByAll 21 = .ok (.iinc 2 1, 3) := by decide +kernel
theorem dX0_owedByAll_24 : decode cX0_owedByAll 24 = .ok (.goto (-20), 3) := by decide +kernel
theorem dX0_owedByAll_27 : decode cX0_owedByAll 27 = .ok (.iload_n 1, 1) := by decide +kernel
theorem dX0_owedByAll_28 : decode cX0_owedByAll 28 = .ok (.ireturn, 1) := by decide +kernel
theorem dX0_guests_0 : decode cX0_guests 0 = .ok (.iconst 0, 1) := by decide +kernel
theorem dX0_guests_1 : decode cX0_guests 1 = .ok (.istore_n 2, 1) := by decide +kernel
theorem dX0_guests_2 : decode cX0_guests 2 = .ok (.iconst 0, 1) := by decide +kernel
theorem dX0_guests_3 : decode cX0_guests 3 = .ok (.istore_n 3, 1) := by decide +kernel
theorem dX0_guests_4 : decode cX0_guests 4 = .ok (.iload_n 3, 1) := by decide +kernel
theorem dX0_guests_5 : decode cX0_guests 5 = .ok (.aload_n 0, 1) := by decide +kernel
theorem dX0_guests_6 : decode cX0_guests 6 = .ok (.getfield 46, 3) := by decide +kernel
theorem dX0_guests_9 : decode cX0_guests 9 = .ok (.if_icmp .ge 25, 3) := by decide +kernel
theorem dX0_guests_12 : decode cX0_guests 12 = .ok (.aload_n 0, 1) := by decide +kernel
theorem dX0_guests_13 : decode cX0_guests 13 = .ok (.getfield 27, 3) := by decide +kernel
theorem dX0_guests_16 : decode cX0_guests 16 = .ok (.iload_n 3, 1) := by decide +kernel
theorem dX0_guests_17 : decode cX0_guests 17 = .ok (.iaload, 1) := by decide +kernel
theorem dX0_guests_18 : decode cX0_guests 18 = .ok (.iload_n 1, 1) := by decide +kernel
theorem dX0_guests_19 : decode cX0_guests 19 = .ok (.if_icmp .ne 9, 3) := by decide +kernel
theorem dX0_guests_22 : decode cX0_guests 22 = .ok (.iload_n 2, 1) := by decide +kernel
theorem dX0_guests_23 : decode cX0_guests 23 = .ok (.iconst 1, 1) := by decide +kernel
theorem dX0_guests_24 : decode cX0_guests 24 = .ok (.iload_n 3, 1) := by decide +kernel
theorem dX0_guests_25 : decode cX0_guests 25 = .ok (.ishl, 1) := by decide +kernel
theorem dX0_guests_26 : decode cX0_guests 26 = .ok (.ior, 1) := by decide +kernel
theorem dX0_guests_27 : decode cX0_guests 27 = .ok (.istore_n 2, 1) := by decide +kernel
theorem dX0_guests_28 : decode cX0_guests 28 = .ok (.iinc 3 1, 3) := by decide +kernel
theorem dX0_guests_31 : decode cX0_guests 31 = .ok (.goto (-27), 3) := by decide +kernel
theorem dX0_guests_34 : decode cX0_guests 34 = .ok (.iload_n 2, 1) := by decide +kernel
theorem dX0_guests_35 : decode cX0_guests 35 = .ok (.ireturn, 1) := by decide +kernel
theorem dX0_appetite_0 : decode cX0_appetite 0 = .ok (.aload_n 0, 1) := by decide +kernel
theorem dX0_appetite_1 : decode cX0_appetite 1 = .ok (.getfield 21, 3) := by decide +kernel
theorem dX0_appetite_4 : decode cX0_appetite 4 = .ok (.iload_n 1, 1) := by decide +kernel
theorem dX0_appetite_5 : decode cX0_appetite 5 = .ok (.iaload, 1) := by decide +kernel
theorem dX0_appetite_6 : decode cX0_appetite 6 = .ok (.lookupswitch 44 #[(3, 26), (4, 35)], 26) := by decide +kernel
theorem dX0_appetite_32 : decode cX0_appetite 32 = .ok (.iconst 2, 1) := by decide +kernel
theorem dX0_appetite_33 : decode cX0_appetite 33 = .ok (.aload_n 0, 1) := by decide +kernel
theorem dX0_appetite_34 : decode cX0_appetite 34 = .ok (.getfield 24, 3) := by decide +kernel
theorem dX0_appetite_37 : decode cX0_appetite 37 = .ok (.iload_n 1, 1) := by decide +kernel
theorem dX0_appetite_38 : decode cX0_appetite 38 = .ok (.iaload, 1) := by decide +kernel
theorem dX0_appetite_39 : decode cX0_appetite 39 = .ok (.imul, 1) := by decide +kernel
theorem dX0_appetite_40 : decode cX0_appetite 40 = .ok (.ireturn, 1) := by decide +kernel
theorem dX0_appetite_41 : decode cX0_appetite 41 = .ok (.aload_n 0, 1) := by decide +kernel
theorem dX0_appetite_42 : decode cX0_appetite 42 = .ok (.getfield 24, 3) := by decide +kernel
theorem dX0_appetite_45 : decode cX0_appetite 45 = .ok (.iload_n 1, 1) := by decide +kernel
theorem dX0_appetite_46 : decode cX0_appetite 46 = .ok (.iaload, 1) := by decide +kernel
theorem dX0_appetite_47 : decode cX0_appetite 47 = .ok (.iconst 2, 1) := by decide +kernel
theorem dX0_appetite_48 : decode cX0_appetite 48 = .ok (.idiv, 1) := by decide +kernel
theorem dX0_appetite_49 : decode cX0_appetite 49 = .ok (.ireturn, 1) := by decide +kernel
theorem dX0_appetite_50 : decode cX0_appetite 50 = .ok (.aload_n 0, 1) := by decide +kernel
theorem dX0_appetite_51 : decode cX0_appetite 51 = .ok (.getfield 24, 3) := by decide +kernel
theorem dX0_appetite_54 : decode cX0_appetite 54 = .ok (.iload_n 1, 1) := by decide +kernel
theorem dX0_appetite_55 : decode cX0_appetite 55 = .ok (.iaload, 1) := by decide +kernel
theorem dX0_appetite_56 : decode cX0_appetite 56 = .ok (.ireturn, 1) := by decide +kernel
theorem dX0_takeOff_0 : decode cX0_takeOff 0 = .ok (.aload_n 0, 1) := by decide +kernel
theorem dX0_takeOff_1 : decode cX0_takeOff 1 = .ok (.getfield 9, 3) := by decide +kernel
theorem dX0_takeOff_4 : decode cX0_takeOff 4 = .ok (.iload_n 1, 1) := by decide +kernel
theorem dX0_takeOff_5 : decode cX0_takeOff 5 = .ok (.aload_n 0, 1) := by decide +kernel
theorem dX0_takeOff_6 : decode cX0_takeOff 6 = .ok (.getfield 9, 3) := by decide +kernel
theorem dX0_takeOff_9 : decode cX0_takeOff 9 = .ok (.iload_n 1, 1) := by decide +kernel
theorem dX0_takeOff_10 : decode cX0_takeOff 10 = .ok (.iaload, 1) := by decide +kernel
theorem dX0_takeOff_11 : decode cX0_takeOff 11 = .ok (.iload_n 2, 1) := by decide +kernel
theorem dX0_takeOff_12 : decode cX0_takeOff 12 = .ok (.if_icmp .le 14, 3) := by decide +kernel
theorem dX0_takeOff_15 : decode cX0_takeOff 15 = .ok (.aload_n 0, 1) := by decide +kernel
theorem dX0_takeOff_16 : decode cX0_takeOff 16 = .ok (.getfield 9, 3) := by decide +kernel
theorem dX0_takeOff_19 : decode cX0_takeOff 19 = .ok (.iload_n 1, 1) := by decide +kernel
theorem dX0_takeOff_20 : decode cX0_takeOff 20 = .ok (.iaload, 1) := by decide +kernel
theorem dX0_takeOff_21 : decode cX0_takeOff 21 = .ok (.iload_n 2, 1) := by decide +kernel
theorem dX0_takeOff_22 : decode cX0_takeOff 22 = .ok (.isub, 1) := by decide +kernel
theorem dX0_takeOff_23 : decode cX0_takeOff 23 = .ok (.goto 4, 3) := by decide +kernel
theorem dX0_takeOff_26 : decode cX0_takeOff 26 = .ok (.iconst 0, 1) := by decide +kernel
theorem dX0_takeOff_27 : decode cX0_takeOff 27 = .ok (.iastore, 1) := by decide +kernel
theorem dX0_takeOff_28 : decode cX0_takeOff 28 = .ok (.return_, 1) := by decide +kernel
theorem dX0_drawSaucer_0 : decode cX0_drawSaucer 0 = .ok (.aload_n 0, 1) := by decide +kernel
theorem dX0_drawSaucer_1 : decode cX0_drawSaucer 1 = .ok (.aload_n 0, 1) := by decide +kernel
theorem dX0_drawSaucer_2 : decode cX0_drawSaucer 2 = .ok (.getfield 40, 3) := by decide +kernel
theorem dX0_drawSaucer_5 : decode cX0_drawSaucer 5 = .ok (.i2l, 1) := by decide +kernel
theorem dX0_drawSaucer_6 : decode cX0_drawSaucer 6 = .ok (.ldc2_w 59, 3) := by decide +kernel
theorem dX0_drawSaucer_9 : decode cX0_drawSaucer 9 = .ok (.lmul, 1) := by decide +kernel
theorem dX0_drawSaucer_10 : decode cX0_drawSaucer 10 = .ok (.ldc2_w 61, 3) := by decide +kernel
theorem dX0_drawSaucer_13 : decode cX0_drawSaucer 13 = .ok (.ladd, 1) := by decide +kernel
theorem dX0_drawSaucer_14 : decode cX0_drawSaucer 14 = .ok (.ldc2_w 63, 3) := by decide +kernel
theorem dX0_drawSaucer_17 : decode cX0_drawSaucer 17 = .ok (.land, 1) := by decide +kernel
theorem dX0_drawSaucer_18 : decode cX0_drawSaucer 18 = .ok (.l2i, 1) := by decide +kernel
theorem dX0_drawSaucer_19 : decode cX0_drawSaucer 19 = .ok (.putfield 40, 3) := by decide +kernel
theorem dX0_drawSaucer_22 : decode cX0_drawSaucer 22 = .ok (.aload_n 0, 1) := by decide +kernel
theorem dX0_drawSaucer_23 : decode cX0_drawSaucer 23 = .ok (.getfield 43, 3) := by decide +kernel
theorem dX0_drawSaucer_26 : decode cX0_drawSaucer 26 = .ok (.ifCond .le 31, 3) := by decide +kernel
theorem dX0_drawSaucer_29 : decode cX0_drawSaucer 29 = .ok (.aload_n 0, 1) := by decide +kernel
theorem dX0_drawSaucer_30 : decode cX0_drawSaucer 30 = .ok (.getfield 15, 3) := by decide +kernel
theorem dX0_drawSaucer_33 : decode cX0_drawSaucer 33 = .ok (.aload_n 0, 1) := by decide +kernel
theorem dX0_drawSaucer_34 : decode cX0_drawSaucer 34 = .ok (.getfield 40, 3) := by decide +kernel
theorem dX0_drawSaucer_37 : decode cX0_drawSaucer 37 = .ok (.ldc 65, 2) := by decide +kernel
theorem dX0_drawSaucer_39 : decode cX0_drawSaucer 39 = .ok (.idiv, 1) := by decide +kernel
theorem dX0_drawSaucer_40 : decode cX0_drawSaucer 40 = .ok (.aload_n 0, 1) := by decide +kernel
theorem dX0_drawSaucer_41 : decode cX0_drawSaucer 41 = .ok (.getfield 43, 3) := by decide +kernel
theorem dX0_drawSaucer_44 : decode cX0_drawSaucer 44 = .ok (.irem, 1) := by decide +kernel
theorem dX0_drawSaucer_45 : decode cX0_drawSaucer 45 = .ok (.aload_n 0, 1) := by decide +kernel
theorem dX0_drawSaucer_46 : decode cX0_drawSaucer 46 = .ok (.getfield 40, 3) := by decide +kernel
theorem dX0_drawSaucer_49 : decode cX0_drawSaucer 49 = .ok (.sipush 128, 3) := by decide +kernel
theorem dX0_drawSaucer_52 : decode cX0_drawSaucer 52 = .ok (.idiv, 1) := by decide +kernel
theorem dX0_drawSaucer_53 : decode cX0_drawSaucer 53 = .ok (.bipush 21, 2) := by decide +kernel
theorem dX0_drawSaucer_55 : decode cX0_drawSaucer 55 = .ok (.irem, 1) := by decide +kernel
theorem dX0_drawSaucer_56 : decode cX0_drawSaucer 56 = .ok (.iastore, 1) := by decide +kernel
theorem dX0_drawSaucer_57 : decode cX0_drawSaucer 57 = .ok (.return_, 1) := by decide +kernel
theorem dX0_passNights_0 : decode cX0_passNights 0 = .ok (.iconst 0, 1) := by decide +kernel
theorem dX0_passNights_1 : decode cX0_passNights 1 = .ok (.istore_n 2, 1) := by decide +kernel
theorem dX0_passNights_2 : decode cX0_passNights 2 = .ok (.iload_n 2, 1) := by decide +kernel
theorem dX0_passNights_3 : decode cX0_passNights 3 = .ok (.iload_n 1, 1) := by decide +kernel
theorem dX0_passNights_4 : decode cX0_passNights 4 = .ok (.if_icmp .ge 14, 3) := by decide +kernel
theorem dX0_passNights_7 : decode cX0_passNights 7 = .ok (.aload_n 0, 1) := by decide +kernel
theorem dX0_passNights_8 : decode cX0_passNights 8 = .ok (.iconst 0, 1) := by decide +kernel
theorem dX0_passNights_9 : decode cX0_passNights 9 = .ok (.invokevirtual 66, 3) := by decide +kernel
theorem dX0_passNights_12 : decode cX0_passNights 12 = .ok (.iinc 2 1, 3) := by decide +kernel
theorem dX0_passNights_15 : decode cX0_passNights 15 = .ok (.goto (-13), 3) := by decide +kernel
theorem dX0_passNights_18 : decode cX0_passNights 18 = .ok (.return_, 1) := by decide +kernel
theorem dX0_passNight_0 : decode cX0_passNight 0 = .ok (.aload_n 0, 1) := by decide +kernel
theorem dX0_passNight_1 : decode cX0_passNight 1 = .ok (.invokevirtual 70, 3) := by decide +kernel
theorem dX0_passNight_4 : decode cX0_passNight 4 = .ok (.istore_n 2, 1) := by decide +kernel
theorem dX0_passNight_5 : decode cX0_passNight 5 = .ok (.iconst 0, 1) := by decide +kernel
theorem dX0_passNight_6 : decode cX0_passNight 6 = .ok (.istore_n 3, 1) := by decide +kernel
theorem dX0_passNight_7 : decode cX0_passNight 7 = .ok (.iload_n 3, 1) := by decide +kernel
theorem dX0_passNight_8 : decode cX0_passNight 8 = .ok (.aload_n 0, 1) := by decide +kernel
theorem dX0_passNight_9 : decode cX0_passNight 9 = .ok (.getfield 43, 3) := by decide +kernel
theorem dX0_passNight_12 : decode cX0_passNight 12 = .ok (.if_icmp .ge 37, 3) := by decide +kernel
theorem dX0_passNight_15 : decode cX0_passNight 15 = .ok (.aload_n 0, 1) := by decide +kernel
theorem dX0_passNight_16 : decode cX0_passNight 16 = .ok (.getfield 30, 3) := by decide +kernel
theorem dX0_passNight_19 : decode cX0_passNight 19 = .ok (.iload_n 3, 1) := by decide +kernel
theorem dX0_passNight_20 : decode cX0_passNight 20 = .ok (.iload_n 2, 1) := by decide +kernel
theorem dX0_passNight_21 : decode cX0_passNight 21 = .ok (.ifCond .ne 11, 3) := by decide +kernel
theorem dX0_passNight_24 : decode cX0_passNight 24 = .ok (.aload_n 0, 1) := by decide +kernel
theorem dX0_passNight_25 : decode cX0_passNight 25 = .ok (.iload_n 3, 1) := by decide +kernel
theorem dX0_passNight_26 : decode cX0_passNight 26 = .ok (.invokevirtual 55, 3) := by decide +kernel
theorem dX0_passNight_29 : decode cX0_passNight 29 = .ok (.ifCond .eq 7, 3) := by decide +kernel
theorem dX0_passNight_32 : decode cX0_passNight 32 = .ok (.iconst 0, 1) := by decide +kernel
theorem dX0_passNight_33 : decode cX0_passNight 33 = .ok (.goto 9, 3) := by decide +kernel
theorem dX0_passNight_36 : decode cX0_passNight 36 = .ok (.aload_n 0, 1) := by decide +kernel
theorem dX0_passNight_37 : decode cX0_passNight 37 = .ok (.getfield 15, 3) := by decide +kernel
theorem dX0_passNight_40 : decode cX0_passNight 40 = .ok (.iload_n 3, 1) := by decide +kernel
theorem dX0_passNight_41 : decode cX0_passNight 41 = .ok (.iaload, 1) := by decide +kernel
theorem dX0_passNight_42 : decode cX0_passNight 42 = .ok (.iastore, 1) := by decide +kernel
theorem dX0_passNight_43 : decode cX0_passNight 43 = .ok (.iinc 3 1, 3) := by decide +kernel
theorem dX0_passNight_46 : decode cX0_passNight 46 = .ok (.goto (-39), 3) := by decide +kernel
theorem dX0_passNight_49 : decode cX0_passNight 49 = .ok (.iload_n 2, 1) := by decide +kernel
theorem dX0_passNight_50 : decode cX0_passNight 50 = .ok (.ifCond .ne 36, 3) := by decide +kernel
theorem dX0_passNight_53 : decode cX0_passNight 53 = .ok (.iconst 0, 1) := by decide +kernel
theorem dX0_passNight_54 : decode cX0_passNight 54 = .ok (.istore_n 3, 1) := by decide +kernel
theorem dX0_passNight_55 : decode cX0_passNight 55 = .ok (.iload_n 3, 1) := by decide +kernel
theorem dX0_passNight_56 : decode cX0_passNight 56 = .ok (.aload_n 0, 1) := by decide +kernel
theorem dX0_passNight_57 : decode cX0_passNight 57 = .ok (.getfield 46, 3) := by decide +kernel
theorem dX0_passNight_60 : decode cX0_passNight 60 = .ok (.if_icmp .ge 22, 3) := by decide +kernel
theorem dX0_passNight_63 : decode cX0_passNight 63 = .ok (.iload_n 1, 1) := by decide +kernel
theorem dX0_passNight_64 : decode cX0_passNight 64 = .ok (.iload_n 3, 1) := by decide +kernel
theorem dX0_passNight_65 : decode cX0_passNight 65 = .ok (.ishr, 1) := by decide +kernel
theorem dX0_passNight_66 : decode cX0_passNight 66 = .ok (.iconst 1, 1) := by decide +kernel
theorem dX0_passNight_67 : decode cX0_passNight 67 = .ok (.iand, 1) := by decide +kernel
theorem dX0_passNight_68 : decode cX0_passNight 68 = .ok (.ifCond .ne 8, 3) := by decide +kernel
theorem dX0_passNight_71 : decode cX0_passNight 71 = .ok (.aload_n 0, 1) := by decide +kernel
theorem dX0_passNight_72 : decode cX0_passNight 72 = .ok (.iload_n 3, 1) := by decide +kernel
theorem dX0_passNight_73 : decode cX0_passNight 73 = .ok (.invokevirtual 74, 3) := by decide +kernel
theorem dX0_passNight_76 : decode cX0_passNight 76 = .ok (.iinc 3 1, 3) := by decide +kernel
theorem dX0_passNight_79 : decode cX0_passNight 79 = .ok (.goto (-24), 3) := by decide +kernel
theorem dX0_passNight_82 : decode cX0_passNight 82 = .ok (.aload_n 0, 1) := by decide +kernel
theorem dX0_passNight_83 : decode cX0_passNight 83 = .ok (.invokevirtual 77, 3) := by decide +kernel
theorem dX0_passNight_86 : decode cX0_passNight 86 = .ok (.aload_n 0, 1) := by decide +kernel
theorem dX0_passNight_87 : decode cX0_passNight 87 = .ok (.dup, 1) := by decide +kernel
theorem dX0_passNight_88 : decode cX0_passNight 88 = .ok (.getfield 49, 3) := by decide +kernel
theorem dX0_passNight_91 : decode cX0_passNight 91 = .ok (.iconst 1, 1) := by decide +kernel
theorem dX0_passNight_92 : decode cX0_passNight 92 = .ok (.iadd, 1) := by decide +kernel
theorem dX0_passNight_93 : decode cX0_passNight 93 = .ok (.putfield 49, 3) := by decide +kernel
theorem dX0_passNight_96 : decode cX0_passNight 96 = .ok (.return_, 1) := by decide +kernel
theorem dX0_visit_0 : decode cX0_visit 0 = .ok (.aload_n 0, 1) := by decide +kernel
theorem dX0_visit_1 : decode cX0_visit 1 = .ok (.getfield 27, 3) := by decide +kernel
theorem dX0_visit_4 : decode cX0_visit 4 = .ok (.iload_n 1, 1) := by decide +kernel
theorem dX0_visit_5 : decode cX0_visit 5 = .ok (.iaload, 1) := by decide +kernel
theorem dX0_visit_6 : decode cX0_visit 6 = .ok (.istore_n 2, 1) := by decide +kernel
theorem dX0_visit_7 : decode cX0_visit 7 = .ok (.aload_n 0, 1) := by decide +kernel
theorem dX0_visit_8 : decode cX0_visit 8 = .ok (.iload_n 2, 1) := by decide +kernel
theorem dX0_visit_9 : decode cX0_visit 9 = .ok (.invokevirtual 80, 3) := by decide +kernel
theorem dX0_visit_12 : decode cX0_visit 12 = .ok (.ifCond .ne 4, 3) := by decide +kernel
theorem dX0_visit_15 : decode cX0_visit 15 = .ok (.return_, 1) := by decide +kernel
theorem dX0_visit_16 : decode cX0_visit 16 = .ok (.aload_n 0, 1) := by decide +kernel
theorem dX0_visit_17 : decode cX0_visit 17 = .ok (.iload_n 2, 1) := by decide +kernel
theorem dX0_visit_18 : decode cX0_visit 18 = .ok (.invokevirtual 55, 3) := by decide +kernel
theorem dX0_visit_21 : decode cX0_visit 21 = .ok (.ifCond .ne 16, 3) := by decide +kernel
theorem dX0_visit_24 : decode cX0_visit 24 = .ok (.aload_n 0, 1) := by decide +kernel
theorem dX0_visit_25 : decode cX0_visit 25 = .ok (.iload_n 1, 1) := by decide +kernel
theorem dX0_visit_26 : decode cX0_visit 26 = .ok (.iload_n 2, 1) := by decide +kernel
theorem dX0_visit_27 : decode cX0_visit 27 = .ok (.invokevirtual 83, 3) := by decide +kernel
theorem dX0_visit_30 : decode cX0_visit 30 = .ok (.ifCond .eq 7, 3) := by decide +kernel
theorem dX0_visit_33 : decode cX0_visit 33 = .ok (.iconst 1, 1) := by decide +kernel
theorem dX0_visit_34 : decode cX0_visit 34 = .ok (.goto 4, 3) := by decide +kernel
theorem dX0_visit_37 : decode cX0_visit 37 = .ok (.iconst 0, 1) := by decide +kernel
theorem dX0_visit_38 : decode cX0_visit 38 = .ok (.istore_n 3, 1) := by decide +kernel
theorem dX0_visit_39 : decode cX0_visit 39 = .ok (.iload_n 3, 1) := by decide +kernel
theorem dX0_visit_40 : decode cX0_visit 40 = .ok (.ifCond .eq 27, 3) := by decide +kernel
theorem dX0_visit_43 : decode cX0_visit 43 = .ok (.aload_n 0, 1) := by decide +kernel
theorem dX0_visit_44 : decode cX0_visit 44 = .ok (.getfield 21, 3) := by decide +kernel
theorem dX0_visit_47 : decode cX0_visit 47 = .ok (.iload_n 1, 1) := by decide +kernel
theorem dX0_visit_48 : decode cX0_visit 48 = .ok (.iaload, 1) := by decide +kernel
theorem dX0_visit_49 : decode cX0_visit 49 = .ok (.iconst 1, 1) := by decide +kernel
theorem dX0_visit_50 : decode cX0_visit 50 = .ok (.if_icmp .eq 13, 3) := by decide +kernel
theorem dX0_visit_53 : decode cX0_visit 53 = .ok (.aload_n 0, 1) := by decide +kernel
theorem dX0_visit_54 : decode cX0_visit 54 = .ok (.getfield 21, 3) := by decide +kernel
theorem dX0_visit_57 : decode cX0_visit 57 = .ok (.iload_n 1, 1) := by decide +kernel
theorem dX0_visit_58 : decode cX0_visit 58 = .ok (.iaload, 1) := by decide +kernel
theorem dX0_visit_59 : decode cX0_visit 59 = .ok (.iconst 3, 1) := by decide +kernel
theorem dX0_visit_60 : decode cX0_visit 60 = .ok (.if_icmp .ne 7, 3) := by decide +kernel
theorem dX0_visit_63 : decode cX0_visit 63 = .ok (.iconst 1, 1) := by decide +kernel
theorem dX0_visit_64 : decode cX0_visit 64 = .ok (.goto 4, 3) := by decide +kernel
theorem dX0_visit_67 : decode cX0_visit 67 = .ok (.iconst 0, 1) := by decide +kernel
theorem dX0_visit_68 : decode cX0_visit 68 = .ok (.istore 4, 2) := by decide +kernel
theorem dX0_visit_70 : decode cX0_visit 70 = .ok (.iload 4, 2) := by decide +kernel
theorem dX0_visit_72 : decode cX0_visit 72 = .ok (.ifCond .ne 15, 3) := by decide +kernel
theorem dX0_visit_75 : decode cX0_visit 75 = .ok (.aload_n 0, 1) := by decide +kernel
theorem dX0_visit_76 : decode cX0_visit 76 = .ok (.getfield 27, 3) := by decide +kernel
theorem dX0_visit_79 : decode cX0_visit 79 = .ok (.iload_n 1, 1) := by decide +kernel
theorem dX0_visit_80 : decode cX0_visit 80 = .ok (.aload_n 0, 1) := by decide +kernel
theorem dX0_visit_81 : decode cX0_visit 81 = .ok (.iload_n 1, 1) := by decide +kernel
theorem dX0_visit_82 : decode cX0_visit 82 = .ok (.iload_n 2, 1) := by decide +kernel
theorem dX0_visit_83 : decode cX0_visit 83 = .ok (.invokevirtual 87, 3) := by decide +kernel
theorem dX0_visit_86 : decode cX0_visit 86 = .ok (.iastore, 1) := by decide +kernel
theorem dX0_visit_87 : decode cX0_visit 87 = .ok (.return_, 1) := by decide +kernel
theorem dX0_eat_0 : decode cX0_eat 0 = .ok (.aload_n 0, 1) := by decide +kernel
theorem dX0_eat_1 : decode cX0_eat 1 = .ok (.iload_n 1, 1) := by decide +kernel
theorem dX0_eat_2 : decode cX0_eat 2 = .ok (.invokevirtual 91, 3) := by decide +kernel
theorem dX0_eat_5 : decode cX0_eat 5 = .ok (.istore_n 3, 1) := by decide +kernel
theorem dX0_eat_6 : decode cX0_eat 6 = .ok (.iload_n 3, 1) := by decide +kernel
theorem dX0_eat_7 : decode cX0_eat 7 = .ok (.aload_n 0, 1) := by decide +kernel
theorem dX0_eat_8 : decode cX0_eat 8 = .ok (.getfield 30, 3) := by decide +kernel
theorem dX0_eat_11 : decode cX0_eat 11 = .ok (.iload_n 2, 1) := by decide +kernel
theorem dX0_eat_12 : decode cX0_eat 12 = .ok (.iaload, 1) := by decide +kernel
theorem dX0_eat_13 : decode cX0_eat 13 = .ok (.if_icmp .ge 7, 3) := by decide +kernel
theorem dX0_eat_16 : decode cX0_eat 16 = .ok (.iload_n 3, 1) := by decide +kernel
theorem dX0_eat_17 : decode cX0_eat 17 = .ok (.goto 9, 3) := by decide +kernel
theorem dX0_eat_20 : decode cX0_eat 20 = .ok (.aload_n 0, 1) := by decide +kernel
theorem dX0_eat_21 : decode cX0_eat 21 = .ok (.getfield 30, 3) := by decide +kernel
theorem dX0_eat_24 : decode cX0_eat 24 = .ok (.iload_n 2, 1) := by decide +kernel
theorem dX0_eat_25 : decode cX0_eat 25 = .ok (.iaload, 1) := by decide +kernel
theorem dX0_eat_26 : decode cX0_eat 26 = .ok (.istore 4, 2) := by decide +kernel
theorem dX0_eat_28 : decode cX0_eat 28 = .ok (.aload_n 0, 1) := by decide +kernel
theorem dX0_eat_29 : decode cX0_eat 29 = .ok (.getfield 30, 3) := by decide +kernel
theorem dX0_eat_32 : decode cX0_eat 32 = .ok (.iload_n 2, 1) := by decide +kernel
theorem dX0_eat_33 : decode cX0_eat 33 = .ok (.dup2, 1) := by decide +kernel
theorem dX0_eat_34 : decode cX0_eat 34 = .ok (.iaload, 1) := by decide +kernel
theorem dX0_eat_35 : decode cX0_eat 35 = .ok (.iload 4, 2) := by decide +kernel
theorem dX0_eat_37 : decode cX0_eat 37 = .ok (.isub, 1) := by decide +kernel
theorem dX0_eat_38 : decode cX0_eat 38 = .ok (.iastore, 1) := by decide +kernel
theorem dX0_eat_39 : decode cX0_eat 39 = .ok (.aload_n 0, 1) := by decide +kernel
theorem dX0_eat_40 : decode cX0_eat 40 = .ok (.dup, 1) := by decide +kernel
theorem dX0_eat_41 : decode cX0_eat 41 = .ok (.getfield 52, 3) := by decide +kernel
theorem dX0_eat_44 : decode cX0_eat 44 = .ok (.iload 4, 2) := by decide +kernel
theorem dX0_eat_46 : decode cX0_eat 46 = .ok (.iadd, 1) := by decide +kernel
theorem dX0_eat_47 : decode cX0_eat 47 = .ok (.putfield 52, 3) := by decide +kernel
theorem dX0_eat_50 : decode cX0_eat 50 = .ok (.aload_n 0, 1) := by decide +kernel
theorem dX0_eat_51 : decode cX0_eat 51 = .ok (.iload_n 2, 1) := by decide +kernel
theorem dX0_eat_52 : decode cX0_eat 52 = .ok (.iload 4, 2) := by decide +kernel
theorem dX0_eat_54 : decode cX0_eat 54 = .ok (.invokevirtual 95, 3) := by decide +kernel
theorem dX0_eat_57 : decode cX0_eat 57 = .ok (.iload 4, 2) := by decide +kernel
theorem dX0_eat_59 : decode cX0_eat 59 = .ok (.ifCond .le 13, 3) := by decide +kernel
theorem dX0_eat_62 : decode cX0_eat 62 = .ok (.aload_n 0, 1) := by decide +kernel
theorem dX0_eat_63 : decode cX0_eat 63 = .ok (.getfield 33, 3) := by decide +kernel
theorem dX0_eat_66 : decode cX0_eat 66 = .ok (.iload_n 2, 1) := by decide +kernel
theorem dX0_eat_67 : decode cX0_eat 67 = .ok (.dup2, 1) := by decide +kernel
theorem dX0_eat_68 : decode cX0_eat 68 = .ok (.iaload, 1) := by decide +kernel
theorem dX0_eat_69 : decode cX0_eat 69 = .ok (.iconst 1, 1) := by decide +kernel
theorem dX0_eat_70 : decode cX0_eat 70 = .ok (.iadd, 1) := by decide +kernel
theorem dX0_eat_71 : decode cX0_eat 71 = .ok (.iastore, 1) := by decide +kernel
theorem dX0_eat_72 : decode cX0_eat 72 = .ok (.iload 4, 2) := by decide +kernel
theorem dX0_eat_74 : decode cX0_eat 74 = .ok (.iload_n 3, 1) := by decide +kernel
theorem dX0_eat_75 : decode cX0_eat 75 = .ok (.if_icmp .ge 22, 3) := by decide +kernel
theorem dX0_eat_78 : decode cX0_eat 78 = .ok (.aload_n 0, 1) := by decide +kernel
theorem dX0_eat_79 : decode cX0_eat 79 = .ok (.getfield 9, 3) := by decide +kernel
theorem dX0_eat_82 : decode cX0_eat 82 = .ok (.iload_n 2, 1) := by decide +kernel
theorem dX0_eat_83 : decode cX0_eat 83 = .ok (.iaload, 1) := by decide +kernel
theorem dX0_eat_84 : decode cX0_eat 84 = .ok (.ifCond .le 13, 3) := by decide +kernel
theorem dX0_eat_87 : decode cX0_eat 87 = .ok (.aload_n 0, 1) := by decide +kernel
theorem dX0_eat_88 : decode cX0_eat 88 = .ok (.getfield 18, 3) := by decide +kernel
theorem dX0_eat_91 : decode cX0_eat 91 = .ok (.iload_n 2, 1) := by decide +kernel
theorem dX0_eat_92 : decode cX0_eat 92 = .ok (.dup2, 1) := by decide +kernel
theorem dX0_eat_93 : decode cX0_eat 93 = .ok (.iaload, 1) := by decide +kernel
theorem dX0_eat_94 : decode cX0_eat 94 = .ok (.iconst 1, 1) := by decide +kernel
theorem dX0_eat_95 : decode cX0_eat 95 = .ok (.iadd, 1) := by decide +kernel
theorem dX0_eat_96 : decode cX0_eat 96 = .ok (.iastore, 1) := by decide +kernel
theorem dX0_eat_97 : decode cX0_eat 97 = .ok (.iload 4, 2) := by decide +kernel
theorem dX0_eat_99 : decode cX0_eat 99 = .ok (.iload_n 3, 1) := by decide +kernel
theorem dX0_eat_100 : decode cX0_eat 100 = .ok (.if_icmp .ne 7, 3) := by decide +kernel
theorem dX0_eat_103 : decode cX0_eat 103 = .ok (.iconst 1, 1) := by decide +kernel
theorem dX0_eat_104 : decode cX0_eat 104 = .ok (.goto 4, 3) := by decide +kernel
theorem dX0_eat_107 : decode cX0_eat 107 = .ok (.iconst 0, 1) := by decide +kernel
theorem dX0_eat_108 : decode cX0_eat 108 = .ok (.ireturn, 1) := by decide +kernel
theorem dX0_nextHouse_0 : decode cX0_nextHouse 0 = .ok (.aload_n 0, 1) := by decide +kernel
theorem dX0_nextHouse_1 : decode cX0_nextHouse 1 = .ok (.getfield 21, 3) := by decide +kernel
theorem dX0_nextHouse_4 : decode cX0_nextHouse 4 = .ok (.iload_n 1, 1) := by decide +kernel
theorem dX0_nextHouse_5 : decode cX0_nextHouse 5 = .ok (.iaload, 1) := by decide +kernel
theorem dX0_nextHouse_6 : decode cX0_nextHouse 6 = .ok (.iconst 2, 1) := by decide +kernel
theorem dX0_nextHouse_7 : decode cX0_nextHouse 7 = .ok (.if_icmp .eq 13, 3) := by decide +kernel
theorem dX0_nextHouse_10 : decode cX0_nextHouse 10 = .ok (.aload_n 0, 1) := by decide +kernel
theorem dX0_nextHouse_11 : decode cX0_nextHouse 11 = .ok (.getfield 21, 3) := by decide +kernel
theorem dX0_nextHouse_14 : decode cX0_nextHouse 14 = .ok (.iload_n 1, 1) := by decide +kernel
theorem dX0_nextHouse_15 : decode cX0_nextHouse 15 = .ok (.iaload, 1) := by decide +kernel
theorem dX0_nextHouse_16 : decode cX0_nextHouse 16 = .ok (.iconst 4, 1) := by decide +kernel
theorem dX0_nextHouse_17 : decode cX0_nextHouse 17 = .ok (.if_icmp .ne 7, 3) := by decide +kernel
theorem dX0_nextHouse_20 : decode cX0_nextHouse 20 = .ok (.iconst 1, 1) := by decide +kernel
theorem dX0_nextHouse_21 : decode cX0_nextHouse 21 = .ok (.goto 4, 3) := by decide +kernel
theorem dX0_nextHouse_24 : decode cX0_nextHouse 24 = .ok (.iconst 0, 1) := by decide +kernel
theorem dX0_nextHouse_25 : decode cX0_nextHouse 25 = .ok (.istore_n 3, 1) := by decide +kernel
theorem dX0_nextHouse_26 : decode cX0_nextHouse 26 = .ok (.iload_n 2, 1) := by decide +kernel
theorem dX0_nextHouse_27 : decode cX0_nextHouse 27 = .ok (.istore 4, 2) := by decide +kernel
theorem dX0_nextHouse_29 : decode cX0_nextHouse 29 = .ok (.iconst 1, 1) := by decide +kernel
theorem dX0_nextHouse_30 : decode cX0_nextHouse 30 = .ok (.istore 5, 2) := by decide +kernel
theorem dX0_nextHouse_32 : decode cX0_nextHouse 32 = .ok (.iload_n 2, 1) := by decide +kernel
theorem dX0_nextHouse_33 : decode cX0_nextHouse 33 = .ok (.iconst 1, 1) := by decide +kernel
theorem dX0_nextHouse_34 : decode cX0_nextHouse 34 = .ok (.iadd, 1) := by decide +kernel
theorem dX0_nextHouse_35 : decode cX0_nextHouse 35 = .ok (.istore 6, 2) := by decide +kernel
theorem dX0_nextHouse_37 : decode cX0_nextHouse 37 = .ok (.iload 5, 2) := by decide +kernel
theorem dX0_nextHouse_39 : decode cX0_nextHouse 39 = .ok (.aload_n 0, 1) := by decide +kernel
theorem dX0_nextHouse_40 : decode cX0_nextHouse 40 = .ok (.getfield 43, 3) := by decide +kernel
theorem dX0_nextHouse_43 : decode cX0_nextHouse 43 = .ok (.if_icmp .ge 62, 3) := by decide +kernel
theorem dX0_nextHouse_46 : decode cX0_nextHouse 46 = .ok (.iload 6, 2) := by decide +kernel
theorem dX0_nextHouse_48 : decode cX0_nextHouse 48 = .ok (.aload_n 0, 1) := by decide +kernel
theorem dX0_nextHouse_49 : decode cX0_nextHouse 49 = .ok (.getfield 43, 3) := by decide +kernel
theorem dX0_nextHouse_52 : decode cX0_nextHouse 52 = .ok (.if_icmp .lt 6, 3) := by decide +kernel
theorem dX0_nextHouse_55 : decode cX0_nextHouse 55 = .ok (.iconst 0, 1) := by decide +kernel
theorem dX0_nextHouse_56 : decode cX0_nextHouse 56 = .ok (.istore 6, 2) := by decide +kernel
theorem dX0_nextHouse_58 : decode cX0_nextHouse 58 = .ok (.aload_n 0, 1) := by decide +kernel
theorem dX0_nextHouse_59 : decode cX0_nextHouse 59 = .ok (.iload 6, 2) := by decide +kernel
theorem dX0_nextHouse_61 : decode cX0_nextHouse 61 = .ok (.invokevirtual 55, 3) := by decide +kernel
theorem dX0_nextHouse_64 : decode cX0_nextHouse 64 = .ok (.ifCond .eq 6, 3) := by decide +kernel
theorem dX0_nextHouse_67 : decode cX0_nextHouse 67 = .ok (.goto 29, 3) := by decide +kernel
theorem dX0_nextHouse_70 : decode cX0_nextHouse 70 = .ok (.iload_n 3, 1) := by decide +kernel
theorem dX0_nextHouse_71 : decode cX0_nextHouse 71 = .ok (.ifCond .eq 12, 3) := by decide +kernel
theorem dX0_nextHouse_74 : decode cX0_nextHouse 74 = .ok (.aload_n 0, 1) := by decide +kernel
theorem dX0_nextHouse_75 : decode cX0_nextHouse 75 = .ok (.iload 6, 2) := by decide +kernel
theorem dX0_nextHouse_77 : decode cX0_nextHouse 77 = .ok (.invokevirtual 99, 3) := by decide +kernel
theorem dX0_nextHouse_80 : decode cX0_nextHouse 80 = .ok (.ifCond .ne 6, 3) := by decide +kernel
theorem dX0_nextHouse_83 : decode cX0_nextHouse 83 = .ok (.iload 6, 2) := by decide +kernel
theorem dX0_nextHouse_85 : decode cX0_nextHouse 85 = .ok (.ireturn, 1) := by decide +kernel
theorem dX0_nextHouse_86 : decode cX0_nextHouse 86 = .ok (.iload 4, 2) := by decide +kernel
theorem dX0_nextHouse_88 : decode cX0_nextHouse 88 = .ok (.iload_n 2, 1) := by decide +kernel
theorem dX0_nextHouse_89 : decode cX0_nextHouse 89 = .ok (.if_icmp .ne 7, 3) := by decide +kernel
theorem dX0_nextHouse_92 : decode cX0_nextHouse 92 = .ok (.iload 6, 2) := by decide +kernel
theorem dX0_nextHouse_94 : decode cX0_nextHouse 94 = .ok (.istore 4, 2) := by decide +kernel
theorem dX0_nextHouse_96 : decode cX0_nextHouse 96 = .ok (.iinc 5 1, 3) := by decide +kernel
theorem dX0_nextHouse_99 : decode cX0_nextHouse 99 = .ok (.iinc 6 1, 3) := by decide +kernel
theorem dX0_nextHouse_102 : decode cX0_nextHouse 102 = .ok (.goto (-65), 3) := by decide +kernel
theorem dX0_nextHouse_105 : decode cX0_nextHouse 105 = .ok (.iload 4, 2) := by decide +kernel
theorem dX0_nextHouse_107 : decode cX0_nextHouse 107 = .ok (.ireturn, 1) := by decide +kernel
theorem dX0_addInterest_0 : decode cX0_addInterest 0 = .ok (.iconst 0, 1) := by decide +kernel
theorem dX0_addInterest_1 : decode cX0_addInterest 1 = .ok (.istore_n 1, 1) := by decide +kernel
theorem dX0_addInterest_2 : decode cX0_addInterest 2 = .ok (.iload_n 1, 1) := by decide +kernel
theorem dX0_addInterest_3 : decode cX0_addInterest 3 = .ok (.aload_n 0, 1) := by decide +kernel
theorem dX0_addInterest_4 : decode cX0_addInterest 4 = .ok (.getfield 43, 3) := by decide +kernel
theorem dX0_addInterest_7 : decode cX0_addInterest 7 = .ok (.if_icmp .ge 59, 3) := by decide +kernel
theorem dX0_addInterest_10 : decode cX0_addInterest 10 = .ok (.aload_n 0, 1) := by decide +kernel
theorem dX0_addInterest_11 : decode cX0_addInterest 11 = .ok (.iload_n 1, 1) := by decide +kernel
theorem dX0_addInterest_12 : decode cX0_addInterest 12 = .ok (.invokevirtual 55, 3) := by decide +kernel
theorem dX0_addInterest_15 : decode cX0_addInterest 15 = .ok (.ifCond .ne 45, 3) := by decide +kernel
theorem dX0_addInterest_18 : decode cX0_addInterest 18 = .ok (.aload_n 0, 1) := by decide +kernel
theorem dX0_addInterest_19 : decode cX0_addInterest 19 = .ok (.getfield 9, 3) := by decide +kernel
theorem dX0_addInterest_22 : decode cX0_addInterest 22 = .ok (.iload_n 1, 1) := by decide +kernel
theorem dX0_addInterest_23 : decode cX0_addInterest 23 = .ok (.iaload, 1) := by decide +kernel
theorem dX0_addInterest_24 : decode cX0_addInterest 24 = .ok (.aload_n 0, 1) := by decide +kernel
theorem dX0_addInterest_25 : decode cX0_addInterest 25 = .ok (.getfield 9, 3) := by decide +kernel
theorem dX0_addInterest_28 : decode cX0_addInterest 28 = .ok (.iload_n 1, 1) := by decide +kernel
theorem dX0_addInterest_29 : decode cX0_addInterest 29 = .ok (.iaload, 1) := by decide +kernel
theorem dX0_addInterest_30 : decode cX0_addInterest 30 = .ok (.aload_n 0, 1) := by decide +kernel
theorem dX0_addInterest_31 : decode cX0_addInterest 31 = .ok (.getfield 36, 3) := by decide +kernel
theorem dX0_addInterest_34 : decode cX0_addInterest 34 = .ok (.imul, 1) := by decide +kernel
theorem dX0_addInterest_35 : decode cX0_addInterest 35 = .ok (.bipush 100, 2) := by decide +kernel
theorem dX0_addInterest_37 : decode cX0_addInterest 37 = .ok (.idiv, 1) := by decide +kernel
theorem dX0_addInterest_38 : decode cX0_addInterest 38 = .ok (.iadd, 1) := by decide +kernel
theorem dX0_addInterest_39 : decode cX0_addInterest 39 = .ok (.istore_n 2, 1) := by decide +kernel
theorem dX0_addInterest_40 : decode cX0_addInterest 40 = .ok (.aload_n 0, 1) := by decide +kernel
theorem dX0_addInterest_41 : decode cX0_addInterest 41 = .ok (.getfield 9, 3) := by decide +kernel
theorem dX0_addInterest_44 : decode cX0_addInterest 44 = .ok (.iload_n 1, 1) := by decide +kernel
theorem dX0_addInterest_45 : decode cX0_addInterest 45 = .ok (.iload_n 2, 1) := by decide +kernel
theorem dX0_addInterest_46 : decode cX0_addInterest 46 = .ok (.sipush 9999, 3) := by decide +kernel
theorem dX0_addInterest_49 : decode cX0_addInterest 49 = .ok (.if_icmp .ge 7, 3) := by decide +kernel
theorem dX0_addInterest_52 : decode cX0_addInterest 52 = .ok (.iload_n 2, 1) := by decide +kernel
theorem dX0_addInterest_53 : decode cX0_addInterest 53 = .ok (.goto 6, 3) := by decide +kernel
theorem dX0_addInterest_56 : decode cX0_addInterest 56 = .ok (.sipush 9999, 3) := by decide +kernel
theorem dX0_addInterest_59 : decode cX0_addInterest 59 = .ok (.iastore, 1) := by decide +kernel
theorem dX0_addInterest_60 : decode cX0_addInterest 60 = .ok (.iinc 1 1, 3) := by decide +kernel
theorem dX0_addInterest_63 : decode cX0_addInterest 63 = .ok (.goto (-61), 3) := by decide +kernel
theorem dX0_addInterest_66 : decode cX0_addInterest 66 = .ok (.return_, 1) := by decide +kernel
theorem dX1_init_0 : decode cX1_init 0 = .ok (.aload_n 0, 1) := by decide +kernel
theorem dX1_init_1 : decode cX1_init 1 = .ok (.invokespecial 3, 3) := by decide +kernel
theorem dX1_init_4 : decode cX1_init 4 = .ok (.aload_n 0, 1) := by decide +kernel
theorem dX1_init_5 : decode cX1_init 5 = .ok (.bipush 6, 2) := by decide +kernel
theorem dX1_init_7 : decode cX1_init 7 = .ok (.newarray .int, 2) := by decide +kernel
theorem dX1_init_9 : decode cX1_init 9 = .ok (.putfield 9, 3) := by decide +kernel
theorem dX1_init_12 : decode cX1_init 12 = .ok (.aload_n 0, 1) := by decide +kernel
theorem dX1_init_13 : decode cX1_init 13 = .ok (.bipush 6, 2) := by decide +kernel
theorem dX1_init_15 : decode cX1_init 15 = .ok (.newarray .int, 2) := by decide +kernel
theorem dX1_init_17 : decode cX1_init 17 = .ok (.putfield 15, 3) := by decide +kernel
theorem dX1_init_20 : decode cX1_init 20 = .ok (.return_, 1) := by decide +kernel
theorem dX1_find_0 : decode cX1_find 0 = .ok (.aload_n 1, 1) := by decide +kernel
theorem dX1_find_1 : decode cX1_find 1 = .ok (.getfield 18, 3) := by decide +kernel
theorem dX1_find_4 : decode cX1_find 4 = .ok (.istore 5, 2) := by decide +kernel
theorem dX1_find_6 : decode cX1_find 6 = .ok (.iload 5, 2) := by decide +kernel
theorem dX1_find_8 : decode cX1_find 8 = .ok (.iconst 1, 1) := by decide +kernel
theorem dX1_find_9 : decode cX1_find 9 = .ok (.if_icmp .ge 4, 3) := by decide +kernel
theorem dX1_find_12 : decode cX1_find 12 = .ok (.return_, 1) := by decide +kernel
theorem dX1_find_13 : decode cX1_find 13 = .ok (.aload_n 0, 1) := by decide +kernel
theorem dX1_find_14 : decode cX1_find 14 = .ok (.iconst (-1), 1) := by decide +kernel
theorem dX1_find_15 : decode cX1_find 15 = .ok (.putfield 24, 3) := by decide +kernel
theorem dX1_find_18 : decode cX1_find 18 = .ok (.iconst 0, 1) := by decide +kernel
theorem dX1_find_19 : decode cX1_find 19 = .ok (.istore 6, 2) := by decide +kernel
theorem dX1_find_21 : decode cX1_find 21 = .ok (.iload 6, 2) := by decide +kernel
theorem dX1_find_23 : decode cX1_find 23 = .ok (.iload 5, 2) := by decide +kernel
theorem dX1_find_25 : decode cX1_find 25 = .ok (.if_icmp .ge 17, 3) := by decide +kernel
theorem dX1_find_28 : decode cX1_find 28 = .ok (.aload_n 0, 1) := by decide +kernel
theorem dX1_find_29 : decode cX1_find 29 = .ok (.getfield 15, 3) := by decide +kernel
theorem dX1_find_32 : decode cX1_find 32 = .ok (.iload 6, 2) := by decide +kernel
theorem dX1_find_34 : decode cX1_find 34 = .ok (.iconst 0, 1) := by decide +kernel
theorem dX1_find_35 : decode cX1_find 35 = .ok (.iastore, 1) := by decide +kernel
theorem dX1_find_36 : decode cX1_find 36 = .ok (.iinc 6 1, 3) := by decide +kernel
theorem dX1_find_39 : decode cX1_find 39 = .ok (.goto (-18), 3) := by decide +kernel
theorem dX1_find_42 : decode cX1_find 42 = .ok (.aload_n 0, 1) := by decide +kernel
theorem dX1_find_43 : decode cX1_find 43 = .ok (.getfield 15, 3) := by decide +kernel
theorem dX1_find_46 : decode cX1_find 46 = .ok (.iload 5, 2) := by decide +kernel
theorem dX1_find_48 : decode cX1_find 48 = .ok (.iconst 1, 1) := by decide +kernel
theorem dX1_find_49 : decode cX1_find 49 = .ok (.isub, 1) := by decide +kernel
theorem dX1_find_50 : decode cX1_find 50 = .ok (.iload_n 3, 1) := by decide +kernel
theorem dX1_find_51 : decode cX1_find 51 = .ok (.iastore, 1) := by decide +kernel
theorem dX1_find_52 : decode cX1_find 52 = .ok (.iconst 1, 1) := by decide +kernel
theorem dX1_find_53 : decode cX1_find 53 = .ok (.istore 6, 2) := by decide +kernel
theorem dX1_find_55 : decode cX1_find 55 = .ok (.iconst 0, 1) := by decide +kernel
theorem dX1_find_56 : decode cX1_find 56 = .ok (.istore 7, 2) := by decide +kernel
theorem dX1_find_58 : decode cX1_find 58 = .ok (.iload 6, 2) := by decide +kernel
theorem dX1_find_60 : decode cX1_find 60 = .ok (.ifCond .eq 33, 3) := by decide +kernel
theorem dX1_find_63 : decode cX1_find 63 = .ok (.iload 7, 2) := by decide +kernel
theorem dX1_find_65 : decode cX1_find 65 = .ok (.sipush 10000, 3) := by decide +kernel
theorem dX1_find_68 : decode cX1_find 68 = .ok (.if_icmp .ge 25, 3) := by decide +kernel
theorem dX1_find_71 : decode cX1_find 71 = .ok (.aload_n 0, 1) := by decide +kernel
theorem dX1_find_72 : decode cX1_find 72 = .ok (.aload_n 1, 1) := by decide +kernel
theorem dX1_find_73 : decode cX1_find 73 = .ok (.aload_n 2, 1) := by decide +kernel
theorem dX1_find_74 : decode cX1_find 74 = .ok (.iload 4, 2) := by decide +kernel
theorem dX1_find_76 : decode cX1_find 76 = .ok (.invokevirtual 27, 3) := by decide +kernel
theorem dX1_find_79 : decode cX1_find 79 = .ok (.aload_n 0, 1) := by decide +kernel
theorem dX1_find_80 : decode cX1_find 80 = .ok (.iload 5, 2) := by decide +kernel
theorem dX1_find_82 : decode cX1_find 82 = .ok (.invokevirtual 31, 3) := by decide +kernel
theorem dX1_find_85 : decode cX1_find 85 = .ok (.istore 6, 2) := by decide +kernel
theorem dX1_find_87 : decode cX1_find 87 = .ok (.iinc 7 1, 3) := by decide +kernel
theorem dX1_find_90 : decode cX1_find 90 = .ok (.goto (-32), 3) := by decide +kernel
theorem dX1_find_93 : decode cX1_find 93 = .ok (.return_, 1) := by decide +kernel
theorem dX1_judge_0 : decode cX1_judge 0 = .ok (.aload_n 1, 1) := by decide +kernel
theorem dX1_judge_1 : decode cX1_judge 1 = .ok (.getfield 18, 3) := by decide +kernel
theorem dX1_judge_4 : decode cX1_judge 4 = .ok (.istore 4, 2) := by decide +kernel
theorem dX1_judge_6 : decode cX1_judge 6 = .ok (.aload_n 2, 1) := by decide +kernel
theorem dX1_judge_7 : decode cX1_judge 7 = .ok (.aload_n 1, 1) := by decide +kernel
theorem dX1_judge_8 : decode cX1_judge 8 = .ok (.invokevirtual 35, 3) := by decide +kernel
theorem dX1_judge_11 : decode cX1_judge 11 = .ok (.iconst 0, 1) := by decide +kernel
theorem dX1_judge_12 : decode cX1_judge 12 = .ok (.istore 5, 2) := by decide +kernel
theorem dX1_judge_14 : decode cX1_judge 14 = .ok (.iload 5, 2) := by decide +kernel
theorem dX1_judge_16 : decode cX1_judge 16 = .ok (.iload 4, 2) := by decide +kernel
theorem dX1_judge_18 : decode cX1_judge 18 = .ok (.if_icmp .ge 23, 3) := by decide +kernel
theorem dX1_judge_21 : decode cX1_judge 21 = .ok (.aload_n 2, 1) := by decide +kernel
theorem dX1_judge_22 : decode cX1_judge 22 = .ok (.getfield 39, 3) := by decide +kernel
theorem dX1_judge_25 : decode cX1_judge 25 = .ok (.iload 5, 2) := by decide +kernel
theorem dX1_judge_27 : decode cX1_judge 27 = .ok (.aload_n 0, 1) := by decide +kernel
theorem dX1_judge_28 : decode cX1_judge 28 = .ok (.getfield 15, 3) := by decide +kernel
theorem dX1_judge_31 : decode cX1_judge 31 = .ok (.iload 5, 2) := by decide +kernel
theorem dX1_judge_33 : decode cX1_judge 33 = .ok (.iaload, 1) := by decide +kernel
theorem dX1_judge_34 : decode cX1_judge 34 = .ok (.iastore, 1) := by decide +kernel
theorem dX1_judge_35 : decode cX1_judge 35 = .ok (.iinc 5 1, 3) := by decide +kernel
theorem dX1_judge_38 : decode cX1_judge 38 = .ok (.goto (-24), 3) := by decide +kernel
theorem dX1_judge_41 : decode cX1_judge 41 = .ok (.iload 4, 2) := by decide +kernel
theorem dX1_judge_43 : decode cX1_judge 43 = .ok (.istore 5, 2) := by decide +kernel
theorem dX1_judge_45 : decode cX1_judge 45 = .ok (.iconst 0, 1) := by decide +kernel
theorem dX1_judge_46 : decode cX1_judge 46 = .ok (.istore 6, 2) := by decide +kernel
theorem dX1_judge_48 : decode cX1_judge 48 = .ok (.iload 6, 2) := by decide +kernel
theorem dX1_judge_50 : decode cX1_judge 50 = .ok (.iload_n 3, 1) := by decide +kernel
theorem dX1_judge_51 : decode cX1_judge 51 = .ok (.if_icmp .ge 35, 3) := by decide +kernel
theorem dX1_judge_54 : decode cX1_judge 54 = .ok (.iload 5, 2) := by decide +kernel
theorem dX1_judge_56 : decode cX1_judge 56 = .ok (.aload_n 0, 1) := by decide +kernel
theorem dX1_judge_57 : decode cX1_judge 57 = .ok (.getfield 24, 3) := by decide +kernel
theorem dX1_judge_60 : decode cX1_judge 60 = .ok (.if_icmp .lt 26, 3) := by decide +kernel
theorem dX1_judge_63 : decode cX1_judge 63 = .ok (.aload_n 2, 1) := by decide +kernel
theorem dX1_judge_64 : decode cX1_judge 64 = .ok (.iconst 0, 1) := by decide +kernel
theorem dX1_judge_65 : decode cX1_judge 65 = .ok (.invokevirtual 42, 3) := by decide +kernel
theorem dX1_judge_68 : decode cX1_judge 68 = .ok (.iload 4, 2) := by decide +kernel
theorem dX1_judge_70 : decode cX1_judge 70 = .ok (.aload_n 2, 1) := by decide +kernel
theorem dX1_judge_71 : decode cX1_judge 71 = .ok (.invokevirtual 46, 3) := by decide +kernel
theorem dX1_judge_74 : decode cX1_judge 74 = .ok (.invokestatic 50, 3) := by decide +kernel
theorem dX1_judge_77 : decode cX1_judge 77 = .ok (.isub, 1) := by decide +kernel
theorem dX1_judge_78 : decode cX1_judge 78 = .ok (.istore 5, 2) := by decide +kernel
theorem dX1_judge_80 : decode cX1_judge 80 = .ok (.iinc 6 1, 3) := by decide +kernel
theorem dX1_judge_83 : decode cX1_judge 83 = .ok (.goto (-35), 3) := by decide +kernel
theorem dX1_judge_86 : decode cX1_judge 86 = .ok (.aload_n 2, 1) := by decide +kernel
theorem dX1_judge_87 : decode cX1_judge 87 = .ok (.invokevirtual 56, 3) := by decide +kernel
theorem dX1_judge_90 : decode cX1_judge 90 = .ok (.istore 6, 2) := by decide +kernel
theorem dX1_judge_92 : decode cX1_judge 92 = .ok (.iload 5, 2) := by decide +kernel
theorem dX1_judge_94 : decode cX1_judge 94 = .ok (.aload_n 0, 1) := by decide +kernel
theorem dX1_judge_95 : decode cX1_judge 95 = .ok (.getfield 24, 3) := by decide +kernel
theorem dX1_judge_98 : decode cX1_judge 98 = .ok (.if_icmp .gt 21, 3) := by decide +kernel
theorem dX1_judge_101 : decode cX1_judge 101 = .ok (.iload 5, 2) := by decide +kernel
theorem dX1_judge_103 : decode cX1_judge 103 = .ok (.aload_n 0, 1) := by decide +kernel
theorem dX1_judge_104 : decode cX1_judge 104 = .ok (.getfield 24, 3) := by decide +kernel
theorem dX1_judge_107 : decode cX1_judge 107 = .ok (.if_icmp .ne 54, 3) := by decide +kernel
theorem dX1_judge_110 : decode cX1_judge 110 = .ok (.iload 6, 2) := by decide +kernel
theorem dX1_judge_112 : decode cX1_judge 112 = .ok (.aload_n 0, 1) := by decide +kernel
theorem dX1_judge_113 : decode cX1_judge 113 = .ok (.getfield 59, 3) := by decide +kernel
theorem dX1_judge_116 : decode cX1_judge 116 = .ok (.if_icmp .ge 45, 3) := by decide +kernel
theorem dX1_judge_119 : decode cX1_judge 119 = .ok (.aload_n 0, 1) := by decide +kernel
theorem dX1_judge_120 : decode cX1_judge 120 = .ok (.iload 5, 2) := by decide +kernel
theorem dX1_judge_122 : decode cX1_judge 122 = .ok (.putfield 24, 3) := by decide +kernel
theorem dX1_judge_125 : decode cX1_judge 125 = .ok (.aload_n 0, 1) := by decide +kernel
theorem dX1_judge_126 : decode cX1_judge 126 = .ok (.iload 6, 2) := by decide +kernel
theorem dX1_judge_128 : decode cX1_judge 128 = .ok (.putfield 59, 3) := by decide +kernel
theorem dX1_judge_131 : decode cX1_judge 131 = .ok (.iconst 0, 1) := by decide +kernel
theorem dX1_judge_132 : decode cX1_judge 132 = .ok (.istore 7, 2) := by decide +kernel
theorem dX1_judge_134 : decode cX1_judge 134 = .ok (.iload 7, 2) := by decide +kernel
theorem dX1_judge_136 : decode cX1_judge 136 = .ok (.iload 4, 2) := by decide +kernel
theorem dX1_judge_138 : decode cX1_judge 138 = .ok (.if_icmp .ge 23, 3) := by decide +kernel
theorem dX1_judge_141 : decode cX1_judge 141 = .ok (.aload_n 0, 1) := by decide +kernel
theorem dX1_judge_142 : decode cX1_judge 142 = .ok (.getfield 9, 3) := by decide +kernel
theorem dX1_judge_145 : decode cX1_judge 145 = .ok (.iload 7, 2) := by decide +kernel
theorem dX1_judge_147 : decode cX1_judge 147 = .ok (.aload_n 0, 1) := by decide +kernel
theorem dX1_judge_148 : decode cX1_judge 148 = .ok (.getfield 15, 3) := by decide +kernel
theorem dX1_judge_151 : decode cX1_judge 151 = .ok (.iload 7, 2) := by decide +kernel
theorem dX1_judge_153 : decode cX1_judge 153 = .ok (.iaload, 1) := by decide +kernel
theorem dX1_judge_154 : decode cX1_judge 154 = .ok (.iastore, 1) := by decide +kernel
theorem dX1_judge_155 : decode cX1_judge 155 = .ok (.iinc 7 1, 3) := by decide +kernel
theorem dX1_judge_158 : decode cX1_judge 158 = .ok (.goto (-24), 3) := by decide +kernel
theorem dX1_judge_161 : decode cX1_judge 161 = .ok (.return_, 1) := by decide +kernel
theorem dX1_nextWay_0 : decode cX1_nextWay 0 = .ok (.iconst 0, 1) := by decide +kernel
theorem dX1_nextWay_1 : decode cX1_nextWay 1 = .ok (.istore_n 2, 1) := by decide +kernel
theorem dX1_nextWay_2 : decode cX1_nextWay 2 = .ok (.iload_n 1, 1) := by decide +kernel
theorem dX1_nextWay_3 : decode cX1_nextWay 3 = .ok (.iconst 1, 1) := by decide +kernel
theorem dX1_nextWay_4 : decode cX1_nextWay 4 = .ok (.isub, 1) := by decide +kernel
theorem dX1_nextWay_5 : decode cX1_nextWay 5 = .ok (.istore_n 3, 1) := by decide +kernel
theorem dX1_nextWay_6 : decode cX1_nextWay 6 = .ok (.iload_n 3, 1) := by decide +kernel
theorem dX1_nextWay_7 : decode cX1_nextWay 7 = .ok (.ifCond .le 54, 3) := by decide +kernel
theorem dX1_nextWay_10 : decode cX1_nextWay 10 = .ok (.iload_n 2, 1) := by decide +kernel
theorem dX1_nextWay_11 : decode cX1_nextWay 11 = .ok (.aload_n 0, 1) := by decide +kernel
theorem dX1_nextWay_12 : decode cX1_nextWay 12 = .ok (.getfield 15, 3) := by decide +kernel
theorem dX1_nextWay_15 : decode cX1_nextWay 15 = .ok (.iload_n 3, 1) := by decide +kernel
theorem dX1_nextWay_16 : decode cX1_nextWay 16 = .ok (.iaload, 1) := by decide +kernel
theorem dX1_nextWay_17 : decode cX1_nextWay 17 = .ok (.iadd, 1) := by decide +kernel
theorem dX1_nextWay_18 : decode cX1_nextWay 18 = .ok (.istore_n 2, 1) := by decide +kernel
theorem dX1_nextWay_19 : decode cX1_nextWay 19 = .ok (.aload_n 0, 1) := by decide +kernel
theorem dX1_nextWay_20 : decode cX1_nextWay 20 = .ok (.getfield 15, 3) := by decide +kernel
theorem dX1_nextWay_23 : decode cX1_nextWay 23 = .ok (.iload_n 3, 1) := by decide +kernel
theorem dX1_nextWay_24 : decode cX1_nextWay 24 = .ok (.iconst 0, 1) := by decide +kernel
theorem dX1_nextWay_25 : decode cX1_nextWay 25 = .ok (.iastore, 1) := by decide +kernel
theorem dX1_nextWay_26 : decode cX1_nextWay 26 = .ok (.iload_n 2, 1) := by decide +kernel
theorem dX1_nextWay_27 : decode cX1_nextWay 27 = .ok (.ifCond .le 28, 3) := by decide +kernel
theorem dX1_nextWay_30 : decode cX1_nextWay 30 = .ok (.aload_n 0, 1) := by decide +kernel
theorem dX1_nextWay_31 : decode cX1_nextWay 31 = .ok (.getfield 15, 3) := by decide +kernel
theorem dX1_nextWay_34 : decode cX1_nextWay 34 = .ok (.iload_n 3, 1) := by decide +kernel
theorem dX1_nextWay_35 : decode cX1_nextWay 35 = .ok (.iconst 1, 1) := by decide +kernel
theorem dX1_nextWay_36 : decode cX1_nextWay 36 = .ok (.isub, 1) := by decide +kernel
theorem dX1_nextWay_37 : decode cX1_nextWay 37 = .ok (.dup2, 1) := by decide +kernel
theorem dX1_nextWay_38 : decode cX1_nextWay 38 = .ok (.iaload, 1) := by decide +kernel
theorem dX1_nextWay_39 : decode cX1_nextWay 39 = .ok (.iconst 1, 1) := by decide +kernel
theorem dX1_nextWay_40 : decode cX1_nextWay 40 = .ok (.iadd, 1) := by decide +kernel
theorem dX1_nextWay_41 : decode cX1_nextWay 41 = .ok (.iastore, 1) := by decide +kernel
theorem dX1_nextWay_42 : decode cX1_nextWay 42 = .ok (.aload_n 0, 1) := by decide +kernel
theorem dX1_nextWay_43 : decode cX1_nextWay 43 = .ok (.getfield 15, 3) := by decide +kernel
theorem dX1_nextWay_46 : decode cX1_nextWay 46 = .ok (.iload_n 1, 1) := by decide +kernel
theorem dX1_nextWay_47 : decode cX1_nextWay 47 = .ok (.iconst 1, 1) := by decide +kernel
theorem dX1_nextWay_48 : decode cX1_nextWay 48 = .ok (.isub, 1) := by decide +kernel
theorem dX1_nextWay_49 : decode cX1_nextWay 49 = .ok (.iload_n 2, 1) := by decide +kernel
theorem dX1_nextWay_50 : decode cX1_nextWay 50 = .ok (.iconst 1, 1) := by decide +kernel
theorem dX1_nextWay_51 : decode cX1_nextWay 51 = .ok (.isub, 1) := by decide +kernel
theorem dX1_nextWay_52 : decode cX1_nextWay 52 = .ok (.iastore, 1) := by decide +kernel
theorem dX1_nextWay_53 : decode cX1_nextWay 53 = .ok (.iconst 1, 1) := by decide +kernel
theorem dX1_nextWay_54 : decode cX1_nextWay 54 = .ok (.ireturn, 1) := by decide +kernel
theorem dX1_nextWay_55 : decode cX1_nextWay 55 = .ok (.iinc 3 (-1), 3) := by decide +kernel
theorem dX1_nextWay_58 : decode cX1_nextWay 58 = .ok (.goto (-52), 3) := by decide +kernel
theorem dX1_nextWay_61 : decode cX1_nextWay 61 = .ok (.iconst 0, 1) := by decide +kernel
theorem dX1_nextWay_62 : decode cX1_nextWay 62 = .ok (.ireturn, 1) := by decide +kernel
theorem dX2_init_0 : decode cX2_init 0 = .ok (.aload_n 0, 1) := by decide +kernel
theorem dX2_init_1 : decode cX2_init 1 = .ok (.invokespecial 3, 3) := by decide +kernel
theorem dX2_init_4 : decode cX2_init 4 = .ok (.aload_n 0, 1) := by decide +kernel
theorem dX2_init_5 : decode cX2_init 5 = .ok (.bipush 8, 2) := by decide +kernel
theorem dX2_init_7 : decode cX2_init 7 = .ok (.anewarray 9, 3) := by decide +kernel
theorem dX2_init_10 : decode cX2_init 10 = .ok (.putfield 11, 3) := by decide +kernel
theorem dX2_init_13 : decode cX2_init 13 = .ok (.iconst 0, 1) := by decide +kernel
theorem dX2_init_14 : decode cX2_init 14 = .ok (.istore_n 1, 1) := by decide +kernel
theorem dX2_init_15 : decode cX2_init 15 = .ok (.iload_n 1, 1) := by decide +kernel
theorem dX2_init_16 : decode cX2_init 16 = .ok (.bipush 8, 2) := by decide +kernel
theorem dX2_init_18 : decode cX2_init 18 = .ok (.if_icmp .ge 22, 3) := by decide +kernel
theorem dX2_init_21 : decode cX2_init 21 = .ok (.aload_n 0, 1) := by decide +kernel
theorem dX2_init_22 : decode cX2_init 22 = .ok (.getfield 11, 3) := by decide +kernel
theorem dX2_init_25 : decode cX2_init 25 = .ok (.iload_n 1, 1) := by decide +kernel
theorem dX2_init_26 : decode cX2_init 26 = .ok (.new 9, 3) := by decide +kernel
theorem dX2_init_29 : decode cX2_init 29 = .ok (.dup, 1) := by decide +kernel
theorem dX2_init_30 : decode cX2_init 30 = .ok (.invokespecial 17, 3) := by decide +kernel
theorem dX2_init_33 : decode cX2_init 33 = .ok (.aastore, 1) := by decide +kernel
theorem dX2_init_34 : decode cX2_init 34 = .ok (.iinc 1 1, 3) := by decide +kernel
theorem dX2_init_37 : decode cX2_init 37 = .ok (.goto (-22), 3) := by decide +kernel
theorem dX2_init_40 : decode cX2_init 40 = .ok (.return_, 1) := by decide +kernel
theorem dX2_forget_0 : decode cX2_forget 0 = .ok (.aload_n 0, 1) := by decide +kernel
theorem dX2_forget_1 : decode cX2_forget 1 = .ok (.iconst 0, 1) := by decide +kernel
theorem dX2_forget_2 : decode cX2_forget 2 = .ok (.putfield 18, 3) := by decide +kernel
theorem dX2_forget_5 : decode cX2_forget 5 = .ok (.return_, 1) := by decide +kernel
theorem dX2_remember_0 : decode cX2_remember 0 = .ok (.aload_n 0, 1) := by decide +kernel
theorem dX2_remember_1 : decode cX2_remember 1 = .ok (.getfield 18, 3) := by decide +kernel
theorem dX2_remember_4 : decode cX2_remember 4 = .ok (.bipush 8, 2) := by decide +kernel
theorem dX2_remember_6 : decode cX2_remember 6 = .ok (.if_icmp .lt 7, 3) := by decide +kernel
theorem dX2_remember_9 : decode cX2_remember 9 = .ok (.aload_n 0, 1) := by decide +kernel
theorem dX2_remember_10 : decode cX2_remember 10 = .ok (.invokevirtual 22, 3) := by decide +kernel
theorem dX2_remember_13 : decode cX2_remember 13 = .ok (.aload_n 0, 1) := by decide +kernel
theorem dX2_remember_14 : decode cX2_remember 14 = .ok (.getfield 11, 3) := by decide +kernel
theorem dX2_remember_17 : decode cX2_remember 17 = .ok (.aload_n 0, 1) := by decide +kernel
theorem dX2_remember_18 : decode cX2_remember 18 = .ok (.getfield 18, 3) := by decide +kernel
theorem dX2_remember_21 : decode cX2_remember 21 = .ok (.aaload, 1) := by decide +kernel
theorem dX2_remember_22 : decode cX2_remember 22 = .ok (.aload_n 1, 1) := by decide +kernel
theorem dX2_remember_23 : decode cX2_remember 23 = .ok (.invokevirtual 25, 3) := by decide +kernel
theorem dX2_remember_26 : decode cX2_remember 26 = .ok (.aload_n 0, 1) := by decide +kernel
theorem dX2_remember_27 : decode cX2_remember 27 = .ok (.dup, 1) := by decide +kernel
theorem dX2_remember_28 : decode cX2_remember 28 = .ok (.getfield 18, 3) := by decide +kernel
theorem dX2_remember_31 : decode cX2_remember 31 = .ok (.iconst 1, 1) := by decide +kernel
theorem dX2_remember_32 : decode cX2_remember 32 = .ok (.iadd, 1) := by decide +kernel
theorem dX2_remember_33 : decode cX2_remember 33 = .ok (.putfield 18, 3) := by decide +kernel
theorem dX2_remember_36 : decode cX2_remember 36 = .ok (.return_, 1) := by decide +kernel
theorem dX2_dropOldest_0 : decode cX2_dropOldest 0 = .ok (.aload_n 0, 1) := by decide +kernel
theorem dX2_dropOldest_1 : decode cX2_dropOldest 1 = .ok (.getfield 11, 3) := by decide +kernel
theorem dX2_dropOldest_4 : decode cX2_dropOldest 4 = .ok (.iconst 0, 1) := by decide +kernel
theorem dX2_dropOldest_5 : decode cX2_dropOldest 5 = .ok (.aaload, 1) := by decide +kernel
theorem dX2_dropOldest_6 : decode cX2_dropOldest 6 = .ok (.astore_n 1, 1) := by decide +kernel
theorem dX2_dropOldest_7 : decode cX2_dropOldest 7 = .ok (.iconst 1, 1) := by decide +kernel
theorem dX2_dropOldest_8 : decode cX2_dropOldest 8 = .ok (.istore_n 2, 1) := by decide +kernel
theorem dX2_dropOldest_9 : decode cX2_dropOldest 9 = .ok (.iload_n 2, 1) := by decide +kernel
theorem dX2_dropOldest_10 : decode cX2_dropOldest 10 = .ok (.bipush 8, 2) := by decide +kernel
theorem dX2_dropOldest_12 : decode cX2_dropOldest 12 = .ok (.if_icmp .ge 23, 3) := by decide +kernel
theorem dX2_dropOldest_15 : decode cX2_dropOldest 15 = .ok (.aload_n 0, 1) := by decide +kernel
theorem dX2_dropOldest_16 : decode cX2_dropOldest 16 = .ok (.getfield 11, 3) := by decide +kernel
theorem dX2_dropOldest_19 : decode cX2_dropOldest 19 = .ok (.iload_n 2, 1) := by decide +kernel
theorem dX2_dropOldest_20 : decode cX2_dropOldest 20 = .ok (.iconst 1, 1) := by decide +kernel
theorem dX2_dropOldest_21 : decode cX2_dropOldest 21 = .ok (.isub, 1) := by decide +kernel
theorem dX2_dropOldest_22 : decode cX2_dropOldest 22 = .ok (.aload_n 0, 1) := by decide +kernel
theorem dX2_dropOldest_23 : decode cX2_dropOldest 23 = .ok (.getfield 11, 3) := by decide +kernel
theorem dX2_dropOldest_26 : decode cX2_dropOldest 26 = .ok (.iload_n 2, 1) := by decide +kernel
theorem dX2_dropOldest_27 : decode cX2_dropOldest 27 = .ok (.aaload, 1) := by decide +kernel
theorem dX2_dropOldest_28 : decode cX2_dropOldest 28 = .ok (.aastore, 1) := by decide +kernel
theorem dX2_dropOldest_29 : decode cX2_dropOldest 29 = .ok (.iinc 2 1, 3) := by decide +kernel
theorem dX2_dropOldest_32 : decode cX2_dropOldest 32 = .ok (.goto (-23), 3) := by decide +kernel
theorem dX2_dropOldest_35 : decode cX2_dropOldest 35 = .ok (.aload_n 0, 1) := by decide +kernel
theorem dX2_dropOldest_36 : decode cX2_dropOldest 36 = .ok (.getfield 11, 3) := by decide +kernel
theorem dX2_dropOldest_39 : decode cX2_dropOldest 39 = .ok (.bipush 7, 2) := by decide +kernel
theorem dX2_dropOldest_41 : decode cX2_dropOldest 41 = .ok (.aload_n 1, 1) := by decide +kernel
theorem dX2_dropOldest_42 : decode cX2_dropOldest 42 = .ok (.aastore, 1) := by decide +kernel
theorem dX2_dropOldest_43 : decode cX2_dropOldest 43 = .ok (.aload_n 0, 1) := by decide +kernel
theorem dX2_dropOldest_44 : decode cX2_dropOldest 44 = .ok (.bipush 7, 2) := by decide +kernel
theorem dX2_dropOldest_46 : decode cX2_dropOldest 46 = .ok (.putfield 18, 3) := by decide +kernel
theorem dX2_dropOldest_49 : decode cX2_dropOldest 49 = .ok (.return_, 1) := by decide +kernel
theorem dX2_bringBack_0 : decode cX2_bringBack 0 = .ok (.aload_n 0, 1) := by decide +kernel
theorem dX2_bringBack_1 : decode cX2_bringBack 1 = .ok (.getfield 18, 3) := by decide +kernel
theorem dX2_bringBack_4 : decode cX2_bringBack 4 = .ok (.ifCond .le 26, 3) := by decide +kernel
theorem dX2_bringBack_7 : decode cX2_bringBack 7 = .ok (.aload_n 0, 1) := by decide +kernel
theorem dX2_bringBack_8 : decode cX2_bringBack 8 = .ok (.dup, 1) := by decide +kernel
theorem dX2_bringBack_9 : decode cX2_bringBack 9 = .ok (.getfield 18, 3) := by decide +kernel
theorem dX2_bringBack_12 : decode cX2_bringBack 12 = .ok (.iconst 1, 1) := by decide +kernel
theorem dX2_bringBack_13 : decode cX2_bringBack 13 = .ok (.isub, 1) := by decide +kernel
theorem dX2_bringBack_14 : decode cX2_bringBack 14 = .ok (.putfield 18, 3) := by decide +kernel
theorem dX2_bringBack_17 : decode cX2_bringBack 17 = .ok (.aload_n 1, 1) := by decide +kernel
theorem dX2_bringBack_18 : decode cX2_bringBack 18 = .ok (.aload_n 0, 1) := by decide +kernel
theorem dX2_bringBack_19 : decode cX2_bringBack 19 = .ok (.getfield 11, 3) := by decide +kernel
theorem dX2_bringBack_22 : decode cX2_bringBack 22 = .ok (.aload_n 0, 1) := by decide +kernel
theorem dX2_bringBack_23 : decode cX2_bringBack 23 = .ok (.getfield 18, 3) := by decide +kernel
theorem dX2_bringBack_26 : decode cX2_bringBack 26 = .ok (.aaload, 1) := by decide +kernel
theorem dX2_bringBack_27 : decode cX2_bringBack 27 = .ok (.invokevirtual 25, 3) := by decide +kernel
theorem dX2_bringBack_30 : decode cX2_bringBack 30 = .ok (.return_, 1) := by decide +kernel
theorem dX2_takeFrom_0 : decode cX2_takeFrom 0 = .ok (.aload_n 0, 1) := by decide +kernel
theorem dX2_takeFrom_1 : decode cX2_takeFrom 1 = .ok (.aload_n 1, 1) := by decide +kernel
theorem dX2_takeFrom_2 : decode cX2_takeFrom 2 = .ok (.getfield 18, 3) := by decide +kernel
theorem dX2_takeFrom_5 : decode cX2_takeFrom 5 = .ok (.putfield 18, 3) := by decide +kernel
theorem dX2_takeFrom_8 : decode cX2_takeFrom 8 = .ok (.iconst 0, 1) := by decide +kernel
theorem dX2_takeFrom_9 : decode cX2_takeFrom 9 = .ok (.istore_n 2, 1) := by decide +kernel
theorem dX2_takeFrom_10 : decode cX2_takeFrom 10 = .ok (.iload_n 2, 1) := by decide +kernel
theorem dX2_takeFrom_11 : decode cX2_takeFrom 11 = .ok (.bipush 8, 2) := by decide +kernel
theorem dX2_takeFrom_13 : decode cX2_takeFrom 13 = .ok (.if_icmp .ge 24, 3) := by decide +kernel
theorem dX2_takeFrom_16 : decode cX2_takeFrom 16 = .ok (.aload_n 0, 1) := by decide +kernel
theorem dX2_takeFrom_17 : decode cX2_takeFrom 17 = .ok (.getfield 11, 3) := by decide +kernel
theorem dX2_takeFrom_20 : decode cX2_takeFrom 20 = .ok (.iload_n 2, 1) := by decide +kernel
theorem dX2_takeFrom_21 : decode cX2_takeFrom 21 = .ok (.aaload, 1) := by decide +kernel
theorem dX2_takeFrom_22 : decode cX2_takeFrom 22 = .ok (.aload_n 1, 1) := by decide +kernel
theorem dX2_takeFrom_23 : decode cX2_takeFrom 23 = .ok (.getfield 11, 3) := by decide +kernel
theorem dX2_takeFrom_26 : decode cX2_takeFrom 26 = .ok (.iload_n 2, 1) := by decide +kernel
theorem dX2_takeFrom_27 : decode cX2_takeFrom 27 = .ok (.aaload, 1) := by decide +kernel
theorem dX2_takeFrom_28 : decode cX2_takeFrom 28 = .ok (.invokevirtual 25, 3) := by decide +kernel
theorem dX2_takeFrom_31 : decode cX2_takeFrom 31 = .ok (.iinc 2 1, 3) := by decide +kernel
theorem dX2_takeFrom_34 : decode cX2_takeFrom 34 = .ok (.goto (-24), 3) := by decide +kernel
theorem dX2_takeFrom_37 : decode cX2_takeFrom 37 = .ok (.return_, 1) := by decide +kernel
theorem dX3_init_0 : decode cX3_init 0 = .ok (.aload_n 0, 1) := by decide +kernel
theorem dX3_init_1 : decode cX3_init 1 = .ok (.invokespecial 3, 3) := by decide +kernel
theorem dX3_init_4 : decode cX3_init 4 = .ok (.aload_n 0, 1) := by decide +kernel
theorem dX3_init_5 : decode cX3_init 5 = .ok (.bipush 24, 2) := by decide +kernel
theorem dX3_init_7 : decode cX3_init 7 = .ok (.newarray .long, 2) := by decide +kernel
theorem dX3_init_9 : decode cX3_init 9 = .ok (.putfield 9, 3) := by decide +kernel
theorem dX3_init_12 : decode cX3_init 12 = .ok (.return_, 1) := by decide +kernel
theorem dX3_begin_0 : decode cX3_begin 0 = .ok (.aload_n 0, 1) := by decide +kernel
theorem dX3_begin_1 : decode cX3_begin 1 = .ok (.iconst 1, 1) := by decide +kernel
theorem dX3_begin_2 : decode cX3_begin 2 = .ok (.putfield 15, 3) := by decide +kernel
theorem dX3_begin_5 : decode cX3_begin 5 = .ok (.aload_n 0, 1) := by decide +kernel
theorem dX3_begin_6 : decode cX3_begin 6 = .ok (.iload_n 1, 1) := by decide +kernel
theorem dX3_begin_7 : decode cX3_begin 7 = .ok (.putfield 19, 3) := by decide +kernel
theorem dX3_begin_10 : decode cX3_begin 10 = .ok (.aload_n 0, 1) := by decide +kernel
theorem dX3_begin_11 : decode cX3_begin 11 = .ok (.iload_n 2, 1) := by decide +kernel
theorem dX3_begin_12 : decode cX3_begin 12 = .ok (.putfield 23, 3) := by decide +kernel
theorem dX3_begin_15 : decode cX3_begin 15 = .ok (.iconst 0, 1) := by decide +kernel
theorem dX3_begin_16 : decode cX3_begin 16 = .ok (.istore_n 3, 1) := by decide +kernel
theorem dX3_begin_17 : decode cX3_begin 17 = .ok (.iload_n 3, 1) := by decide +kernel
theorem dX3_begin_18 : decode cX3_begin 18 = .ok (.bipush 24, 2) := by decide +kernel
theorem dX3_begin_20 : decode cX3_begin 20 = .ok (.if_icmp .ge 16, 3) := by decide +kernel
theorem dX3_begin_23 : decode cX3_begin 23 = .ok (.aload_n 0, 1) := by decide +kernel
theorem dX3_begin_24 : decode cX3_begin 24 = .ok (.getfield 9, 3) := by decide +kernel
theorem dX3_begin_27 : decode cX3_begin 27 = .ok (.iload_n 3, 1) := by decide +kernel
theorem dX3_begin_28 : decode cX3_begin 28 = .ok (.lconst 0, 1) := by decide +kernel
theorem dX3_begin_29 : decode cX3_begin 29 = .ok (.lastore, 1) := by decide +kernel
theorem dX3_begin_30 : decode cX3_begin 30 = .ok (.iinc 3 1, 3) := by decide +kernel
theorem dX3_begin_33 : decode cX3_begin 33 = .ok (.goto (-16), 3) := by decide +kernel
theorem dX3_begin_36 : decode cX3_begin 36 = .ok (.return_, 1) := by decide +kernel
theorem dX3_hasItems_0 : decode cX3_hasItems 0 = .ok (.iload_n 1, 1) := by decide +kernel
theorem dX3_hasItems_1 : decode cX3_hasItems 1 = .ok (.ifCond .lt 21, 3) := by decide +kernel
theorem dX3_hasItems_4 : decode cX3_hasItems 4 = .ok (.iload_n 2, 1) := by decide +kernel
theorem dX3_hasItems_5 : decode cX3_hasItems 5 = .ok (.ifCond .lt 17, 3) := by decide +kernel
theorem dX3_hasItems_8 : decode cX3_hasItems 8 = .ok (.iload_n 1, 1) := by decide +kernel
theorem dX3_hasItems_9 : decode cX3_hasItems 9 = .ok (.aload_n 0, 1) := by decide +kernel
theorem dX3_hasItems_10 : decode cX3_hasItems 10 = .ok (.getfield 23, 3) := by decide +kernel
theorem dX3_hasItems_13 : decode cX3_hasItems 13 = .ok (.iload_n 2, 1) := by decide +kernel
theorem dX3_hasItems_14 : decode cX3_hasItems 14 = .ok (.isub, 1) := by decide +kernel
theorem dX3_hasItems_15 : decode cX3_hasItems 15 = .ok (.if_icmp .gt 7, 3) := by decide +kernel
theorem dX3_hasItems_18 : decode cX3_hasItems 18 = .ok (.iconst 1, 1) := by decide +kernel
theorem dX3_hasItems_19 : decode cX3_hasItems 19 = .ok (.goto 4, 3) := by decide +kernel
theorem dX3_hasItems_22 : decode cX3_hasItems 22 = .ok (.iconst 0, 1) := by decide +kernel
theorem dX3_hasItems_23 : decode cX3_hasItems 23 = .ok (.ireturn, 1) := by decide +kernel
theorem dX3_refusal_0 : decode cX3_refusal 0 = .ok (.aload_n 0, 1) := by decide +kernel
theorem dX3_refusal_1 : decode cX3_refusal 1 = .ok (.getfield 15, 3) := by decide +kernel
theorem dX3_refusal_4 : decode cX3_refusal 4 = .ok (.ifCond .ne 6, 3) := by decide +kernel
theorem dX3_refusal_7 : decode cX3_refusal 7 = .ok (.bipush (-11), 2) := by decide +kernel
theorem dX3_refusal_9 : decode cX3_refusal 9 = .ok (.ireturn, 1) := by decide +kernel
theorem dX3_refusal_10 : decode cX3_refusal 10 = .ok (.aload_n 0, 1) := by decide +kernel
theorem dX3_refusal_11 : decode cX3_refusal 11 = .ok (.getfield 19, 3) := by decide +kernel
theorem dX3_refusal_14 : decode cX3_refusal 14 = .ok (.iload_n 1, 1) := by decide +kernel
theorem dX3_refusal_15 : decode cX3_refusal 15 = .ok (.if_icmp .eq 6, 3) := by decide +kernel
theorem dX3_refusal_18 : decode cX3_refusal 18 = .ok (.bipush (-12), 2) := by decide +kernel
theorem dX3_refusal_20 : decode cX3_refusal 20 = .ok (.ireturn, 1) := by decide +kernel
theorem dX3_refusal_21 : decode cX3_refusal 21 = .ok (.aload_n 0, 1) := by decide +kernel
theorem dX3_refusal_22 : decode cX3_refusal 22 = .ok (.iload_n 2, 1) := by decide +kernel
theorem dX3_refusal_23 : decode cX3_refusal 23 = .ok (.iload_n 3, 1) := by decide +kernel
theorem dX3_refusal_24 : decode cX3_refusal 24 = .ok (.invokevirtual 26, 3) := by decide +kernel
theorem dX3_refusal_27 : decode cX3_refusal 27 = .ok (.ifCond .eq 7, 3) := by decide +kernel
theorem dX3_refusal_30 : decode cX3_refusal 30 = .ok (.iconst 0, 1) := by decide +kernel
theorem dX3_refusal_31 : decode cX3_refusal 31 = .ok (.goto 5, 3) := by decide +kernel
theorem dX3_refusal_34 : decode cX3_refusal 34 = .ok (.bipush (-13), 2) := by decide +kernel
theorem dX3_refusal_36 : decode cX3_refusal 36 = .ok (.ireturn, 1) := by decide +kernel
theorem dX3_write_0 : decode cX3_write 0 = .ok (.aload_n 0, 1) := by decide +kernel
theorem dX3_write_1 : decode cX3_write 1 = .ok (.iload_n 1, 1) := by decide +kernel
theorem dX3_write_2 : decode cX3_write 2 = .ok (.iconst 1, 1) := by decide +kernel
theorem dX3_write_3 : decode cX3_write 3 = .ok (.invokevirtual 26, 3) := by decide +kernel
theorem dX3_write_6 : decode cX3_write 6 = .ok (.ifCond .ne 4, 3) := by decide +kernel
theorem dX3_write_9 : decode cX3_write 9 = .ok (.return_, 1) := by decide +kernel
theorem dX3_write_10 : decode cX3_write 10 = .ok (.aload_n 0, 1) := by decide +kernel
theorem dX3_write_11 : decode cX3_write 11 = .ok (.getfield 19, 3) := by decide +kernel
theorem dX3_write_14 : decode cX3_write 14 = .ok (.tableswitch 64 0 2 #[26, 39, 52], 26) := by decide +kernel
theorem dX3_write_40 : decode cX3_write 40 = .ok (.aload_n 0, 1) := by decide +kernel
theorem dX3_write_41 : decode cX3_write 41 = .ok (.getfield 9, 3) := by decide +kernel
theorem dX3_write_44 : decode cX3_write 44 = .ok (.iload_n 1, 1) := by decide +kernel
theorem dX3_write_45 : decode cX3_write 45 = .ok (.lload_n 2, 1) := by decide +kernel
theorem dX3_write_46 : decode cX3_write 46 = .ok (.l2i, 1) := by decide +kernel
theorem dX3_write_47 : decode cX3_write 47 = .ok (.i2b, 1) := by decide +kernel
theorem dX3_write_48 : decode cX3_write 48 = .ok (.i2l, 1) := by decide +kernel
theorem dX3_write_49 : decode cX3_write 49 = .ok (.lastore, 1) := by decide +kernel
theorem dX3_write_50 : decode cX3_write 50 = .ok (.goto 35, 3) := by decide +kernel
theorem dX3_write_53 : decode cX3_write 53 = .ok (.aload_n 0, 1) := by decide +kernel
theorem dX3_write_54 : decode cX3_write 54 = .ok (.getfield 9, 3) := by decide +kernel
theorem dX3_write_57 : decode cX3_write 57 = .ok (.iload_n 1, 1) := by decide +kernel
theorem dX3_write_58 : decode cX3_write 58 = .ok (.lload_n 2, 1) := by decide +kernel
theorem dX3_write_59 : decode cX3_write 59 = .ok (.l2i, 1) := by decide +kernel
theorem dX3_write_60 : decode cX3_write 60 = .ok (.i2s, 1) := by decide +kernel
theorem dX3_write_61 : decode cX3_write 61 = .ok (.i2l, 1) := by decide +kernel
theorem dX3_write_62 : decode cX3_write 62 = .ok (.lastore, 1) := by decide +kernel
theorem dX3_write_63 : decode cX3_write 63 = .ok (.goto 22, 3) := by decide +kernel
theorem dX3_write_66 : decode cX3_write 66 = .ok (.aload_n 0, 1) := by decide +kernel
theorem dX3_write_67 : decode cX3_write 67 = .ok (.getfield 9, 3) := by decide +kernel
theorem dX3_write_70 : decode cX3_write 70 = .ok (.iload_n 1, 1) := by decide +kernel
theorem dX3_write_71 : decode cX3_write 71 = .ok (.lload_n 2, 1) := by decide +kernel
theorem dX3_write_72 : decode cX3_write 72 = .ok (.l2i, 1) := by decide +kernel
theorem dX3_write_73 : decode cX3_write 73 = .ok (.i2l, 1) := by decide +kernel
theorem dX3_write_74 : decode cX3_write 74 = .ok (.lastore, 1) := by decide +kernel
theorem dX3_write_75 : decode cX3_write 75 = .ok (.goto 10, 3) := by decide +kernel
theorem dX3_write_78 : decode cX3_write 78 = .ok (.aload_n 0, 1) := by decide +kernel
theorem dX3_write_79 : decode cX3_write 79 = .ok (.getfield 9, 3) := by decide +kernel
theorem dX3_write_82 : decode cX3_write 82 = .ok (.iload_n 1, 1) := by decide +kernel
theorem dX3_write_83 : decode cX3_write 83 = .ok (.lload_n 2, 1) := by decide +kernel
theorem dX3_write_84 : decode cX3_write 84 = .ok (.lastore, 1) := by decide +kernel
theorem dX3_write_85 : decode cX3_write 85 = .ok (.return_, 1) := by decide +kernel
theorem dX4_init_0 : decode cX4_init 0 = .ok (.aload_n 0, 1) := by decide +kernel
theorem dX4_init_1 : decode cX4_init 1 = .ok (.invokespecial 3, 3) := by decide +kernel
theorem dX4_init_4 : decode cX4_init 4 = .ok (.aload_n 0, 1) := by decide +kernel
theorem dX4_init_5 : decode cX4_init 5 = .ok (.bipush 80, 2) := by decide +kernel
theorem dX4_init_7 : decode cX4_init 7 = .ok (.newarray .int, 2) := by decide +kernel
theorem dX4_init_9 : decode cX4_init 9 = .ok (.putfield 9, 3) := by decide +kernel
theorem dX4_init_12 : decode cX4_init 12 = .ok (.aload_n 0, 1) := by decide +kernel
theorem dX4_init_13 : decode cX4_init 13 = .ok (.new 15, 3) := by decide +kernel
theorem dX4_init_16 : decode cX4_init 16 = .ok (.dup, 1) := by decide +kernel
theorem dX4_init_17 : decode cX4_init 17 = .ok (.invokespecial 17, 3) := by decide +kernel
theorem dX4_init_20 : decode cX4_init 20 = .ok (.putfield 18, 3) := by decide +kernel
theorem dX4_init_23 : decode cX4_init 23 = .ok (.return_, 1) := by decide +kernel
theorem dX4_add_0 : decode cX4_add 0 = .ok (.aload_n 0, 1) := by decide +kernel
theorem dX4_add_1 : decode cX4_add 1 = .ok (.getfield 22, 3) := by decide +kernel
theorem dX4_add_4 : decode cX4_add 4 = .ok (.bipush 80, 2) := by decide +kernel
theorem dX4_add_6 : decode cX4_add 6 = .ok (.if_icmp .ge 23, 3) := by decide +kernel
theorem dX4_add_9 : decode cX4_add 9 = .ok (.aload_n 0, 1) := by decide +kernel
theorem dX4_add_10 : decode cX4_add 10 = .ok (.getfield 9, 3) := by decide +kernel
theorem dX4_add_13 : decode cX4_add 13 = .ok (.aload_n 0, 1) := by decide +kernel
theorem dX4_add_14 : decode cX4_add 14 = .ok (.getfield 22, 3) := by decide +kernel
theorem dX4_add_17 : decode cX4_add 17 = .ok (.iload_n 1, 1) := by decide +kernel
theorem dX4_add_18 : decode cX4_add 18 = .ok (.iastore, 1) := by decide +kernel
theorem dX4_add_19 : decode cX4_add 19 = .ok (.aload_n 0, 1) := by decide +kernel
theorem dX4_add_20 : decode cX4_add 20 = .ok (.dup, 1) := by decide +kernel
theorem dX4_add_21 : decode cX4_add 21 = .ok (.getfield 22, 3) := by decide +kernel
theorem dX4_add_24 : decode cX4_add 24 = .ok (.iconst 1, 1) := by decide +kernel
theorem dX4_add_25 : decode cX4_add 25 = .ok (.iadd, 1) := by decide +kernel
theorem dX4_add_26 : decode cX4_add 26 = .ok (.putfield 22, 3) := by decide +kernel
theorem dX4_add_29 : decode cX4_add 29 = .ok (.aload_n 0, 1) := by decide +kernel
theorem dX4_add_30 : decode cX4_add 30 = .ok (.getfield 22, 3) := by decide +kernel
theorem dX4_add_33 : decode cX4_add 33 = .ok (.ireturn, 1) := by decide +kernel
theorem dX4_tellLane_0 : decode cX4_tellLane 0 = .ok (.aload_n 0, 1) := by decide +kernel
theorem dX4_tellLane_1 : decode cX4_tellLane 1 = .ok (.iconst 0, 1) := by decide +kernel
theorem dX4_tellLane_2 : decode cX4_tellLane 2 = .ok (.putfield 26, 3) := by decide +kernel
theorem dX4_tellLane_5 : decode cX4_tellLane 5 = .ok (.aload_n 0, 1) := by decide +kernel
theorem dX4_tellLane_6 : decode cX4_tellLane 6 = .ok (.getfield 18, 3) := by decide +kernel
theorem dX4_tellLane_9 : decode cX4_tellLane 9 = .ok (.invokevirtual 29, 3) := by decide +kernel
theorem dX4_tellLane_12 : decode cX4_tellLane 12 = .ok (.aload_n 0, 1) := by decide +kernel
theorem dX4_tellLane_13 : decode cX4_tellLane 13 = .ok (.bipush 20, 2) := by decide +kernel
theorem dX4_tellLane_15 : decode cX4_tellLane 15 = .ok (.invokevirtual 32, 3) := by decide +kernel
theorem dX4_tellLane_18 : decode cX4_tellLane 18 = .ok (.istore_n 1, 1) := by decide +kernel
theorem dX4_tellLane_19 : decode cX4_tellLane 19 = .ok (.iload_n 1, 1) := by decide +kernel
theorem dX4_tellLane_20 : decode cX4_tellLane 20 = .ok (.ifCond .ge 5, 3) := by decide +kernel
theorem dX4_tellLane_23 : decode cX4_tellLane 23 = .ok (.iconst 0, 1) := by decide +kernel
theorem dX4_tellLane_24 : decode cX4_tellLane 24 = .ok (.ireturn, 1) := by decide +kernel
theorem dX4_tellLane_25 : decode cX4_tellLane 25 = .ok (.aload_n 0, 1) := by decide +kernel
theorem dX4_tellLane_26 : decode cX4_tellLane 26 = .ok (.getfield 18, 3) := by decide +kernel
theorem dX4_tellLane_29 : decode cX4_tellLane 29 = .ok (.iload_n 1, 1) := by decide +kernel
theorem dX4_tellLane_30 : decode cX4_tellLane 30 = .ok (.putfield 36, 3) := by decide +kernel
theorem dX4_tellLane_33 : decode cX4_tellLane 33 = .ok (.aload_n 0, 1) := by decide +kernel
theorem dX4_tellLane_34 : decode cX4_tellLane 34 = .ok (.bipush 59, 2) := by decide +kernel
theorem dX4_tellLane_36 : decode cX4_tellLane 36 = .ok (.invokevirtual 39, 3) := by decide +kernel
theorem dX4_tellLane_39 : decode cX4_tellLane 39 = .ok (.ifCond .ne 12, 3) := by decide +kernel
theorem dX4_tellLane_42 : decode cX4_tellLane 42 = .ok (.aload_n 0, 1) := by decide +kernel
theorem dX4_tellLane_43 : decode cX4_tellLane 43 = .ok (.aload_n 0, 1) := by decide +kernel
theorem dX4_tellLane_44 : decode cX4_tellLane 44 = .ok (.getfield 26, 3) := by decide +kernel
theorem dX4_tellLane_47 : decode cX4_tellLane 47 = .ok (.invokevirtual 43, 3) := by decide +kernel
theorem dX4_tellLane_50 : decode cX4_tellLane 50 = .ok (.ireturn, 1) := by decide +kernel
theorem dX4_tellLane_51 : decode cX4_tellLane 51 = .ok (.aload_n 0, 1) := by decide +kernel
theorem dX4_tellLane_52 : decode cX4_tellLane 52 = .ok (.invokevirtual 46, 3) := by decide +kernel
theorem dX4_tellLane_55 : decode cX4_tellLane 55 = .ok (.ifCond .ne 5, 3) := by decide +kernel
theorem dX4_tellLane_58 : decode cX4_tellLane 58 = .ok (.iconst 0, 1) := by decide +kernel
theorem dX4_tellLane_59 : decode cX4_tellLane 59 = .ok (.ireturn, 1) := by decide +kernel
theorem dX4_tellLane_60 : decode cX4_tellLane 60 = .ok (.aload_n 0, 1) := by decide +kernel
theorem dX4_tellLane_61 : decode cX4_tellLane 61 = .ok (.bipush 59, 2) := by decide +kernel
theorem dX4_tellLane_63 : decode cX4_tellLane 63 = .ok (.invokevirtual 39, 3) := by decide +kernel
theorem dX4_tellLane_66 : decode cX4_tellLane 66 = .ok (.ifCond .eq 12, 3) := by decide +kernel
theorem dX4_tellLane_69 : decode cX4_tellLane 69 = .ok (.aload_n 0, 1) := by decide +kernel
theorem dX4_tellLane_70 : decode cX4_tellLane 70 = .ok (.invokevirtual 50, 3) := by decide +kernel
theorem dX4_tellLane_73 : decode cX4_tellLane 73 = .ok (.ifCond .ne 5, 3) := by decide +kernel
theorem dX4_tellLane_76 : decode cX4_tellLane 76 = .ok (.iconst 0, 1) := by decide +kernel
theorem dX4_tellLane_77 : decode cX4_tellLane 77 = .ok (.ireturn, 1) := by decide +kernel
theorem dX4_tellLane_78 : decode cX4_tellLane 78 = .ok (.aload_n 0, 1) := by decide +kernel
theorem dX4_tellLane_79 : decode cX4_tellLane 79 = .ok (.invokevirtual 53, 3) := by decide +kernel
theorem dX4_tellLane_82 : decode cX4_tellLane 82 = .ok (.iconst (-1), 1) := by decide +kernel
theorem dX4_tellLane_83 : decode cX4_tellLane 83 = .ok (.if_icmp .eq 14, 3) := by decide +kernel
theorem dX4_tellLane_86 : decode cX4_tellLane 86 = .ok (.aload_n 0, 1) := by decide +kernel
theorem dX4_tellLane_87 : decode cX4_tellLane 87 = .ok (.aload_n 0, 1) := by decide +kernel
theorem dX4_tellLane_88 : decode cX4_tellLane 88 = .ok (.getfield 26, 3) := by decide +kernel
theorem dX4_tellLane_91 : decode cX4_tellLane 91 = .ok (.invokevirtual 43, 3) := by decide +kernel
theorem dX4_tellLane_94 : decode cX4_tellLane 94 = .ok (.ifCond .eq 7, 3) := by decide +kernel
theorem dX4_tellLane_97 : decode cX4_tellLane 97 = .ok (.iconst 1, 1) := by decide +kernel
theorem dX4_tellLane_98 : decode cX4_tellLane 98 = .ok (.goto 4, 3) := by decide +kernel
theorem dX4_tellLane_101 : decode cX4_tellLane 101 = .ok (.iconst 0, 1) := by decide +kernel
theorem dX4_tellLane_102 : decode cX4_tellLane 102 = .ok (.ireturn, 1) := by decide +kernel
theorem dX4_tellHouses_0 : decode cX4_tellHouses 0 = .ok (.iconst 1, 1) := by decide +kernel
theorem dX4_tellHouses_1 : decode cX4_tellHouses 1 = .ok (.istore_n 1, 1) := by decide +kernel
theorem dX4_tellHouses_2 : decode cX4_tellHouses 2 = .ok (.iload_n 1, 1) := by decide +kernel
theorem dX4_tellHouses_3 : decode cX4_tellHouses 3 = .ok (.bipush 6, 2) := by decide +kernel
theorem dX4_tellHouses_5 : decode cX4_tellHouses 5 = .ok (.if_icmp .gt 36, 3) := by decide +kernel
theorem dX4_tellHouses_8 : decode cX4_tellHouses 8 = .ok (.aload_n 0, 1) := by decide +kernel
theorem dX4_tellHouses_9 : decode cX4_tellHouses 9 = .ok (.invokevirtual 57, 3) := by decide +kernel
theorem dX4_tellHouses_12 : decode cX4_tellHouses 12 = .ok (.ifCond .ne 5, 3) := by decide +kernel
theorem dX4_tellHouses_15 : decode cX4_tellHouses 15 = .ok (.iconst 0, 1) := by decide +kernel
theorem dX4_tellHouses_16 : decode cX4_tellHouses 16 = .ok (.ireturn, 1) := by decide +kernel
theorem dX4_tellHouses_17 : decode cX4_tellHouses 17 = .ok (.iload_n 1, 1) := by decide +kernel
theorem dX4_tellHouses_18 : decode cX4_tellHouses 18 = .ok (.bipush 6, 2) := by decide +kernel
theorem dX4_tellHouses_20 : decode cX4_tellHouses 20 = .ok (.if_icmp .eq 21, 3) := by decide +kernel
theorem dX4_tellHouses_23 : decode cX4_tellHouses 23 = .ok (.aload_n 0, 1) := by decide +kernel
theorem dX4_tellHouses_24 : decode cX4_tellHouses 24 = .ok (.bipush 44, 2) := by decide +kernel
theorem dX4_tellHouses_26 : decode cX4_tellHouses 26 = .ok (.invokevirtual 39, 3) := by decide +kernel
theorem dX4_tellHouses_29 : decode cX4_tellHouses 29 = .ok (.ifCond .ne 6, 3) := by decide +kernel
theorem dX4_tellHouses_32 : decode cX4_tellHouses 32 = .ok (.goto 9, 3) := by decide +kernel
theorem dX4_tellHouses_35 : decode cX4_tellHouses 35 = .ok (.iinc 1 1, 3) := by decide +kernel
theorem dX4_tellHouses_38 : decode cX4_tellHouses 38 = .ok (.goto (-36), 3) := by decide +kernel
theorem dX4_tellHouses_41 : decode cX4_tellHouses 41 = .ok (.iconst 1, 1) := by decide +kernel
theorem dX4_tellHouses_42 : decode cX4_tellHouses 42 = .ok (.ireturn, 1) := by decide +kernel
theorem dX4_tellHouse_0 : decode cX4_tellHouse 0 = .ok (.aload_n 0, 1) := by decide +kernel
theorem dX4_tellHouse_1 : decode cX4_tellHouse 1 = .ok (.bipush 99, 2) := by decide +kernel
theorem dX4_tellHouse_3 : decode cX4_tellHouse 3 = .ok (.invokevirtual 32, 3) := by decide +kernel
theorem dX4_tellHouse_6 : decode cX4_tellHouse 6 = .ok (.istore_n 1, 1) := by decide +kernel
theorem dX4_tellHouse_7 : decode cX4_tellHouse 7 = .ok (.iload_n 1, 1) := by decide +kernel
theorem dX4_tellHouse_8 : decode cX4_tellHouse 8 = .ok (.ifCond .ge 5, 3) := by decide +kernel
theorem dX4_tellHouse_11 : decode cX4_tellHouse 11 = .ok (.iconst 0, 1) := by decide +kernel
theorem dX4_tellHouse_12 : decode cX4_tellHouse 12 = .ok (.ireturn, 1) := by decide +kernel
theorem dX4_tellHouse_13 : decode cX4_tellHouse 13 = .ok (.aload_n 0, 1) := by decide +kernel
theorem dX4_tellHouse_14 : decode cX4_tellHouse 14 = .ok (.bipush 46, 2) := by decide +kernel
theorem dX4_tellHouse_16 : decode cX4_tellHouse 16 = .ok (.invokevirtual 39, 3) := by decide +kernel
theorem dX4_tellHouse_19 : decode cX4_tellHouse 19 = .ok (.ifCond .ne 12, 3) := by decide +kernel
theorem dX4_tellHouse_22 : decode cX4_tellHouse 22 = .ok (.aload_n 0, 1) := by decide +kernel
theorem dX4_tellHouse_23 : decode cX4_tellHouse 23 = .ok (.aload_n 0, 1) := by decide +kernel
theorem dX4_tellHouse_24 : decode cX4_tellHouse 24 = .ok (.getfield 26, 3) := by decide +kernel
theorem dX4_tellHouse_27 : decode cX4_tellHouse 27 = .ok (.invokevirtual 43, 3) := by decide +kernel
theorem dX4_tellHouse_30 : decode cX4_tellHouse 30 = .ok (.ireturn, 1) := by decide +kernel
theorem dX4_tellHouse_31 : decode cX4_tellHouse 31 = .ok (.aload_n 0, 1) := by decide +kernel
theorem dX4_tellHouse_32 : decode cX4_tellHouse 32 = .ok (.bipush 20, 2) := by decide +kernel
theorem dX4_tellHouse_34 : decode cX4_tellHouse 34 = .ok (.invokevirtual 32, 3) := by decide +kernel
theorem dX4_tellHouse_37 : decode cX4_tellHouse 37 = .ok (.istore_n 2, 1) := by decide +kernel
theorem dX4_tellHouse_38 : decode cX4_tellHouse 38 = .ok (.iload_n 2, 1) := by decide +kernel
theorem dX4_tellHouse_39 : decode cX4_tellHouse 39 = .ok (.ifCond .ge 5, 3) := by decide +kernel
theorem dX4_tellHouse_42 : decode cX4_tellHouse 42 = .ok (.iconst 0, 1) := by decide +kernel
theorem dX4_tellHouse_43 : decode cX4_tellHouse 43 = .ok (.ireturn, 1) := by decide +kernel
theorem dX4_tellHouse_44 : decode cX4_tellHouse 44 = .ok (.iconst 0, 1) := by decide +kernel
theorem dX4_tellHouse_45 : decode cX4_tellHouse 45 = .ok (.istore_n 3, 1) := by decide +kernel
theorem dX4_tellHouse_46 : decode cX4_tellHouse 46 = .ok (.iload_n 3, 1) := by decide +kernel
theorem dX4_tellHouse_47 : decode cX4_tellHouse 47 = .ok (.iconst 3, 1) := by decide +kernel
theorem dX4_tellHouse_48 : decode cX4_tellHouse 48 = .ok (.if_icmp .ge 18, 3) := by decide +kernel
theorem dX4_tellHouse_51 : decode cX4_tellHouse 51 = .ok (.aload_n 0, 1) := by decide +kernel
theorem dX4_tellHouse_52 : decode cX4_tellHouse 52 = .ok (.bipush 33, 2) := by decide +kernel
theorem dX4_tellHouse_54 : decode cX4_tellHouse 54 = .ok (.invokevirtual 39, 3) := by decide +kernel
theorem dX4_tellHouse_57 : decode cX4_tellHouse 57 = .ok (.ifCond .eq 9, 3) := by decide +kernel
theorem dX4_tellHouse_60 : decode cX4_tellHouse 60 = .ok (.iinc 3 1, 3) := by decide +kernel
theorem dX4_tellHouse_63 : decode cX4_tellHouse 63 = .ok (.goto (-17), 3) := by decide +kernel
theorem dX4_tellHouse_66 : decode cX4_tellHouse 66 = .ok (.aload_n 0, 1) := by decide +kernel
theorem dX4_tellHouse_67 : decode cX4_tellHouse 67 = .ok (.getfield 18, 3) := by decide +kernel
theorem dX4_tellHouse_70 : decode cX4_tellHouse 70 = .ok (.bipush 10, 2) := by decide +kernel
theorem dX4_tellHouse_72 : decode cX4_tellHouse 72 = .ok (.iload_n 1, 1) := by decide +kernel
theorem dX4_tellHouse_73 : decode cX4_tellHouse 73 = .ok (.imul, 1) := by decide +kernel
theorem dX4_tellHouse_74 : decode cX4_tellHouse 74 = .ok (.iload_n 2, 1) := by decide +kernel
theorem dX4_tellHouse_75 : decode cX4_tellHouse 75 = .ok (.iload_n 3, 1) := by decide +kernel
theorem dX4_tellHouse_76 : decode cX4_tellHouse 76 = .ok (.invokevirtual 60, 3) := by decide +kernel
theorem dX4_tellHouse_79 : decode cX4_tellHouse 79 = .ok (.pop, 1) := by decide +kernel
theorem dX4_tellHouse_80 : decode cX4_tellHouse 80 = .ok (.iconst 1, 1) := by decide +kernel
theorem dX4_tellHouse_81 : decode cX4_tellHouse 81 = .ok (.ireturn, 1) := by decide +kernel
theorem dX4_tellHogs_0 : decode cX4_tellHogs 0 = .ok (.iconst 1, 1) := by decide +kernel
theorem dX4_tellHogs_1 : decode cX4_tellHogs 1 = .ok (.istore_n 1, 1) := by decide +kernel
theorem dX4_tellHogs_2 : decode cX4_tellHogs 2 = .ok (.iload_n 1, 1) := by decide +kernel
theorem dX4_tellHogs_3 : decode cX4_tellHogs 3 = .ok (.iconst 5, 1) := by decide +kernel
theorem dX4_tellHogs_4 : decode cX4_tellHogs 4 = .ok (.if_icmp .gt 35, 3) := by decide +kernel
theorem dX4_tellHogs_7 : decode cX4_tellHogs 7 = .ok (.aload_n 0, 1) := by decide +kernel
theorem dX4_tellHogs_8 : decode cX4_tellHogs 8 = .ok (.invokevirtual 64, 3) := by decide +kernel
theorem dX4_tellHogs_11 : decode cX4_tellHogs 11 = .ok (.ifCond .ne 5, 3) := by decide +kernel
theorem dX4_tellHogs_14 : decode cX4_tellHogs 14 = .ok (.iconst 0, 1) := by decide +kernel
theorem dX4_tellHogs_15 : decode cX4_tellHogs 15 = .ok (.ireturn, 1) := by decide +kernel
theorem dX4_tellHogs_16 : decode cX4_tellHogs 16 = .ok (.iload_n 1, 1) := by decide +kernel
theorem dX4_tellHogs_17 : decode cX4_tellHogs 17 = .ok (.iconst 5, 1) := by decide +kernel
theorem dX4_tellHogs_18 : decode cX4_tellHogs 18 = .ok (.if_icmp .eq 21, 3) := by decide +kernel
theorem dX4_tellHogs_21 : decode cX4_tellHogs 21 = .ok (.aload_n 0, 1) := by decide +kernel
theorem dX4_tellHogs_22 : decode cX4_tellHogs 22 = .ok (.bipush 44, 2) := by decide +kernel
theorem dX4_tellHogs_24 : decode cX4_tellHogs 24 = .ok (.invokevirtual 39, 3) := by decide +kernel
theorem dX4_tellHogs_27 : decode cX4_tellHogs 27 = .ok (.ifCond .ne 6, 3) := by decide +kernel
theorem dX4_tellHogs_30 : decode cX4_tellHogs 30 = .ok (.goto 9, 3) := by decide +kernel
theorem dX4_tellHogs_33 : decode cX4_tellHogs 33 = .ok (.iinc 1 1, 3) := by decide +kernel
theorem dX4_tellHogs_36 : decode cX4_tellHogs 36 = .ok (.goto (-34), 3) := by decide +kernel
theorem dX4_tellHogs_39 : decode cX4_tellHogs 39 = .ok (.iconst 1, 1) := by decide +kernel
theorem dX4_tellHogs_40 : decode cX4_tellHogs 40 = .ok (.ireturn, 1) := by decide +kernel
theorem dX4_tellHog_0 : decode cX4_tellHog 0 = .ok (.aload_n 0, 1) := by decide +kernel
theorem dX4_tellHog_1 : decode cX4_tellHog 1 = .ok (.invokevirtual 53, 3) := by decide +kernel
theorem dX4_tellHog_4 : decode cX4_tellHog 4 = .ok (.invokestatic 67, 3) := by decide +kernel
theorem dX4_tellHog_7 : decode cX4_tellHog 7 = .ok (.istore_n 1, 1) := by decide +kernel
theorem dX4_tellHog_8 : decode cX4_tellHog 8 = .ok (.iload_n 1, 1) := by decide +kernel
theorem dX4_tellHog_9 : decode cX4_tellHog 9 = .ok (.ifCond .ge 12, 3) := by decide +kernel
theorem dX4_tellHog_12 : decode cX4_tellHog 12 = .ok (.aload_n 0, 1) := by decide +kernel
theorem dX4_tellHog_13 : decode cX4_tellHog 13 = .ok (.aload_n 0, 1) := by decide +kernel
theorem dX4_tellHog_14 : decode cX4_tellHog 14 = .ok (.getfield 26, 3) := by decide +kernel
theorem dX4_tellHog_17 : decode cX4_tellHog 17 = .ok (.invokevirtual 43, 3) := by decide +kernel
theorem dX4_tellHog_20 : decode cX4_tellHog 20 = .ok (.ireturn, 1) := by decide +kernel
theorem dX4_tellHog_21 : decode cX4_tellHog 21 = .ok (.aload_n 0, 1) := by decide +kernel
theorem dX4_tellHog_22 : decode cX4_tellHog 22 = .ok (.dup, 1) := by decide +kernel
theorem dX4_tellHog_23 : decode cX4_tellHog 23 = .ok (.getfield 26, 3) := by decide +kernel
theorem dX4_tellHog_26 : decode cX4_tellHog 26 = .ok (.iconst 1, 1) := by decide +kernel
theorem dX4_tellHog_27 : decode cX4_tellHog 27 = .ok (.iadd, 1) := by decide +kernel
theorem dX4_tellHog_28 : decode cX4_tellHog 28 = .ok (.putfield 26, 3) := by decide +kernel
theorem dX4_tellHog_31 : decode cX4_tellHog 31 = .ok (.aload_n 0, 1) := by decide +kernel
theorem dX4_tellHog_32 : decode cX4_tellHog 32 = .ok (.invokevirtual 53, 3) := by decide +kernel
theorem dX4_tellHog_35 : decode cX4_tellHog 35 = .ok (.bipush 48, 2) := by decide +kernel
theorem dX4_tellHog_37 : decode cX4_tellHog 37 = .ok (.isub, 1) := by decide +kernel
theorem dX4_tellHog_38 : decode cX4_tellHog 38 = .ok (.istore_n 2, 1) := by decide +kernel
theorem dX4_tellHog_39 : decode cX4_tellHog 39 = .ok (.iload_n 2, 1) := by decide +kernel
theorem dX4_tellHog_40 : decode cX4_tellHog 40 = .ok (.iconst 1, 1) := by decide +kernel
theorem dX4_tellHog_41 : decode cX4_tellHog 41 = .ok (.if_icmp .lt 9, 3) := by decide +kernel
theorem dX4_tellHog_44 : decode cX4_tellHog 44 = .ok (.iload_n 2, 1) := by decide +kernel
theorem dX4_tellHog_45 : decode cX4_tellHog 45 = .ok (.bipush 9, 2) := by decide +kernel
theorem dX4_tellHog_47 : decode cX4_tellHog 47 = .ok (.if_icmp .le 12, 3) := by decide +kernel
theorem dX4_tellHog_50 : decode cX4_tellHog 50 = .ok (.aload_n 0, 1) := by decide +kernel
theorem dX4_tellHog_51 : decode cX4_tellHog 51 = .ok (.aload_n 0, 1) := by decide +kernel
theorem dX4_tellHog_52 : decode cX4_tellHog 52 = .ok (.getfield 26, 3) := by decide +kernel
theorem dX4_tellHog_55 : decode cX4_tellHog 55 = .ok (.invokevirtual 43, 3) := by decide +kernel
theorem dX4_tellHog_58 : decode cX4_tellHog 58 = .ok (.ireturn, 1) := by decide +kernel
theorem dX4_tellHog_59 : decode cX4_tellHog 59 = .ok (.aload_n 0, 1) := by decide +kernel
theorem dX4_tellHog_60 : decode cX4_tellHog 60 = .ok (.dup, 1) := by decide +kernel
theorem dX4_tellHog_61 : decode cX4_tellHog 61 = .ok (.getfield 26, 3) := by decide +kernel
theorem dX4_tellHog_64 : decode cX4_tellHog 64 = .ok (.iconst 1, 1) := by decide +kernel
theorem dX4_tellHog_65 : decode cX4_tellHog 65 = .ok (.iadd, 1) := by decide +kernel
theorem dX4_tellHog_66 : decode cX4_tellHog 66 = .ok (.putfield 26, 3) := by decide +kernel
theorem dX4_tellHog_69 : decode cX4_tellHog 69 = .ok (.iconst 0, 1) := by decide +kernel
theorem dX4_tellHog_70 : decode cX4_tellHog 70 = .ok (.istore_n 3, 1) := by decide +kernel
theorem dX4_tellHog_71 : decode cX4_tellHog 71 = .ok (.aload_n 0, 1) := by decide +kernel
theorem dX4_tellHog_72 : decode cX4_tellHog 72 = .ok (.bipush 64, 2) := by decide +kernel
theorem dX4_tellHog_74 : decode cX4_tellHog 74 = .ok (.invokevirtual 39, 3) := by decide +kernel
theorem dX4_tellHog_77 : decode cX4_tellHog 77 = .ok (.ifCond .eq 41, 3) := by decide +kernel
theorem dX4_tellHog_80 : decode cX4_tellHog 80 = .ok (.aload_n 0, 1) := by decide +kernel
theorem dX4_tellHog_81 : decode cX4_tellHog 81 = .ok (.invokevirtual 53, 3) := by decide +kernel
theorem dX4_tellHog_84 : decode cX4_tellHog 84 = .ok (.bipush 48, 2) := by decide +kernel
theorem dX4_tellHog_86 : decode cX4_tellHog 86 = .ok (.isub, 1) := by decide +kernel
theorem dX4_tellHog_87 : decode cX4_tellHog 87 = .ok (.istore_n 3, 1) := by decide +kernel
theorem dX4_tellHog_88 : decode cX4_tellHog 88 = .ok (.aload_n 0, 1) := by decide +kernel
theorem dX4_tellHog_89 : decode cX4_tellHog 89 = .ok (.getfield 18, 3) := by decide +kernel
theorem dX4_tellHog_92 : decode cX4_tellHog 92 = .ok (.iload_n 3, 1) := by decide +kernel
theorem dX4_tellHog_93 : decode cX4_tellHog 93 = .ok (.invokevirtual 70, 3) := by decide +kernel
theorem dX4_tellHog_96 : decode cX4_tellHog 96 = .ok (.ifCond .ne 12, 3) := by decide +kernel
theorem dX4_tellHog_99 : decode cX4_tellHog 99 = .ok (.aload_n 0, 1) := by decide +kernel
theorem dX4_tellHog_100 : decode cX4_tellHog 100 = .ok (.aload_n 0, 1) := by decide +kernel
theorem dX4_tellHog_101 : decode cX4_tellHog 101 = .ok (.getfield 26, 3) := by decide +kernel
theorem dX4_tellHog_104 : decode cX4_tellHog 104 = .ok (.invokevirtual 43, 3) := by decide +kernel
theorem dX4_tellHog_107 : decode cX4_tellHog 107 = .ok (.ireturn, 1) := by decide +kernel
theorem dX4_tellHog_108 : decode cX4_tellHog 108 = .ok (.aload_n 0, 1) := by decide +kernel
theorem dX4_tellHog_109 : decode cX4_tellHog 109 = .ok (.dup, 1) := by decide +kernel
theorem dX4_tellHog_110 : decode cX4_tellHog 110 = .ok (.getfield 26, 3) := by decide +kernel
theorem dX4_tellHog_113 : decode cX4_tellHog 113 = .ok (.iconst 1, 1) := by decide +kernel
theorem dX4_tellHog_114 : decode cX4_tellHog 114 = .ok (.iadd, 1) := by decide +kernel
theorem dX4_tellHog_115 : decode cX4_tellHog 115 = .ok (.putfield 26, 3) := by decide +kernel
theorem dX4_tellHog_118 : decode cX4_tellHog 118 = .ok (.aload_n 0, 1) := by decide +kernel
theorem dX4_tellHog_119 : decode cX4_tellHog 119 = .ok (.getfield 18, 3) := by decide +kernel
theorem dX4_tellHog_122 : decode cX4_tellHog 122 = .ok (.iload_n 1, 1) := by decide +kernel
theorem dX4_tellHog_123 : decode cX4_tellHog 123 = .ok (.iload_n 2, 1) := by decide +kernel
theorem dX4_tellHog_124 : decode cX4_tellHog 124 = .ok (.iload_n 3, 1) := by decide +kernel
theorem dX4_tellHog_125 : decode cX4_tellHog 125 = .ok (.invokevirtual 73, 3) := by decide +kernel
theorem dX4_tellHog_128 : decode cX4_tellHog 128 = .ok (.pop, 1) := by decide +kernel
theorem dX4_tellHog_129 : decode cX4_tellHog 129 = .ok (.iconst 1, 1) := by decide +kernel
theorem dX4_tellHog_130 : decode cX4_tellHog 130 = .ok (.ireturn, 1) := by decide +kernel
theorem dX4_kindOf_0 : decode cX4_kindOf 0 = .ok (.iload_n 0, 1) := by decide +kernel
theorem dX4_kindOf_1 : decode cX4_kindOf 1 = .ok (.lookupswitch 61 #[(102, 57), (103, 53), (112, 51), (115, 55), (121, 59)], 51) := by decide +kernel
theorem dX4_kindOf_52 : decode cX4_kindOf 52 = .ok (.iconst 0, 1) := by decide +kernel
theorem dX4_kindOf_53 : decode cX4_kindOf 53 = .ok (.ireturn, 1) := by decide +kernel
theorem dX4_kindOf_54 : decode cX4_kindOf 54 = .ok (.iconst 1, 1) := by decide +kernel
theorem dX4_kindOf_55 : decode cX4_kindOf 55 = .ok (.ireturn, 1) := by decide +kernel
theorem dX4_kindOf_56 : decode cX4_kindOf 56 = .ok (.iconst 2, 1) := by decide +kernel
theorem dX4_kindOf_57 : decode cX4_kindOf 57 = .ok (.ireturn, 1) := by decide +kernel
theorem dX4_kindOf_58 : decode cX4_kindOf 58 = .ok (.iconst 3, 1) := by decide +kernel
theorem dX4_kindOf_59 : decode cX4_kindOf 59 = .ok (.ireturn, 1) := by decide +kernel
theorem dX4_kindOf_60 : decode cX4_kindOf 60 = .ok (.iconst 4, 1) := by decide +kernel
theorem dX4_kindOf_61 : decode cX4_kindOf 61 = .ok (.ireturn, 1) := by decide +kernel
theorem dX4_kindOf_62 : decode cX4_kindOf 62 = .ok (.iconst (-1), 1) := by decide +kernel
theorem dX4_kindOf_63 : decode cX4_kindOf 63 = .ok (.ireturn, 1) := by decide +kernel
theorem dX4_number_0 : decode cX4_number 0 = .ok (.aload_n 0, 1) := by decide +kernel
theorem dX4_number_1 : decode cX4_number 1 = .ok (.invokevirtual 53, 3) := by decide +kernel
theorem dX4_number_4 : decode cX4_number 4 = .ok (.invokestatic 76, 3) := by decide +kernel
theorem dX4_number_7 : decode cX4_number 7 = .ok (.ifCond .ne 14, 3) := by decide +kernel
theorem dX4_number_10 : decode cX4_number 10 = .ok (.aload_n 0, 1) := by decide +kernel
theorem dX4_number_11 : decode cX4_number 11 = .ok (.aload_n 0, 1) := by decide +kernel
theorem dX4_number_12 : decode cX4_number 12 = .ok (.getfield 26, 3) := by decide +kernel
theorem dX4_number_15 : decode cX4_number 15 = .ok (.invokevirtual 43, 3) := by decide +kernel
theorem dX4_number_18 : decode cX4_number 18 = .ok (.pop, 1) := by decide +kernel
theorem dX4_number_19 : decode cX4_number 19 = .ok (.iconst (-1), 1) := by decide +kernel
theorem dX4_number_20 : decode cX4_number 20 = .ok (.ireturn, 1) := by decide +kernel
theorem dX4_number_21 : decode cX4_number 21 = .ok (.aload_n 0, 1) := by decide +kernel
theorem dX4_number_22 : decode cX4_number 22 = .ok (.getfield 26, 3) := by decide +kernel
theorem dX4_number_25 : decode cX4_number 25 = .ok (.istore_n 2, 1) := by decide +kernel
theorem dX4_number_26 : decode cX4_number 26 = .ok (.iconst 0, 1) := by decide +kernel
theorem dX4_number_27 : decode cX4_number 27 = .ok (.istore_n 3, 1) := by decide +kernel
theorem dX4_number_28 : decode cX4_number 28 = .ok (.iconst 0, 1) := by decide +kernel
theorem dX4_number_29 : decode cX4_number 29 = .ok (.istore 4, 2) := by decide +kernel
theorem dX4_number_31 : decode cX4_number 31 = .ok (.iload 4, 2) := by decide +kernel
theorem dX4_number_33 : decode cX4_number 33 = .ok (.iconst 2, 1) := by decide +kernel
theorem dX4_number_34 : decode cX4_number 34 = .ok (.if_icmp .ge 63, 3) := by decide +kernel
theorem dX4_number_37 : decode cX4_number 37 = .ok (.aload_n 0, 1) := by decide +kernel
theorem dX4_number_38 : decode cX4_number 38 = .ok (.getfield 26, 3) := by decide +kernel
theorem dX4_number_41 : decode cX4_number 41 = .ok (.aload_n 0, 1) := by decide +kernel
theorem dX4_number_42 : decode cX4_number 42 = .ok (.getfield 22, 3) := by decide +kernel
theorem dX4_number_45 : decode cX4_number 45 = .ok (.if_icmp .ge 52, 3) := by decide +kernel
theorem dX4_number_48 : decode cX4_number 48 = .ok (.aload_n 0, 1) := by decide +kernel
theorem dX4_number_49 : decode cX4_number 49 = .ok (.getfield 9, 3) := by decide +kernel
theorem dX4_number_52 : decode cX4_number 52 = .ok (.aload_n 0, 1) := by decide +kernel
theorem dX4_number_53 : decode cX4_number 53 = .ok (.getfield 26, 3) := by decide +kernel
theorem dX4_number_56 : decode cX4_number 56 = .ok (.iaload, 1) := by decide +kernel
theorem dX4_number_57 : decode cX4_number 57 = .ok (.invokestatic 76, 3) := by decide +kernel
theorem dX4_number_60 : decode cX4_number 60 = .ok (.ifCond .eq 37, 3) := by decide +kernel
theorem dX4_number_63 : decode cX4_number 63 = .ok (.bipush 10, 2) := by decide +kernel
theorem dX4_number_65 : decode cX4_number 65 = .ok (.iload_n 3, 1) := by decide +kernel
theorem dX4_number_66 : decode cX4_number 66 = .ok (.imul, 1) := by decide +kernel
theorem dX4_number_67 : decode cX4_number 67 = .ok (.aload_n 0, 1) := by decide +kernel
theorem dX4_number_68 : decode cX4_number 68 = .ok (.getfield 9, 3) := by decide +kernel
theorem dX4_number_71 : decode cX4_number 71 = .ok (.aload_n 0, 1) := by decide +kernel
theorem dX4_number_72 : decode cX4_number 72 = .ok (.getfield 26, 3) := by decide +kernel
theorem dX4_number_75 : decode cX4_number 75 = .ok (.iaload, 1) := by decide +kernel
theorem dX4_number_76 : decode cX4_number 76 = .ok (.iadd, 1) := by decide +kernel
theorem dX4_number_77 : decode cX4_number 77 = .ok (.bipush 48, 2) := by decide +kernel
theorem dX4_number_79 : decode cX4_number 79 = .ok (.isub, 1) := by decide +kernel
theorem dX4_number_80 : decode cX4_number 80 = .ok (.istore_n 3, 1) := by decide +kernel
theorem dX4_number_81 : decode cX4_number 81 = .ok (.aload_n 0, 1) := by decide +kernel
theorem dX4_number_82 : decode cX4_number 82 = .ok (.dup, 1) := by decide +kernel
theorem dX4_number_83 : decode cX4_number 83 = .ok (.getfield 26, 3) := by decide +kernel
theorem dX4_number_86 : decode cX4_number 86 = .ok (.iconst 1, 1) := by decide +kernel
theorem dX4_number_87 : decode cX4_number 87 = .ok (.iadd, 1) := by decide +kernel
theorem dX4_number_88 : decode cX4_number 88 = .ok (.putfield 26, 3) := by decide +kernel
theorem dX4_number_91 : decode cX4_number 91 = .ok (.iinc 4 1, 3) := by decide +kernel
theorem dX4_number_94 : decode cX4_number 94 = .ok (.goto (-63), 3) := by decide +kernel
theorem dX4_number_97 : decode cX4_number 97 = .ok (.iload_n 3, 1) := by decide +kernel
theorem dX4_number_98 : decode cX4_number 98 = .ok (.iload_n 1, 1) := by decide +kernel
theorem dX4_number_99 : decode cX4_number 99 = .ok (.if_icmp .le 11, 3) := by decide +kernel
theorem dX4_number_102 : decode cX4_number 102 = .ok (.aload_n 0, 1) := by decide +kernel
theorem dX4_number_103 : decode cX4_number 103 = .ok (.iload_n 2, 1) := by decide +kernel
theorem dX4_number_104 : decode cX4_number 104 = .ok (.invokevirtual 43, 3) := by decide +kernel
theorem dX4_number_107 : decode cX4_number 107 = .ok (.pop, 1) := by decide +kernel
theorem dX4_number_108 : decode cX4_number 108 = .ok (.iconst (-1), 1) := by decide +kernel
theorem dX4_number_109 : decode cX4_number 109 = .ok (.ireturn, 1) := by decide +kernel
theorem dX4_number_110 : decode cX4_number 110 = .ok (.iload_n 3, 1) := by decide +kernel
theorem dX4_number_111 : decode cX4_number 111 = .ok (.ireturn, 1) := by decide +kernel
theorem dX4_isDigit_0 : decode cX4_isDigit 0 = .ok (.iload_n 0, 1) := by decide +kernel
theorem dX4_isDigit_1 : decode cX4_isDigit 1 = .ok (.bipush 48, 2) := by decide +kernel
theorem dX4_isDigit_3 : decode cX4_isDigit 3 = .ok (.if_icmp .lt 13, 3) := by decide +kernel
theorem dX4_isDigit_6 : decode cX4_isDigit 6 = .ok (.iload_n 0, 1) := by decide +kernel
theorem dX4_isDigit_7 : decode cX4_isDigit 7 = .ok (.bipush 57, 2) := by decide +kernel
theorem dX4_isDigit_9 : decode cX4_isDigit 9 = .ok (.if_icmp .gt 7, 3) := by decide +kernel
theorem dX4_isDigit_12 : decode cX4_isDigit 12 = .ok (.iconst 1, 1) := by decide +kernel
theorem dX4_isDigit_13 : decode cX4_isDigit 13 = .ok (.goto 4, 3) := by decide +kernel
theorem dX4_isDigit_16 : decode cX4_isDigit 16 = .ok (.iconst 0, 1) := by decide +kernel
theorem dX4_isDigit_17 : decode cX4_isDigit 17 = .ok (.ireturn, 1) := by decide +kernel
theorem dX4_look_0 : decode cX4_look 0 = .ok (.aload_n 0, 1) := by decide +kernel
theorem dX4_look_1 : decode cX4_look 1 = .ok (.getfield 26, 3) := by decide +kernel
theorem dX4_look_4 : decode cX4_look 4 = .ok (.aload_n 0, 1) := by decide +kernel
theorem dX4_look_5 : decode cX4_look 5 = .ok (.getfield 22, 3) := by decide +kernel
theorem dX4_look_8 : decode cX4_look 8 = .ok (.if_icmp .ge 30, 3) := by decide +kernel
theorem dX4_look_11 : decode cX4_look 11 = .ok (.aload_n 0, 1) := by decide +kernel
theorem dX4_look_12 : decode cX4_look 12 = .ok (.getfield 9, 3) := by decide +kernel
theorem dX4_look_15 : decode cX4_look 15 = .ok (.aload_n 0, 1) := by decide +kernel
theorem dX4_look_16 : decode cX4_look 16 = .ok (.getfield 26, 3) := by decide +kernel
theorem dX4_look_19 : decode cX4_look 19 = .ok (.iaload, 1) := by decide +kernel
theorem dX4_look_20 : decode cX4_look 20 = .ok (.bipush 32, 2) := by decide +kernel
theorem dX4_look_22 : decode cX4_look 22 = .ok (.if_icmp .ne 16, 3) := by decide +kernel
theorem dX4_look_25 : decode cX4_look 25 = .ok (.aload_n 0, 1) := by decide +kernel
theorem dX4_look_26 : decode cX4_look 26 = .ok (.dup, 1) := by decide +kernel
theorem dX4_look_27 : decode cX4_look 27 = .ok (.getfield 26, 3) := by decide +kernel
theorem dX4_look_30 : decode cX4_look 30 = .ok (.iconst 1, 1) := by decide +kernel
theorem dX4_look_31 : decode cX4_look 31 = .ok (.iadd, 1) := by decide +kernel
theorem dX4_look_32 : decode cX4_look 32 = .ok (.putfield 26, 3) := by decide +kernel
theorem dX4_look_35 : decode cX4_look 35 = .ok (.goto (-35), 3) := by decide +kernel
theorem dX4_look_38 : decode cX4_look 38 = .ok (.aload_n 0, 1) := by decide +kernel
theorem dX4_look_39 : decode cX4_look 39 = .ok (.getfield 26, 3) := by decide +kernel
theorem dX4_look_42 : decode cX4_look 42 = .ok (.aload_n 0, 1) := by decide +kernel
theorem dX4_look_43 : decode cX4_look 43 = .ok (.getfield 22, 3) := by decide +kernel
theorem dX4_look_46 : decode cX4_look 46 = .ok (.if_icmp .ge 15, 3) := by decide +kernel
theorem dX4_look_49 : decode cX4_look 49 = .ok (.aload_n 0, 1) := by decide +kernel
theorem dX4_look_50 : decode cX4_look 50 = .ok (.getfield 9, 3) := by decide +kernel
theorem dX4_look_53 : decode cX4_look 53 = .ok (.aload_n 0, 1) := by decide +kernel
theorem dX4_look_54 : decode cX4_look 54 = .ok (.getfield 26, 3) := by decide +kernel
theorem dX4_look_57 : decode cX4_look 57 = .ok (.iaload, 1) := by decide +kernel
theorem dX4_look_58 : decode cX4_look 58 = .ok (.goto 4, 3) := by decide +kernel
theorem dX4_look_61 : decode cX4_look 61 = .ok (.iconst (-1), 1) := by decide +kernel
theorem dX4_look_62 : decode cX4_look 62 = .ok (.ireturn, 1) := by decide +kernel
theorem dX4_takes_0 : decode cX4_takes 0 = .ok (.aload_n 0, 1) := by decide +kernel
theorem dX4_takes_1 : decode cX4_takes 1 = .ok (.invokevirtual 53, 3) := by decide +kernel
theorem dX4_takes_4 : decode cX4_takes 4 = .ok (.iload_n 1, 1) := by decide +kernel
theorem dX4_takes_5 : decode cX4_takes 5 = .ok (.if_icmp .eq 5, 3) := by decide +kernel
theorem dX4_takes_8 : decode cX4_takes 8 = .ok (.iconst 0, 1) := by decide +kernel
theorem dX4_takes_9 : decode cX4_takes 9 = .ok (.ireturn, 1) := by decide +kernel
theorem dX4_takes_10 : decode cX4_takes 10 = .ok (.aload_n 0, 1) := by decide +kernel
theorem dX4_takes_11 : decode cX4_takes 11 = .ok (.dup, 1) := by decide +kernel
theorem dX4_takes_12 : decode cX4_takes 12 = .ok (.getfield 26, 3) := by decide +kernel
theorem dX4_takes_15 : decode cX4_takes 15 = .ok (.iconst 1, 1) := by decide +kernel
theorem dX4_takes_16 : decode cX4_takes 16 = .ok (.iadd, 1) := by decide +kernel
theorem dX4_takes_17 : decode cX4_takes 17 = .ok (.putfield 26, 3) := by decide +kernel
theorem dX4_takes_20 : decode cX4_takes 20 = .ok (.iconst 1, 1) := by decide +kernel
theorem dX4_takes_21 : decode cX4_takes 21 = .ok (.ireturn, 1) := by decide +kernel
theorem dX4_faultAt_0 : decode cX4_faultAt 0 = .ok (.aload_n 0, 1) := by decide +kernel
theorem dX4_faultAt_1 : decode cX4_faultAt 1 = .ok (.bipush (-20), 2) := by decide +kernel
theorem dX4_faultAt_3 : decode cX4_faultAt 3 = .ok (.iload_n 1, 1) := by decide +kernel
theorem dX4_faultAt_4 : decode cX4_faultAt 4 = .ok (.isub, 1) := by decide +kernel
theorem dX4_faultAt_5 : decode cX4_faultAt 5 = .ok (.putfield 79, 3) := by decide +kernel
theorem dX4_faultAt_8 : decode cX4_faultAt 8 = .ok (.iconst 0, 1) := by decide +kernel
theorem dX4_faultAt_9 : decode cX4_faultAt 9 = .ok (.ireturn, 1) := by decide +kernel
theorem dX5_init_0 : decode cX5_init 0 = .ok (.aload_n 0, 1) := by decide +kernel
theorem dX5_init_1 : decode cX5_init 1 = .ok (.invokespecial 1, 3) := by decide +kernel
theorem dX5_init_4 : decode cX5_init 4 = .ok (.aload_n 0, 1) := by decide +kernel
theorem dX5_init_5 : decode cX5_init 5 = .ok (.new 7, 3) := by decide +kernel
theorem dX5_init_8 : decode cX5_init 8 = .ok (.dup, 1) := by decide +kernel
theorem dX5_init_9 : decode cX5_init 9 = .ok (.invokespecial 9, 3) := by decide +kernel
theorem dX5_init_12 : decode cX5_init 12 = .ok (.putfield 10, 3) := by decide +kernel
theorem dX5_init_15 : decode cX5_init 15 = .ok (.aload_n 0, 1) := by decide +kernel
theorem dX5_init_16 : decode cX5_init 16 = .ok (.new 7, 3) := by decide +kernel
theorem dX5_init_19 : decode cX5_init 19 = .ok (.dup, 1) := by decide +kernel
theorem dX5_init_20 : decode cX5_init 20 = .ok (.invokespecial 9, 3) := by decide +kernel
theorem dX5_init_23 : decode cX5_init 23 = .ok (.putfield 16, 3) := by decide +kernel
theorem dX5_init_26 : decode cX5_init 26 = .ok (.aload_n 0, 1) := by decide +kernel
theorem dX5_init_27 : decode cX5_init 27 = .ok (.new 19, 3) := by decide +kernel
theorem dX5_init_30 : decode cX5_init 30 = .ok (.dup, 1) := by decide +kernel
theorem dX5_init_31 : decode cX5_init 31 = .ok (.invokespecial 21, 3) := by decide +kernel
theorem dX5_init_34 : decode cX5_init 34 = .ok (.putfield 22, 3) := by decide +kernel
theorem dX5_init_37 : decode cX5_init 37 = .ok (.aload_n 0, 1) := by decide +kernel
theorem dX5_init_38 : decode cX5_init 38 = .ok (.new 26, 3) := by decide +kernel
theorem dX5_init_41 : decode cX5_init 41 = .ok (.dup, 1) := by decide +kernel
theorem dX5_init_42 : decode cX5_init 42 = .ok (.invokespecial 28, 3) := by decide +kernel
theorem dX5_init_45 : decode cX5_init 45 = .ok (.putfield 29, 3) := by decide +kernel
theorem dX5_init_48 : decode cX5_init 48 = .ok (.aload_n 0, 1) := by decide +kernel
theorem dX5_init_49 : decode cX5_init 49 = .ok (.new 33, 3) := by decide +kernel
theorem dX5_init_52 : decode cX5_init 52 = .ok (.dup, 1) := by decide +kernel
theorem dX5_init_53 : decode cX5_init 53 = .ok (.invokespecial 35, 3) := by decide +kernel
theorem dX5_init_56 : decode cX5_init 56 = .ok (.putfield 36, 3) := by decide +kernel
theorem dX5_init_59 : decode cX5_init 59 = .ok (.aload_n 0, 1) := by decide +kernel
theorem dX5_init_60 : decode cX5_init 60 = .ok (.iconst 4, 1) := by decide +kernel
theorem dX5_init_61 : decode cX5_init 61 = .ok (.anewarray 40, 3) := by decide +kernel
theorem dX5_init_64 : decode cX5_init 64 = .ok (.putfield 42, 3) := by decide +kernel
theorem dX5_init_67 : decode cX5_init 67 = .ok (.iconst 0, 1) := by decide +kernel
theorem dX5_init_68 : decode cX5_init 68 = .ok (.istore_n 1, 1) := by decide +kernel
theorem dX5_init_69 : decode cX5_init 69 = .ok (.iload_n 1, 1) := by decide +kernel
theorem dX5_init_70 : decode cX5_init 70 = .ok (.iconst 4, 1) := by decide +kernel
end
section
theorem dX5_init_71 : decode cX5_init 71 = .ok (.if_icmp .ge 22, 3) := by decide +kernel
theorem dX5_init_74 : decode cX5_init 74 = .ok (.aload_n 0, 1) := by decide +kernel
theorem dX5_init_75 : decode cX5_init 75 = .ok (.getfield 42, 3) := by decide +kernel
theorem dX5_init_78 : decode cX5_init 78 = .ok (.iload_n 1, 1) := by decide +kernel
theorem dX5_init_79 : decode cX5_init 79 = .ok (.new 40, 3) := by decide +kernel
theorem dX5_init_82 : decode cX5_init 82 = .ok (.dup, 1) := by decide +kernel
theorem dX5_init_83 : decode cX5_init 83 = .ok (.invokespecial 46, 3) := by decide +kernel
theorem dX5_init_86 : decode cX5_init 86 = .ok (.aastore, 1) := by decide +kernel
theorem dX5_init_87 : decode cX5_init 87 = .ok (.iinc 1 1, 3) := by decide +kernel
theorem dX5_init_90 : decode cX5_init 90 = .ok (.goto (-21), 3) := by decide +kernel
theorem dX5_init_93 : decode cX5_init 93 = .ok (.aload_n 0, 1) := by decide +kernel
theorem dX5_init_94 : decode cX5_init 94 = .ok (.new 7, 3) := by decide +kernel
theorem dX5_init_97 : decode cX5_init 97 = .ok (.dup, 1) := by decide +kernel
theorem dX5_init_98 : decode cX5_init 98 = .ok (.invokespecial 9, 3) := by decide +kernel
theorem dX5_init_101 : decode cX5_init 101 = .ok (.putfield 47, 3) := by decide +kernel
theorem dX5_init_104 : decode cX5_init 104 = .ok (.aload_n 0, 1) := by decide +kernel
theorem dX5_init_105 : decode cX5_init 105 = .ok (.new 19, 3) := by decide +kernel
theorem dX5_init_108 : decode cX5_init 108 = .ok (.dup, 1) := by decide +kernel
theorem dX5_init_109 : decode cX5_init 109 = .ok (.invokespecial 21, 3) := by decide +kernel
theorem dX5_init_112 : decode cX5_init 112 = .ok (.putfield 50, 3) := by decide +kernel
theorem dX5_init_115 : decode cX5_init 115 = .ok (.aload_n 0, 1) := by decide +kernel
theorem dX5_init_116 : decode cX5_init 116 = .ok (.iconst 0, 1) := by decide +kernel
theorem dX5_init_117 : decode cX5_init 117 = .ok (.putfield 53, 3) := by decide +kernel
theorem dX5_init_120 : decode cX5_init 120 = .ok (.return_, 1) := by decide +kernel
theorem dX5_house_0 : decode cX5_house 0 = .ok (.iload_n 1, 1) := by decide +kernel
theorem dX5_house_1 : decode cX5_house 1 = .ok (.iconst 0, 1) := by decide +kernel
theorem dX5_house_2 : decode cX5_house 2 = .ok (.sipush 9999, 3) := by decide +kernel
theorem dX5_house_5 : decode cX5_house 5 = .ok (.invokestatic 57, 3) := by decide +kernel
theorem dX5_house_8 : decode cX5_house 8 = .ok (.ifCond .eq 13, 3) := by decide +kernel
theorem dX5_house_11 : decode cX5_house 11 = .ok (.iload_n 2, 1) := by decide +kernel
theorem dX5_house_12 : decode cX5_house 12 = .ok (.iconst 0, 1) := by decide +kernel
theorem dX5_house_13 : decode cX5_house 13 = .ok (.bipush 20, 2) := by decide +kernel
theorem dX5_house_15 : decode cX5_house 15 = .ok (.invokestatic 57, 3) := by decide +kernel
theorem dX5_house_18 : decode cX5_house 18 = .ok (.ifCond .ne 5, 3) := by decide +kernel
theorem dX5_house_21 : decode cX5_house 21 = .ok (.iconst (-1), 1) := by decide +kernel
theorem dX5_house_22 : decode cX5_house 22 = .ok (.ireturn, 1) := by decide +kernel
theorem dX5_house_23 : decode cX5_house 23 = .ok (.aload_n 0, 1) := by decide +kernel
theorem dX5_house_24 : decode cX5_house 24 = .ok (.getfield 10, 3) := by decide +kernel
theorem dX5_house_27 : decode cX5_house 27 = .ok (.getfield 61, 3) := by decide +kernel
theorem dX5_house_30 : decode cX5_house 30 = .ok (.bipush 6, 2) := by decide +kernel
theorem dX5_house_32 : decode cX5_house 32 = .ok (.if_icmp .lt 6, 3) := by decide +kernel
theorem dX5_house_35 : decode cX5_house 35 = .ok (.bipush (-3), 2) := by decide +kernel
theorem dX5_house_37 : decode cX5_house 37 = .ok (.ireturn, 1) := by decide +kernel
theorem dX5_house_38 : decode cX5_house 38 = .ok (.aload_n 0, 1) := by decide +kernel
theorem dX5_house_39 : decode cX5_house 39 = .ok (.getfield 22, 3) := by decide +kernel
theorem dX5_house_42 : decode cX5_house 42 = .ok (.invokevirtual 65, 3) := by decide +kernel
theorem dX5_house_45 : decode cX5_house 45 = .ok (.aload_n 0, 1) := by decide +kernel
theorem dX5_house_46 : decode cX5_house 46 = .ok (.getfield 10, 3) := by decide +kernel
theorem dX5_house_49 : decode cX5_house 49 = .ok (.iload_n 1, 1) := by decide +kernel
theorem dX5_house_50 : decode cX5_house 50 = .ok (.iload_n 2, 1) := by decide +kernel
theorem dX5_house_51 : decode cX5_house 51 = .ok (.iconst 0, 1) := by decide +kernel
theorem dX5_house_52 : decode cX5_house 52 = .ok (.invokevirtual 68, 3) := by decide +kernel
theorem dX5_house_55 : decode cX5_house 55 = .ok (.ireturn, 1) := by decide +kernel
theorem dX5_hog_0 : decode cX5_hog 0 = .ok (.iload_n 1, 1) := by decide +kernel
theorem dX5_hog_1 : decode cX5_hog 1 = .ok (.iconst 0, 1) := by decide +kernel
theorem dX5_hog_2 : decode cX5_hog 2 = .ok (.iconst 4, 1) := by decide +kernel
theorem dX5_hog_3 : decode cX5_hog 3 = .ok (.invokestatic 57, 3) := by decide +kernel
theorem dX5_hog_6 : decode cX5_hog 6 = .ok (.ifCond .eq 24, 3) := by decide +kernel
theorem dX5_hog_9 : decode cX5_hog 9 = .ok (.iload_n 2, 1) := by decide +kernel
theorem dX5_hog_10 : decode cX5_hog 10 = .ok (.iconst 1, 1) := by decide +kernel
theorem dX5_hog_11 : decode cX5_hog 11 = .ok (.bipush 9, 2) := by decide +kernel
theorem dX5_hog_13 : decode cX5_hog 13 = .ok (.invokestatic 57, 3) := by decide +kernel
theorem dX5_hog_16 : decode cX5_hog 16 = .ok (.ifCond .eq 14, 3) := by decide +kernel
theorem dX5_hog_19 : decode cX5_hog 19 = .ok (.aload_n 0, 1) := by decide +kernel
theorem dX5_hog_20 : decode cX5_hog 20 = .ok (.getfield 10, 3) := by decide +kernel
theorem dX5_hog_23 : decode cX5_hog 23 = .ok (.iload_n 3, 1) := by decide +kernel
theorem dX5_hog_24 : decode cX5_hog 24 = .ok (.invokevirtual 72, 3) := by decide +kernel
theorem dX5_hog_27 : decode cX5_hog 27 = .ok (.ifCond .ne 5, 3) := by decide +kernel
theorem dX5_hog_30 : decode cX5_hog 30 = .ok (.iconst (-1), 1) := by decide +kernel
theorem dX5_hog_31 : decode cX5_hog 31 = .ok (.ireturn, 1) := by decide +kernel
theorem dX5_hog_32 : decode cX5_hog 32 = .ok (.aload_n 0, 1) := by decide +kernel
theorem dX5_hog_33 : decode cX5_hog 33 = .ok (.getfield 10, 3) := by decide +kernel
theorem dX5_hog_36 : decode cX5_hog 36 = .ok (.getfield 76, 3) := by decide +kernel
theorem dX5_hog_39 : decode cX5_hog 39 = .ok (.iconst 5, 1) := by decide +kernel
theorem dX5_hog_40 : decode cX5_hog 40 = .ok (.if_icmp .lt 6, 3) := by decide +kernel
theorem dX5_hog_43 : decode cX5_hog 43 = .ok (.bipush (-3), 2) := by decide +kernel
theorem dX5_hog_45 : decode cX5_hog 45 = .ok (.ireturn, 1) := by decide +kernel
theorem dX5_hog_46 : decode cX5_hog 46 = .ok (.aload_n 0, 1) := by decide +kernel
theorem dX5_hog_47 : decode cX5_hog 47 = .ok (.getfield 22, 3) := by decide +kernel
theorem dX5_hog_50 : decode cX5_hog 50 = .ok (.invokevirtual 65, 3) := by decide +kernel
theorem dX5_hog_53 : decode cX5_hog 53 = .ok (.aload_n 0, 1) := by decide +kernel
theorem dX5_hog_54 : decode cX5_hog 54 = .ok (.getfield 10, 3) := by decide +kernel
theorem dX5_hog_57 : decode cX5_hog 57 = .ok (.iload_n 1, 1) := by decide +kernel
theorem dX5_hog_58 : decode cX5_hog 58 = .ok (.iload_n 2, 1) := by decide +kernel
theorem dX5_hog_59 : decode cX5_hog 59 = .ok (.iload_n 3, 1) := by decide +kernel
theorem dX5_hog_60 : decode cX5_hog 60 = .ok (.invokevirtual 79, 3) := by decide +kernel
theorem dX5_hog_63 : decode cX5_hog 63 = .ok (.ireturn, 1) := by decide +kernel
theorem dX5_interest_0 : decode cX5_interest 0 = .ok (.iload_n 1, 1) := by decide +kernel
theorem dX5_interest_1 : decode cX5_interest 1 = .ok (.iconst 0, 1) := by decide +kernel
theorem dX5_interest_2 : decode cX5_interest 2 = .ok (.bipush 20, 2) := by decide +kernel
theorem dX5_interest_4 : decode cX5_interest 4 = .ok (.invokestatic 57, 3) := by decide +kernel
theorem dX5_interest_7 : decode cX5_interest 7 = .ok (.ifCond .ne 5, 3) := by decide +kernel
theorem dX5_interest_10 : decode cX5_interest 10 = .ok (.iconst (-1), 1) := by decide +kernel
theorem dX5_interest_11 : decode cX5_interest 11 = .ok (.ireturn, 1) := by decide +kernel
theorem dX5_interest_12 : decode cX5_interest 12 = .ok (.aload_n 0, 1) := by decide +kernel
theorem dX5_interest_13 : decode cX5_interest 13 = .ok (.getfield 10, 3) := by decide +kernel
theorem dX5_interest_16 : decode cX5_interest 16 = .ok (.getfield 82, 3) := by decide +kernel
theorem dX5_interest_19 : decode cX5_interest 19 = .ok (.istore_n 2, 1) := by decide +kernel
theorem dX5_interest_20 : decode cX5_interest 20 = .ok (.aload_n 0, 1) := by decide +kernel
theorem dX5_interest_21 : decode cX5_interest 21 = .ok (.getfield 10, 3) := by decide +kernel
theorem dX5_interest_24 : decode cX5_interest 24 = .ok (.iload_n 1, 1) := by decide +kernel
theorem dX5_interest_25 : decode cX5_interest 25 = .ok (.putfield 82, 3) := by decide +kernel
theorem dX5_interest_28 : decode cX5_interest 28 = .ok (.iload_n 2, 1) := by decide +kernel
theorem dX5_interest_29 : decode cX5_interest 29 = .ok (.ireturn, 1) := by decide +kernel
theorem dX5_of_0 : decode cX5_of 0 = .ok (.aload_n 0, 1) := by decide +kernel
theorem dX5_of_1 : decode cX5_of 1 = .ok (.getfield 10, 3) := by decide +kernel
theorem dX5_of_4 : decode cX5_of 4 = .ok (.iload_n 1, 1) := by decide +kernel
theorem dX5_of_5 : decode cX5_of 5 = .ok (.invokevirtual 72, 3) := by decide +kernel
theorem dX5_of_8 : decode cX5_of 8 = .ok (.ifCond .ne 5, 3) := by decide +kernel
theorem dX5_of_11 : decode cX5_of 11 = .ok (.iconst (-1), 1) := by decide +kernel
theorem dX5_of_12 : decode cX5_of 12 = .ok (.ireturn, 1) := by decide +kernel
theorem dX5_of_13 : decode cX5_of 13 = .ok (.iload_n 2, 1) := by decide +kernel
theorem dX5_of_14 : decode cX5_of 14 = .ok (.tableswitch 90 0 4 #[34, 44, 54, 64, 81], 34) := by decide +kernel
theorem dX5_of_48 : decode cX5_of 48 = .ok (.aload_n 0, 1) := by decide +kernel
theorem dX5_of_49 : decode cX5_of 49 = .ok (.getfield 10, 3) := by decide +kernel
theorem dX5_of_52 : decode cX5_of 52 = .ok (.getfield 85, 3) := by decide +kernel
theorem dX5_of_55 : decode cX5_of 55 = .ok (.iload_n 1, 1) := by decide +kernel
theorem dX5_of_56 : decode cX5_of 56 = .ok (.iaload, 1) := by decide +kernel
theorem dX5_of_57 : decode cX5_of 57 = .ok (.ireturn, 1) := by decide +kernel
theorem dX5_of_58 : decode cX5_of 58 = .ok (.aload_n 0, 1) := by decide +kernel
theorem dX5_of_59 : decode cX5_of 59 = .ok (.getfield 10, 3) := by decide +kernel
theorem dX5_of_62 : decode cX5_of 62 = .ok (.getfield 89, 3) := by decide +kernel
theorem dX5_of_65 : decode cX5_of 65 = .ok (.iload_n 1, 1) := by decide +kernel
theorem dX5_of_66 : decode cX5_of 66 = .ok (.iaload, 1) := by decide +kernel
theorem dX5_of_67 : decode cX5_of 67 = .ok (.ireturn, 1) := by decide +kernel
theorem dX5_of_68 : decode cX5_of 68 = .ok (.aload_n 0, 1) := by decide +kernel
theorem dX5_of_69 : decode cX5_of 69 = .ok (.getfield 10, 3) := by decide +kernel
theorem dX5_of_72 : decode cX5_of 72 = .ok (.getfield 92, 3) := by decide +kernel
theorem dX5_of_75 : decode cX5_of 75 = .ok (.iload_n 1, 1) := by decide +kernel
theorem dX5_of_76 : decode cX5_of 76 = .ok (.iaload, 1) := by decide +kernel
theorem dX5_of_77 : decode cX5_of 77 = .ok (.ireturn, 1) := by decide +kernel
theorem dX5_of_78 : decode cX5_of 78 = .ok (.aload_n 0, 1) := by decide +kernel
theorem dX5_of_79 : decode cX5_of 79 = .ok (.getfield 10, 3) := by decide +kernel
theorem dX5_of_82 : decode cX5_of 82 = .ok (.iload_n 1, 1) := by decide +kernel
theorem dX5_of_83 : decode cX5_of 83 = .ok (.invokevirtual 95, 3) := by decide +kernel
theorem dX5_of_86 : decode cX5_of 86 = .ok (.ifCond .eq 7, 3) := by decide +kernel
theorem dX5_of_89 : decode cX5_of 89 = .ok (.iconst 1, 1) := by decide +kernel
theorem dX5_of_90 : decode cX5_of 90 = .ok (.goto 4, 3) := by decide +kernel
theorem dX5_of_93 : decode cX5_of 93 = .ok (.iconst 0, 1) := by decide +kernel
theorem dX5_of_94 : decode cX5_of 94 = .ok (.ireturn, 1) := by decide +kernel
theorem dX5_of_95 : decode cX5_of 95 = .ok (.aload_n 0, 1) := by decide +kernel
theorem dX5_of_96 : decode cX5_of 96 = .ok (.getfield 10, 3) := by decide +kernel
theorem dX5_of_99 : decode cX5_of 99 = .ok (.iload_n 1, 1) := by decide +kernel
theorem dX5_of_100 : decode cX5_of 100 = .ok (.invokevirtual 98, 3) := by decide +kernel
theorem dX5_of_103 : decode cX5_of 103 = .ok (.ireturn, 1) := by decide +kernel
theorem dX5_of_104 : decode cX5_of 104 = .ok (.iconst (-1), 1) := by decide +kernel
theorem dX5_of_105 : decode cX5_of 105 = .ok (.ireturn, 1) := by decide +kernel
theorem dX5_at_0 : decode cX5_at 0 = .ok (.aload_n 0, 1) := by decide +kernel
theorem dX5_at_1 : decode cX5_at 1 = .ok (.getfield 10, 3) := by decide +kernel
theorem dX5_at_4 : decode cX5_at 4 = .ok (.iload_n 1, 1) := by decide +kernel
theorem dX5_at_5 : decode cX5_at 5 = .ok (.invokevirtual 102, 3) := by decide +kernel
theorem dX5_at_8 : decode cX5_at 8 = .ok (.ifCond .ne 5, 3) := by decide +kernel
theorem dX5_at_11 : decode cX5_at 11 = .ok (.iconst (-1), 1) := by decide +kernel
theorem dX5_at_12 : decode cX5_at 12 = .ok (.ireturn, 1) := by decide +kernel
theorem dX5_at_13 : decode cX5_at 13 = .ok (.iload_n 2, 1) := by decide +kernel
theorem dX5_at_14 : decode cX5_at 14 = .ok (.tableswitch 69 0 3 #[30, 40, 50, 60], 30) := by decide +kernel
theorem dX5_at_44 : decode cX5_at 44 = .ok (.aload_n 0, 1) := by decide +kernel
theorem dX5_at_45 : decode cX5_at 45 = .ok (.getfield 10, 3) := by decide +kernel
theorem dX5_at_48 : decode cX5_at 48 = .ok (.getfield 105, 3) := by decide +kernel
theorem dX5_at_51 : decode cX5_at 51 = .ok (.iload_n 1, 1) := by decide +kernel
theorem dX5_at_52 : decode cX5_at 52 = .ok (.iaload, 1) := by decide +kernel
theorem dX5_at_53 : decode cX5_at 53 = .ok (.ireturn, 1) := by decide +kernel
theorem dX5_at_54 : decode cX5_at 54 = .ok (.aload_n 0, 1) := by decide +kernel
theorem dX5_at_55 : decode cX5_at 55 = .ok (.getfield 10, 3) := by decide +kernel
theorem dX5_at_58 : decode cX5_at 58 = .ok (.getfield 108, 3) := by decide +kernel
theorem dX5_at_61 : decode cX5_at 61 = .ok (.iload_n 1, 1) := by decide +kernel
theorem dX5_at_62 : decode cX5_at 62 = .ok (.iaload, 1) := by decide +kernel
theorem dX5_at_63 : decode cX5_at 63 = .ok (.ireturn, 1) := by decide +kernel
theorem dX5_at_64 : decode cX5_at 64 = .ok (.aload_n 0, 1) := by decide +kernel
theorem dX5_at_65 : decode cX5_at 65 = .ok (.getfield 10, 3) := by decide +kernel
theorem dX5_at_68 : decode cX5_at 68 = .ok (.getfield 111, 3) := by decide +kernel
theorem dX5_at_71 : decode cX5_at 71 = .ok (.iload_n 1, 1) := by decide +kernel
theorem dX5_at_72 : decode cX5_at 72 = .ok (.iaload, 1) := by decide +kernel
theorem dX5_at_73 : decode cX5_at 73 = .ok (.ireturn, 1) := by decide +kernel
theorem dX5_at_74 : decode cX5_at 74 = .ok (.aload_n 0, 1) := by decide +kernel
theorem dX5_at_75 : decode cX5_at 75 = .ok (.getfield 10, 3) := by decide +kernel
theorem dX5_at_78 : decode cX5_at 78 = .ok (.iload_n 1, 1) := by decide +kernel
theorem dX5_at_79 : decode cX5_at 79 = .ok (.invokevirtual 114, 3) := by decide +kernel
theorem dX5_at_82 : decode cX5_at 82 = .ok (.ireturn, 1) := by decide +kernel
theorem dX5_at_83 : decode cX5_at 83 = .ok (.iconst (-1), 1) := by decide +kernel
theorem dX5_at_84 : decode cX5_at 84 = .ok (.ireturn, 1) := by decide +kernel
theorem dX5_type_0 : decode cX5_type 0 = .ok (.iload_n 1, 1) := by decide +kernel
theorem dX5_type_1 : decode cX5_type 1 = .ok (.bipush 32, 2) := by decide +kernel
theorem dX5_type_3 : decode cX5_type 3 = .ok (.bipush 126, 2) := by decide +kernel
theorem dX5_type_5 : decode cX5_type 5 = .ok (.invokestatic 57, 3) := by decide +kernel
theorem dX5_type_8 : decode cX5_type 8 = .ok (.ifCond .ne 5, 3) := by decide +kernel
theorem dX5_type_11 : decode cX5_type 11 = .ok (.iconst (-1), 1) := by decide +kernel
theorem dX5_type_12 : decode cX5_type 12 = .ok (.ireturn, 1) := by decide +kernel
theorem dX5_type_13 : decode cX5_type 13 = .ok (.aload_n 0, 1) := by decide +kernel
theorem dX5_type_14 : decode cX5_type 14 = .ok (.getfield 36, 3) := by decide +kernel
theorem dX5_type_17 : decode cX5_type 17 = .ok (.getfield 117, 3) := by decide +kernel
theorem dX5_type_20 : decode cX5_type 20 = .ok (.bipush 80, 2) := by decide +kernel
theorem dX5_type_22 : decode cX5_type 22 = .ok (.if_icmp .lt 6, 3) := by decide +kernel
theorem dX5_type_25 : decode cX5_type 25 = .ok (.bipush (-3), 2) := by decide +kernel
theorem dX5_type_27 : decode cX5_type 27 = .ok (.ireturn, 1) := by decide +kernel
theorem dX5_type_28 : decode cX5_type 28 = .ok (.aload_n 0, 1) := by decide +kernel
theorem dX5_type_29 : decode cX5_type 29 = .ok (.getfield 36, 3) := by decide +kernel
theorem dX5_type_32 : decode cX5_type 32 = .ok (.iload_n 1, 1) := by decide +kernel
theorem dX5_type_33 : decode cX5_type 33 = .ok (.invokevirtual 120, 3) := by decide +kernel
theorem dX5_type_36 : decode cX5_type 36 = .ok (.ireturn, 1) := by decide +kernel
theorem dX5_read_0 : decode cX5_read 0 = .ok (.aload_n 0, 1) := by decide +kernel
theorem dX5_read_1 : decode cX5_read 1 = .ok (.getfield 36, 3) := by decide +kernel
theorem dX5_read_4 : decode cX5_read 4 = .ok (.invokevirtual 123, 3) := by decide +kernel
theorem dX5_read_7 : decode cX5_read 7 = .ok (.istore_n 1, 1) := by decide +kernel
theorem dX5_read_8 : decode cX5_read 8 = .ok (.aload_n 0, 1) := by decide +kernel
theorem dX5_read_9 : decode cX5_read 9 = .ok (.getfield 36, 3) := by decide +kernel
theorem dX5_read_12 : decode cX5_read 12 = .ok (.iconst 0, 1) := by decide +kernel
theorem dX5_read_13 : decode cX5_read 13 = .ok (.putfield 117, 3) := by decide +kernel
theorem dX5_read_16 : decode cX5_read 16 = .ok (.iload_n 1, 1) := by decide +kernel
theorem dX5_read_17 : decode cX5_read 17 = .ok (.ifCond .ne 11, 3) := by decide +kernel
theorem dX5_read_20 : decode cX5_read 20 = .ok (.aload_n 0, 1) := by decide +kernel
theorem dX5_read_21 : decode cX5_read 21 = .ok (.getfield 36, 3) := by decide +kernel
theorem dX5_read_24 : decode cX5_read 24 = .ok (.getfield 127, 3) := by decide +kernel
theorem dX5_read_27 : decode cX5_read 27 = .ok (.ireturn, 1) := by decide +kernel
theorem dX5_read_28 : decode cX5_read 28 = .ok (.aload_n 0, 1) := by decide +kernel
theorem dX5_read_29 : decode cX5_read 29 = .ok (.getfield 10, 3) := by decide +kernel
theorem dX5_read_32 : decode cX5_read 32 = .ok (.getfield 130, 3) := by decide +kernel
theorem dX5_read_35 : decode cX5_read 35 = .ok (.istore_n 2, 1) := by decide +kernel
theorem dX5_read_36 : decode cX5_read 36 = .ok (.aload_n 0, 1) := by decide +kernel
theorem dX5_read_37 : decode cX5_read 37 = .ok (.getfield 10, 3) := by decide +kernel
theorem dX5_read_40 : decode cX5_read 40 = .ok (.aload_n 0, 1) := by decide +kernel
theorem dX5_read_41 : decode cX5_read 41 = .ok (.getfield 36, 3) := by decide +kernel
theorem dX5_read_44 : decode cX5_read 44 = .ok (.getfield 133, 3) := by decide +kernel
theorem dX5_read_47 : decode cX5_read 47 = .ok (.invokevirtual 136, 3) := by decide +kernel
theorem dX5_read_50 : decode cX5_read 50 = .ok (.aload_n 0, 1) := by decide +kernel
theorem dX5_read_51 : decode cX5_read 51 = .ok (.getfield 10, 3) := by decide +kernel
theorem dX5_read_54 : decode cX5_read 54 = .ok (.iload_n 2, 1) := by decide +kernel
theorem dX5_read_55 : decode cX5_read 55 = .ok (.putfield 130, 3) := by decide +kernel
theorem dX5_read_58 : decode cX5_read 58 = .ok (.aload_n 0, 1) := by decide +kernel
theorem dX5_read_59 : decode cX5_read 59 = .ok (.getfield 22, 3) := by decide +kernel
theorem dX5_read_62 : decode cX5_read 62 = .ok (.invokevirtual 65, 3) := by decide +kernel
theorem dX5_read_65 : decode cX5_read 65 = .ok (.aload_n 0, 1) := by decide +kernel
theorem dX5_read_66 : decode cX5_read 66 = .ok (.getfield 10, 3) := by decide +kernel
theorem dX5_read_69 : decode cX5_read 69 = .ok (.getfield 61, 3) := by decide +kernel
theorem dX5_read_72 : decode cX5_read 72 = .ok (.ireturn, 1) := by decide +kernel
theorem dX5_count_0 : decode cX5_count 0 = .ok (.iload_n 1, 1) := by decide +kernel
theorem dX5_count_1 : decode cX5_count 1 = .ok (.tableswitch 131 0 8 #[51, 59, 67, 75, 83, 91, 99, 107, 123], 51) := by decide +kernel
theorem dX5_count_52 : decode cX5_count 52 = .ok (.aload_n 0, 1) := by decide +kernel
theorem dX5_count_53 : decode cX5_count 53 = .ok (.getfield 10, 3) := by decide +kernel
theorem dX5_count_56 : decode cX5_count 56 = .ok (.getfield 61, 3) := by decide +kernel
theorem dX5_count_59 : decode cX5_count 59 = .ok (.ireturn, 1) := by decide +kernel
theorem dX5_count_60 : decode cX5_count 60 = .ok (.aload_n 0, 1) := by decide +kernel
theorem dX5_count_61 : decode cX5_count 61 = .ok (.getfield 10, 3) := by decide +kernel
theorem dX5_count_64 : decode cX5_count 64 = .ok (.getfield 76, 3) := by decide +kernel
theorem dX5_count_67 : decode cX5_count 67 = .ok (.ireturn, 1) := by decide +kernel
theorem dX5_count_68 : decode cX5_count 68 = .ok (.aload_n 0, 1) := by decide +kernel
theorem dX5_count_69 : decode cX5_count 69 = .ok (.getfield 10, 3) := by decide +kernel
theorem dX5_count_72 : decode cX5_count 72 = .ok (.getfield 140, 3) := by decide +kernel
theorem dX5_count_75 : decode cX5_count 75 = .ok (.ireturn, 1) := by decide +kernel
theorem dX5_count_76 : decode cX5_count 76 = .ok (.aload_n 0, 1) := by decide +kernel
theorem dX5_count_77 : decode cX5_count 77 = .ok (.getfield 10, 3) := by decide +kernel
theorem dX5_count_80 : decode cX5_count 80 = .ok (.getfield 82, 3) := by decide +kernel
theorem dX5_count_83 : decode cX5_count 83 = .ok (.ireturn, 1) := by decide +kernel
theorem dX5_count_84 : decode cX5_count 84 = .ok (.aload_n 0, 1) := by decide +kernel
theorem dX5_count_85 : decode cX5_count 85 = .ok (.getfield 10, 3) := by decide +kernel
theorem dX5_count_88 : decode cX5_count 88 = .ok (.getfield 143, 3) := by decide +kernel
theorem dX5_count_91 : decode cX5_count 91 = .ok (.ireturn, 1) := by decide +kernel
theorem dX5_count_92 : decode cX5_count 92 = .ok (.aload_n 0, 1) := by decide +kernel
theorem dX5_count_93 : decode cX5_count 93 = .ok (.getfield 10, 3) := by decide +kernel
theorem dX5_count_96 : decode cX5_count 96 = .ok (.invokevirtual 146, 3) := by decide +kernel
theorem dX5_count_99 : decode cX5_count 99 = .ok (.ireturn, 1) := by decide +kernel
theorem dX5_count_100 : decode cX5_count 100 = .ok (.aload_n 0, 1) := by decide +kernel
theorem dX5_count_101 : decode cX5_count 101 = .ok (.getfield 10, 3) := by decide +kernel
theorem dX5_count_104 : decode cX5_count 104 = .ok (.invokevirtual 150, 3) := by decide +kernel
theorem dX5_count_107 : decode cX5_count 107 = .ok (.ireturn, 1) := by decide +kernel
theorem dX5_count_108 : decode cX5_count 108 = .ok (.aload_n 0, 1) := by decide +kernel
theorem dX5_count_109 : decode cX5_count 109 = .ok (.getfield 10, 3) := by decide +kernel
theorem dX5_count_112 : decode cX5_count 112 = .ok (.invokevirtual 153, 3) := by decide +kernel
theorem dX5_count_115 : decode cX5_count 115 = .ok (.ifCond .eq 7, 3) := by decide +kernel
theorem dX5_count_118 : decode cX5_count 118 = .ok (.iconst 1, 1) := by decide +kernel
theorem dX5_count_119 : decode cX5_count 119 = .ok (.goto 4, 3) := by decide +kernel
theorem dX5_count_122 : decode cX5_count 122 = .ok (.iconst 0, 1) := by decide +kernel
theorem dX5_count_123 : decode cX5_count 123 = .ok (.ireturn, 1) := by decide +kernel
theorem dX5_count_124 : decode cX5_count 124 = .ok (.aload_n 0, 1) := by decide +kernel
theorem dX5_count_125 : decode cX5_count 125 = .ok (.getfield 22, 3) := by decide +kernel
theorem dX5_count_128 : decode cX5_count 128 = .ok (.getfield 156, 3) := by decide +kernel
theorem dX5_count_131 : decode cX5_count 131 = .ok (.ireturn, 1) := by decide +kernel
theorem dX5_count_132 : decode cX5_count 132 = .ok (.iconst (-1), 1) := by decide +kernel
theorem dX5_count_133 : decode cX5_count 133 = .ok (.ireturn, 1) := by decide +kernel
theorem dX5_nights_0 : decode cX5_nights 0 = .ok (.iload_n 1, 1) := by decide +kernel
theorem dX5_nights_1 : decode cX5_nights 1 = .ok (.iconst 1, 1) := by decide +kernel
theorem dX5_nights_2 : decode cX5_nights 2 = .ok (.bipush 40, 2) := by decide +kernel
theorem dX5_nights_4 : decode cX5_nights 4 = .ok (.invokestatic 57, 3) := by decide +kernel
theorem dX5_nights_7 : decode cX5_nights 7 = .ok (.ifCond .ne 5, 3) := by decide +kernel
theorem dX5_nights_10 : decode cX5_nights 10 = .ok (.iconst (-1), 1) := by decide +kernel
theorem dX5_nights_11 : decode cX5_nights 11 = .ok (.ireturn, 1) := by decide +kernel
theorem dX5_nights_12 : decode cX5_nights 12 = .ok (.aload_n 0, 1) := by decide +kernel
theorem dX5_nights_13 : decode cX5_nights 13 = .ok (.getfield 10, 3) := by decide +kernel
theorem dX5_nights_16 : decode cX5_nights 16 = .ok (.getfield 140, 3) := by decide +kernel
theorem dX5_nights_19 : decode cX5_nights 19 = .ok (.iload_n 1, 1) := by decide +kernel
theorem dX5_nights_20 : decode cX5_nights 20 = .ok (.iadd, 1) := by decide +kernel
theorem dX5_nights_21 : decode cX5_nights 21 = .ok (.sipush 9999, 3) := by decide +kernel
theorem dX5_nights_24 : decode cX5_nights 24 = .ok (.if_icmp .le 6, 3) := by decide +kernel
theorem dX5_nights_27 : decode cX5_nights 27 = .ok (.bipush (-3), 2) := by decide +kernel
theorem dX5_nights_29 : decode cX5_nights 29 = .ok (.ireturn, 1) := by decide +kernel
theorem dX5_nights_30 : decode cX5_nights 30 = .ok (.iconst 0, 1) := by decide +kernel
theorem dX5_nights_31 : decode cX5_nights 31 = .ok (.istore_n 2, 1) := by decide +kernel
theorem dX5_nights_32 : decode cX5_nights 32 = .ok (.iload_n 2, 1) := by decide +kernel
theorem dX5_nights_33 : decode cX5_nights 33 = .ok (.iload_n 1, 1) := by decide +kernel
theorem dX5_nights_34 : decode cX5_nights 34 = .ok (.if_icmp .ge 28, 3) := by decide +kernel
theorem dX5_nights_37 : decode cX5_nights 37 = .ok (.aload_n 0, 1) := by decide +kernel
theorem dX5_nights_38 : decode cX5_nights 38 = .ok (.getfield 22, 3) := by decide +kernel
theorem dX5_nights_41 : decode cX5_nights 41 = .ok (.aload_n 0, 1) := by decide +kernel
theorem dX5_nights_42 : decode cX5_nights 42 = .ok (.getfield 10, 3) := by decide +kernel
theorem dX5_nights_45 : decode cX5_nights 45 = .ok (.invokevirtual 157, 3) := by decide +kernel
theorem dX5_nights_48 : decode cX5_nights 48 = .ok (.aload_n 0, 1) := by decide +kernel
theorem dX5_nights_49 : decode cX5_nights 49 = .ok (.getfield 10, 3) := by decide +kernel
theorem dX5_nights_52 : decode cX5_nights 52 = .ok (.iconst 0, 1) := by decide +kernel
theorem dX5_nights_53 : decode cX5_nights 53 = .ok (.invokevirtual 160, 3) := by decide +kernel
theorem dX5_nights_56 : decode cX5_nights 56 = .ok (.iinc 2 1, 3) := by decide +kernel
theorem dX5_nights_59 : decode cX5_nights 59 = .ok (.goto (-27), 3) := by decide +kernel
theorem dX5_nights_62 : decode cX5_nights 62 = .ok (.aload_n 0, 1) := by decide +kernel
theorem dX5_nights_63 : decode cX5_nights 63 = .ok (.getfield 10, 3) := by decide +kernel
theorem dX5_nights_66 : decode cX5_nights 66 = .ok (.invokevirtual 146, 3) := by decide +kernel
theorem dX5_nights_69 : decode cX5_nights 69 = .ok (.ireturn, 1) := by decide +kernel
theorem dX5_put_0 : decode cX5_put 0 = .ok (.aload_n 0, 1) := by decide +kernel
theorem dX5_put_1 : decode cX5_put 1 = .ok (.getfield 10, 3) := by decide +kernel
theorem dX5_put_4 : decode cX5_put 4 = .ok (.iload_n 1, 1) := by decide +kernel
theorem dX5_put_5 : decode cX5_put 5 = .ok (.invokevirtual 72, 3) := by decide +kernel
theorem dX5_put_8 : decode cX5_put 8 = .ok (.ifCond .eq 13, 3) := by decide +kernel
theorem dX5_put_11 : decode cX5_put 11 = .ok (.iload_n 2, 1) := by decide +kernel
theorem dX5_put_12 : decode cX5_put 12 = .ok (.iconst 0, 1) := by decide +kernel
theorem dX5_put_13 : decode cX5_put 13 = .ok (.bipush 20, 2) := by decide +kernel
theorem dX5_put_15 : decode cX5_put 15 = .ok (.invokestatic 57, 3) := by decide +kernel
theorem dX5_put_18 : decode cX5_put 18 = .ok (.ifCond .ne 5, 3) := by decide +kernel
theorem dX5_put_21 : decode cX5_put 21 = .ok (.iconst (-1), 1) := by decide +kernel
theorem dX5_put_22 : decode cX5_put 22 = .ok (.ireturn, 1) := by decide +kernel
theorem dX5_put_23 : decode cX5_put 23 = .ok (.aload_n 0, 1) := by decide +kernel
theorem dX5_put_24 : decode cX5_put 24 = .ok (.getfield 10, 3) := by decide +kernel
theorem dX5_put_27 : decode cX5_put 27 = .ok (.getfield 89, 3) := by decide +kernel
theorem dX5_put_30 : decode cX5_put 30 = .ok (.iload_n 1, 1) := by decide +kernel
theorem dX5_put_31 : decode cX5_put 31 = .ok (.iaload, 1) := by decide +kernel
theorem dX5_put_32 : decode cX5_put 32 = .ok (.istore_n 3, 1) := by decide +kernel
theorem dX5_put_33 : decode cX5_put 33 = .ok (.iload_n 3, 1) := by decide +kernel
theorem dX5_put_34 : decode cX5_put 34 = .ok (.iload_n 2, 1) := by decide +kernel
theorem dX5_put_35 : decode cX5_put 35 = .ok (.if_icmp .ne 6, 3) := by decide +kernel
theorem dX5_put_38 : decode cX5_put 38 = .ok (.bipush (-2), 2) := by decide +kernel
theorem dX5_put_40 : decode cX5_put 40 = .ok (.ireturn, 1) := by decide +kernel
theorem dX5_put_41 : decode cX5_put 41 = .ok (.aload_n 0, 1) := by decide +kernel
theorem dX5_put_42 : decode cX5_put 42 = .ok (.getfield 22, 3) := by decide +kernel
theorem dX5_put_45 : decode cX5_put 45 = .ok (.aload_n 0, 1) := by decide +kernel
theorem dX5_put_46 : decode cX5_put 46 = .ok (.getfield 10, 3) := by decide +kernel
theorem dX5_put_49 : decode cX5_put 49 = .ok (.invokevirtual 157, 3) := by decide +kernel
theorem dX5_put_52 : decode cX5_put 52 = .ok (.aload_n 0, 1) := by decide +kernel
theorem dX5_put_53 : decode cX5_put 53 = .ok (.getfield 10, 3) := by decide +kernel
theorem dX5_put_56 : decode cX5_put 56 = .ok (.getfield 89, 3) := by decide +kernel
theorem dX5_put_59 : decode cX5_put 59 = .ok (.iload_n 1, 1) := by decide +kernel
theorem dX5_put_60 : decode cX5_put 60 = .ok (.iload_n 2, 1) := by decide +kernel
theorem dX5_put_61 : decode cX5_put 61 = .ok (.iastore, 1) := by decide +kernel
theorem dX5_put_62 : decode cX5_put 62 = .ok (.iload_n 3, 1) := by decide +kernel
theorem dX5_put_63 : decode cX5_put 63 = .ok (.ireturn, 1) := by decide +kernel
theorem dX5_pay_0 : decode cX5_pay 0 = .ok (.aload_n 0, 1) := by decide +kernel
theorem dX5_pay_1 : decode cX5_pay 1 = .ok (.getfield 10, 3) := by decide +kernel
theorem dX5_pay_4 : decode cX5_pay 4 = .ok (.iload_n 1, 1) := by decide +kernel
theorem dX5_pay_5 : decode cX5_pay 5 = .ok (.invokevirtual 72, 3) := by decide +kernel
theorem dX5_pay_8 : decode cX5_pay 8 = .ok (.ifCond .eq 14, 3) := by decide +kernel
theorem dX5_pay_11 : decode cX5_pay 11 = .ok (.iload_n 2, 1) := by decide +kernel
theorem dX5_pay_12 : decode cX5_pay 12 = .ok (.iconst 1, 1) := by decide +kernel
theorem dX5_pay_13 : decode cX5_pay 13 = .ok (.sipush 9999, 3) := by decide +kernel
theorem dX5_pay_16 : decode cX5_pay 16 = .ok (.invokestatic 57, 3) := by decide +kernel
theorem dX5_pay_19 : decode cX5_pay 19 = .ok (.ifCond .ne 5, 3) := by decide +kernel
theorem dX5_pay_22 : decode cX5_pay 22 = .ok (.iconst (-1), 1) := by decide +kernel
theorem dX5_pay_23 : decode cX5_pay 23 = .ok (.ireturn, 1) := by decide +kernel
theorem dX5_pay_24 : decode cX5_pay 24 = .ok (.aload_n 0, 1) := by decide +kernel
theorem dX5_pay_25 : decode cX5_pay 25 = .ok (.getfield 10, 3) := by decide +kernel
theorem dX5_pay_28 : decode cX5_pay 28 = .ok (.getfield 85, 3) := by decide +kernel
theorem dX5_pay_31 : decode cX5_pay 31 = .ok (.iload_n 1, 1) := by decide +kernel
theorem dX5_pay_32 : decode cX5_pay 32 = .ok (.iaload, 1) := by decide +kernel
theorem dX5_pay_33 : decode cX5_pay 33 = .ok (.ifCond .ne 6, 3) := by decide +kernel
theorem dX5_pay_36 : decode cX5_pay 36 = .ok (.bipush (-2), 2) := by decide +kernel
theorem dX5_pay_38 : decode cX5_pay 38 = .ok (.ireturn, 1) := by decide +kernel
theorem dX5_pay_39 : decode cX5_pay 39 = .ok (.aload_n 0, 1) := by decide +kernel
theorem dX5_pay_40 : decode cX5_pay 40 = .ok (.getfield 22, 3) := by decide +kernel
theorem dX5_pay_43 : decode cX5_pay 43 = .ok (.aload_n 0, 1) := by decide +kernel
theorem dX5_pay_44 : decode cX5_pay 44 = .ok (.getfield 10, 3) := by decide +kernel
theorem dX5_pay_47 : decode cX5_pay 47 = .ok (.invokevirtual 157, 3) := by decide +kernel
theorem dX5_pay_50 : decode cX5_pay 50 = .ok (.aload_n 0, 1) := by decide +kernel
theorem dX5_pay_51 : decode cX5_pay 51 = .ok (.getfield 10, 3) := by decide +kernel
theorem dX5_pay_54 : decode cX5_pay 54 = .ok (.iload_n 1, 1) := by decide +kernel
theorem dX5_pay_55 : decode cX5_pay 55 = .ok (.iload_n 2, 1) := by decide +kernel
theorem dX5_pay_56 : decode cX5_pay 56 = .ok (.invokevirtual 164, 3) := by decide +kernel
theorem dX5_pay_59 : decode cX5_pay 59 = .ok (.aload_n 0, 1) := by decide +kernel
theorem dX5_pay_60 : decode cX5_pay 60 = .ok (.getfield 10, 3) := by decide +kernel
theorem dX5_pay_63 : decode cX5_pay 63 = .ok (.getfield 85, 3) := by decide +kernel
theorem dX5_pay_66 : decode cX5_pay 66 = .ok (.iload_n 1, 1) := by decide +kernel
theorem dX5_pay_67 : decode cX5_pay 67 = .ok (.iaload, 1) := by decide +kernel
theorem dX5_pay_68 : decode cX5_pay 68 = .ok (.ireturn, 1) := by decide +kernel
theorem dX5_drive_0 : decode cX5_drive 0 = .ok (.aload_n 0, 1) := by decide +kernel
theorem dX5_drive_1 : decode cX5_drive 1 = .ok (.getfield 10, 3) := by decide +kernel
theorem dX5_drive_4 : decode cX5_drive 4 = .ok (.iload_n 1, 1) := by decide +kernel
theorem dX5_drive_5 : decode cX5_drive 5 = .ok (.invokevirtual 102, 3) := by decide +kernel
theorem dX5_drive_8 : decode cX5_drive 8 = .ok (.ifCond .eq 14, 3) := by decide +kernel
theorem dX5_drive_11 : decode cX5_drive 11 = .ok (.aload_n 0, 1) := by decide +kernel
theorem dX5_drive_12 : decode cX5_drive 12 = .ok (.getfield 10, 3) := by decide +kernel
theorem dX5_drive_15 : decode cX5_drive 15 = .ok (.iload_n 2, 1) := by decide +kernel
theorem dX5_drive_16 : decode cX5_drive 16 = .ok (.invokevirtual 72, 3) := by decide +kernel
theorem dX5_drive_19 : decode cX5_drive 19 = .ok (.ifCond .ne 5, 3) := by decide +kernel
theorem dX5_drive_22 : decode cX5_drive 22 = .ok (.iconst (-1), 1) := by decide +kernel
theorem dX5_drive_23 : decode cX5_drive 23 = .ok (.ireturn, 1) := by decide +kernel
theorem dX5_drive_24 : decode cX5_drive 24 = .ok (.aload_n 0, 1) := by decide +kernel
theorem dX5_drive_25 : decode cX5_drive 25 = .ok (.getfield 10, 3) := by decide +kernel
theorem dX5_drive_28 : decode cX5_drive 28 = .ok (.getfield 111, 3) := by decide +kernel
theorem dX5_drive_31 : decode cX5_drive 31 = .ok (.iload_n 1, 1) := by decide +kernel
theorem dX5_drive_32 : decode cX5_drive 32 = .ok (.iaload, 1) := by decide +kernel
theorem dX5_drive_33 : decode cX5_drive 33 = .ok (.istore_n 3, 1) := by decide +kernel
theorem dX5_drive_34 : decode cX5_drive 34 = .ok (.iload_n 3, 1) := by decide +kernel
theorem dX5_drive_35 : decode cX5_drive 35 = .ok (.iload_n 2, 1) := by decide +kernel
theorem dX5_drive_36 : decode cX5_drive 36 = .ok (.if_icmp .ne 6, 3) := by decide +kernel
theorem dX5_drive_39 : decode cX5_drive 39 = .ok (.bipush (-2), 2) := by decide +kernel
theorem dX5_drive_41 : decode cX5_drive 41 = .ok (.ireturn, 1) := by decide +kernel
theorem dX5_drive_42 : decode cX5_drive 42 = .ok (.aload_n 0, 1) := by decide +kernel
theorem dX5_drive_43 : decode cX5_drive 43 = .ok (.getfield 22, 3) := by decide +kernel
theorem dX5_drive_46 : decode cX5_drive 46 = .ok (.aload_n 0, 1) := by decide +kernel
theorem dX5_drive_47 : decode cX5_drive 47 = .ok (.getfield 10, 3) := by decide +kernel
theorem dX5_drive_50 : decode cX5_drive 50 = .ok (.invokevirtual 157, 3) := by decide +kernel
theorem dX5_drive_53 : decode cX5_drive 53 = .ok (.aload_n 0, 1) := by decide +kernel
theorem dX5_drive_54 : decode cX5_drive 54 = .ok (.getfield 10, 3) := by decide +kernel
theorem dX5_drive_57 : decode cX5_drive 57 = .ok (.getfield 111, 3) := by decide +kernel
theorem dX5_drive_60 : decode cX5_drive 60 = .ok (.iload_n 1, 1) := by decide +kernel
theorem dX5_drive_61 : decode cX5_drive 61 = .ok (.iload_n 2, 1) := by decide +kernel
theorem dX5_drive_62 : decode cX5_drive 62 = .ok (.iastore, 1) := by decide +kernel
theorem dX5_drive_63 : decode cX5_drive 63 = .ok (.iload_n 3, 1) := by decide +kernel
theorem dX5_drive_64 : decode cX5_drive 64 = .ok (.ireturn, 1) := by decide +kernel
theorem dX5_forgive_0 : decode cX5_forgive 0 = .ok (.aload_n 0, 1) := by decide +kernel
theorem dX5_forgive_1 : decode cX5_forgive 1 = .ok (.getfield 10, 3) := by decide +kernel
theorem dX5_forgive_4 : decode cX5_forgive 4 = .ok (.iload_n 1, 1) := by decide +kernel
theorem dX5_forgive_5 : decode cX5_forgive 5 = .ok (.invokevirtual 72, 3) := by decide +kernel
theorem dX5_forgive_8 : decode cX5_forgive 8 = .ok (.ifCond .ne 5, 3) := by decide +kernel
theorem dX5_forgive_11 : decode cX5_forgive 11 = .ok (.iconst (-1), 1) := by decide +kernel
theorem dX5_forgive_12 : decode cX5_forgive 12 = .ok (.ireturn, 1) := by decide +kernel
theorem dX5_forgive_13 : decode cX5_forgive 13 = .ok (.aload_n 0, 1) := by decide +kernel
theorem dX5_forgive_14 : decode cX5_forgive 14 = .ok (.getfield 10, 3) := by decide +kernel
theorem dX5_forgive_17 : decode cX5_forgive 17 = .ok (.getfield 92, 3) := by decide +kernel
theorem dX5_forgive_20 : decode cX5_forgive 20 = .ok (.iload_n 1, 1) := by decide +kernel
theorem dX5_forgive_21 : decode cX5_forgive 21 = .ok (.iaload, 1) := by decide +kernel
theorem dX5_forgive_22 : decode cX5_forgive 22 = .ok (.istore_n 2, 1) := by decide +kernel
theorem dX5_forgive_23 : decode cX5_forgive 23 = .ok (.iload_n 2, 1) := by decide +kernel
theorem dX5_forgive_24 : decode cX5_forgive 24 = .ok (.ifCond .ne 6, 3) := by decide +kernel
theorem dX5_forgive_27 : decode cX5_forgive 27 = .ok (.bipush (-2), 2) := by decide +kernel
theorem dX5_forgive_29 : decode cX5_forgive 29 = .ok (.ireturn, 1) := by decide +kernel
theorem dX5_forgive_30 : decode cX5_forgive 30 = .ok (.aload_n 0, 1) := by decide +kernel
theorem dX5_forgive_31 : decode cX5_forgive 31 = .ok (.getfield 22, 3) := by decide +kernel
theorem dX5_forgive_34 : decode cX5_forgive 34 = .ok (.aload_n 0, 1) := by decide +kernel
theorem dX5_forgive_35 : decode cX5_forgive 35 = .ok (.getfield 10, 3) := by decide +kernel
theorem dX5_forgive_38 : decode cX5_forgive 38 = .ok (.invokevirtual 157, 3) := by decide +kernel
theorem dX5_forgive_41 : decode cX5_forgive 41 = .ok (.aload_n 0, 1) := by decide +kernel
theorem dX5_forgive_42 : decode cX5_forgive 42 = .ok (.getfield 10, 3) := by decide +kernel
theorem dX5_forgive_45 : decode cX5_forgive 45 = .ok (.getfield 92, 3) := by decide +kernel
theorem dX5_forgive_48 : decode cX5_forgive 48 = .ok (.iload_n 1, 1) := by decide +kernel
theorem dX5_forgive_49 : decode cX5_forgive 49 = .ok (.iconst 0, 1) := by decide +kernel
theorem dX5_forgive_50 : decode cX5_forgive 50 = .ok (.iastore, 1) := by decide +kernel
theorem dX5_forgive_51 : decode cX5_forgive 51 = .ok (.iload_n 2, 1) := by decide +kernel
theorem dX5_forgive_52 : decode cX5_forgive 52 = .ok (.ireturn, 1) := by decide +kernel
theorem dX5_drift_0 : decode cX5_drift 0 = .ok (.iload_n 1, 1) := by decide +kernel
theorem dX5_drift_1 : decode cX5_drift 1 = .ok (.iconst 1, 1) := by decide +kernel
theorem dX5_drift_2 : decode cX5_drift 2 = .ok (.bipush 40, 2) := by decide +kernel
theorem dX5_drift_4 : decode cX5_drift 4 = .ok (.invokestatic 57, 3) := by decide +kernel
theorem dX5_drift_7 : decode cX5_drift 7 = .ok (.ifCond .ne 5, 3) := by decide +kernel
theorem dX5_drift_10 : decode cX5_drift 10 = .ok (.iconst (-1), 1) := by decide +kernel
theorem dX5_drift_11 : decode cX5_drift 11 = .ok (.ireturn, 1) := by decide +kernel
theorem dX5_drift_12 : decode cX5_drift 12 = .ok (.aload_n 0, 1) := by decide +kernel
theorem dX5_drift_13 : decode cX5_drift 13 = .ok (.getfield 10, 3) := by decide +kernel
theorem dX5_drift_16 : decode cX5_drift 16 = .ok (.getfield 140, 3) := by decide +kernel
theorem dX5_drift_19 : decode cX5_drift 19 = .ok (.iload_n 1, 1) := by decide +kernel
theorem dX5_drift_20 : decode cX5_drift 20 = .ok (.iadd, 1) := by decide +kernel
theorem dX5_drift_21 : decode cX5_drift 21 = .ok (.sipush 9999, 3) := by decide +kernel
theorem dX5_drift_24 : decode cX5_drift 24 = .ok (.if_icmp .le 6, 3) := by decide +kernel
theorem dX5_drift_27 : decode cX5_drift 27 = .ok (.bipush (-3), 2) := by decide +kernel
theorem dX5_drift_29 : decode cX5_drift 29 = .ok (.ireturn, 1) := by decide +kernel
theorem dX5_drift_30 : decode cX5_drift 30 = .ok (.iconst 0, 1) := by decide +kernel
theorem dX5_drift_31 : decode cX5_drift 31 = .ok (.istore_n 2, 1) := by decide +kernel
theorem dX5_drift_32 : decode cX5_drift 32 = .ok (.iload_n 2, 1) := by decide +kernel
theorem dX5_drift_33 : decode cX5_drift 33 = .ok (.iload_n 1, 1) := by decide +kernel
theorem dX5_drift_34 : decode cX5_drift 34 = .ok (.if_icmp .ge 35, 3) := by decide +kernel
theorem dX5_drift_37 : decode cX5_drift 37 = .ok (.aload_n 0, 1) := by decide +kernel
theorem dX5_drift_38 : decode cX5_drift 38 = .ok (.getfield 22, 3) := by decide +kernel
theorem dX5_drift_41 : decode cX5_drift 41 = .ok (.aload_n 0, 1) := by decide +kernel
theorem dX5_drift_42 : decode cX5_drift 42 = .ok (.getfield 10, 3) := by decide +kernel
theorem dX5_drift_45 : decode cX5_drift 45 = .ok (.invokevirtual 157, 3) := by decide +kernel
theorem dX5_drift_48 : decode cX5_drift 48 = .ok (.aload_n 0, 1) := by decide +kernel
theorem dX5_drift_49 : decode cX5_drift 49 = .ok (.getfield 10, 3) := by decide +kernel
theorem dX5_drift_52 : decode cX5_drift 52 = .ok (.invokevirtual 168, 3) := by decide +kernel
theorem dX5_drift_55 : decode cX5_drift 55 = .ok (.aload_n 0, 1) := by decide +kernel
theorem dX5_drift_56 : decode cX5_drift 56 = .ok (.getfield 10, 3) := by decide +kernel
theorem dX5_drift_59 : decode cX5_drift 59 = .ok (.iconst 0, 1) := by decide +kernel
theorem dX5_drift_60 : decode cX5_drift 60 = .ok (.invokevirtual 160, 3) := by decide +kernel
theorem dX5_drift_63 : decode cX5_drift 63 = .ok (.iinc 2 1, 3) := by decide +kernel
theorem dX5_drift_66 : decode cX5_drift 66 = .ok (.goto (-34), 3) := by decide +kernel
theorem dX5_drift_69 : decode cX5_drift 69 = .ok (.aload_n 0, 1) := by decide +kernel
theorem dX5_drift_70 : decode cX5_drift 70 = .ok (.getfield 10, 3) := by decide +kernel
theorem dX5_drift_73 : decode cX5_drift 73 = .ok (.invokevirtual 146, 3) := by decide +kernel
theorem dX5_drift_76 : decode cX5_drift 76 = .ok (.ireturn, 1) := by decide +kernel
theorem dX5_undo_0 : decode cX5_undo 0 = .ok (.aload_n 0, 1) := by decide +kernel
theorem dX5_undo_1 : decode cX5_undo 1 = .ok (.getfield 22, 3) := by decide +kernel
theorem dX5_undo_4 : decode cX5_undo 4 = .ok (.getfield 156, 3) := by decide +kernel
theorem dX5_undo_7 : decode cX5_undo 7 = .ok (.ifCond .ne 6, 3) := by decide +kernel
theorem dX5_undo_10 : decode cX5_undo 10 = .ok (.bipush (-4), 2) := by decide +kernel
theorem dX5_undo_12 : decode cX5_undo 12 = .ok (.ireturn, 1) := by decide +kernel
theorem dX5_undo_13 : decode cX5_undo 13 = .ok (.aload_n 0, 1) := by decide +kernel
theorem dX5_undo_14 : decode cX5_undo 14 = .ok (.getfield 10, 3) := by decide +kernel
theorem dX5_undo_17 : decode cX5_undo 17 = .ok (.getfield 82, 3) := by decide +kernel
theorem dX5_undo_20 : decode cX5_undo 20 = .ok (.istore_n 1, 1) := by decide +kernel
theorem dX5_undo_21 : decode cX5_undo 21 = .ok (.aload_n 0, 1) := by decide +kernel
theorem dX5_undo_22 : decode cX5_undo 22 = .ok (.getfield 22, 3) := by decide +kernel
theorem dX5_undo_25 : decode cX5_undo 25 = .ok (.aload_n 0, 1) := by decide +kernel
theorem dX5_undo_26 : decode cX5_undo 26 = .ok (.getfield 10, 3) := by decide +kernel
theorem dX5_undo_29 : decode cX5_undo 29 = .ok (.invokevirtual 171, 3) := by decide +kernel
theorem dX5_undo_32 : decode cX5_undo 32 = .ok (.aload_n 0, 1) := by decide +kernel
theorem dX5_undo_33 : decode cX5_undo 33 = .ok (.getfield 10, 3) := by decide +kernel
theorem dX5_undo_36 : decode cX5_undo 36 = .ok (.iload_n 1, 1) := by decide +kernel
theorem dX5_undo_37 : decode cX5_undo 37 = .ok (.putfield 82, 3) := by decide +kernel
theorem dX5_undo_40 : decode cX5_undo 40 = .ok (.aload_n 0, 1) := by decide +kernel
theorem dX5_undo_41 : decode cX5_undo 41 = .ok (.getfield 22, 3) := by decide +kernel
theorem dX5_undo_44 : decode cX5_undo 44 = .ok (.getfield 156, 3) := by decide +kernel
theorem dX5_undo_47 : decode cX5_undo 47 = .ok (.ireturn, 1) := by decide +kernel
theorem dX5_seed_0 : decode cX5_seed 0 = .ok (.iload_n 1, 1) := by decide +kernel
theorem dX5_seed_1 : decode cX5_seed 1 = .ok (.ifCond .ge 5, 3) := by decide +kernel
theorem dX5_seed_4 : decode cX5_seed 4 = .ok (.iconst (-1), 1) := by decide +kernel
theorem dX5_seed_5 : decode cX5_seed 5 = .ok (.ireturn, 1) := by decide +kernel
theorem dX5_seed_6 : decode cX5_seed 6 = .ok (.aload_n 0, 1) := by decide +kernel
theorem dX5_seed_7 : decode cX5_seed 7 = .ok (.getfield 10, 3) := by decide +kernel
theorem dX5_seed_10 : decode cX5_seed 10 = .ok (.getfield 130, 3) := by decide +kernel
theorem dX5_seed_13 : decode cX5_seed 13 = .ok (.istore_n 2, 1) := by decide +kernel
theorem dX5_seed_14 : decode cX5_seed 14 = .ok (.aload_n 0, 1) := by decide +kernel
theorem dX5_seed_15 : decode cX5_seed 15 = .ok (.getfield 10, 3) := by decide +kernel
theorem dX5_seed_18 : decode cX5_seed 18 = .ok (.iload_n 1, 1) := by decide +kernel
theorem dX5_seed_19 : decode cX5_seed 19 = .ok (.putfield 130, 3) := by decide +kernel
theorem dX5_seed_22 : decode cX5_seed 22 = .ok (.iload_n 2, 1) := by decide +kernel
theorem dX5_seed_23 : decode cX5_seed 23 = .ok (.ireturn, 1) := by decide +kernel
theorem dX5_ahead_0 : decode cX5_ahead 0 = .ok (.aload_n 0, 1) := by decide +kernel
theorem dX5_ahead_1 : decode cX5_ahead 1 = .ok (.getfield 10, 3) := by decide +kernel
theorem dX5_ahead_4 : decode cX5_ahead 4 = .ok (.iload_n 1, 1) := by decide +kernel
theorem dX5_ahead_5 : decode cX5_ahead 5 = .ok (.invokevirtual 72, 3) := by decide +kernel
theorem dX5_ahead_8 : decode cX5_ahead 8 = .ok (.ifCond .eq 22, 3) := by decide +kernel
theorem dX5_ahead_11 : decode cX5_ahead 11 = .ok (.iload_n 2, 1) := by decide +kernel
theorem dX5_ahead_12 : decode cX5_ahead 12 = .ok (.iconst 0, 1) := by decide +kernel
theorem dX5_ahead_13 : decode cX5_ahead 13 = .ok (.bipush 60, 2) := by decide +kernel
theorem dX5_ahead_15 : decode cX5_ahead 15 = .ok (.invokestatic 57, 3) := by decide +kernel
theorem dX5_ahead_18 : decode cX5_ahead 18 = .ok (.ifCond .eq 12, 3) := by decide +kernel
theorem dX5_ahead_21 : decode cX5_ahead 21 = .ok (.iload_n 3, 1) := by decide +kernel
theorem dX5_ahead_22 : decode cX5_ahead 22 = .ok (.iconst 0, 1) := by decide +kernel
theorem dX5_ahead_23 : decode cX5_ahead 23 = .ok (.iconst 1, 1) := by decide +kernel
theorem dX5_ahead_24 : decode cX5_ahead 24 = .ok (.invokestatic 57, 3) := by decide +kernel
theorem dX5_ahead_27 : decode cX5_ahead 27 = .ok (.ifCond .ne 5, 3) := by decide +kernel
theorem dX5_ahead_30 : decode cX5_ahead 30 = .ok (.iconst (-1), 1) := by decide +kernel
theorem dX5_ahead_31 : decode cX5_ahead 31 = .ok (.ireturn, 1) := by decide +kernel
theorem dX5_ahead_32 : decode cX5_ahead 32 = .ok (.aload_n 0, 1) := by decide +kernel
theorem dX5_ahead_33 : decode cX5_ahead 33 = .ok (.iload_n 2, 1) := by decide +kernel
theorem dX5_ahead_34 : decode cX5_ahead 34 = .ok (.invokevirtual 174, 3) := by decide +kernel
theorem dX5_ahead_37 : decode cX5_ahead 37 = .ok (.iload_n 3, 1) := by decide +kernel
theorem dX5_ahead_38 : decode cX5_ahead 38 = .ok (.ifCond .ne 15, 3) := by decide +kernel
theorem dX5_ahead_41 : decode cX5_ahead 41 = .ok (.aload_n 0, 1) := by decide +kernel
theorem dX5_ahead_42 : decode cX5_ahead 42 = .ok (.getfield 16, 3) := by decide +kernel
theorem dX5_ahead_45 : decode cX5_ahead 45 = .ok (.getfield 85, 3) := by decide +kernel
theorem dX5_ahead_48 : decode cX5_ahead 48 = .ok (.iload_n 1, 1) := by decide +kernel
theorem dX5_ahead_49 : decode cX5_ahead 49 = .ok (.iaload, 1) := by decide +kernel
theorem dX5_ahead_50 : decode cX5_ahead 50 = .ok (.goto 12, 3) := by decide +kernel
theorem dX5_ahead_53 : decode cX5_ahead 53 = .ok (.aload_n 0, 1) := by decide +kernel
theorem dX5_ahead_54 : decode cX5_ahead 54 = .ok (.getfield 16, 3) := by decide +kernel
theorem dX5_ahead_57 : decode cX5_ahead 57 = .ok (.getfield 92, 3) := by decide +kernel
theorem dX5_ahead_60 : decode cX5_ahead 60 = .ok (.iload_n 1, 1) := by decide +kernel
theorem dX5_ahead_61 : decode cX5_ahead 61 = .ok (.iaload, 1) := by decide +kernel
theorem dX5_ahead_62 : decode cX5_ahead 62 = .ok (.ireturn, 1) := by decide +kernel
theorem dX5_where_0 : decode cX5_where 0 = .ok (.aload_n 0, 1) := by decide +kernel
theorem dX5_where_1 : decode cX5_where 1 = .ok (.getfield 10, 3) := by decide +kernel
theorem dX5_where_4 : decode cX5_where 4 = .ok (.iload_n 1, 1) := by decide +kernel
theorem dX5_where_5 : decode cX5_where 5 = .ok (.invokevirtual 102, 3) := by decide +kernel
theorem dX5_where_8 : decode cX5_where 8 = .ok (.ifCond .eq 13, 3) := by decide +kernel
theorem dX5_where_11 : decode cX5_where 11 = .ok (.iload_n 2, 1) := by decide +kernel
theorem dX5_where_12 : decode cX5_where 12 = .ok (.iconst 0, 1) := by decide +kernel
theorem dX5_where_13 : decode cX5_where 13 = .ok (.bipush 60, 2) := by decide +kernel
theorem dX5_where_15 : decode cX5_where 15 = .ok (.invokestatic 57, 3) := by decide +kernel
theorem dX5_where_18 : decode cX5_where 18 = .ok (.ifCond .ne 5, 3) := by decide +kernel
theorem dX5_where_21 : decode cX5_where 21 = .ok (.iconst (-1), 1) := by decide +kernel
theorem dX5_where_22 : decode cX5_where 22 = .ok (.ireturn, 1) := by decide +kernel
theorem dX5_where_23 : decode cX5_where 23 = .ok (.aload_n 0, 1) := by decide +kernel
theorem dX5_where_24 : decode cX5_where 24 = .ok (.iload_n 2, 1) := by decide +kernel
theorem dX5_where_25 : decode cX5_where 25 = .ok (.invokevirtual 174, 3) := by decide +kernel
theorem dX5_where_28 : decode cX5_where 28 = .ok (.aload_n 0, 1) := by decide +kernel
theorem dX5_where_29 : decode cX5_where 29 = .ok (.getfield 16, 3) := by decide +kernel
theorem dX5_where_32 : decode cX5_where 32 = .ok (.getfield 111, 3) := by decide +kernel
theorem dX5_where_35 : decode cX5_where 35 = .ok (.iload_n 1, 1) := by decide +kernel
theorem dX5_where_36 : decode cX5_where 36 = .ok (.iaload, 1) := by decide +kernel
theorem dX5_where_37 : decode cX5_where 37 = .ok (.ireturn, 1) := by decide +kernel
theorem dX5_then_0 : decode cX5_then 0 = .ok (.iload_n 1, 1) := by decide +kernel
theorem dX5_then_1 : decode cX5_then 1 = .ok (.iconst 0, 1) := by decide +kernel
theorem dX5_then_2 : decode cX5_then 2 = .ok (.bipush 60, 2) := by decide +kernel
theorem dX5_then_4 : decode cX5_then 4 = .ok (.invokestatic 57, 3) := by decide +kernel
theorem dX5_then_7 : decode cX5_then 7 = .ok (.ifCond .eq 12, 3) := by decide +kernel
theorem dX5_then_10 : decode cX5_then 10 = .ok (.iload_n 2, 1) := by decide +kernel
theorem dX5_then_11 : decode cX5_then 11 = .ok (.iconst 0, 1) := by decide +kernel
theorem dX5_then_12 : decode cX5_then 12 = .ok (.iconst 1, 1) := by decide +kernel
theorem dX5_then_13 : decode cX5_then 13 = .ok (.invokestatic 57, 3) := by decide +kernel
theorem dX5_then_16 : decode cX5_then 16 = .ok (.ifCond .ne 5, 3) := by decide +kernel
theorem dX5_then_19 : decode cX5_then 19 = .ok (.iconst (-1), 1) := by decide +kernel
theorem dX5_then_20 : decode cX5_then 20 = .ok (.ireturn, 1) := by decide +kernel
theorem dX5_then_21 : decode cX5_then 21 = .ok (.aload_n 0, 1) := by decide +kernel
theorem dX5_then_22 : decode cX5_then 22 = .ok (.iload_n 1, 1) := by decide +kernel
theorem dX5_then_23 : decode cX5_then 23 = .ok (.invokevirtual 174, 3) := by decide +kernel
theorem dX5_then_26 : decode cX5_then 26 = .ok (.iload_n 2, 1) := by decide +kernel
theorem dX5_then_27 : decode cX5_then 27 = .ok (.ifCond .ne 13, 3) := by decide +kernel
theorem dX5_then_30 : decode cX5_then 30 = .ok (.aload_n 0, 1) := by decide +kernel
theorem dX5_then_31 : decode cX5_then 31 = .ok (.getfield 16, 3) := by decide +kernel
theorem dX5_then_34 : decode cX5_then 34 = .ok (.invokevirtual 146, 3) := by decide +kernel
theorem dX5_then_37 : decode cX5_then 37 = .ok (.goto 10, 3) := by decide +kernel
theorem dX5_then_40 : decode cX5_then 40 = .ok (.aload_n 0, 1) := by decide +kernel
theorem dX5_then_41 : decode cX5_then 41 = .ok (.getfield 16, 3) := by decide +kernel
theorem dX5_then_44 : decode cX5_then 44 = .ok (.getfield 143, 3) := by decide +kernel
theorem dX5_then_47 : decode cX5_then 47 = .ok (.ireturn, 1) := by decide +kernel
theorem dX5_lost_0 : decode cX5_lost 0 = .ok (.aload_n 0, 1) := by decide +kernel
theorem dX5_lost_1 : decode cX5_lost 1 = .ok (.getfield 10, 3) := by decide +kernel
theorem dX5_lost_4 : decode cX5_lost 4 = .ok (.iload_n 1, 1) := by decide +kernel
theorem dX5_lost_5 : decode cX5_lost 5 = .ok (.invokevirtual 72, 3) := by decide +kernel
theorem dX5_lost_8 : decode cX5_lost 8 = .ok (.ifCond .ne 5, 3) := by decide +kernel
theorem dX5_lost_11 : decode cX5_lost 11 = .ok (.iconst (-1), 1) := by decide +kernel
theorem dX5_lost_12 : decode cX5_lost 12 = .ok (.ireturn, 1) := by decide +kernel
theorem dX5_lost_13 : decode cX5_lost 13 = .ok (.aload_n 0, 1) := by decide +kernel
theorem dX5_lost_14 : decode cX5_lost 14 = .ok (.getfield 16, 3) := by decide +kernel
theorem dX5_lost_17 : decode cX5_lost 17 = .ok (.aload_n 0, 1) := by decide +kernel
theorem dX5_lost_18 : decode cX5_lost 18 = .ok (.getfield 10, 3) := by decide +kernel
theorem dX5_lost_21 : decode cX5_lost 21 = .ok (.invokevirtual 136, 3) := by decide +kernel
theorem dX5_lost_24 : decode cX5_lost 24 = .ok (.iconst 0, 1) := by decide +kernel
theorem dX5_lost_25 : decode cX5_lost 25 = .ok (.istore_n 2, 1) := by decide +kernel
theorem dX5_lost_26 : decode cX5_lost 26 = .ok (.iload_n 2, 1) := by decide +kernel
theorem dX5_lost_27 : decode cX5_lost 27 = .ok (.bipush 60, 2) := by decide +kernel
theorem dX5_lost_29 : decode cX5_lost 29 = .ok (.if_icmp .gt 30, 3) := by decide +kernel
theorem dX5_lost_32 : decode cX5_lost 32 = .ok (.aload_n 0, 1) := by decide +kernel
theorem dX5_lost_33 : decode cX5_lost 33 = .ok (.getfield 16, 3) := by decide +kernel
theorem dX5_lost_36 : decode cX5_lost 36 = .ok (.iload_n 1, 1) := by decide +kernel
theorem dX5_lost_37 : decode cX5_lost 37 = .ok (.invokevirtual 95, 3) := by decide +kernel
theorem dX5_lost_40 : decode cX5_lost 40 = .ok (.ifCond .eq 5, 3) := by decide +kernel
theorem dX5_lost_43 : decode cX5_lost 43 = .ok (.iload_n 2, 1) := by decide +kernel
theorem dX5_lost_44 : decode cX5_lost 44 = .ok (.ireturn, 1) := by decide +kernel
theorem dX5_lost_45 : decode cX5_lost 45 = .ok (.aload_n 0, 1) := by decide +kernel
theorem dX5_lost_46 : decode cX5_lost 46 = .ok (.getfield 16, 3) := by decide +kernel
theorem dX5_lost_49 : decode cX5_lost 49 = .ok (.iconst 0, 1) := by decide +kernel
theorem dX5_lost_50 : decode cX5_lost 50 = .ok (.invokevirtual 160, 3) := by decide +kernel
theorem dX5_lost_53 : decode cX5_lost 53 = .ok (.iinc 2 1, 3) := by decide +kernel
theorem dX5_lost_56 : decode cX5_lost 56 = .ok (.goto (-30), 3) := by decide +kernel
theorem dX5_lost_59 : decode cX5_lost 59 = .ok (.bipush (-4), 2) := by decide +kernel
theorem dX5_lost_61 : decode cX5_lost 61 = .ok (.ireturn, 1) := by decide +kernel
theorem dX5_free_0 : decode cX5_free 0 = .ok (.aload_n 0, 1) := by decide +kernel
theorem dX5_free_1 : decode cX5_free 1 = .ok (.getfield 10, 3) := by decide +kernel
theorem dX5_free_4 : decode cX5_free 4 = .ok (.iload_n 1, 1) := by decide +kernel
theorem dX5_free_5 : decode cX5_free 5 = .ok (.invokevirtual 72, 3) := by decide +kernel
theorem dX5_free_8 : decode cX5_free 8 = .ok (.ifCond .ne 5, 3) := by decide +kernel
theorem dX5_free_11 : decode cX5_free 11 = .ok (.iconst (-1), 1) := by decide +kernel
theorem dX5_free_12 : decode cX5_free 12 = .ok (.ireturn, 1) := by decide +kernel
theorem dX5_free_13 : decode cX5_free 13 = .ok (.aload_n 0, 1) := by decide +kernel
theorem dX5_free_14 : decode cX5_free 14 = .ok (.getfield 16, 3) := by decide +kernel
theorem dX5_free_17 : decode cX5_free 17 = .ok (.aload_n 0, 1) := by decide +kernel
theorem dX5_free_18 : decode cX5_free 18 = .ok (.getfield 10, 3) := by decide +kernel
theorem dX5_free_21 : decode cX5_free 21 = .ok (.invokevirtual 136, 3) := by decide +kernel
theorem dX5_free_24 : decode cX5_free 24 = .ok (.iconst 0, 1) := by decide +kernel
theorem dX5_free_25 : decode cX5_free 25 = .ok (.istore_n 2, 1) := by decide +kernel
theorem dX5_free_26 : decode cX5_free 26 = .ok (.iload_n 2, 1) := by decide +kernel
theorem dX5_free_27 : decode cX5_free 27 = .ok (.bipush 60, 2) := by decide +kernel
theorem dX5_free_29 : decode cX5_free 29 = .ok (.if_icmp .gt 31, 3) := by decide +kernel
theorem dX5_free_32 : decode cX5_free 32 = .ok (.aload_n 0, 1) := by decide +kernel
theorem dX5_free_33 : decode cX5_free 33 = .ok (.getfield 16, 3) := by decide +kernel
theorem dX5_free_36 : decode cX5_free 36 = .ok (.getfield 85, 3) := by decide +kernel
theorem dX5_free_39 : decode cX5_free 39 = .ok (.iload_n 1, 1) := by decide +kernel
theorem dX5_free_40 : decode cX5_free 40 = .ok (.iaload, 1) := by decide +kernel
theorem dX5_free_41 : decode cX5_free 41 = .ok (.ifCond .ne 5, 3) := by decide +kernel
theorem dX5_free_44 : decode cX5_free 44 = .ok (.iload_n 2, 1) := by decide +kernel
theorem dX5_free_45 : decode cX5_free 45 = .ok (.ireturn, 1) := by decide +kernel
theorem dX5_free_46 : decode cX5_free 46 = .ok (.aload_n 0, 1) := by decide +kernel
theorem dX5_free_47 : decode cX5_free 47 = .ok (.getfield 16, 3) := by decide +kernel
theorem dX5_free_50 : decode cX5_free 50 = .ok (.iconst 0, 1) := by decide +kernel
theorem dX5_free_51 : decode cX5_free 51 = .ok (.invokevirtual 160, 3) := by decide +kernel
theorem dX5_free_54 : decode cX5_free 54 = .ok (.iinc 2 1, 3) := by decide +kernel
theorem dX5_free_57 : decode cX5_free 57 = .ok (.goto (-31), 3) := by decide +kernel
theorem dX5_free_60 : decode cX5_free 60 = .ok (.bipush (-4), 2) := by decide +kernel
theorem dX5_free_62 : decode cX5_free 62 = .ok (.ireturn, 1) := by decide +kernel
theorem dX5_keep_0 : decode cX5_keep 0 = .ok (.aload_n 0, 1) := by decide +kernel
theorem dX5_keep_1 : decode cX5_keep 1 = .ok (.getfield 10, 3) := by decide +kernel
theorem dX5_keep_4 : decode cX5_keep 4 = .ok (.iload_n 1, 1) := by decide +kernel
theorem dX5_keep_5 : decode cX5_keep 5 = .ok (.invokevirtual 72, 3) := by decide +kernel
theorem dX5_keep_8 : decode cX5_keep 8 = .ok (.ifCond .eq 13, 3) := by decide +kernel
theorem dX5_keep_11 : decode cX5_keep 11 = .ok (.iload_n 2, 1) := by decide +kernel
theorem dX5_keep_12 : decode cX5_keep 12 = .ok (.iconst 1, 1) := by decide +kernel
theorem dX5_keep_13 : decode cX5_keep 13 = .ok (.bipush 40, 2) := by decide +kernel
theorem dX5_keep_15 : decode cX5_keep 15 = .ok (.invokestatic 57, 3) := by decide +kernel
theorem dX5_keep_18 : decode cX5_keep 18 = .ok (.ifCond .ne 5, 3) := by decide +kernel
theorem dX5_keep_21 : decode cX5_keep 21 = .ok (.iconst (-1), 1) := by decide +kernel
theorem dX5_keep_22 : decode cX5_keep 22 = .ok (.ireturn, 1) := by decide +kernel
theorem dX5_keep_23 : decode cX5_keep 23 = .ok (.iconst 0, 1) := by decide +kernel
theorem dX5_keep_24 : decode cX5_keep 24 = .ok (.istore_n 3, 1) := by decide +kernel
theorem dX5_keep_25 : decode cX5_keep 25 = .ok (.iload_n 3, 1) := by decide +kernel
theorem dX5_keep_26 : decode cX5_keep 26 = .ok (.bipush 20, 2) := by decide +kernel
theorem dX5_keep_28 : decode cX5_keep 28 = .ok (.if_icmp .gt 51, 3) := by decide +kernel
theorem dX5_keep_31 : decode cX5_keep 31 = .ok (.aload_n 0, 1) := by decide +kernel
theorem dX5_keep_32 : decode cX5_keep 32 = .ok (.getfield 16, 3) := by decide +kernel
theorem dX5_keep_35 : decode cX5_keep 35 = .ok (.aload_n 0, 1) := by decide +kernel
theorem dX5_keep_36 : decode cX5_keep 36 = .ok (.getfield 10, 3) := by decide +kernel
theorem dX5_keep_39 : decode cX5_keep 39 = .ok (.invokevirtual 136, 3) := by decide +kernel
theorem dX5_keep_42 : decode cX5_keep 42 = .ok (.aload_n 0, 1) := by decide +kernel
theorem dX5_keep_43 : decode cX5_keep 43 = .ok (.getfield 16, 3) := by decide +kernel
theorem dX5_keep_46 : decode cX5_keep 46 = .ok (.getfield 89, 3) := by decide +kernel
theorem dX5_keep_49 : decode cX5_keep 49 = .ok (.iload_n 1, 1) := by decide +kernel
theorem dX5_keep_50 : decode cX5_keep 50 = .ok (.iload_n 3, 1) := by decide +kernel
theorem dX5_keep_51 : decode cX5_keep 51 = .ok (.iastore, 1) := by decide +kernel
theorem dX5_keep_52 : decode cX5_keep 52 = .ok (.aload_n 0, 1) := by decide +kernel
theorem dX5_keep_53 : decode cX5_keep 53 = .ok (.getfield 16, 3) := by decide +kernel
theorem dX5_keep_56 : decode cX5_keep 56 = .ok (.iload_n 2, 1) := by decide +kernel
theorem dX5_keep_57 : decode cX5_keep 57 = .ok (.invokevirtual 177, 3) := by decide +kernel
theorem dX5_keep_60 : decode cX5_keep 60 = .ok (.aload_n 0, 1) := by decide +kernel
theorem dX5_keep_61 : decode cX5_keep 61 = .ok (.getfield 16, 3) := by decide +kernel
theorem dX5_keep_64 : decode cX5_keep 64 = .ok (.iload_n 1, 1) := by decide +kernel
theorem dX5_keep_65 : decode cX5_keep 65 = .ok (.invokevirtual 95, 3) := by decide +kernel
theorem dX5_keep_68 : decode cX5_keep 68 = .ok (.ifCond .ne 5, 3) := by decide +kernel
theorem dX5_keep_71 : decode cX5_keep 71 = .ok (.iload_n 3, 1) := by decide +kernel
theorem dX5_keep_72 : decode cX5_keep 72 = .ok (.ireturn, 1) := by decide +kernel
theorem dX5_keep_73 : decode cX5_keep 73 = .ok (.iinc 3 1, 3) := by decide +kernel
theorem dX5_keep_76 : decode cX5_keep 76 = .ok (.goto (-51), 3) := by decide +kernel
theorem dX5_keep_79 : decode cX5_keep 79 = .ok (.bipush (-4), 2) := by decide +kernel
theorem dX5_keep_81 : decode cX5_keep 81 = .ok (.ireturn, 1) := by decide +kernel
theorem dX5_part_0 : decode cX5_part 0 = .ok (.iload_n 1, 1) := by decide +kernel
theorem dX5_part_1 : decode cX5_part 1 = .ok (.iconst 0, 1) := by decide +kernel
theorem dX5_part_2 : decode cX5_part 2 = .ok (.bipush 12, 2) := by decide +kernel
theorem dX5_part_4 : decode cX5_part 4 = .ok (.invokestatic 57, 3) := by decide +kernel
theorem dX5_part_7 : decode cX5_part 7 = .ok (.ifCond .eq 19, 3) := by decide +kernel
theorem dX5_part_10 : decode cX5_part 10 = .ok (.iload_n 2, 1) := by decide +kernel
theorem dX5_part_11 : decode cX5_part 11 = .ok (.iconst 1, 1) := by decide +kernel
theorem dX5_part_12 : decode cX5_part 12 = .ok (.bipush 30, 2) := by decide +kernel
theorem dX5_part_14 : decode cX5_part 14 = .ok (.invokestatic 57, 3) := by decide +kernel
theorem dX5_part_17 : decode cX5_part 17 = .ok (.ifCond .eq 9, 3) := by decide +kernel
theorem dX5_part_20 : decode cX5_part 20 = .ok (.iload_n 3, 1) := by decide +kernel
theorem dX5_part_21 : decode cX5_part 21 = .ok (.bipush (-2), 2) := by decide +kernel
theorem dX5_part_23 : decode cX5_part 23 = .ok (.if_icmp .ge 5, 3) := by decide +kernel
theorem dX5_part_26 : decode cX5_part 26 = .ok (.iconst (-1), 1) := by decide +kernel
theorem dX5_part_27 : decode cX5_part 27 = .ok (.ireturn, 1) := by decide +kernel
theorem dX5_part_28 : decode cX5_part 28 = .ok (.iload_n 3, 1) := by decide +kernel
theorem dX5_part_29 : decode cX5_part 29 = .ok (.aload_n 0, 1) := by decide +kernel
theorem dX5_part_30 : decode cX5_part 30 = .ok (.getfield 10, 3) := by decide +kernel
theorem dX5_part_33 : decode cX5_part 33 = .ok (.getfield 61, 3) := by decide +kernel
theorem dX5_part_36 : decode cX5_part 36 = .ok (.if_icmp .ge 13, 3) := by decide +kernel
theorem dX5_part_39 : decode cX5_part 39 = .ok (.aload_n 0, 1) := by decide +kernel
theorem dX5_part_40 : decode cX5_part 40 = .ok (.getfield 10, 3) := by decide +kernel
theorem dX5_part_43 : decode cX5_part 43 = .ok (.getfield 61, 3) := by decide +kernel
theorem dX5_part_46 : decode cX5_part 46 = .ok (.ifCond .ne 6, 3) := by decide +kernel
theorem dX5_part_49 : decode cX5_part 49 = .ok (.bipush (-4), 2) := by decide +kernel
theorem dX5_part_51 : decode cX5_part 51 = .ok (.ireturn, 1) := by decide +kernel
theorem dX5_part_52 : decode cX5_part 52 = .ok (.aload_n 0, 1) := by decide +kernel
theorem dX5_part_53 : decode cX5_part 53 = .ok (.getfield 29, 3) := by decide +kernel
theorem dX5_part_56 : decode cX5_part 56 = .ok (.aload_n 0, 1) := by decide +kernel
theorem dX5_part_57 : decode cX5_part 57 = .ok (.getfield 10, 3) := by decide +kernel
theorem dX5_part_60 : decode cX5_part 60 = .ok (.aload_n 0, 1) := by decide +kernel
theorem dX5_part_61 : decode cX5_part 61 = .ok (.getfield 16, 3) := by decide +kernel
theorem dX5_part_64 : decode cX5_part 64 = .ok (.iload_n 1, 1) := by decide +kernel
theorem dX5_part_65 : decode cX5_part 65 = .ok (.iload_n 2, 1) := by decide +kernel
theorem dX5_part_66 : decode cX5_part 66 = .ok (.invokevirtual 180, 3) := by decide +kernel
theorem dX5_part_69 : decode cX5_part 69 = .ok (.iload_n 3, 1) := by decide +kernel
theorem dX5_part_70 : decode cX5_part 70 = .ok (.iconst (-1), 1) := by decide +kernel
theorem dX5_part_71 : decode cX5_part 71 = .ok (.if_icmp .ne 11, 3) := by decide +kernel
theorem dX5_part_74 : decode cX5_part 74 = .ok (.aload_n 0, 1) := by decide +kernel
theorem dX5_part_75 : decode cX5_part 75 = .ok (.getfield 29, 3) := by decide +kernel
theorem dX5_part_78 : decode cX5_part 78 = .ok (.getfield 184, 3) := by decide +kernel
theorem dX5_part_81 : decode cX5_part 81 = .ok (.ireturn, 1) := by decide +kernel
theorem dX5_part_82 : decode cX5_part 82 = .ok (.iload_n 3, 1) := by decide +kernel
theorem dX5_part_83 : decode cX5_part 83 = .ok (.bipush (-2), 2) := by decide +kernel
theorem dX5_part_85 : decode cX5_part 85 = .ok (.if_icmp .ne 13, 3) := by decide +kernel
theorem dX5_part_88 : decode cX5_part 88 = .ok (.aload_n 0, 1) := by decide +kernel
theorem dX5_part_89 : decode cX5_part 89 = .ok (.getfield 29, 3) := by decide +kernel
theorem dX5_part_92 : decode cX5_part 92 = .ok (.getfield 187, 3) := by decide +kernel
theorem dX5_part_95 : decode cX5_part 95 = .ok (.goto 12, 3) := by decide +kernel
theorem dX5_part_98 : decode cX5_part 98 = .ok (.aload_n 0, 1) := by decide +kernel
theorem dX5_part_99 : decode cX5_part 99 = .ok (.getfield 29, 3) := by decide +kernel
theorem dX5_part_102 : decode cX5_part 102 = .ok (.getfield 190, 3) := by decide +kernel
theorem dX5_part_105 : decode cX5_part 105 = .ok (.iload_n 3, 1) := by decide +kernel
theorem dX5_part_106 : decode cX5_part 106 = .ok (.iaload, 1) := by decide +kernel
theorem dX5_part_107 : decode cX5_part 107 = .ok (.ireturn, 1) := by decide +kernel
theorem dX5_drives_0 : decode cX5_drives 0 = .ok (.aload_n 0, 1) := by decide +kernel
theorem dX5_drives_1 : decode cX5_drives 1 = .ok (.getfield 10, 3) := by decide +kernel
theorem dX5_drives_4 : decode cX5_drives 4 = .ok (.iload_n 1, 1) := by decide +kernel
theorem dX5_drives_5 : decode cX5_drives 5 = .ok (.invokevirtual 72, 3) := by decide +kernel
theorem dX5_drives_8 : decode cX5_drives 8 = .ok (.ifCond .eq 22, 3) := by decide +kernel
theorem dX5_drives_11 : decode cX5_drives 11 = .ok (.iload_n 2, 1) := by decide +kernel
theorem dX5_drives_12 : decode cX5_drives 12 = .ok (.iconst 1, 1) := by decide +kernel
theorem dX5_drives_13 : decode cX5_drives 13 = .ok (.bipush 40, 2) := by decide +kernel
theorem dX5_drives_15 : decode cX5_drives 15 = .ok (.invokestatic 57, 3) := by decide +kernel
theorem dX5_drives_18 : decode cX5_drives 18 = .ok (.ifCond .eq 12, 3) := by decide +kernel
theorem dX5_drives_21 : decode cX5_drives 21 = .ok (.iload_n 3, 1) := by decide +kernel
theorem dX5_drives_22 : decode cX5_drives 22 = .ok (.iconst 0, 1) := by decide +kernel
theorem dX5_drives_23 : decode cX5_drives 23 = .ok (.iconst 1, 1) := by decide +kernel
theorem dX5_drives_24 : decode cX5_drives 24 = .ok (.invokestatic 57, 3) := by decide +kernel
theorem dX5_drives_27 : decode cX5_drives 27 = .ok (.ifCond .ne 5, 3) := by decide +kernel
theorem dX5_drives_30 : decode cX5_drives 30 = .ok (.iconst (-1), 1) := by decide +kernel
theorem dX5_drives_31 : decode cX5_drives 31 = .ok (.ireturn, 1) := by decide +kernel
theorem dX5_drives_32 : decode cX5_drives 32 = .ok (.bipush (-4), 2) := by decide +kernel
theorem dX5_drives_34 : decode cX5_drives 34 = .ok (.istore 4, 2) := by decide +kernel
theorem dX5_drives_36 : decode cX5_drives 36 = .ok (.iconst 0, 1) := by decide +kernel
theorem dX5_drives_37 : decode cX5_drives 37 = .ok (.istore 5, 2) := by decide +kernel
theorem dX5_drives_39 : decode cX5_drives 39 = .ok (.iconst 0, 1) := by decide +kernel
theorem dX5_drives_40 : decode cX5_drives 40 = .ok (.istore 6, 2) := by decide +kernel
theorem dX5_drives_42 : decode cX5_drives 42 = .ok (.iconst 0, 1) := by decide +kernel
theorem dX5_drives_43 : decode cX5_drives 43 = .ok (.istore 7, 2) := by decide +kernel
theorem dX5_drives_45 : decode cX5_drives 45 = .ok (.iload 7, 2) := by decide +kernel
theorem dX5_drives_47 : decode cX5_drives 47 = .ok (.aload_n 0, 1) := by decide +kernel
theorem dX5_drives_48 : decode cX5_drives 48 = .ok (.getfield 10, 3) := by decide +kernel
theorem dX5_drives_51 : decode cX5_drives 51 = .ok (.getfield 76, 3) := by decide +kernel
theorem dX5_drives_54 : decode cX5_drives 54 = .ok (.if_icmp .ge 125, 3) := by decide +kernel
theorem dX5_drives_57 : decode cX5_drives 57 = .ok (.iconst 0, 1) := by decide +kernel
theorem dX5_drives_58 : decode cX5_drives 58 = .ok (.istore 8, 2) := by decide +kernel
theorem dX5_drives_60 : decode cX5_drives 60 = .ok (.iload 8, 2) := by decide +kernel
theorem dX5_drives_62 : decode cX5_drives 62 = .ok (.aload_n 0, 1) := by decide +kernel
theorem dX5_drives_63 : decode cX5_drives 63 = .ok (.getfield 10, 3) := by decide +kernel
theorem dX5_drives_66 : decode cX5_drives 66 = .ok (.getfield 61, 3) := by decide +kernel
theorem dX5_drives_69 : decode cX5_drives 69 = .ok (.if_icmp .ge 104, 3) := by decide +kernel
theorem dX5_drives_72 : decode cX5_drives 72 = .ok (.aload_n 0, 1) := by decide +kernel
theorem dX5_drives_73 : decode cX5_drives 73 = .ok (.getfield 10, 3) := by decide +kernel
theorem dX5_drives_76 : decode cX5_drives 76 = .ok (.getfield 111, 3) := by decide +kernel
theorem dX5_drives_79 : decode cX5_drives 79 = .ok (.iload 7, 2) := by decide +kernel
theorem dX5_drives_81 : decode cX5_drives 81 = .ok (.iaload, 1) := by decide +kernel
theorem dX5_drives_82 : decode cX5_drives 82 = .ok (.iload 8, 2) := by decide +kernel
theorem dX5_drives_84 : decode cX5_drives 84 = .ok (.if_icmp .ne 6, 3) := by decide +kernel
theorem dX5_drives_87 : decode cX5_drives 87 = .ok (.goto 80, 3) := by decide +kernel
theorem dX5_drives_90 : decode cX5_drives 90 = .ok (.aload_n 0, 1) := by decide +kernel
theorem dX5_drives_91 : decode cX5_drives 91 = .ok (.iload 7, 2) := by decide +kernel
theorem dX5_drives_93 : decode cX5_drives 93 = .ok (.iload 8, 2) := by decide +kernel
theorem dX5_drives_95 : decode cX5_drives 95 = .ok (.iload_n 2, 1) := by decide +kernel
theorem dX5_drives_96 : decode cX5_drives 96 = .ok (.invokevirtual 193, 3) := by decide +kernel
theorem dX5_drives_99 : decode cX5_drives 99 = .ok (.aload_n 0, 1) := by decide +kernel
theorem dX5_drives_100 : decode cX5_drives 100 = .ok (.getfield 16, 3) := by decide +kernel
theorem dX5_drives_103 : decode cX5_drives 103 = .ok (.getfield 92, 3) := by decide +kernel
theorem dX5_drives_106 : decode cX5_drives 106 = .ok (.iload_n 1, 1) := by decide +kernel
theorem dX5_drives_107 : decode cX5_drives 107 = .ok (.iaload, 1) := by decide +kernel
theorem dX5_drives_108 : decode cX5_drives 108 = .ok (.istore 9, 2) := by decide +kernel
theorem dX5_drives_110 : decode cX5_drives 110 = .ok (.aload_n 0, 1) := by decide +kernel
theorem dX5_drives_111 : decode cX5_drives 111 = .ok (.getfield 16, 3) := by decide +kernel
theorem dX5_drives_114 : decode cX5_drives 114 = .ok (.getfield 85, 3) := by decide +kernel
theorem dX5_drives_117 : decode cX5_drives 117 = .ok (.iload_n 1, 1) := by decide +kernel
theorem dX5_drives_118 : decode cX5_drives 118 = .ok (.iaload, 1) := by decide +kernel
theorem dX5_drives_119 : decode cX5_drives 119 = .ok (.istore 10, 2) := by decide +kernel
theorem dX5_drives_121 : decode cX5_drives 121 = .ok (.iload 4, 2) := by decide +kernel
theorem dX5_drives_123 : decode cX5_drives 123 = .ok (.bipush (-4), 2) := by decide +kernel
theorem dX5_drives_125 : decode cX5_drives 125 = .ok (.if_icmp .eq 24, 3) := by decide +kernel
theorem dX5_drives_128 : decode cX5_drives 128 = .ok (.iload 9, 2) := by decide +kernel
theorem dX5_drives_130 : decode cX5_drives 130 = .ok (.iload 5, 2) := by decide +kernel
theorem dX5_drives_132 : decode cX5_drives 132 = .ok (.if_icmp .lt 17, 3) := by decide +kernel
theorem dX5_drives_135 : decode cX5_drives 135 = .ok (.iload 9, 2) := by decide +kernel
theorem dX5_drives_137 : decode cX5_drives 137 = .ok (.iload 5, 2) := by decide +kernel
theorem dX5_drives_139 : decode cX5_drives 139 = .ok (.if_icmp .ne 28, 3) := by decide +kernel
theorem dX5_drives_142 : decode cX5_drives 142 = .ok (.iload 10, 2) := by decide +kernel
theorem dX5_drives_144 : decode cX5_drives 144 = .ok (.iload 6, 2) := by decide +kernel
theorem dX5_drives_146 : decode cX5_drives 146 = .ok (.if_icmp .ge 21, 3) := by decide +kernel
theorem dX5_drives_149 : decode cX5_drives 149 = .ok (.bipush 10, 2) := by decide +kernel
theorem dX5_drives_151 : decode cX5_drives 151 = .ok (.iload 7, 2) := by decide +kernel
theorem dX5_drives_153 : decode cX5_drives 153 = .ok (.imul, 1) := by decide +kernel
theorem dX5_drives_154 : decode cX5_drives 154 = .ok (.iload 8, 2) := by decide +kernel
theorem dX5_drives_156 : decode cX5_drives 156 = .ok (.iadd, 1) := by decide +kernel
theorem dX5_drives_157 : decode cX5_drives 157 = .ok (.istore 4, 2) := by decide +kernel
theorem dX5_drives_159 : decode cX5_drives 159 = .ok (.iload 9, 2) := by decide +kernel
theorem dX5_drives_161 : decode cX5_drives 161 = .ok (.istore 5, 2) := by decide +kernel
theorem dX5_drives_163 : decode cX5_drives 163 = .ok (.iload 10, 2) := by decide +kernel
theorem dX5_drives_165 : decode cX5_drives 165 = .ok (.istore 6, 2) := by decide +kernel
theorem dX5_drives_167 : decode cX5_drives 167 = .ok (.iinc 8 1, 3) := by decide +kernel
theorem dX5_drives_170 : decode cX5_drives 170 = .ok (.goto (-110), 3) := by decide +kernel
theorem dX5_drives_173 : decode cX5_drives 173 = .ok (.iinc 7 1, 3) := by decide +kernel
theorem dX5_drives_176 : decode cX5_drives 176 = .ok (.goto (-131), 3) := by decide +kernel
theorem dX5_drives_179 : decode cX5_drives 179 = .ok (.iload_n 3, 1) := by decide +kernel
theorem dX5_drives_180 : decode cX5_drives 180 = .ok (.ifCond .eq 10, 3) := by decide +kernel
theorem dX5_drives_183 : decode cX5_drives 183 = .ok (.iload 4, 2) := by decide +kernel
theorem dX5_drives_185 : decode cX5_drives 185 = .ok (.bipush (-4), 2) := by decide +kernel
theorem dX5_drives_187 : decode cX5_drives 187 = .ok (.if_icmp .ne 8, 3) := by decide +kernel
theorem dX5_drives_190 : decode cX5_drives 190 = .ok (.iload 4, 2) := by decide +kernel
theorem dX5_drives_192 : decode cX5_drives 192 = .ok (.goto 5, 3) := by decide +kernel
theorem dX5_drives_195 : decode cX5_drives 195 = .ok (.iload 5, 2) := by decide +kernel
theorem dX5_drives_197 : decode cX5_drives 197 = .ok (.ireturn, 1) := by decide +kernel
theorem dX5_visits_0 : decode cX5_visits 0 = .ok (.iload_n 1, 1) := by decide +kernel
theorem dX5_visits_1 : decode cX5_visits 1 = .ok (.iconst 1, 1) := by decide +kernel
theorem dX5_visits_2 : decode cX5_visits 2 = .ok (.bipush 40, 2) := by decide +kernel
theorem dX5_visits_4 : decode cX5_visits 4 = .ok (.invokestatic 57, 3) := by decide +kernel
theorem dX5_visits_7 : decode cX5_visits 7 = .ok (.ifCond .eq 12, 3) := by decide +kernel
theorem dX5_visits_10 : decode cX5_visits 10 = .ok (.iload_n 2, 1) := by decide +kernel
theorem dX5_visits_11 : decode cX5_visits 11 = .ok (.iconst 0, 1) := by decide +kernel
theorem dX5_visits_12 : decode cX5_visits 12 = .ok (.iconst 1, 1) := by decide +kernel
theorem dX5_visits_13 : decode cX5_visits 13 = .ok (.invokestatic 57, 3) := by decide +kernel
theorem dX5_visits_16 : decode cX5_visits 16 = .ok (.ifCond .ne 5, 3) := by decide +kernel
theorem dX5_visits_19 : decode cX5_visits 19 = .ok (.iconst (-1), 1) := by decide +kernel
theorem dX5_visits_20 : decode cX5_visits 20 = .ok (.ireturn, 1) := by decide +kernel
theorem dX5_visits_21 : decode cX5_visits 21 = .ok (.aload_n 0, 1) := by decide +kernel
theorem dX5_visits_22 : decode cX5_visits 22 = .ok (.getfield 10, 3) := by decide +kernel
theorem dX5_visits_25 : decode cX5_visits 25 = .ok (.getfield 61, 3) := by decide +kernel
theorem dX5_visits_28 : decode cX5_visits 28 = .ok (.ifCond .ne 6, 3) := by decide +kernel
theorem dX5_visits_31 : decode cX5_visits 31 = .ok (.bipush (-4), 2) := by decide +kernel
theorem dX5_visits_33 : decode cX5_visits 33 = .ok (.ireturn, 1) := by decide +kernel
theorem dX5_visits_34 : decode cX5_visits 34 = .ok (.aload_n 0, 1) := by decide +kernel
theorem dX5_visits_35 : decode cX5_visits 35 = .ok (.iload_n 1, 1) := by decide +kernel
theorem dX5_visits_36 : decode cX5_visits 36 = .ok (.invokevirtual 174, 3) := by decide +kernel
theorem dX5_visits_39 : decode cX5_visits 39 = .ok (.iconst 0, 1) := by decide +kernel
theorem dX5_visits_40 : decode cX5_visits 40 = .ok (.istore_n 3, 1) := by decide +kernel
theorem dX5_visits_41 : decode cX5_visits 41 = .ok (.iconst 1, 1) := by decide +kernel
theorem dX5_visits_42 : decode cX5_visits 42 = .ok (.istore 4, 2) := by decide +kernel
theorem dX5_visits_44 : decode cX5_visits 44 = .ok (.iload 4, 2) := by decide +kernel
theorem dX5_visits_46 : decode cX5_visits 46 = .ok (.aload_n 0, 1) := by decide +kernel
theorem dX5_visits_47 : decode cX5_visits 47 = .ok (.getfield 16, 3) := by decide +kernel
theorem dX5_visits_50 : decode cX5_visits 50 = .ok (.getfield 61, 3) := by decide +kernel
theorem dX5_visits_53 : decode cX5_visits 53 = .ok (.if_icmp .ge 34, 3) := by decide +kernel
theorem dX5_visits_56 : decode cX5_visits 56 = .ok (.aload_n 0, 1) := by decide +kernel
theorem dX5_visits_57 : decode cX5_visits 57 = .ok (.getfield 16, 3) := by decide +kernel
theorem dX5_visits_60 : decode cX5_visits 60 = .ok (.getfield 197, 3) := by decide +kernel
theorem dX5_visits_63 : decode cX5_visits 63 = .ok (.iload 4, 2) := by decide +kernel
theorem dX5_visits_65 : decode cX5_visits 65 = .ok (.iaload, 1) := by decide +kernel
theorem dX5_visits_66 : decode cX5_visits 66 = .ok (.aload_n 0, 1) := by decide +kernel
theorem dX5_visits_67 : decode cX5_visits 67 = .ok (.getfield 16, 3) := by decide +kernel
theorem dX5_visits_70 : decode cX5_visits 70 = .ok (.getfield 197, 3) := by decide +kernel
theorem dX5_visits_73 : decode cX5_visits 73 = .ok (.iload_n 3, 1) := by decide +kernel
theorem dX5_visits_74 : decode cX5_visits 74 = .ok (.iaload, 1) := by decide +kernel
theorem dX5_visits_75 : decode cX5_visits 75 = .ok (.if_icmp .le 6, 3) := by decide +kernel
theorem dX5_visits_78 : decode cX5_visits 78 = .ok (.iload 4, 2) := by decide +kernel
theorem dX5_visits_80 : decode cX5_visits 80 = .ok (.istore_n 3, 1) := by decide +kernel
theorem dX5_visits_81 : decode cX5_visits 81 = .ok (.iinc 4 1, 3) := by decide +kernel
theorem dX5_visits_84 : decode cX5_visits 84 = .ok (.goto (-40), 3) := by decide +kernel
theorem dX5_visits_87 : decode cX5_visits 87 = .ok (.iload_n 2, 1) := by decide +kernel
theorem dX5_visits_88 : decode cX5_visits 88 = .ok (.ifCond .ne 7, 3) := by decide +kernel
theorem dX5_visits_91 : decode cX5_visits 91 = .ok (.iload_n 3, 1) := by decide +kernel
theorem dX5_visits_92 : decode cX5_visits 92 = .ok (.goto 12, 3) := by decide +kernel
theorem dX5_visits_95 : decode cX5_visits 95 = .ok (.aload_n 0, 1) := by decide +kernel
theorem dX5_visits_96 : decode cX5_visits 96 = .ok (.getfield 16, 3) := by decide +kernel
theorem dX5_visits_99 : decode cX5_visits 99 = .ok (.getfield 197, 3) := by decide +kernel
theorem dX5_visits_102 : decode cX5_visits 102 = .ok (.iload_n 3, 1) := by decide +kernel
theorem dX5_visits_103 : decode cX5_visits 103 = .ok (.iaload, 1) := by decide +kernel
theorem dX5_visits_104 : decode cX5_visits 104 = .ok (.ireturn, 1) := by decide +kernel
theorem dX5_solvent_0 : decode cX5_solvent 0 = .ok (.aload_n 0, 1) := by decide +kernel
theorem dX5_solvent_1 : decode cX5_solvent 1 = .ok (.getfield 10, 3) := by decide +kernel
theorem dX5_solvent_4 : decode cX5_solvent 4 = .ok (.iload_n 1, 1) := by decide +kernel
theorem dX5_solvent_5 : decode cX5_solvent 5 = .ok (.invokevirtual 72, 3) := by decide +kernel
theorem dX5_solvent_8 : decode cX5_solvent 8 = .ok (.ifCond .eq 13, 3) := by decide +kernel
theorem dX5_solvent_11 : decode cX5_solvent 11 = .ok (.iload_n 2, 1) := by decide +kernel
theorem dX5_solvent_12 : decode cX5_solvent 12 = .ok (.iconst 1, 1) := by decide +kernel
theorem dX5_solvent_13 : decode cX5_solvent 13 = .ok (.bipush 40, 2) := by decide +kernel
theorem dX5_solvent_15 : decode cX5_solvent 15 = .ok (.invokestatic 57, 3) := by decide +kernel
theorem dX5_solvent_18 : decode cX5_solvent 18 = .ok (.ifCond .ne 5, 3) := by decide +kernel
theorem dX5_solvent_21 : decode cX5_solvent 21 = .ok (.iconst (-1), 1) := by decide +kernel
theorem dX5_solvent_22 : decode cX5_solvent 22 = .ok (.ireturn, 1) := by decide +kernel
theorem dX5_solvent_23 : decode cX5_solvent 23 = .ok (.bipush 20, 2) := by decide +kernel
theorem dX5_solvent_25 : decode cX5_solvent 25 = .ok (.istore_n 3, 1) := by decide +kernel
theorem dX5_solvent_26 : decode cX5_solvent 26 = .ok (.iload_n 3, 1) := by decide +kernel
theorem dX5_solvent_27 : decode cX5_solvent 27 = .ok (.ifCond .lt 59, 3) := by decide +kernel
theorem dX5_solvent_30 : decode cX5_solvent 30 = .ok (.aload_n 0, 1) := by decide +kernel
theorem dX5_solvent_31 : decode cX5_solvent 31 = .ok (.getfield 16, 3) := by decide +kernel
theorem dX5_solvent_34 : decode cX5_solvent 34 = .ok (.aload_n 0, 1) := by decide +kernel
theorem dX5_solvent_35 : decode cX5_solvent 35 = .ok (.getfield 10, 3) := by decide +kernel
theorem dX5_solvent_38 : decode cX5_solvent 38 = .ok (.invokevirtual 136, 3) := by decide +kernel
theorem dX5_solvent_41 : decode cX5_solvent 41 = .ok (.aload_n 0, 1) := by decide +kernel
theorem dX5_solvent_42 : decode cX5_solvent 42 = .ok (.getfield 16, 3) := by decide +kernel
theorem dX5_solvent_45 : decode cX5_solvent 45 = .ok (.iload_n 3, 1) := by decide +kernel
theorem dX5_solvent_46 : decode cX5_solvent 46 = .ok (.putfield 82, 3) := by decide +kernel
theorem dX5_solvent_49 : decode cX5_solvent 49 = .ok (.aload_n 0, 1) := by decide +kernel
theorem dX5_solvent_50 : decode cX5_solvent 50 = .ok (.getfield 16, 3) := by decide +kernel
theorem dX5_solvent_53 : decode cX5_solvent 53 = .ok (.iload_n 2, 1) := by decide +kernel
theorem dX5_solvent_54 : decode cX5_solvent 54 = .ok (.invokevirtual 177, 3) := by decide +kernel
theorem dX5_solvent_57 : decode cX5_solvent 57 = .ok (.aload_n 0, 1) := by decide +kernel
theorem dX5_solvent_58 : decode cX5_solvent 58 = .ok (.getfield 16, 3) := by decide +kernel
theorem dX5_solvent_61 : decode cX5_solvent 61 = .ok (.getfield 85, 3) := by decide +kernel
theorem dX5_solvent_64 : decode cX5_solvent 64 = .ok (.iload_n 1, 1) := by decide +kernel
theorem dX5_solvent_65 : decode cX5_solvent 65 = .ok (.iaload, 1) := by decide +kernel
theorem dX5_solvent_66 : decode cX5_solvent 66 = .ok (.aload_n 0, 1) := by decide +kernel
theorem dX5_solvent_67 : decode cX5_solvent 67 = .ok (.getfield 10, 3) := by decide +kernel
theorem dX5_solvent_70 : decode cX5_solvent 70 = .ok (.getfield 85, 3) := by decide +kernel
theorem dX5_solvent_73 : decode cX5_solvent 73 = .ok (.iload_n 1, 1) := by decide +kernel
theorem dX5_solvent_74 : decode cX5_solvent 74 = .ok (.iaload, 1) := by decide +kernel
theorem dX5_solvent_75 : decode cX5_solvent 75 = .ok (.if_icmp .gt 5, 3) := by decide +kernel
theorem dX5_solvent_78 : decode cX5_solvent 78 = .ok (.iload_n 3, 1) := by decide +kernel
theorem dX5_solvent_79 : decode cX5_solvent 79 = .ok (.ireturn, 1) := by decide +kernel
theorem dX5_solvent_80 : decode cX5_solvent 80 = .ok (.iinc 3 (-1), 3) := by decide +kernel
theorem dX5_solvent_83 : decode cX5_solvent 83 = .ok (.goto (-57), 3) := by decide +kernel
theorem dX5_solvent_86 : decode cX5_solvent 86 = .ok (.bipush (-4), 2) := by decide +kernel
theorem dX5_solvent_88 : decode cX5_solvent 88 = .ok (.ireturn, 1) := by decide +kernel
theorem dX5_sleep_0 : decode cX5_sleep 0 = .ok (.aload_n 0, 1) := by decide +kernel
theorem dX5_sleep_1 : decode cX5_sleep 1 = .ok (.getfield 10, 3) := by decide +kernel
theorem dX5_sleep_4 : decode cX5_sleep 4 = .ok (.iload_n 1, 1) := by decide +kernel
theorem dX5_sleep_5 : decode cX5_sleep 5 = .ok (.invokevirtual 72, 3) := by decide +kernel
theorem dX5_sleep_8 : decode cX5_sleep 8 = .ok (.ifCond .eq 22, 3) := by decide +kernel
theorem dX5_sleep_11 : decode cX5_sleep 11 = .ok (.iload_n 2, 1) := by decide +kernel
theorem dX5_sleep_12 : decode cX5_sleep 12 = .ok (.iconst 0, 1) := by decide +kernel
theorem dX5_sleep_13 : decode cX5_sleep 13 = .ok (.bipush 10, 2) := by decide +kernel
theorem dX5_sleep_15 : decode cX5_sleep 15 = .ok (.invokestatic 57, 3) := by decide +kernel
theorem dX5_sleep_18 : decode cX5_sleep 18 = .ok (.ifCond .eq 12, 3) := by decide +kernel
theorem dX5_sleep_21 : decode cX5_sleep 21 = .ok (.iload_n 3, 1) := by decide +kernel
theorem dX5_sleep_22 : decode cX5_sleep 22 = .ok (.iconst 0, 1) := by decide +kernel
theorem dX5_sleep_23 : decode cX5_sleep 23 = .ok (.iconst 1, 1) := by decide +kernel
theorem dX5_sleep_24 : decode cX5_sleep 24 = .ok (.invokestatic 57, 3) := by decide +kernel
theorem dX5_sleep_27 : decode cX5_sleep 27 = .ok (.ifCond .ne 5, 3) := by decide +kernel
theorem dX5_sleep_30 : decode cX5_sleep 30 = .ok (.iconst (-1), 1) := by decide +kernel
theorem dX5_sleep_31 : decode cX5_sleep 31 = .ok (.ireturn, 1) := by decide +kernel
theorem dX5_sleep_32 : decode cX5_sleep 32 = .ok (.iconst 0, 1) := by decide +kernel
theorem dX5_sleep_33 : decode cX5_sleep 33 = .ok (.istore 4, 2) := by decide +kernel
theorem dX5_sleep_35 : decode cX5_sleep 35 = .ok (.iconst 0, 1) := by decide +kernel
theorem dX5_sleep_36 : decode cX5_sleep 36 = .ok (.istore 5, 2) := by decide +kernel
theorem dX5_sleep_38 : decode cX5_sleep 38 = .ok (.iconst 0, 1) := by decide +kernel
theorem dX5_sleep_39 : decode cX5_sleep 39 = .ok (.istore 6, 2) := by decide +kernel
theorem dX5_sleep_41 : decode cX5_sleep 41 = .ok (.iload 6, 2) := by decide +kernel
theorem dX5_sleep_43 : decode cX5_sleep 43 = .ok (.iconst 1, 1) := by decide +kernel
theorem dX5_sleep_44 : decode cX5_sleep 44 = .ok (.aload_n 0, 1) := by decide +kernel
theorem dX5_sleep_45 : decode cX5_sleep 45 = .ok (.getfield 10, 3) := by decide +kernel
theorem dX5_sleep_48 : decode cX5_sleep 48 = .ok (.getfield 76, 3) := by decide +kernel
theorem dX5_sleep_51 : decode cX5_sleep 51 = .ok (.ishl, 1) := by decide +kernel
theorem dX5_sleep_52 : decode cX5_sleep 52 = .ok (.if_icmp .ge 47, 3) := by decide +kernel
theorem dX5_sleep_55 : decode cX5_sleep 55 = .ok (.aload_n 0, 1) := by decide +kernel
theorem dX5_sleep_56 : decode cX5_sleep 56 = .ok (.iload 6, 2) := by decide +kernel
theorem dX5_sleep_58 : decode cX5_sleep 58 = .ok (.iload_n 2, 1) := by decide +kernel
theorem dX5_sleep_59 : decode cX5_sleep 59 = .ok (.invokevirtual 200, 3) := by decide +kernel
theorem dX5_sleep_62 : decode cX5_sleep 62 = .ok (.istore 7, 2) := by decide +kernel
theorem dX5_sleep_64 : decode cX5_sleep 64 = .ok (.iload 5, 2) := by decide +kernel
theorem dX5_sleep_66 : decode cX5_sleep 66 = .ok (.iload 7, 2) := by decide +kernel
theorem dX5_sleep_68 : decode cX5_sleep 68 = .ok (.iadd, 1) := by decide +kernel
theorem dX5_sleep_69 : decode cX5_sleep 69 = .ok (.istore 5, 2) := by decide +kernel
theorem dX5_sleep_71 : decode cX5_sleep 71 = .ok (.iload 7, 2) := by decide +kernel
theorem dX5_sleep_73 : decode cX5_sleep 73 = .ok (.ifCond .le 20, 3) := by decide +kernel
theorem dX5_sleep_76 : decode cX5_sleep 76 = .ok (.aload_n 0, 1) := by decide +kernel
theorem dX5_sleep_77 : decode cX5_sleep 77 = .ok (.iload_n 1, 1) := by decide +kernel
theorem dX5_sleep_78 : decode cX5_sleep 78 = .ok (.iload 6, 2) := by decide +kernel
theorem dX5_sleep_80 : decode cX5_sleep 80 = .ok (.invokevirtual 204, 3) := by decide +kernel
theorem dX5_sleep_83 : decode cX5_sleep 83 = .ok (.ifCond .eq 10, 3) := by decide +kernel
theorem dX5_sleep_86 : decode cX5_sleep 86 = .ok (.iload 4, 2) := by decide +kernel
theorem dX5_sleep_88 : decode cX5_sleep 88 = .ok (.iload 7, 2) := by decide +kernel
theorem dX5_sleep_90 : decode cX5_sleep 90 = .ok (.iadd, 1) := by decide +kernel
theorem dX5_sleep_91 : decode cX5_sleep 91 = .ok (.istore 4, 2) := by decide +kernel
theorem dX5_sleep_93 : decode cX5_sleep 93 = .ok (.iinc 6 1, 3) := by decide +kernel
theorem dX5_sleep_96 : decode cX5_sleep 96 = .ok (.goto (-55), 3) := by decide +kernel
theorem dX5_sleep_99 : decode cX5_sleep 99 = .ok (.iload 4, 2) := by decide +kernel
theorem dX5_sleep_101 : decode cX5_sleep 101 = .ok (.iload 5, 2) := by decide +kernel
theorem dX5_sleep_103 : decode cX5_sleep 103 = .ok (.invokestatic 208, 3) := by decide +kernel
theorem dX5_sleep_106 : decode cX5_sleep 106 = .ok (.istore 6, 2) := by decide +kernel
theorem dX5_sleep_108 : decode cX5_sleep 108 = .ok (.iload 6, 2) := by decide +kernel
theorem dX5_sleep_110 : decode cX5_sleep 110 = .ok (.iconst 1, 1) := by decide +kernel
theorem dX5_sleep_111 : decode cX5_sleep 111 = .ok (.if_icmp .ge 5, 3) := by decide +kernel
theorem dX5_sleep_114 : decode cX5_sleep 114 = .ok (.iconst (-1), 1) := by decide +kernel
theorem dX5_sleep_115 : decode cX5_sleep 115 = .ok (.ireturn, 1) := by decide +kernel
theorem dX5_sleep_116 : decode cX5_sleep 116 = .ok (.iload_n 3, 1) := by decide +kernel
theorem dX5_sleep_117 : decode cX5_sleep 117 = .ok (.ifCond .ne 8, 3) := by decide +kernel
theorem dX5_sleep_120 : decode cX5_sleep 120 = .ok (.iload 4, 2) := by decide +kernel
theorem dX5_sleep_122 : decode cX5_sleep 122 = .ok (.goto 5, 3) := by decide +kernel
theorem dX5_sleep_125 : decode cX5_sleep 125 = .ok (.iload 5, 2) := by decide +kernel
theorem dX5_sleep_127 : decode cX5_sleep 127 = .ok (.iload 6, 2) := by decide +kernel
theorem dX5_sleep_129 : decode cX5_sleep 129 = .ok (.idiv, 1) := by decide +kernel
theorem dX5_sleep_130 : decode cX5_sleep 130 = .ok (.ireturn, 1) := by decide +kernel
theorem dX5_image_0 : decode cX5_image 0 = .ok (.aload_n 0, 1) := by decide +kernel
theorem dX5_image_1 : decode cX5_image 1 = .ok (.getfield 47, 3) := by decide +kernel
theorem dX5_image_4 : decode cX5_image 4 = .ok (.aload_n 0, 1) := by decide +kernel
theorem dX5_image_5 : decode cX5_image 5 = .ok (.getfield 10, 3) := by decide +kernel
theorem dX5_image_8 : decode cX5_image 8 = .ok (.invokevirtual 136, 3) := by decide +kernel
theorem dX5_image_11 : decode cX5_image 11 = .ok (.aload_n 0, 1) := by decide +kernel
theorem dX5_image_12 : decode cX5_image 12 = .ok (.getfield 50, 3) := by decide +kernel
theorem dX5_image_15 : decode cX5_image 15 = .ok (.aload_n 0, 1) := by decide +kernel
theorem dX5_image_16 : decode cX5_image 16 = .ok (.getfield 22, 3) := by decide +kernel
theorem dX5_image_19 : decode cX5_image 19 = .ok (.invokevirtual 211, 3) := by decide +kernel
theorem dX5_image_22 : decode cX5_image 22 = .ok (.aload_n 0, 1) := by decide +kernel
theorem dX5_image_23 : decode cX5_image 23 = .ok (.iconst 1, 1) := by decide +kernel
theorem dX5_image_24 : decode cX5_image 24 = .ok (.putfield 53, 3) := by decide +kernel
theorem dX5_image_27 : decode cX5_image 27 = .ok (.iconst 1, 1) := by decide +kernel
theorem dX5_image_28 : decode cX5_image 28 = .ok (.ireturn, 1) := by decide +kernel
theorem dX5_restore_0 : decode cX5_restore 0 = .ok (.aload_n 0, 1) := by decide +kernel
theorem dX5_restore_1 : decode cX5_restore 1 = .ok (.getfield 53, 3) := by decide +kernel
theorem dX5_restore_4 : decode cX5_restore 4 = .ok (.ifCond .ne 6, 3) := by decide +kernel
theorem dX5_restore_7 : decode cX5_restore 7 = .ok (.bipush (-4), 2) := by decide +kernel
theorem dX5_restore_9 : decode cX5_restore 9 = .ok (.ireturn, 1) := by decide +kernel
theorem dX5_restore_10 : decode cX5_restore 10 = .ok (.aload_n 0, 1) := by decide +kernel
theorem dX5_restore_11 : decode cX5_restore 11 = .ok (.getfield 10, 3) := by decide +kernel
theorem dX5_restore_14 : decode cX5_restore 14 = .ok (.aload_n 0, 1) := by decide +kernel
theorem dX5_restore_15 : decode cX5_restore 15 = .ok (.getfield 47, 3) := by decide +kernel
theorem dX5_restore_18 : decode cX5_restore 18 = .ok (.invokevirtual 136, 3) := by decide +kernel
theorem dX5_restore_21 : decode cX5_restore 21 = .ok (.aload_n 0, 1) := by decide +kernel
theorem dX5_restore_22 : decode cX5_restore 22 = .ok (.getfield 22, 3) := by decide +kernel
theorem dX5_restore_25 : decode cX5_restore 25 = .ok (.aload_n 0, 1) := by decide +kernel
theorem dX5_restore_26 : decode cX5_restore 26 = .ok (.getfield 50, 3) := by decide +kernel
theorem dX5_restore_29 : decode cX5_restore 29 = .ok (.invokevirtual 211, 3) := by decide +kernel
theorem dX5_restore_32 : decode cX5_restore 32 = .ok (.iconst 1, 1) := by decide +kernel
theorem dX5_restore_33 : decode cX5_restore 33 = .ok (.ireturn, 1) := by decide +kernel
theorem dX5_dawns_0 : decode cX5_dawns 0 = .ok (.aload_n 0, 1) := by decide +kernel
theorem dX5_dawns_1 : decode cX5_dawns 1 = .ok (.getfield 10, 3) := by decide +kernel
theorem dX5_dawns_4 : decode cX5_dawns 4 = .ok (.iload_n 1, 1) := by decide +kernel
theorem dX5_dawns_5 : decode cX5_dawns 5 = .ok (.invokevirtual 102, 3) := by decide +kernel
theorem dX5_dawns_8 : decode cX5_dawns 8 = .ok (.ifCond .eq 54, 3) := by decide +kernel
theorem dX5_dawns_11 : decode cX5_dawns 11 = .ok (.aload_n 0, 1) := by decide +kernel
theorem dX5_dawns_12 : decode cX5_dawns 12 = .ok (.getfield 10, 3) := by decide +kernel
theorem dX5_dawns_15 : decode cX5_dawns 15 = .ok (.iload_n 2, 1) := by decide +kernel
theorem dX5_dawns_16 : decode cX5_dawns 16 = .ok (.invokevirtual 72, 3) := by decide +kernel
theorem dX5_dawns_19 : decode cX5_dawns 19 = .ok (.ifCond .eq 43, 3) := by decide +kernel
theorem dX5_dawns_22 : decode cX5_dawns 22 = .ok (.iload_n 3, 1) := by decide +kernel
theorem dX5_dawns_23 : decode cX5_dawns 23 = .ok (.iconst 0, 1) := by decide +kernel
theorem dX5_dawns_24 : decode cX5_dawns 24 = .ok (.iconst 3, 1) := by decide +kernel
theorem dX5_dawns_25 : decode cX5_dawns 25 = .ok (.invokestatic 57, 3) := by decide +kernel
theorem dX5_dawns_28 : decode cX5_dawns 28 = .ok (.ifCond .eq 34, 3) := by decide +kernel
theorem dX5_dawns_31 : decode cX5_dawns 31 = .ok (.iload 4, 2) := by decide +kernel
theorem dX5_dawns_33 : decode cX5_dawns 33 = .ok (.iconst 0, 1) := by decide +kernel
theorem dX5_dawns_34 : decode cX5_dawns 34 = .ok (.iconst 3, 1) := by decide +kernel
theorem dX5_dawns_35 : decode cX5_dawns 35 = .ok (.invokestatic 57, 3) := by decide +kernel
theorem dX5_dawns_38 : decode cX5_dawns 38 = .ok (.ifCond .eq 24, 3) := by decide +kernel
theorem dX5_dawns_41 : decode cX5_dawns 41 = .ok (.iload 6, 2) := by decide +kernel
theorem dX5_dawns_43 : decode cX5_dawns 43 = .ok (.iconst 1, 1) := by decide +kernel
theorem dX5_dawns_44 : decode cX5_dawns 44 = .ok (.bipush 8, 2) := by decide +kernel
theorem dX5_dawns_46 : decode cX5_dawns 46 = .ok (.invokestatic 57, 3) := by decide +kernel
theorem dX5_dawns_49 : decode cX5_dawns 49 = .ok (.ifCond .eq 13, 3) := by decide +kernel
theorem dX5_dawns_52 : decode cX5_dawns 52 = .ok (.iload 7, 2) := by decide +kernel
theorem dX5_dawns_54 : decode cX5_dawns 54 = .ok (.iconst 0, 1) := by decide +kernel
theorem dX5_dawns_55 : decode cX5_dawns 55 = .ok (.iconst 1, 1) := by decide +kernel
theorem dX5_dawns_56 : decode cX5_dawns 56 = .ok (.invokestatic 57, 3) := by decide +kernel
theorem dX5_dawns_59 : decode cX5_dawns 59 = .ok (.ifCond .ne 5, 3) := by decide +kernel
theorem dX5_dawns_62 : decode cX5_dawns 62 = .ok (.iconst (-1), 1) := by decide +kernel
theorem dX5_dawns_63 : decode cX5_dawns 63 = .ok (.ireturn, 1) := by decide +kernel
theorem dX5_dawns_64 : decode cX5_dawns 64 = .ok (.aload_n 0, 1) := by decide +kernel
theorem dX5_dawns_65 : decode cX5_dawns 65 = .ok (.getfield 42, 3) := by decide +kernel
theorem dX5_dawns_68 : decode cX5_dawns 68 = .ok (.iload_n 3, 1) := by decide +kernel
theorem dX5_dawns_69 : decode cX5_dawns 69 = .ok (.aaload, 1) := by decide +kernel
theorem dX5_dawns_70 : decode cX5_dawns 70 = .ok (.astore 8, 2) := by decide +kernel
theorem dX5_dawns_72 : decode cX5_dawns 72 = .ok (.aload 8, 2) := by decide +kernel
theorem dX5_dawns_74 : decode cX5_dawns 74 = .ok (.iload 4, 2) := by decide +kernel
theorem dX5_dawns_76 : decode cX5_dawns 76 = .ok (.iload 5, 2) := by decide +kernel
theorem dX5_dawns_78 : decode cX5_dawns 78 = .ok (.iload 6, 2) := by decide +kernel
theorem dX5_dawns_80 : decode cX5_dawns 80 = .ok (.invokevirtual 214, 3) := by decide +kernel
theorem dX5_dawns_83 : decode cX5_dawns 83 = .ok (.istore 9, 2) := by decide +kernel
theorem dX5_dawns_85 : decode cX5_dawns 85 = .ok (.iload 9, 2) := by decide +kernel
theorem dX5_dawns_87 : decode cX5_dawns 87 = .ok (.ifCond .eq 6, 3) := by decide +kernel
theorem dX5_dawns_90 : decode cX5_dawns 90 = .ok (.iload 9, 2) := by decide +kernel
theorem dX5_dawns_92 : decode cX5_dawns 92 = .ok (.ireturn, 1) := by decide +kernel
theorem dX5_dawns_93 : decode cX5_dawns 93 = .ok (.iconst 0, 1) := by decide +kernel
theorem dX5_dawns_94 : decode cX5_dawns 94 = .ok (.istore 10, 2) := by decide +kernel
theorem dX5_dawns_96 : decode cX5_dawns 96 = .ok (.iload 7, 2) := by decide +kernel
theorem dX5_dawns_98 : decode cX5_dawns 98 = .ok (.ifCond .ne 7, 3) := by decide +kernel
theorem dX5_dawns_101 : decode cX5_dawns 101 = .ok (.iconst 0, 1) := by decide +kernel
theorem dX5_dawns_102 : decode cX5_dawns 102 = .ok (.goto 4, 3) := by decide +kernel
theorem dX5_dawns_105 : decode cX5_dawns 105 = .ok (.iconst 1, 1) := by decide +kernel
theorem dX5_dawns_106 : decode cX5_dawns 106 = .ok (.istore 11, 2) := by decide +kernel
theorem dX5_dawns_108 : decode cX5_dawns 108 = .ok (.iload 7, 2) := by decide +kernel
theorem dX5_dawns_110 : decode cX5_dawns 110 = .ok (.ifCond .ne 7, 3) := by decide +kernel
theorem dX5_dawns_113 : decode cX5_dawns 113 = .ok (.iconst 4, 1) := by decide +kernel
theorem dX5_dawns_114 : decode cX5_dawns 114 = .ok (.goto 5, 3) := by decide +kernel
theorem dX5_dawns_117 : decode cX5_dawns 117 = .ok (.bipush 9, 2) := by decide +kernel
theorem dX5_dawns_119 : decode cX5_dawns 119 = .ok (.istore 12, 2) := by decide +kernel
theorem dX5_dawns_121 : decode cX5_dawns 121 = .ok (.iload 11, 2) := by decide +kernel
theorem dX5_dawns_123 : decode cX5_dawns 123 = .ok (.istore 13, 2) := by decide +kernel
theorem dX5_dawns_125 : decode cX5_dawns 125 = .ok (.iload 13, 2) := by decide +kernel
theorem dX5_dawns_127 : decode cX5_dawns 127 = .ok (.iload 12, 2) := by decide +kernel
theorem dX5_dawns_129 : decode cX5_dawns 129 = .ok (.if_icmp .gt 73, 3) := by decide +kernel
theorem dX5_dawns_132 : decode cX5_dawns 132 = .ok (.aload_n 0, 1) := by decide +kernel
theorem dX5_dawns_133 : decode cX5_dawns 133 = .ok (.getfield 16, 3) := by decide +kernel
theorem dX5_dawns_136 : decode cX5_dawns 136 = .ok (.aload_n 0, 1) := by decide +kernel
theorem dX5_dawns_137 : decode cX5_dawns 137 = .ok (.getfield 10, 3) := by decide +kernel
theorem dX5_dawns_140 : decode cX5_dawns 140 = .ok (.invokevirtual 136, 3) := by decide +kernel
theorem dX5_dawns_143 : decode cX5_dawns 143 = .ok (.iload 7, 2) := by decide +kernel
theorem dX5_dawns_145 : decode cX5_dawns 145 = .ok (.ifCond .ne 17, 3) := by decide +kernel
theorem dX5_dawns_148 : decode cX5_dawns 148 = .ok (.aload_n 0, 1) := by decide +kernel
theorem dX5_dawns_149 : decode cX5_dawns 149 = .ok (.getfield 16, 3) := by decide +kernel
theorem dX5_dawns_152 : decode cX5_dawns 152 = .ok (.getfield 105, 3) := by decide +kernel
theorem dX5_dawns_155 : decode cX5_dawns 155 = .ok (.iload_n 1, 1) := by decide +kernel
theorem dX5_dawns_156 : decode cX5_dawns 156 = .ok (.iload 13, 2) := by decide +kernel
theorem dX5_dawns_158 : decode cX5_dawns 158 = .ok (.iastore, 1) := by decide +kernel
theorem dX5_dawns_159 : decode cX5_dawns 159 = .ok (.goto 14, 3) := by decide +kernel
theorem dX5_dawns_162 : decode cX5_dawns 162 = .ok (.aload_n 0, 1) := by decide +kernel
theorem dX5_dawns_163 : decode cX5_dawns 163 = .ok (.getfield 16, 3) := by decide +kernel
theorem dX5_dawns_166 : decode cX5_dawns 166 = .ok (.getfield 108, 3) := by decide +kernel
theorem dX5_dawns_169 : decode cX5_dawns 169 = .ok (.iload_n 1, 1) := by decide +kernel
theorem dX5_dawns_170 : decode cX5_dawns 170 = .ok (.iload 13, 2) := by decide +kernel
theorem dX5_dawns_172 : decode cX5_dawns 172 = .ok (.iastore, 1) := by decide +kernel
theorem dX5_dawns_173 : decode cX5_dawns 173 = .ok (.aload_n 0, 1) := by decide +kernel
theorem dX5_dawns_174 : decode cX5_dawns 174 = .ok (.iload_n 2, 1) := by decide +kernel
theorem dX5_dawns_175 : decode cX5_dawns 175 = .ok (.aload 8, 2) := by decide +kernel
theorem dX5_dawns_177 : decode cX5_dawns 177 = .ok (.iload 5, 2) := by decide +kernel
theorem dX5_dawns_179 : decode cX5_dawns 179 = .ok (.iload 6, 2) := by decide +kernel
theorem dX5_dawns_181 : decode cX5_dawns 181 = .ok (.invokevirtual 217, 3) := by decide +kernel
theorem dX5_dawns_184 : decode cX5_dawns 184 = .ok (.ifCond .eq 12, 3) := by decide +kernel
theorem dX5_dawns_187 : decode cX5_dawns 187 = .ok (.iload 10, 2) := by decide +kernel
theorem dX5_dawns_189 : decode cX5_dawns 189 = .ok (.iconst 1, 1) := by decide +kernel
theorem dX5_dawns_190 : decode cX5_dawns 190 = .ok (.iload 13, 2) := by decide +kernel
theorem dX5_dawns_192 : decode cX5_dawns 192 = .ok (.ishl, 1) := by decide +kernel
theorem dX5_dawns_193 : decode cX5_dawns 193 = .ok (.ior, 1) := by decide +kernel
theorem dX5_dawns_194 : decode cX5_dawns 194 = .ok (.istore 10, 2) := by decide +kernel
theorem dX5_dawns_196 : decode cX5_dawns 196 = .ok (.iinc 13 1, 3) := by decide +kernel
theorem dX5_dawns_199 : decode cX5_dawns 199 = .ok (.goto (-74), 3) := by decide +kernel
theorem dX5_dawns_202 : decode cX5_dawns 202 = .ok (.iload 10, 2) := by decide +kernel
theorem dX5_dawns_204 : decode cX5_dawns 204 = .ok (.ireturn, 1) := by decide +kernel
theorem dX5_film_0 : decode cX5_film 0 = .ok (.aload_n 0, 1) := by decide +kernel
theorem dX5_film_1 : decode cX5_film 1 = .ok (.getfield 10, 3) := by decide +kernel
theorem dX5_film_4 : decode cX5_film 4 = .ok (.iload_n 1, 1) := by decide +kernel
theorem dX5_film_5 : decode cX5_film 5 = .ok (.invokevirtual 72, 3) := by decide +kernel
theorem dX5_film_8 : decode cX5_film 8 = .ok (.ifCond .eq 32, 3) := by decide +kernel
theorem dX5_film_11 : decode cX5_film 11 = .ok (.iload_n 2, 1) := by decide +kernel
theorem dX5_film_12 : decode cX5_film 12 = .ok (.iconst 1, 1) := by decide +kernel
theorem dX5_film_13 : decode cX5_film 13 = .ok (.bipush 24, 2) := by decide +kernel
theorem dX5_film_15 : decode cX5_film 15 = .ok (.invokestatic 57, 3) := by decide +kernel
theorem dX5_film_18 : decode cX5_film 18 = .ok (.ifCond .eq 22, 3) := by decide +kernel
theorem dX5_film_21 : decode cX5_film 21 = .ok (.iload_n 3, 1) := by decide +kernel
theorem dX5_film_22 : decode cX5_film 22 = .ok (.iconst 0, 1) := by decide +kernel
theorem dX5_film_23 : decode cX5_film 23 = .ok (.iconst 3, 1) := by decide +kernel
theorem dX5_film_24 : decode cX5_film 24 = .ok (.invokestatic 57, 3) := by decide +kernel
theorem dX5_film_27 : decode cX5_film 27 = .ok (.ifCond .eq 13, 3) := by decide +kernel
theorem dX5_film_30 : decode cX5_film 30 = .ok (.iload 4, 2) := by decide +kernel
theorem dX5_film_32 : decode cX5_film 32 = .ok (.iconst 0, 1) := by decide +kernel
theorem dX5_film_33 : decode cX5_film 33 = .ok (.iconst 3, 1) := by decide +kernel
theorem dX5_film_34 : decode cX5_film 34 = .ok (.invokestatic 57, 3) := by decide +kernel
theorem dX5_film_37 : decode cX5_film 37 = .ok (.ifCond .ne 5, 3) := by decide +kernel
theorem dX5_film_40 : decode cX5_film 40 = .ok (.iconst (-1), 1) := by decide +kernel
theorem dX5_film_41 : decode cX5_film 41 = .ok (.ireturn, 1) := by decide +kernel
theorem dX5_film_42 : decode cX5_film 42 = .ok (.aload_n 0, 1) := by decide +kernel
theorem dX5_film_43 : decode cX5_film 43 = .ok (.getfield 42, 3) := by decide +kernel
theorem dX5_film_46 : decode cX5_film 46 = .ok (.iload_n 3, 1) := by decide +kernel
theorem dX5_film_47 : decode cX5_film 47 = .ok (.aaload, 1) := by decide +kernel
theorem dX5_film_48 : decode cX5_film 48 = .ok (.astore 6, 2) := by decide +kernel
theorem dX5_film_50 : decode cX5_film 50 = .ok (.aload 6, 2) := by decide +kernel
theorem dX5_film_52 : decode cX5_film 52 = .ok (.iload 4, 2) := by decide +kernel
theorem dX5_film_54 : decode cX5_film 54 = .ok (.iload 5, 2) := by decide +kernel
theorem dX5_film_56 : decode cX5_film 56 = .ok (.iload_n 2, 1) := by decide +kernel
theorem dX5_film_57 : decode cX5_film 57 = .ok (.invokevirtual 214, 3) := by decide +kernel
theorem dX5_film_60 : decode cX5_film 60 = .ok (.istore 7, 2) := by decide +kernel
theorem dX5_film_62 : decode cX5_film 62 = .ok (.iload 7, 2) := by decide +kernel
theorem dX5_film_64 : decode cX5_film 64 = .ok (.ifCond .eq 6, 3) := by decide +kernel
theorem dX5_film_67 : decode cX5_film 67 = .ok (.iload 7, 2) := by decide +kernel
theorem dX5_film_69 : decode cX5_film 69 = .ok (.ireturn, 1) := by decide +kernel
theorem dX5_film_70 : decode cX5_film 70 = .ok (.aload_n 0, 1) := by decide +kernel
theorem dX5_film_71 : decode cX5_film 71 = .ok (.getfield 16, 3) := by decide +kernel
theorem dX5_film_74 : decode cX5_film 74 = .ok (.aload_n 0, 1) := by decide +kernel
theorem dX5_film_75 : decode cX5_film 75 = .ok (.getfield 10, 3) := by decide +kernel
theorem dX5_film_78 : decode cX5_film 78 = .ok (.invokevirtual 136, 3) := by decide +kernel
theorem dX5_film_81 : decode cX5_film 81 = .ok (.iconst 0, 1) := by decide +kernel
theorem dX5_film_82 : decode cX5_film 82 = .ok (.istore 8, 2) := by decide +kernel
theorem dX5_film_84 : decode cX5_film 84 = .ok (.iload 8, 2) := by decide +kernel
theorem dX5_film_86 : decode cX5_film 86 = .ok (.iload_n 2, 1) := by decide +kernel
theorem dX5_film_87 : decode cX5_film 87 = .ok (.if_icmp .ge 37, 3) := by decide +kernel
theorem dX5_film_90 : decode cX5_film 90 = .ok (.aload_n 0, 1) := by decide +kernel
theorem dX5_film_91 : decode cX5_film 91 = .ok (.getfield 16, 3) := by decide +kernel
theorem dX5_film_94 : decode cX5_film 94 = .ok (.iconst 0, 1) := by decide +kernel
theorem dX5_film_95 : decode cX5_film 95 = .ok (.invokevirtual 160, 3) := by decide +kernel
theorem dX5_film_98 : decode cX5_film 98 = .ok (.aload 6, 2) := by decide +kernel
theorem dX5_film_100 : decode cX5_film 100 = .ok (.iload 5, 2) := by decide +kernel
theorem dX5_film_102 : decode cX5_film 102 = .ok (.iload 8, 2) := by decide +kernel
theorem dX5_film_104 : decode cX5_film 104 = .ok (.iadd, 1) := by decide +kernel
theorem dX5_film_105 : decode cX5_film 105 = .ok (.aload_n 0, 1) := by decide +kernel
theorem dX5_film_106 : decode cX5_film 106 = .ok (.getfield 16, 3) := by decide +kernel
theorem dX5_film_109 : decode cX5_film 109 = .ok (.getfield 85, 3) := by decide +kernel
theorem dX5_film_112 : decode cX5_film 112 = .ok (.iload_n 1, 1) := by decide +kernel
theorem dX5_film_113 : decode cX5_film 113 = .ok (.iaload, 1) := by decide +kernel
theorem dX5_film_114 : decode cX5_film 114 = .ok (.i2l, 1) := by decide +kernel
theorem dX5_film_115 : decode cX5_film 115 = .ok (.invokevirtual 221, 3) := by decide +kernel
theorem dX5_film_118 : decode cX5_film 118 = .ok (.iinc 8 1, 3) := by decide +kernel
theorem dX5_film_121 : decode cX5_film 121 = .ok (.goto (-37), 3) := by decide +kernel
theorem dX5_film_124 : decode cX5_film 124 = .ok (.iload_n 2, 1) := by decide +kernel
theorem dX5_film_125 : decode cX5_film 125 = .ok (.ireturn, 1) := by decide +kernel
theorem dX5_sheet_0 : decode cX5_sheet 0 = .ok (.iload_n 1, 1) := by decide +kernel
theorem dX5_sheet_1 : decode cX5_sheet 1 = .ok (.iconst 0, 1) := by decide +kernel
theorem dX5_sheet_2 : decode cX5_sheet 2 = .ok (.iconst 3, 1) := by decide +kernel
theorem dX5_sheet_3 : decode cX5_sheet 3 = .ok (.invokestatic 57, 3) := by decide +kernel
theorem dX5_sheet_6 : decode cX5_sheet 6 = .ok (.ifCond .eq 18, 3) := by decide +kernel
theorem dX5_sheet_9 : decode cX5_sheet 9 = .ok (.iload_n 2, 1) := by decide +kernel
theorem dX5_sheet_10 : decode cX5_sheet 10 = .ok (.iconst 0, 1) := by decide +kernel
theorem dX5_sheet_11 : decode cX5_sheet 11 = .ok (.iconst 3, 1) := by decide +kernel
theorem dX5_sheet_12 : decode cX5_sheet 12 = .ok (.invokestatic 57, 3) := by decide +kernel
theorem dX5_sheet_15 : decode cX5_sheet 15 = .ok (.ifCond .eq 9, 3) := by decide +kernel
theorem dX5_sheet_18 : decode cX5_sheet 18 = .ok (.iload_n 3, 1) := by decide +kernel
theorem dX5_sheet_19 : decode cX5_sheet 19 = .ok (.bipush 24, 2) := by decide +kernel
theorem dX5_sheet_21 : decode cX5_sheet 21 = .ok (.if_icmp .le 5, 3) := by decide +kernel
theorem dX5_sheet_24 : decode cX5_sheet 24 = .ok (.iconst (-1), 1) := by decide +kernel
theorem dX5_sheet_25 : decode cX5_sheet 25 = .ok (.ireturn, 1) := by decide +kernel
theorem dX5_sheet_26 : decode cX5_sheet 26 = .ok (.iload_n 3, 1) := by decide +kernel
theorem dX5_sheet_27 : decode cX5_sheet 27 = .ok (.ifCond .ge 6, 3) := by decide +kernel
theorem dX5_sheet_30 : decode cX5_sheet 30 = .ok (.bipush (-14), 2) := by decide +kernel
theorem dX5_sheet_32 : decode cX5_sheet 32 = .ok (.ireturn, 1) := by decide +kernel
theorem dX5_sheet_33 : decode cX5_sheet 33 = .ok (.aload_n 0, 1) := by decide +kernel
theorem dX5_sheet_34 : decode cX5_sheet 34 = .ok (.getfield 42, 3) := by decide +kernel
theorem dX5_sheet_37 : decode cX5_sheet 37 = .ok (.iload_n 1, 1) := by decide +kernel
theorem dX5_sheet_38 : decode cX5_sheet 38 = .ok (.aaload, 1) := by decide +kernel
theorem dX5_sheet_39 : decode cX5_sheet 39 = .ok (.iload_n 2, 1) := by decide +kernel
theorem dX5_sheet_40 : decode cX5_sheet 40 = .ok (.iload_n 3, 1) := by decide +kernel
theorem dX5_sheet_41 : decode cX5_sheet 41 = .ok (.invokevirtual 225, 3) := by decide +kernel
theorem dX5_sheet_44 : decode cX5_sheet 44 = .ok (.iload_n 3, 1) := by decide +kernel
theorem dX5_sheet_45 : decode cX5_sheet 45 = .ok (.ireturn, 1) := by decide +kernel
theorem dX5_drop_0 : decode cX5_drop 0 = .ok (.iload_n 1, 1) := by decide +kernel
theorem dX5_drop_1 : decode cX5_drop 1 = .ok (.iconst 0, 1) := by decide +kernel
theorem dX5_drop_2 : decode cX5_drop 2 = .ok (.iconst 3, 1) := by decide +kernel
theorem dX5_drop_3 : decode cX5_drop 3 = .ok (.invokestatic 57, 3) := by decide +kernel
theorem dX5_drop_6 : decode cX5_drop 6 = .ok (.ifCond .ne 5, 3) := by decide +kernel
theorem dX5_drop_9 : decode cX5_drop 9 = .ok (.iconst (-1), 1) := by decide +kernel
theorem dX5_drop_10 : decode cX5_drop 10 = .ok (.ireturn, 1) := by decide +kernel
theorem dX5_drop_11 : decode cX5_drop 11 = .ok (.aload_n 0, 1) := by decide +kernel
theorem dX5_drop_12 : decode cX5_drop 12 = .ok (.getfield 42, 3) := by decide +kernel
theorem dX5_drop_15 : decode cX5_drop 15 = .ok (.iload_n 1, 1) := by decide +kernel
theorem dX5_drop_16 : decode cX5_drop 16 = .ok (.aaload, 1) := by decide +kernel
theorem dX5_drop_17 : decode cX5_drop 17 = .ok (.astore_n 2, 1) := by decide +kernel
theorem dX5_drop_18 : decode cX5_drop 18 = .ok (.aload_n 2, 1) := by decide +kernel
theorem dX5_drop_19 : decode cX5_drop 19 = .ok (.getfield 228, 3) := by decide +kernel
theorem dX5_drop_22 : decode cX5_drop 22 = .ok (.ifCond .ne 6, 3) := by decide +kernel
theorem dX5_drop_25 : decode cX5_drop 25 = .ok (.bipush (-11), 2) := by decide +kernel
theorem dX5_drop_27 : decode cX5_drop 27 = .ok (.ireturn, 1) := by decide +kernel
theorem dX5_drop_28 : decode cX5_drop 28 = .ok (.aload_n 2, 1) := by decide +kernel
theorem dX5_drop_29 : decode cX5_drop 29 = .ok (.iconst 0, 1) := by decide +kernel
theorem dX5_drop_30 : decode cX5_drop 30 = .ok (.putfield 228, 3) := by decide +kernel
theorem dX5_drop_33 : decode cX5_drop 33 = .ok (.aload_n 2, 1) := by decide +kernel
theorem dX5_drop_34 : decode cX5_drop 34 = .ok (.getfield 231, 3) := by decide +kernel
theorem dX5_drop_37 : decode cX5_drop 37 = .ok (.ireturn, 1) := by decide +kernel
theorem dX5_item_0 : decode cX5_item 0 = .ok (.iload_n 1, 1) := by decide +kernel
theorem dX5_item_1 : decode cX5_item 1 = .ok (.iconst 0, 1) := by decide +kernel
theorem dX5_item_2 : decode cX5_item 2 = .ok (.iconst 3, 1) := by decide +kernel
theorem dX5_item_3 : decode cX5_item 3 = .ok (.invokestatic 57, 3) := by decide +kernel
theorem dX5_item_6 : decode cX5_item 6 = .ok (.ifCond .eq 12, 3) := by decide +kernel
theorem dX5_item_9 : decode cX5_item 9 = .ok (.iload_n 2, 1) := by decide +kernel
theorem dX5_item_10 : decode cX5_item 10 = .ok (.iconst 0, 1) := by decide +kernel
theorem dX5_item_11 : decode cX5_item 11 = .ok (.iconst 3, 1) := by decide +kernel
theorem dX5_item_12 : decode cX5_item 12 = .ok (.invokestatic 57, 3) := by decide +kernel
theorem dX5_item_15 : decode cX5_item 15 = .ok (.ifCond .ne 5, 3) := by decide +kernel
theorem dX5_item_18 : decode cX5_item 18 = .ok (.iconst (-1), 1) := by decide +kernel
theorem dX5_item_19 : decode cX5_item 19 = .ok (.ireturn, 1) := by decide +kernel
theorem dX5_item_20 : decode cX5_item 20 = .ok (.aload_n 0, 1) := by decide +kernel
theorem dX5_item_21 : decode cX5_item 21 = .ok (.getfield 42, 3) := by decide +kernel
theorem dX5_item_24 : decode cX5_item 24 = .ok (.iload_n 1, 1) := by decide +kernel
theorem dX5_item_25 : decode cX5_item 25 = .ok (.aaload, 1) := by decide +kernel
theorem dX5_item_26 : decode cX5_item 26 = .ok (.astore 6, 2) := by decide +kernel
theorem dX5_item_28 : decode cX5_item 28 = .ok (.aload 6, 2) := by decide +kernel
theorem dX5_item_30 : decode cX5_item 30 = .ok (.iload_n 2, 1) := by decide +kernel
theorem dX5_item_31 : decode cX5_item 31 = .ok (.iload_n 3, 1) := by decide +kernel
theorem dX5_item_32 : decode cX5_item 32 = .ok (.iconst 1, 1) := by decide +kernel
theorem dX5_item_33 : decode cX5_item 33 = .ok (.invokevirtual 214, 3) := by decide +kernel
theorem dX5_item_36 : decode cX5_item 36 = .ok (.istore 7, 2) := by decide +kernel
theorem dX5_item_38 : decode cX5_item 38 = .ok (.iload 7, 2) := by decide +kernel
theorem dX5_item_40 : decode cX5_item 40 = .ok (.ifCond .eq 6, 3) := by decide +kernel
theorem dX5_item_43 : decode cX5_item 43 = .ok (.iload 7, 2) := by decide +kernel
theorem dX5_item_45 : decode cX5_item 45 = .ok (.ireturn, 1) := by decide +kernel
theorem dX5_item_46 : decode cX5_item 46 = .ok (.aload 6, 2) := by decide +kernel
theorem dX5_item_48 : decode cX5_item 48 = .ok (.iload_n 3, 1) := by decide +kernel
theorem dX5_item_49 : decode cX5_item 49 = .ok (.lload 4, 2) := by decide +kernel
theorem dX5_item_51 : decode cX5_item 51 = .ok (.invokevirtual 221, 3) := by decide +kernel
theorem dX5_item_54 : decode cX5_item 54 = .ok (.iconst 1, 1) := by decide +kernel
theorem dX5_item_55 : decode cX5_item 55 = .ok (.ireturn, 1) := by decide +kernel
theorem dX5_copy_0 : decode cX5_copy 0 = .ok (.iload_n 1, 1) := by decide +kernel
theorem dX5_copy_1 : decode cX5_copy 1 = .ok (.iconst 0, 1) := by decide +kernel
theorem dX5_copy_2 : decode cX5_copy 2 = .ok (.iconst 3, 1) := by decide +kernel
theorem dX5_copy_3 : decode cX5_copy 3 = .ok (.invokestatic 57, 3) := by decide +kernel
theorem dX5_copy_6 : decode cX5_copy 6 = .ok (.ifCond .eq 12, 3) := by decide +kernel
theorem dX5_copy_9 : decode cX5_copy 9 = .ok (.iload_n 3, 1) := by decide +kernel
theorem dX5_copy_10 : decode cX5_copy 10 = .ok (.iconst 0, 1) := by decide +kernel
theorem dX5_copy_11 : decode cX5_copy 11 = .ok (.iconst 3, 1) := by decide +kernel
theorem dX5_copy_12 : decode cX5_copy 12 = .ok (.invokestatic 57, 3) := by decide +kernel
theorem dX5_copy_15 : decode cX5_copy 15 = .ok (.ifCond .ne 5, 3) := by decide +kernel
theorem dX5_copy_18 : decode cX5_copy 18 = .ok (.iconst (-1), 1) := by decide +kernel
theorem dX5_copy_19 : decode cX5_copy 19 = .ok (.ireturn, 1) := by decide +kernel
theorem dX5_copy_20 : decode cX5_copy 20 = .ok (.aload_n 0, 1) := by decide +kernel
theorem dX5_copy_21 : decode cX5_copy 21 = .ok (.getfield 42, 3) := by decide +kernel
theorem dX5_copy_24 : decode cX5_copy 24 = .ok (.iload_n 1, 1) := by decide +kernel
theorem dX5_copy_25 : decode cX5_copy 25 = .ok (.aaload, 1) := by decide +kernel
theorem dX5_copy_26 : decode cX5_copy 26 = .ok (.astore 6, 2) := by decide +kernel
theorem dX5_copy_28 : decode cX5_copy 28 = .ok (.aload_n 0, 1) := by decide +kernel
theorem dX5_copy_29 : decode cX5_copy 29 = .ok (.getfield 42, 3) := by decide +kernel
theorem dX5_copy_32 : decode cX5_copy 32 = .ok (.iload_n 3, 1) := by decide +kernel
theorem dX5_copy_33 : decode cX5_copy 33 = .ok (.aaload, 1) := by decide +kernel
theorem dX5_copy_34 : decode cX5_copy 34 = .ok (.astore 7, 2) := by decide +kernel
theorem dX5_copy_36 : decode cX5_copy 36 = .ok (.aload 6, 2) := by decide +kernel
theorem dX5_copy_38 : decode cX5_copy 38 = .ok (.getfield 228, 3) := by decide +kernel
theorem dX5_copy_41 : decode cX5_copy 41 = .ok (.ifCond .eq 11, 3) := by decide +kernel
theorem dX5_copy_44 : decode cX5_copy 44 = .ok (.aload 7, 2) := by decide +kernel
theorem dX5_copy_46 : decode cX5_copy 46 = .ok (.getfield 228, 3) := by decide +kernel
theorem dX5_copy_49 : decode cX5_copy 49 = .ok (.ifCond .ne 6, 3) := by decide +kernel
theorem dX5_copy_52 : decode cX5_copy 52 = .ok (.bipush (-11), 2) := by decide +kernel
theorem dX5_copy_54 : decode cX5_copy 54 = .ok (.ireturn, 1) := by decide +kernel
theorem dX5_copy_55 : decode cX5_copy 55 = .ok (.aload 6, 2) := by decide +kernel
theorem dX5_copy_57 : decode cX5_copy 57 = .ok (.getfield 232, 3) := by decide +kernel
theorem dX5_copy_60 : decode cX5_copy 60 = .ok (.aload 7, 2) := by decide +kernel
theorem dX5_copy_62 : decode cX5_copy 62 = .ok (.getfield 232, 3) := by decide +kernel
theorem dX5_copy_65 : decode cX5_copy 65 = .ok (.if_icmp .eq 6, 3) := by decide +kernel
theorem dX5_copy_68 : decode cX5_copy 68 = .ok (.bipush (-12), 2) := by decide +kernel
theorem dX5_copy_70 : decode cX5_copy 70 = .ok (.ireturn, 1) := by decide +kernel
theorem dX5_copy_71 : decode cX5_copy 71 = .ok (.aload 6, 2) := by decide +kernel
theorem dX5_copy_73 : decode cX5_copy 73 = .ok (.iload_n 2, 1) := by decide +kernel
theorem dX5_copy_74 : decode cX5_copy 74 = .ok (.iload 5, 2) := by decide +kernel
theorem dX5_copy_76 : decode cX5_copy 76 = .ok (.invokevirtual 235, 3) := by decide +kernel
theorem dX5_copy_79 : decode cX5_copy 79 = .ok (.ifCond .eq 15, 3) := by decide +kernel
theorem dX5_copy_82 : decode cX5_copy 82 = .ok (.aload 7, 2) := by decide +kernel
theorem dX5_copy_84 : decode cX5_copy 84 = .ok (.iload 4, 2) := by decide +kernel
theorem dX5_copy_86 : decode cX5_copy 86 = .ok (.iload 5, 2) := by decide +kernel
theorem dX5_copy_88 : decode cX5_copy 88 = .ok (.invokevirtual 235, 3) := by decide +kernel
theorem dX5_copy_91 : decode cX5_copy 91 = .ok (.ifCond .ne 6, 3) := by decide +kernel
theorem dX5_copy_94 : decode cX5_copy 94 = .ok (.bipush (-13), 2) := by decide +kernel
theorem dX5_copy_96 : decode cX5_copy 96 = .ok (.ireturn, 1) := by decide +kernel
theorem dX5_copy_97 : decode cX5_copy 97 = .ok (.aload 6, 2) := by decide +kernel
theorem dX5_copy_99 : decode cX5_copy 99 = .ok (.getfield 238, 3) := by decide +kernel
theorem dX5_copy_102 : decode cX5_copy 102 = .ok (.iload_n 2, 1) := by decide +kernel
theorem dX5_copy_103 : decode cX5_copy 103 = .ok (.aload 7, 2) := by decide +kernel
theorem dX5_copy_105 : decode cX5_copy 105 = .ok (.getfield 238, 3) := by decide +kernel
theorem dX5_copy_108 : decode cX5_copy 108 = .ok (.iload 4, 2) := by decide +kernel
theorem dX5_copy_110 : decode cX5_copy 110 = .ok (.iload 5, 2) := by decide +kernel
theorem dX5_copy_112 : decode cX5_copy 112 = .ok (.invokestatic 242, 3) := by decide +kernel
theorem dX5_copy_115 : decode cX5_copy 115 = .ok (.iload 5, 2) := by decide +kernel
theorem dX5_copy_117 : decode cX5_copy 117 = .ok (.ireturn, 1) := by decide +kernel
theorem dX5_within_0 : decode cX5_within 0 = .ok (.iload_n 0, 1) := by decide +kernel
theorem dX5_within_1 : decode cX5_within 1 = .ok (.iload_n 1, 1) := by decide +kernel
theorem dX5_within_2 : decode cX5_within 2 = .ok (.if_icmp .lt 12, 3) := by decide +kernel
theorem dX5_within_5 : decode cX5_within 5 = .ok (.iload_n 0, 1) := by decide +kernel
theorem dX5_within_6 : decode cX5_within 6 = .ok (.iload_n 2, 1) := by decide +kernel
theorem dX5_within_7 : decode cX5_within 7 = .ok (.if_icmp .gt 7, 3) := by decide +kernel
theorem dX5_within_10 : decode cX5_within 10 = .ok (.iconst 1, 1) := by decide +kernel
theorem dX5_within_11 : decode cX5_within 11 = .ok (.goto 4, 3) := by decide +kernel
theorem dX5_within_14 : decode cX5_within 14 = .ok (.iconst 0, 1) := by decide +kernel
theorem dX5_within_15 : decode cX5_within 15 = .ok (.ireturn, 1) := by decide +kernel
theorem dX5_foretell_0 : decode cX5_foretell 0 = .ok (.aload_n 0, 1) := by decide +kernel
theorem dX5_foretell_1 : decode cX5_foretell 1 = .ok (.getfield 16, 3) := by decide +kernel
theorem dX5_foretell_4 : decode cX5_foretell 4 = .ok (.aload_n 0, 1) := by decide +kernel
theorem dX5_foretell_5 : decode cX5_foretell 5 = .ok (.getfield 10, 3) := by decide +kernel
theorem dX5_foretell_8 : decode cX5_foretell 8 = .ok (.invokevirtual 136, 3) := by decide +kernel
theorem dX5_foretell_11 : decode cX5_foretell 11 = .ok (.aload_n 0, 1) := by decide +kernel
theorem dX5_foretell_12 : decode cX5_foretell 12 = .ok (.getfield 16, 3) := by decide +kernel
theorem dX5_foretell_15 : decode cX5_foretell 15 = .ok (.iload_n 1, 1) := by decide +kernel
theorem dX5_foretell_16 : decode cX5_foretell 16 = .ok (.invokevirtual 177, 3) := by decide +kernel
theorem dX5_foretell_19 : decode cX5_foretell 19 = .ok (.return_, 1) := by decide +kernel
theorem dX5_foretellDriven_0 : decode cX5_foretellDriven 0 = .ok (.aload_n 0, 1) := by decide +kernel
theorem dX5_foretellDriven_1 : decode cX5_foretellDriven 1 = .ok (.getfield 16, 3) := by decide +kernel
theorem dX5_foretellDriven_4 : decode cX5_foretellDriven 4 = .ok (.aload_n 0, 1) := by decide +kernel
theorem dX5_foretellDriven_5 : decode cX5_foretellDriven 5 = .ok (.getfield 10, 3) := by decide +kernel
theorem dX5_foretellDriven_8 : decode cX5_foretellDriven 8 = .ok (.invokevirtual 136, 3) := by decide +kernel
theorem dX5_foretellDriven_11 : decode cX5_foretellDriven 11 = .ok (.aload_n 0, 1) := by decide +kernel
theorem dX5_foretellDriven_12 : decode cX5_foretellDriven 12 = .ok (.getfield 16, 3) := by decide +kernel
theorem dX5_foretellDriven_15 : decode cX5_foretellDriven 15 = .ok (.getfield 111, 3) := by decide +kernel
theorem dX5_foretellDriven_18 : decode cX5_foretellDriven 18 = .ok (.iload_n 1, 1) := by decide +kernel
theorem dX5_foretellDriven_19 : decode cX5_foretellDriven 19 = .ok (.iload_n 2, 1) := by decide +kernel
theorem dX5_foretellDriven_20 : decode cX5_foretellDriven 20 = .ok (.iastore, 1) := by decide +kernel
theorem dX5_foretellDriven_21 : decode cX5_foretellDriven 21 = .ok (.aload_n 0, 1) := by decide +kernel
theorem dX5_foretellDriven_22 : decode cX5_foretellDriven 22 = .ok (.getfield 16, 3) := by decide +kernel
theorem dX5_foretellDriven_25 : decode cX5_foretellDriven 25 = .ok (.iload_n 3, 1) := by decide +kernel
theorem dX5_foretellDriven_26 : decode cX5_foretellDriven 26 = .ok (.invokevirtual 177, 3) := by decide +kernel
theorem dX5_foretellDriven_29 : decode cX5_foretellDriven 29 = .ok (.return_, 1) := by decide +kernel
theorem dX5_chance_0 : decode cX5_chance 0 = .ok (.iconst 1, 1) := by decide +kernel
theorem dX5_chance_1 : decode cX5_chance 1 = .ok (.istore_n 3, 1) := by decide +kernel
theorem dX5_chance_2 : decode cX5_chance 2 = .ok (.iconst 0, 1) := by decide +kernel
theorem dX5_chance_3 : decode cX5_chance 3 = .ok (.istore 4, 2) := by decide +kernel
theorem dX5_chance_5 : decode cX5_chance 5 = .ok (.iload 4, 2) := by decide +kernel
theorem dX5_chance_7 : decode cX5_chance 7 = .ok (.aload_n 0, 1) := by decide +kernel
theorem dX5_chance_8 : decode cX5_chance 8 = .ok (.getfield 10, 3) := by decide +kernel
theorem dX5_chance_11 : decode cX5_chance 11 = .ok (.getfield 76, 3) := by decide +kernel
theorem dX5_chance_14 : decode cX5_chance 14 = .ok (.if_icmp .ge 30, 3) := by decide +kernel
theorem dX5_chance_17 : decode cX5_chance 17 = .ok (.iload_n 3, 1) := by decide +kernel
theorem dX5_chance_18 : decode cX5_chance 18 = .ok (.iload_n 1, 1) := by decide +kernel
theorem dX5_chance_19 : decode cX5_chance 19 = .ok (.iload 4, 2) := by decide +kernel
theorem dX5_chance_21 : decode cX5_chance 21 = .ok (.ishr, 1) := by decide +kernel
theorem dX5_chance_22 : decode cX5_chance 22 = .ok (.iconst 1, 1) := by decide +kernel
theorem dX5_chance_23 : decode cX5_chance 23 = .ok (.iand, 1) := by decide +kernel
theorem dX5_chance_24 : decode cX5_chance 24 = .ok (.iconst 1, 1) := by decide +kernel
theorem dX5_chance_25 : decode cX5_chance 25 = .ok (.if_icmp .ne 7, 3) := by decide +kernel
theorem dX5_chance_28 : decode cX5_chance 28 = .ok (.iload_n 2, 1) := by decide +kernel
theorem dX5_chance_29 : decode cX5_chance 29 = .ok (.goto 7, 3) := by decide +kernel
theorem dX5_chance_32 : decode cX5_chance 32 = .ok (.bipush 10, 2) := by decide +kernel
theorem dX5_chance_34 : decode cX5_chance 34 = .ok (.iload_n 2, 1) := by decide +kernel
theorem dX5_chance_35 : decode cX5_chance 35 = .ok (.isub, 1) := by decide +kernel
theorem dX5_chance_36 : decode cX5_chance 36 = .ok (.imul, 1) := by decide +kernel
theorem dX5_chance_37 : decode cX5_chance 37 = .ok (.istore_n 3, 1) := by decide +kernel
theorem dX5_chance_38 : decode cX5_chance 38 = .ok (.iinc 4 1, 3) := by decide +kernel
theorem dX5_chance_41 : decode cX5_chance 41 = .ok (.goto (-36), 3) := by decide +kernel
theorem dX5_chance_44 : decode cX5_chance 44 = .ok (.iload_n 3, 1) := by decide +kernel
theorem dX5_chance_45 : decode cX5_chance 45 = .ok (.ireturn, 1) := by decide +kernel
theorem dX5_looksMore_0 : decode cX5_looksMore 0 = .ok (.aload_n 0, 1) := by decide +kernel
theorem dX5_looksMore_1 : decode cX5_looksMore 1 = .ok (.getfield 16, 3) := by decide +kernel
theorem dX5_looksMore_4 : decode cX5_looksMore 4 = .ok (.aload_n 0, 1) := by decide +kernel
theorem dX5_looksMore_5 : decode cX5_looksMore 5 = .ok (.getfield 10, 3) := by decide +kernel
theorem dX5_looksMore_8 : decode cX5_looksMore 8 = .ok (.invokevirtual 136, 3) := by decide +kernel
theorem dX5_looksMore_11 : decode cX5_looksMore 11 = .ok (.aload_n 0, 1) := by decide +kernel
theorem dX5_looksMore_12 : decode cX5_looksMore 12 = .ok (.getfield 16, 3) := by decide +kernel
theorem dX5_looksMore_15 : decode cX5_looksMore 15 = .ok (.iload_n 2, 1) := by decide +kernel
theorem dX5_looksMore_16 : decode cX5_looksMore 16 = .ok (.invokevirtual 160, 3) := by decide +kernel
theorem dX5_looksMore_19 : decode cX5_looksMore 19 = .ok (.aload_n 0, 1) := by decide +kernel
theorem dX5_looksMore_20 : decode cX5_looksMore 20 = .ok (.getfield 16, 3) := by decide +kernel
theorem dX5_looksMore_23 : decode cX5_looksMore 23 = .ok (.getfield 92, 3) := by decide +kernel
theorem dX5_looksMore_26 : decode cX5_looksMore 26 = .ok (.iload_n 1, 1) := by decide +kernel
theorem dX5_looksMore_27 : decode cX5_looksMore 27 = .ok (.iaload, 1) := by decide +kernel
theorem dX5_looksMore_28 : decode cX5_looksMore 28 = .ok (.aload_n 0, 1) := by decide +kernel
theorem dX5_looksMore_29 : decode cX5_looksMore 29 = .ok (.getfield 10, 3) := by decide +kernel
theorem dX5_looksMore_32 : decode cX5_looksMore 32 = .ok (.getfield 92, 3) := by decide +kernel
theorem dX5_looksMore_35 : decode cX5_looksMore 35 = .ok (.iload_n 1, 1) := by decide +kernel
theorem dX5_looksMore_36 : decode cX5_looksMore 36 = .ok (.iaload, 1) := by decide +kernel
theorem dX5_looksMore_37 : decode cX5_looksMore 37 = .ok (.if_icmp .le 7, 3) := by decide +kernel
theorem dX5_looksMore_40 : decode cX5_looksMore 40 = .ok (.iconst 1, 1) := by decide +kernel
theorem dX5_looksMore_41 : decode cX5_looksMore 41 = .ok (.goto 4, 3) := by decide +kernel
theorem dX5_looksMore_44 : decode cX5_looksMore 44 = .ok (.iconst 0, 1) := by decide +kernel
theorem dX5_looksMore_45 : decode cX5_looksMore 45 = .ok (.ireturn, 1) := by decide +kernel
theorem dX5_commonDivisor_0 : decode cX5_commonDivisor 0 = .ok (.iload_n 0, 1) := by decide +kernel
theorem dX5_commonDivisor_1 : decode cX5_commonDivisor 1 = .ok (.istore_n 2, 1) := by decide +kernel
theorem dX5_commonDivisor_2 : decode cX5_commonDivisor 2 = .ok (.iload_n 1, 1) := by decide +kernel
theorem dX5_commonDivisor_3 : decode cX5_commonDivisor 3 = .ok (.istore_n 3, 1) := by decide +kernel
theorem dX5_commonDivisor_4 : decode cX5_commonDivisor 4 = .ok (.iconst 0, 1) := by decide +kernel
theorem dX5_commonDivisor_5 : decode cX5_commonDivisor 5 = .ok (.istore 4, 2) := by decide +kernel
theorem dX5_commonDivisor_7 : decode cX5_commonDivisor 7 = .ok (.iload 4, 2) := by decide +kernel
theorem dX5_commonDivisor_9 : decode cX5_commonDivisor 9 = .ok (.bipush 64, 2) := by decide +kernel
theorem dX5_commonDivisor_11 : decode cX5_commonDivisor 11 = .ok (.if_icmp .ge 23, 3) := by decide +kernel
theorem dX5_commonDivisor_14 : decode cX5_commonDivisor 14 = .ok (.iload_n 3, 1) := by decide +kernel
theorem dX5_commonDivisor_15 : decode cX5_commonDivisor 15 = .ok (.ifCond .le 19, 3) := by decide +kernel
theorem dX5_commonDivisor_18 : decode cX5_commonDivisor 18 = .ok (.iload_n 2, 1) := by decide +kernel
theorem dX5_commonDivisor_19 : decode cX5_commonDivisor 19 = .ok (.iload_n 3, 1) := by decide +kernel
theorem dX5_commonDivisor_20 : decode cX5_commonDivisor 20 = .ok (.irem, 1) := by decide +kernel
theorem dX5_commonDivisor_21 : decode cX5_commonDivisor 21 = .ok (.istore 5, 2) := by decide +kernel
theorem dX5_commonDivisor_23 : decode cX5_commonDivisor 23 = .ok (.iload_n 3, 1) := by decide +kernel
theorem dX5_commonDivisor_24 : decode cX5_commonDivisor 24 = .ok (.istore_n 2, 1) := by decide +kernel
theorem dX5_commonDivisor_25 : decode cX5_commonDivisor 25 = .ok (.iload 5, 2) := by decide +kernel
theorem dX5_commonDivisor_27 : decode cX5_commonDivisor 27 = .ok (.istore_n 3, 1) := by decide +kernel
theorem dX5_commonDivisor_28 : decode cX5_commonDivisor 28 = .ok (.iinc 4 1, 3) := by decide +kernel
theorem dX5_commonDivisor_31 : decode cX5_commonDivisor 31 = .ok (.goto (-24), 3) := by decide +kernel
theorem dX5_commonDivisor_34 : decode cX5_commonDivisor 34 = .ok (.iload_n 2, 1) := by decide +kernel
theorem dX5_commonDivisor_35 : decode cX5_commonDivisor 35 = .ok (.ireturn, 1) := by decide +kernel
theorem dX5_dawnsAs_0 : decode cX5_dawnsAs 0 = .ok (.iconst 0, 1) := by decide +kernel
theorem dX5_dawnsAs_1 : decode cX5_dawnsAs 1 = .ok (.istore 5, 2) := by decide +kernel
theorem dX5_dawnsAs_3 : decode cX5_dawnsAs 3 = .ok (.iload 5, 2) := by decide +kernel
theorem dX5_dawnsAs_5 : decode cX5_dawnsAs 5 = .ok (.iload 4, 2) := by decide +kernel
theorem dX5_dawnsAs_7 : decode cX5_dawnsAs 7 = .ok (.if_icmp .ge 42, 3) := by decide +kernel
theorem dX5_dawnsAs_10 : decode cX5_dawnsAs 10 = .ok (.aload_n 0, 1) := by decide +kernel
end
section
theorem dX5_dawnsAs_11 : decode cX5_dawnsAs 11 = .ok (.getfield 16, 3) := by decide +kernel
theorem dX5_dawnsAs_14 : decode cX5_dawnsAs 14 = .ok (.iconst 0, 1) := by decide +kernel
theorem dX5_dawnsAs_15 : decode cX5_dawnsAs 15 = .ok (.invokevirtual 160, 3) := by decide +kernel
theorem dX5_dawnsAs_18 : decode cX5_dawnsAs 18 = .ok (.aload_n 2, 1) := by decide +kernel
theorem dX5_dawnsAs_19 : decode cX5_dawnsAs 19 = .ok (.getfield 238, 3) := by decide +kernel
theorem dX5_dawnsAs_22 : decode cX5_dawnsAs 22 = .ok (.iload_n 3, 1) := by decide +kernel
theorem dX5_dawnsAs_23 : decode cX5_dawnsAs 23 = .ok (.iload 5, 2) := by decide +kernel
theorem dX5_dawnsAs_25 : decode cX5_dawnsAs 25 = .ok (.iadd, 1) := by decide +kernel
theorem dX5_dawnsAs_26 : decode cX5_dawnsAs 26 = .ok (.laload, 1) := by decide +kernel
theorem dX5_dawnsAs_27 : decode cX5_dawnsAs 27 = .ok (.aload_n 0, 1) := by decide +kernel
theorem dX5_dawnsAs_28 : decode cX5_dawnsAs 28 = .ok (.getfield 16, 3) := by decide +kernel
theorem dX5_dawnsAs_31 : decode cX5_dawnsAs 31 = .ok (.getfield 248, 3) := by decide +kernel
theorem dX5_dawnsAs_34 : decode cX5_dawnsAs 34 = .ok (.iload_n 1, 1) := by decide +kernel
theorem dX5_dawnsAs_35 : decode cX5_dawnsAs 35 = .ok (.iaload, 1) := by decide +kernel
theorem dX5_dawnsAs_36 : decode cX5_dawnsAs 36 = .ok (.i2l, 1) := by decide +kernel
theorem dX5_dawnsAs_37 : decode cX5_dawnsAs 37 = .ok (.lcmp, 1) := by decide +kernel
theorem dX5_dawnsAs_38 : decode cX5_dawnsAs 38 = .ok (.ifCond .eq 5, 3) := by decide +kernel
theorem dX5_dawnsAs_41 : decode cX5_dawnsAs 41 = .ok (.iconst 0, 1) := by decide +kernel
theorem dX5_dawnsAs_42 : decode cX5_dawnsAs 42 = .ok (.ireturn, 1) := by decide +kernel
theorem dX5_dawnsAs_43 : decode cX5_dawnsAs 43 = .ok (.iinc 5 1, 3) := by decide +kernel
theorem dX5_dawnsAs_46 : decode cX5_dawnsAs 46 = .ok (.goto (-43), 3) := by decide +kernel
theorem dX5_dawnsAs_49 : decode cX5_dawnsAs 49 = .ok (.iconst 1, 1) := by decide +kernel
theorem dX5_dawnsAs_50 : decode cX5_dawnsAs 50 = .ok (.ireturn, 1) := by decide +kernel
theorem dX6_init_0 : decode cX6_init 0 = .ok (.aload_n 0, 1) := by decide +kernel
theorem dX6_init_1 : decode cX6_init 1 = .ok (.invokespecial 1, 3) := by decide +kernel
theorem dX6_init_4 : decode cX6_init 4 = .ok (.aload_n 0, 1) := by decide +kernel
theorem dX6_init_5 : decode cX6_init 5 = .ok (.iconst 4, 1) := by decide +kernel
theorem dX6_init_6 : decode cX6_init 6 = .ok (.newarray .int, 2) := by decide +kernel
theorem dX6_init_8 : decode cX6_init 8 = .ok (.putfield 7, 3) := by decide +kernel
theorem dX6_init_11 : decode cX6_init 11 = .ok (.aload_n 0, 1) := by decide +kernel
theorem dX6_init_12 : decode cX6_init 12 = .ok (.iconst 4, 1) := by decide +kernel
theorem dX6_init_13 : decode cX6_init 13 = .ok (.newarray .int, 2) := by decide +kernel
theorem dX6_init_15 : decode cX6_init 15 = .ok (.putfield 13, 3) := by decide +kernel
theorem dX6_init_18 : decode cX6_init 18 = .ok (.aload_n 0, 1) := by decide +kernel
theorem dX6_init_19 : decode cX6_init 19 = .ok (.bipush 96, 2) := by decide +kernel
theorem dX6_init_21 : decode cX6_init 21 = .ok (.newarray .long, 2) := by decide +kernel
theorem dX6_init_23 : decode cX6_init 23 = .ok (.putfield 16, 3) := by decide +kernel
theorem dX6_init_26 : decode cX6_init 26 = .ok (.aload_n 0, 1) := by decide +kernel
theorem dX6_init_27 : decode cX6_init 27 = .ok (.bipush 80, 2) := by decide +kernel
theorem dX6_init_29 : decode cX6_init 29 = .ok (.newarray .int, 2) := by decide +kernel
theorem dX6_init_31 : decode cX6_init 31 = .ok (.putfield 20, 3) := by decide +kernel
theorem dX6_init_34 : decode cX6_init 34 = .ok (.aload_n 0, 1) := by decide +kernel
theorem dX6_init_35 : decode cX6_init 35 = .ok (.sipush 248, 3) := by decide +kernel
theorem dX6_init_38 : decode cX6_init 38 = .ok (.newarray .int, 2) := by decide +kernel
theorem dX6_init_40 : decode cX6_init 40 = .ok (.putfield 23, 3) := by decide +kernel
theorem dX6_init_43 : decode cX6_init 43 = .ok (.aload_n 0, 1) := by decide +kernel
theorem dX6_init_44 : decode cX6_init 44 = .ok (.sipush 248, 3) := by decide +kernel
theorem dX6_init_47 : decode cX6_init 47 = .ok (.newarray .int, 2) := by decide +kernel
theorem dX6_init_49 : decode cX6_init 49 = .ok (.putfield 26, 3) := by decide +kernel
theorem dX6_init_52 : decode cX6_init 52 = .ok (.aload_n 0, 1) := by decide +kernel
theorem dX6_init_53 : decode cX6_init 53 = .ok (.sipush 248, 3) := by decide +kernel
theorem dX6_init_56 : decode cX6_init 56 = .ok (.newarray .int, 2) := by decide +kernel
theorem dX6_init_58 : decode cX6_init 58 = .ok (.putfield 29, 3) := by decide +kernel
theorem dX6_init_61 : decode cX6_init 61 = .ok (.aload_n 0, 1) := by decide +kernel
theorem dX6_init_62 : decode cX6_init 62 = .ok (.sipush 248, 3) := by decide +kernel
theorem dX6_init_65 : decode cX6_init 65 = .ok (.newarray .int, 2) := by decide +kernel
theorem dX6_init_67 : decode cX6_init 67 = .ok (.putfield 32, 3) := by decide +kernel
theorem dX6_init_70 : decode cX6_init 70 = .ok (.aload_n 0, 1) := by decide +kernel
theorem dX6_init_71 : decode cX6_init 71 = .ok (.bipush 6, 2) := by decide +kernel
theorem dX6_init_73 : decode cX6_init 73 = .ok (.newarray .int, 2) := by decide +kernel
theorem dX6_init_75 : decode cX6_init 75 = .ok (.putfield 35, 3) := by decide +kernel
theorem dX6_init_78 : decode cX6_init 78 = .ok (.aload_n 0, 1) := by decide +kernel
theorem dX6_init_79 : decode cX6_init 79 = .ok (.bipush 6, 2) := by decide +kernel
theorem dX6_init_81 : decode cX6_init 81 = .ok (.newarray .int, 2) := by decide +kernel
theorem dX6_init_83 : decode cX6_init 83 = .ok (.putfield 38, 3) := by decide +kernel
theorem dX6_init_86 : decode cX6_init 86 = .ok (.aload_n 0, 1) := by decide +kernel
theorem dX6_init_87 : decode cX6_init 87 = .ok (.bipush 6, 2) := by decide +kernel
theorem dX6_init_89 : decode cX6_init 89 = .ok (.newarray .int, 2) := by decide +kernel
theorem dX6_init_91 : decode cX6_init 91 = .ok (.putfield 41, 3) := by decide +kernel
theorem dX6_init_94 : decode cX6_init 94 = .ok (.aload_n 0, 1) := by decide +kernel
theorem dX6_init_95 : decode cX6_init 95 = .ok (.bipush 6, 2) := by decide +kernel
theorem dX6_init_97 : decode cX6_init 97 = .ok (.newarray .int, 2) := by decide +kernel
theorem dX6_init_99 : decode cX6_init 99 = .ok (.putfield 44, 3) := by decide +kernel
theorem dX6_init_102 : decode cX6_init 102 = .ok (.iconst 0, 1) := by decide +kernel
theorem dX6_init_103 : decode cX6_init 103 = .ok (.istore_n 1, 1) := by decide +kernel
theorem dX6_init_104 : decode cX6_init 104 = .ok (.iload_n 1, 1) := by decide +kernel
theorem dX6_init_105 : decode cX6_init 105 = .ok (.iconst 4, 1) := by decide +kernel
theorem dX6_init_106 : decode cX6_init 106 = .ok (.if_icmp .ge 16, 3) := by decide +kernel
theorem dX6_init_109 : decode cX6_init 109 = .ok (.aload_n 0, 1) := by decide +kernel
theorem dX6_init_110 : decode cX6_init 110 = .ok (.getfield 7, 3) := by decide +kernel
theorem dX6_init_113 : decode cX6_init 113 = .ok (.iload_n 1, 1) := by decide +kernel
theorem dX6_init_114 : decode cX6_init 114 = .ok (.iconst (-1), 1) := by decide +kernel
theorem dX6_init_115 : decode cX6_init 115 = .ok (.iastore, 1) := by decide +kernel
theorem dX6_init_116 : decode cX6_init 116 = .ok (.iinc 1 1, 3) := by decide +kernel
theorem dX6_init_119 : decode cX6_init 119 = .ok (.goto (-15), 3) := by decide +kernel
theorem dX6_init_122 : decode cX6_init 122 = .ok (.aload_n 0, 1) := by decide +kernel
theorem dX6_init_123 : decode cX6_init 123 = .ok (.getfield 23, 3) := by decide +kernel
theorem dX6_init_126 : decode cX6_init 126 = .ok (.iconst 1, 1) := by decide +kernel
theorem dX6_init_127 : decode cX6_init 127 = .ok (.iconst 1, 1) := by decide +kernel
theorem dX6_init_128 : decode cX6_init 128 = .ok (.iastore, 1) := by decide +kernel
theorem dX6_init_129 : decode cX6_init 129 = .ok (.aload_n 0, 1) := by decide +kernel
theorem dX6_init_130 : decode cX6_init 130 = .ok (.getfield 23, 3) := by decide +kernel
theorem dX6_init_133 : decode cX6_init 133 = .ok (.bipush 26, 2) := by decide +kernel
theorem dX6_init_135 : decode cX6_init 135 = .ok (.iconst 5, 1) := by decide +kernel
theorem dX6_init_136 : decode cX6_init 136 = .ok (.iastore, 1) := by decide +kernel
theorem dX6_init_137 : decode cX6_init 137 = .ok (.return_, 1) := by decide +kernel
theorem dX6_in_0 : decode cX6_in 0 = .ok (.iload_n 0, 1) := by decide +kernel
theorem dX6_in_1 : decode cX6_in 1 = .ok (.iload_n 1, 1) := by decide +kernel
theorem dX6_in_2 : decode cX6_in 2 = .ok (.if_icmp .lt 12, 3) := by decide +kernel
theorem dX6_in_5 : decode cX6_in 5 = .ok (.iload_n 0, 1) := by decide +kernel
theorem dX6_in_6 : decode cX6_in 6 = .ok (.iload_n 2, 1) := by decide +kernel
theorem dX6_in_7 : decode cX6_in 7 = .ok (.if_icmp .gt 7, 3) := by decide +kernel
theorem dX6_in_10 : decode cX6_in 10 = .ok (.iconst 1, 1) := by decide +kernel
theorem dX6_in_11 : decode cX6_in 11 = .ok (.goto 4, 3) := by decide +kernel
theorem dX6_in_14 : decode cX6_in 14 = .ok (.iconst 0, 1) := by decide +kernel
theorem dX6_in_15 : decode cX6_in 15 = .ok (.ireturn, 1) := by decide +kernel
theorem dX6_has_0 : decode cX6_has 0 = .ok (.iload_n 0, 1) := by decide +kernel
theorem dX6_has_1 : decode cX6_has 1 = .ok (.iload_n 1, 1) := by decide +kernel
theorem dX6_has_2 : decode cX6_has 2 = .ok (.ishr, 1) := by decide +kernel
theorem dX6_has_3 : decode cX6_has 3 = .ok (.iconst 1, 1) := by decide +kernel
theorem dX6_has_4 : decode cX6_has 4 = .ok (.iand, 1) := by decide +kernel
theorem dX6_has_5 : decode cX6_has 5 = .ok (.iconst 1, 1) := by decide +kernel
theorem dX6_has_6 : decode cX6_has 6 = .ok (.if_icmp .ne 7, 3) := by decide +kernel
theorem dX6_has_9 : decode cX6_has 9 = .ok (.iconst 1, 1) := by decide +kernel
theorem dX6_has_10 : decode cX6_has 10 = .ok (.goto 4, 3) := by decide +kernel
theorem dX6_has_13 : decode cX6_has 13 = .ok (.iconst 0, 1) := by decide +kernel
theorem dX6_has_14 : decode cX6_has 14 = .ok (.ireturn, 1) := by decide +kernel
theorem dX6_bits_0 : decode cX6_bits 0 = .ok (.iconst 0, 1) := by decide +kernel
theorem dX6_bits_1 : decode cX6_bits 1 = .ok (.istore_n 1, 1) := by decide +kernel
theorem dX6_bits_2 : decode cX6_bits 2 = .ok (.iconst 0, 1) := by decide +kernel
theorem dX6_bits_3 : decode cX6_bits 3 = .ok (.istore_n 2, 1) := by decide +kernel
theorem dX6_bits_4 : decode cX6_bits 4 = .ok (.iload_n 2, 1) := by decide +kernel
theorem dX6_bits_5 : decode cX6_bits 5 = .ok (.bipush 6, 2) := by decide +kernel
theorem dX6_bits_7 : decode cX6_bits 7 = .ok (.if_icmp .ge 17, 3) := by decide +kernel
theorem dX6_bits_10 : decode cX6_bits 10 = .ok (.iload_n 1, 1) := by decide +kernel
theorem dX6_bits_11 : decode cX6_bits 11 = .ok (.iload_n 0, 1) := by decide +kernel
theorem dX6_bits_12 : decode cX6_bits 12 = .ok (.iload_n 2, 1) := by decide +kernel
theorem dX6_bits_13 : decode cX6_bits 13 = .ok (.ishr, 1) := by decide +kernel
theorem dX6_bits_14 : decode cX6_bits 14 = .ok (.iconst 1, 1) := by decide +kernel
theorem dX6_bits_15 : decode cX6_bits 15 = .ok (.iand, 1) := by decide +kernel
theorem dX6_bits_16 : decode cX6_bits 16 = .ok (.iadd, 1) := by decide +kernel
theorem dX6_bits_17 : decode cX6_bits 17 = .ok (.istore_n 1, 1) := by decide +kernel
theorem dX6_bits_18 : decode cX6_bits 18 = .ok (.iinc 2 1, 3) := by decide +kernel
theorem dX6_bits_21 : decode cX6_bits 21 = .ok (.goto (-17), 3) := by decide +kernel
theorem dX6_bits_24 : decode cX6_bits 24 = .ok (.iload_n 1, 1) := by decide +kernel
theorem dX6_bits_25 : decode cX6_bits 25 = .ok (.ireturn, 1) := by decide +kernel
theorem dX6_bring_0 : decode cX6_bring 0 = .ok (.iconst 0, 1) := by decide +kernel
theorem dX6_bring_1 : decode cX6_bring 1 = .ok (.istore 5, 2) := by decide +kernel
theorem dX6_bring_3 : decode cX6_bring 3 = .ok (.iload 5, 2) := by decide +kernel
theorem dX6_bring_5 : decode cX6_bring 5 = .ok (.iload 4, 2) := by decide +kernel
theorem dX6_bring_7 : decode cX6_bring 7 = .ok (.if_icmp .ge 21, 3) := by decide +kernel
theorem dX6_bring_10 : decode cX6_bring 10 = .ok (.aload_n 2, 1) := by decide +kernel
theorem dX6_bring_11 : decode cX6_bring 11 = .ok (.iload_n 3, 1) := by decide +kernel
theorem dX6_bring_12 : decode cX6_bring 12 = .ok (.iload 5, 2) := by decide +kernel
theorem dX6_bring_14 : decode cX6_bring 14 = .ok (.iadd, 1) := by decide +kernel
theorem dX6_bring_15 : decode cX6_bring 15 = .ok (.aload_n 0, 1) := by decide +kernel
theorem dX6_bring_16 : decode cX6_bring 16 = .ok (.iload_n 1, 1) := by decide +kernel
theorem dX6_bring_17 : decode cX6_bring 17 = .ok (.iload 5, 2) := by decide +kernel
theorem dX6_bring_19 : decode cX6_bring 19 = .ok (.iadd, 1) := by decide +kernel
theorem dX6_bring_20 : decode cX6_bring 20 = .ok (.iaload, 1) := by decide +kernel
theorem dX6_bring_21 : decode cX6_bring 21 = .ok (.iastore, 1) := by decide +kernel
theorem dX6_bring_22 : decode cX6_bring 22 = .ok (.iinc 5 1, 3) := by decide +kernel
theorem dX6_bring_25 : decode cX6_bring 25 = .ok (.goto (-22), 3) := by decide +kernel
theorem dX6_bring_28 : decode cX6_bring 28 = .ok (.return_, 1) := by decide +kernel
theorem dX6_isHouse_0 : decode cX6_isHouse 0 = .ok (.iload_n 1, 1) := by decide +kernel
theorem dX6_isHouse_1 : decode cX6_isHouse 1 = .ok (.iconst 0, 1) := by decide +kernel
theorem dX6_isHouse_2 : decode cX6_isHouse 2 = .ok (.aload_n 0, 1) := by decide +kernel
theorem dX6_isHouse_3 : decode cX6_isHouse 3 = .ok (.getfield 23, 3) := by decide +kernel
theorem dX6_isHouse_6 : decode cX6_isHouse 6 = .ok (.bipush 27, 2) := by decide +kernel
theorem dX6_isHouse_8 : decode cX6_isHouse 8 = .ok (.iaload, 1) := by decide +kernel
theorem dX6_isHouse_9 : decode cX6_isHouse 9 = .ok (.iconst 1, 1) := by decide +kernel
theorem dX6_isHouse_10 : decode cX6_isHouse 10 = .ok (.isub, 1) := by decide +kernel
theorem dX6_isHouse_11 : decode cX6_isHouse 11 = .ok (.invokestatic 47, 3) := by decide +kernel
theorem dX6_isHouse_14 : decode cX6_isHouse 14 = .ok (.ireturn, 1) := by decide +kernel
theorem dX6_isHog_0 : decode cX6_isHog 0 = .ok (.iload_n 1, 1) := by decide +kernel
theorem dX6_isHog_1 : decode cX6_isHog 1 = .ok (.iconst 0, 1) := by decide +kernel
theorem dX6_isHog_2 : decode cX6_isHog 2 = .ok (.aload_n 0, 1) := by decide +kernel
theorem dX6_isHog_3 : decode cX6_isHog 3 = .ok (.getfield 23, 3) := by decide +kernel
theorem dX6_isHog_6 : decode cX6_isHog 6 = .ok (.bipush 28, 2) := by decide +kernel
theorem dX6_isHog_8 : decode cX6_isHog 8 = .ok (.iaload, 1) := by decide +kernel
theorem dX6_isHog_9 : decode cX6_isHog 9 = .ok (.iconst 1, 1) := by decide +kernel
theorem dX6_isHog_10 : decode cX6_isHog 10 = .ok (.isub, 1) := by decide +kernel
theorem dX6_isHog_11 : decode cX6_isHog 11 = .ok (.invokestatic 47, 3) := by decide +kernel
theorem dX6_isHog_14 : decode cX6_isHog 14 = .ok (.ireturn, 1) := by decide +kernel
theorem dX6_addHouse_0 : decode cX6_addHouse 0 = .ok (.aload_n 0, 1) := by decide +kernel
theorem dX6_addHouse_1 : decode cX6_addHouse 1 = .ok (.bipush 27, 2) := by decide +kernel
theorem dX6_addHouse_3 : decode cX6_addHouse 3 = .ok (.iaload, 1) := by decide +kernel
theorem dX6_addHouse_4 : decode cX6_addHouse 4 = .ok (.istore_n 3, 1) := by decide +kernel
theorem dX6_addHouse_5 : decode cX6_addHouse 5 = .ok (.aload_n 0, 1) := by decide +kernel
theorem dX6_addHouse_6 : decode cX6_addHouse 6 = .ok (.iconst 3, 1) := by decide +kernel
theorem dX6_addHouse_7 : decode cX6_addHouse 7 = .ok (.iload_n 3, 1) := by decide +kernel
theorem dX6_addHouse_8 : decode cX6_addHouse 8 = .ok (.iadd, 1) := by decide +kernel
theorem dX6_addHouse_9 : decode cX6_addHouse 9 = .ok (.iload_n 1, 1) := by decide +kernel
theorem dX6_addHouse_10 : decode cX6_addHouse 10 = .ok (.iastore, 1) := by decide +kernel
theorem dX6_addHouse_11 : decode cX6_addHouse 11 = .ok (.aload_n 0, 1) := by decide +kernel
theorem dX6_addHouse_12 : decode cX6_addHouse 12 = .ok (.bipush 9, 2) := by decide +kernel
theorem dX6_addHouse_14 : decode cX6_addHouse 14 = .ok (.iload_n 3, 1) := by decide +kernel
theorem dX6_addHouse_15 : decode cX6_addHouse 15 = .ok (.iadd, 1) := by decide +kernel
theorem dX6_addHouse_16 : decode cX6_addHouse 16 = .ok (.iload_n 2, 1) := by decide +kernel
theorem dX6_addHouse_17 : decode cX6_addHouse 17 = .ok (.iastore, 1) := by decide +kernel
theorem dX6_addHouse_18 : decode cX6_addHouse 18 = .ok (.aload_n 0, 1) := by decide +kernel
theorem dX6_addHouse_19 : decode cX6_addHouse 19 = .ok (.bipush 15, 2) := by decide +kernel
theorem dX6_addHouse_21 : decode cX6_addHouse 21 = .ok (.iload_n 3, 1) := by decide +kernel
theorem dX6_addHouse_22 : decode cX6_addHouse 22 = .ok (.iadd, 1) := by decide +kernel
theorem dX6_addHouse_23 : decode cX6_addHouse 23 = .ok (.iconst 0, 1) := by decide +kernel
theorem dX6_addHouse_24 : decode cX6_addHouse 24 = .ok (.iastore, 1) := by decide +kernel
theorem dX6_addHouse_25 : decode cX6_addHouse 25 = .ok (.aload_n 0, 1) := by decide +kernel
theorem dX6_addHouse_26 : decode cX6_addHouse 26 = .ok (.bipush 27, 2) := by decide +kernel
theorem dX6_addHouse_28 : decode cX6_addHouse 28 = .ok (.dup2, 1) := by decide +kernel
theorem dX6_addHouse_29 : decode cX6_addHouse 29 = .ok (.iaload, 1) := by decide +kernel
theorem dX6_addHouse_30 : decode cX6_addHouse 30 = .ok (.iconst 1, 1) := by decide +kernel
theorem dX6_addHouse_31 : decode cX6_addHouse 31 = .ok (.iadd, 1) := by decide +kernel
theorem dX6_addHouse_32 : decode cX6_addHouse 32 = .ok (.iastore, 1) := by decide +kernel
theorem dX6_addHouse_33 : decode cX6_addHouse 33 = .ok (.iload_n 3, 1) := by decide +kernel
theorem dX6_addHouse_34 : decode cX6_addHouse 34 = .ok (.ireturn, 1) := by decide +kernel
theorem dX6_addHog_0 : decode cX6_addHog 0 = .ok (.aload_n 0, 1) := by decide +kernel
theorem dX6_addHog_1 : decode cX6_addHog 1 = .ok (.bipush 28, 2) := by decide +kernel
theorem dX6_addHog_3 : decode cX6_addHog 3 = .ok (.iaload, 1) := by decide +kernel
theorem dX6_addHog_4 : decode cX6_addHog 4 = .ok (.istore 4, 2) := by decide +kernel
theorem dX6_addHog_6 : decode cX6_addHog 6 = .ok (.aload_n 0, 1) := by decide +kernel
theorem dX6_addHog_7 : decode cX6_addHog 7 = .ok (.bipush 29, 2) := by decide +kernel
theorem dX6_addHog_9 : decode cX6_addHog 9 = .ok (.iload 4, 2) := by decide +kernel
theorem dX6_addHog_11 : decode cX6_addHog 11 = .ok (.iadd, 1) := by decide +kernel
theorem dX6_addHog_12 : decode cX6_addHog 12 = .ok (.iload_n 1, 1) := by decide +kernel
theorem dX6_addHog_13 : decode cX6_addHog 13 = .ok (.iastore, 1) := by decide +kernel
theorem dX6_addHog_14 : decode cX6_addHog 14 = .ok (.aload_n 0, 1) := by decide +kernel
theorem dX6_addHog_15 : decode cX6_addHog 15 = .ok (.bipush 34, 2) := by decide +kernel
theorem dX6_addHog_17 : decode cX6_addHog 17 = .ok (.iload 4, 2) := by decide +kernel
theorem dX6_addHog_19 : decode cX6_addHog 19 = .ok (.iadd, 1) := by decide +kernel
theorem dX6_addHog_20 : decode cX6_addHog 20 = .ok (.iload_n 2, 1) := by decide +kernel
theorem dX6_addHog_21 : decode cX6_addHog 21 = .ok (.iastore, 1) := by decide +kernel
theorem dX6_addHog_22 : decode cX6_addHog 22 = .ok (.aload_n 0, 1) := by decide +kernel
theorem dX6_addHog_23 : decode cX6_addHog 23 = .ok (.bipush 21, 2) := by decide +kernel
theorem dX6_addHog_25 : decode cX6_addHog 25 = .ok (.iload 4, 2) := by decide +kernel
theorem dX6_addHog_27 : decode cX6_addHog 27 = .ok (.iadd, 1) := by decide +kernel
theorem dX6_addHog_28 : decode cX6_addHog 28 = .ok (.iload_n 3, 1) := by decide +kernel
theorem dX6_addHog_29 : decode cX6_addHog 29 = .ok (.iastore, 1) := by decide +kernel
theorem dX6_addHog_30 : decode cX6_addHog 30 = .ok (.aload_n 0, 1) := by decide +kernel
theorem dX6_addHog_31 : decode cX6_addHog 31 = .ok (.bipush 28, 2) := by decide +kernel
theorem dX6_addHog_33 : decode cX6_addHog 33 = .ok (.dup2, 1) := by decide +kernel
theorem dX6_addHog_34 : decode cX6_addHog 34 = .ok (.iaload, 1) := by decide +kernel
theorem dX6_addHog_35 : decode cX6_addHog 35 = .ok (.iconst 1, 1) := by decide +kernel
theorem dX6_addHog_36 : decode cX6_addHog 36 = .ok (.iadd, 1) := by decide +kernel
theorem dX6_addHog_37 : decode cX6_addHog 37 = .ok (.iastore, 1) := by decide +kernel
theorem dX6_addHog_38 : decode cX6_addHog 38 = .ok (.iload 4, 2) := by decide +kernel
theorem dX6_addHog_40 : decode cX6_addHog 40 = .ok (.ireturn, 1) := by decide +kernel
theorem dX6_house_0 : decode cX6_house 0 = .ok (.iload_n 1, 1) := by decide +kernel
theorem dX6_house_1 : decode cX6_house 1 = .ok (.iconst 0, 1) := by decide +kernel
theorem dX6_house_2 : decode cX6_house 2 = .ok (.sipush 9999, 3) := by decide +kernel
theorem dX6_house_5 : decode cX6_house 5 = .ok (.invokestatic 47, 3) := by decide +kernel
theorem dX6_house_8 : decode cX6_house 8 = .ok (.ifCond .eq 13, 3) := by decide +kernel
theorem dX6_house_11 : decode cX6_house 11 = .ok (.iload_n 2, 1) := by decide +kernel
theorem dX6_house_12 : decode cX6_house 12 = .ok (.iconst 0, 1) := by decide +kernel
theorem dX6_house_13 : decode cX6_house 13 = .ok (.bipush 20, 2) := by decide +kernel
theorem dX6_house_15 : decode cX6_house 15 = .ok (.invokestatic 47, 3) := by decide +kernel
theorem dX6_house_18 : decode cX6_house 18 = .ok (.ifCond .ne 5, 3) := by decide +kernel
theorem dX6_house_21 : decode cX6_house 21 = .ok (.iconst (-1), 1) := by decide +kernel
theorem dX6_house_22 : decode cX6_house 22 = .ok (.ireturn, 1) := by decide +kernel
theorem dX6_house_23 : decode cX6_house 23 = .ok (.aload_n 0, 1) := by decide +kernel
theorem dX6_house_24 : decode cX6_house 24 = .ok (.getfield 23, 3) := by decide +kernel
theorem dX6_house_27 : decode cX6_house 27 = .ok (.bipush 27, 2) := by decide +kernel
theorem dX6_house_29 : decode cX6_house 29 = .ok (.iaload, 1) := by decide +kernel
theorem dX6_house_30 : decode cX6_house 30 = .ok (.bipush 6, 2) := by decide +kernel
theorem dX6_house_32 : decode cX6_house 32 = .ok (.if_icmp .ne 6, 3) := by decide +kernel
theorem dX6_house_35 : decode cX6_house 35 = .ok (.bipush (-3), 2) := by decide +kernel
theorem dX6_house_37 : decode cX6_house 37 = .ok (.ireturn, 1) := by decide +kernel
theorem dX6_house_38 : decode cX6_house 38 = .ok (.aload_n 0, 1) := by decide +kernel
theorem dX6_house_39 : decode cX6_house 39 = .ok (.getfield 23, 3) := by decide +kernel
theorem dX6_house_42 : decode cX6_house 42 = .ok (.bipush 39, 2) := by decide +kernel
theorem dX6_house_44 : decode cX6_house 44 = .ok (.iconst 0, 1) := by decide +kernel
theorem dX6_house_45 : decode cX6_house 45 = .ok (.iastore, 1) := by decide +kernel
theorem dX6_house_46 : decode cX6_house 46 = .ok (.aload_n 0, 1) := by decide +kernel
theorem dX6_house_47 : decode cX6_house 47 = .ok (.getfield 23, 3) := by decide +kernel
theorem dX6_house_50 : decode cX6_house 50 = .ok (.iload_n 1, 1) := by decide +kernel
theorem dX6_house_51 : decode cX6_house 51 = .ok (.iload_n 2, 1) := by decide +kernel
theorem dX6_house_52 : decode cX6_house 52 = .ok (.invokestatic 51, 3) := by decide +kernel
theorem dX6_house_55 : decode cX6_house 55 = .ok (.ireturn, 1) := by decide +kernel
theorem dX6_hog_0 : decode cX6_hog 0 = .ok (.iload_n 1, 1) := by decide +kernel
theorem dX6_hog_1 : decode cX6_hog 1 = .ok (.iconst 0, 1) := by decide +kernel
theorem dX6_hog_2 : decode cX6_hog 2 = .ok (.iconst 4, 1) := by decide +kernel
theorem dX6_hog_3 : decode cX6_hog 3 = .ok (.invokestatic 47, 3) := by decide +kernel
theorem dX6_hog_6 : decode cX6_hog 6 = .ok (.ifCond .eq 21, 3) := by decide +kernel
theorem dX6_hog_9 : decode cX6_hog 9 = .ok (.iload_n 2, 1) := by decide +kernel
theorem dX6_hog_10 : decode cX6_hog 10 = .ok (.iconst 1, 1) := by decide +kernel
theorem dX6_hog_11 : decode cX6_hog 11 = .ok (.bipush 9, 2) := by decide +kernel
theorem dX6_hog_13 : decode cX6_hog 13 = .ok (.invokestatic 47, 3) := by decide +kernel
theorem dX6_hog_16 : decode cX6_hog 16 = .ok (.ifCond .eq 11, 3) := by decide +kernel
theorem dX6_hog_19 : decode cX6_hog 19 = .ok (.aload_n 0, 1) := by decide +kernel
theorem dX6_hog_20 : decode cX6_hog 20 = .ok (.iload_n 3, 1) := by decide +kernel
theorem dX6_hog_21 : decode cX6_hog 21 = .ok (.invokevirtual 55, 3) := by decide +kernel
theorem dX6_hog_24 : decode cX6_hog 24 = .ok (.ifCond .ne 5, 3) := by decide +kernel
theorem dX6_hog_27 : decode cX6_hog 27 = .ok (.iconst (-1), 1) := by decide +kernel
theorem dX6_hog_28 : decode cX6_hog 28 = .ok (.ireturn, 1) := by decide +kernel
theorem dX6_hog_29 : decode cX6_hog 29 = .ok (.aload_n 0, 1) := by decide +kernel
theorem dX6_hog_30 : decode cX6_hog 30 = .ok (.getfield 23, 3) := by decide +kernel
theorem dX6_hog_33 : decode cX6_hog 33 = .ok (.bipush 28, 2) := by decide +kernel
theorem dX6_hog_35 : decode cX6_hog 35 = .ok (.iaload, 1) := by decide +kernel
theorem dX6_hog_36 : decode cX6_hog 36 = .ok (.iconst 5, 1) := by decide +kernel
theorem dX6_hog_37 : decode cX6_hog 37 = .ok (.if_icmp .ne 6, 3) := by decide +kernel
theorem dX6_hog_40 : decode cX6_hog 40 = .ok (.bipush (-3), 2) := by decide +kernel
theorem dX6_hog_42 : decode cX6_hog 42 = .ok (.ireturn, 1) := by decide +kernel
theorem dX6_hog_43 : decode cX6_hog 43 = .ok (.aload_n 0, 1) := by decide +kernel
theorem dX6_hog_44 : decode cX6_hog 44 = .ok (.getfield 23, 3) := by decide +kernel
theorem dX6_hog_47 : decode cX6_hog 47 = .ok (.bipush 39, 2) := by decide +kernel
theorem dX6_hog_49 : decode cX6_hog 49 = .ok (.iconst 0, 1) := by decide +kernel
theorem dX6_hog_50 : decode cX6_hog 50 = .ok (.iastore, 1) := by decide +kernel
theorem dX6_hog_51 : decode cX6_hog 51 = .ok (.aload_n 0, 1) := by decide +kernel
theorem dX6_hog_52 : decode cX6_hog 52 = .ok (.getfield 23, 3) := by decide +kernel
theorem dX6_hog_55 : decode cX6_hog 55 = .ok (.iload_n 1, 1) := by decide +kernel
theorem dX6_hog_56 : decode cX6_hog 56 = .ok (.iload_n 2, 1) := by decide +kernel
theorem dX6_hog_57 : decode cX6_hog 57 = .ok (.iload_n 3, 1) := by decide +kernel
theorem dX6_hog_58 : decode cX6_hog 58 = .ok (.invokestatic 59, 3) := by decide +kernel
theorem dX6_hog_61 : decode cX6_hog 61 = .ok (.ireturn, 1) := by decide +kernel
theorem dX6_interest_0 : decode cX6_interest 0 = .ok (.iload_n 1, 1) := by decide +kernel
theorem dX6_interest_1 : decode cX6_interest 1 = .ok (.iconst 0, 1) := by decide +kernel
theorem dX6_interest_2 : decode cX6_interest 2 = .ok (.bipush 20, 2) := by decide +kernel
theorem dX6_interest_4 : decode cX6_interest 4 = .ok (.invokestatic 47, 3) := by decide +kernel
theorem dX6_interest_7 : decode cX6_interest 7 = .ok (.ifCond .ne 5, 3) := by decide +kernel
theorem dX6_interest_10 : decode cX6_interest 10 = .ok (.iconst (-1), 1) := by decide +kernel
theorem dX6_interest_11 : decode cX6_interest 11 = .ok (.ireturn, 1) := by decide +kernel
theorem dX6_interest_12 : decode cX6_interest 12 = .ok (.aload_n 0, 1) := by decide +kernel
theorem dX6_interest_13 : decode cX6_interest 13 = .ok (.getfield 23, 3) := by decide +kernel
theorem dX6_interest_16 : decode cX6_interest 16 = .ok (.bipush 26, 2) := by decide +kernel
theorem dX6_interest_18 : decode cX6_interest 18 = .ok (.iaload, 1) := by decide +kernel
theorem dX6_interest_19 : decode cX6_interest 19 = .ok (.istore_n 2, 1) := by decide +kernel
theorem dX6_interest_20 : decode cX6_interest 20 = .ok (.aload_n 0, 1) := by decide +kernel
theorem dX6_interest_21 : decode cX6_interest 21 = .ok (.getfield 23, 3) := by decide +kernel
theorem dX6_interest_24 : decode cX6_interest 24 = .ok (.bipush 26, 2) := by decide +kernel
theorem dX6_interest_26 : decode cX6_interest 26 = .ok (.iload_n 1, 1) := by decide +kernel
theorem dX6_interest_27 : decode cX6_interest 27 = .ok (.iastore, 1) := by decide +kernel
theorem dX6_interest_28 : decode cX6_interest 28 = .ok (.iload_n 2, 1) := by decide +kernel
theorem dX6_interest_29 : decode cX6_interest 29 = .ok (.ireturn, 1) := by decide +kernel
theorem dX6_hogsAt_0 : decode cX6_hogsAt 0 = .ok (.iconst 0, 1) := by decide +kernel
theorem dX6_hogsAt_1 : decode cX6_hogsAt 1 = .ok (.istore_n 2, 1) := by decide +kernel
theorem dX6_hogsAt_2 : decode cX6_hogsAt 2 = .ok (.iconst 0, 1) := by decide +kernel
theorem dX6_hogsAt_3 : decode cX6_hogsAt 3 = .ok (.istore_n 3, 1) := by decide +kernel
theorem dX6_hogsAt_4 : decode cX6_hogsAt 4 = .ok (.iload_n 3, 1) := by decide +kernel
theorem dX6_hogsAt_5 : decode cX6_hogsAt 5 = .ok (.aload_n 0, 1) := by decide +kernel
theorem dX6_hogsAt_6 : decode cX6_hogsAt 6 = .ok (.bipush 28, 2) := by decide +kernel
theorem dX6_hogsAt_8 : decode cX6_hogsAt 8 = .ok (.iaload, 1) := by decide +kernel
theorem dX6_hogsAt_9 : decode cX6_hogsAt 9 = .ok (.if_icmp .ge 29, 3) := by decide +kernel
theorem dX6_hogsAt_12 : decode cX6_hogsAt 12 = .ok (.iload_n 2, 1) := by decide +kernel
theorem dX6_hogsAt_13 : decode cX6_hogsAt 13 = .ok (.aload_n 0, 1) := by decide +kernel
theorem dX6_hogsAt_14 : decode cX6_hogsAt 14 = .ok (.bipush 21, 2) := by decide +kernel
theorem dX6_hogsAt_16 : decode cX6_hogsAt 16 = .ok (.iload_n 3, 1) := by decide +kernel
theorem dX6_hogsAt_17 : decode cX6_hogsAt 17 = .ok (.iadd, 1) := by decide +kernel
theorem dX6_hogsAt_18 : decode cX6_hogsAt 18 = .ok (.iaload, 1) := by decide +kernel
theorem dX6_hogsAt_19 : decode cX6_hogsAt 19 = .ok (.iload_n 1, 1) := by decide +kernel
theorem dX6_hogsAt_20 : decode cX6_hogsAt 20 = .ok (.if_icmp .ne 9, 3) := by decide +kernel
theorem dX6_hogsAt_23 : decode cX6_hogsAt 23 = .ok (.iconst 1, 1) := by decide +kernel
theorem dX6_hogsAt_24 : decode cX6_hogsAt 24 = .ok (.iload_n 3, 1) := by decide +kernel
theorem dX6_hogsAt_25 : decode cX6_hogsAt 25 = .ok (.ishl, 1) := by decide +kernel
theorem dX6_hogsAt_26 : decode cX6_hogsAt 26 = .ok (.goto 4, 3) := by decide +kernel
theorem dX6_hogsAt_29 : decode cX6_hogsAt 29 = .ok (.iconst 0, 1) := by decide +kernel
theorem dX6_hogsAt_30 : decode cX6_hogsAt 30 = .ok (.ior, 1) := by decide +kernel
theorem dX6_hogsAt_31 : decode cX6_hogsAt 31 = .ok (.istore_n 2, 1) := by decide +kernel
theorem dX6_hogsAt_32 : decode cX6_hogsAt 32 = .ok (.iinc 3 1, 3) := by decide +kernel
theorem dX6_hogsAt_35 : decode cX6_hogsAt 35 = .ok (.goto (-31), 3) := by decide +kernel
theorem dX6_hogsAt_38 : decode cX6_hogsAt 38 = .ok (.iload_n 2, 1) := by decide +kernel
theorem dX6_hogsAt_39 : decode cX6_hogsAt 39 = .ok (.ireturn, 1) := by decide +kernel
theorem dX6_isLost_0 : decode cX6_isLost 0 = .ok (.aload_n 0, 1) := by decide +kernel
theorem dX6_isLost_1 : decode cX6_isLost 1 = .ok (.bipush 15, 2) := by decide +kernel
theorem dX6_isLost_3 : decode cX6_isLost 3 = .ok (.iload_n 1, 1) := by decide +kernel
theorem dX6_isLost_4 : decode cX6_isLost 4 = .ok (.iadd, 1) := by decide +kernel
theorem dX6_isLost_5 : decode cX6_isLost 5 = .ok (.iaload, 1) := by decide +kernel
theorem dX6_isLost_6 : decode cX6_isLost 6 = .ok (.iconst 3, 1) := by decide +kernel
theorem dX6_isLost_7 : decode cX6_isLost 7 = .ok (.if_icmp .ne 7, 3) := by decide +kernel
theorem dX6_isLost_10 : decode cX6_isLost 10 = .ok (.iconst 1, 1) := by decide +kernel
theorem dX6_isLost_11 : decode cX6_isLost 11 = .ok (.goto 4, 3) := by decide +kernel
theorem dX6_isLost_14 : decode cX6_isLost 14 = .ok (.iconst 0, 1) := by decide +kernel
theorem dX6_isLost_15 : decode cX6_isLost 15 = .ok (.ireturn, 1) := by decide +kernel
theorem dX6_of_0 : decode cX6_of 0 = .ok (.aload_n 0, 1) := by decide +kernel
theorem dX6_of_1 : decode cX6_of 1 = .ok (.iload_n 1, 1) := by decide +kernel
theorem dX6_of_2 : decode cX6_of 2 = .ok (.invokevirtual 55, 3) := by decide +kernel
theorem dX6_of_5 : decode cX6_of 5 = .ok (.ifCond .ne 5, 3) := by decide +kernel
theorem dX6_of_8 : decode cX6_of 8 = .ok (.iconst (-1), 1) := by decide +kernel
theorem dX6_of_9 : decode cX6_of 9 = .ok (.ireturn, 1) := by decide +kernel
theorem dX6_of_10 : decode cX6_of 10 = .ok (.iload_n 2, 1) := by decide +kernel
theorem dX6_of_11 : decode cX6_of 11 = .ok (.tableswitch 88 0 4 #[33, 42, 52, 62, 79], 33) := by decide +kernel
theorem dX6_of_44 : decode cX6_of 44 = .ok (.aload_n 0, 1) := by decide +kernel
theorem dX6_of_45 : decode cX6_of 45 = .ok (.getfield 23, 3) := by decide +kernel
theorem dX6_of_48 : decode cX6_of 48 = .ok (.iconst 3, 1) := by decide +kernel
theorem dX6_of_49 : decode cX6_of 49 = .ok (.iload_n 1, 1) := by decide +kernel
theorem dX6_of_50 : decode cX6_of 50 = .ok (.iadd, 1) := by decide +kernel
theorem dX6_of_51 : decode cX6_of 51 = .ok (.iaload, 1) := by decide +kernel
theorem dX6_of_52 : decode cX6_of 52 = .ok (.ireturn, 1) := by decide +kernel
theorem dX6_of_53 : decode cX6_of 53 = .ok (.aload_n 0, 1) := by decide +kernel
theorem dX6_of_54 : decode cX6_of 54 = .ok (.getfield 23, 3) := by decide +kernel
theorem dX6_of_57 : decode cX6_of 57 = .ok (.bipush 9, 2) := by decide +kernel
theorem dX6_of_59 : decode cX6_of 59 = .ok (.iload_n 1, 1) := by decide +kernel
theorem dX6_of_60 : decode cX6_of 60 = .ok (.iadd, 1) := by decide +kernel
theorem dX6_of_61 : decode cX6_of 61 = .ok (.iaload, 1) := by decide +kernel
theorem dX6_of_62 : decode cX6_of 62 = .ok (.ireturn, 1) := by decide +kernel
theorem dX6_of_63 : decode cX6_of 63 = .ok (.aload_n 0, 1) := by decide +kernel
theorem dX6_of_64 : decode cX6_of 64 = .ok (.getfield 23, 3) := by decide +kernel
theorem dX6_of_67 : decode cX6_of 67 = .ok (.bipush 15, 2) := by decide +kernel
theorem dX6_of_69 : decode cX6_of 69 = .ok (.iload_n 1, 1) := by decide +kernel
theorem dX6_of_70 : decode cX6_of 70 = .ok (.iadd, 1) := by decide +kernel
theorem dX6_of_71 : decode cX6_of 71 = .ok (.iaload, 1) := by decide +kernel
theorem dX6_of_72 : decode cX6_of 72 = .ok (.ireturn, 1) := by decide +kernel
theorem dX6_of_73 : decode cX6_of 73 = .ok (.aload_n 0, 1) := by decide +kernel
theorem dX6_of_74 : decode cX6_of 74 = .ok (.getfield 23, 3) := by decide +kernel
theorem dX6_of_77 : decode cX6_of 77 = .ok (.iload_n 1, 1) := by decide +kernel
theorem dX6_of_78 : decode cX6_of 78 = .ok (.invokestatic 63, 3) := by decide +kernel
theorem dX6_of_81 : decode cX6_of 81 = .ok (.ifCond .eq 7, 3) := by decide +kernel
theorem dX6_of_84 : decode cX6_of 84 = .ok (.iconst 1, 1) := by decide +kernel
theorem dX6_of_85 : decode cX6_of 85 = .ok (.goto 4, 3) := by decide +kernel
theorem dX6_of_88 : decode cX6_of 88 = .ok (.iconst 0, 1) := by decide +kernel
theorem dX6_of_89 : decode cX6_of 89 = .ok (.ireturn, 1) := by decide +kernel
theorem dX6_of_90 : decode cX6_of 90 = .ok (.aload_n 0, 1) := by decide +kernel
theorem dX6_of_91 : decode cX6_of 91 = .ok (.getfield 23, 3) := by decide +kernel
theorem dX6_of_94 : decode cX6_of 94 = .ok (.iload_n 1, 1) := by decide +kernel
theorem dX6_of_95 : decode cX6_of 95 = .ok (.invokestatic 67, 3) := by decide +kernel
theorem dX6_of_98 : decode cX6_of 98 = .ok (.ireturn, 1) := by decide +kernel
theorem dX6_of_99 : decode cX6_of 99 = .ok (.iconst (-1), 1) := by decide +kernel
theorem dX6_of_100 : decode cX6_of 100 = .ok (.ireturn, 1) := by decide +kernel
theorem dX6_mealOf_0 : decode cX6_mealOf 0 = .ok (.aload_n 0, 1) := by decide +kernel
theorem dX6_mealOf_1 : decode cX6_mealOf 1 = .ok (.bipush 34, 2) := by decide +kernel
theorem dX6_mealOf_3 : decode cX6_mealOf 3 = .ok (.iload_n 1, 1) := by decide +kernel
theorem dX6_mealOf_4 : decode cX6_mealOf 4 = .ok (.iadd, 1) := by decide +kernel
theorem dX6_mealOf_5 : decode cX6_mealOf 5 = .ok (.iaload, 1) := by decide +kernel
theorem dX6_mealOf_6 : decode cX6_mealOf 6 = .ok (.istore_n 2, 1) := by decide +kernel
theorem dX6_mealOf_7 : decode cX6_mealOf 7 = .ok (.aload_n 0, 1) := by decide +kernel
theorem dX6_mealOf_8 : decode cX6_mealOf 8 = .ok (.bipush 29, 2) := by decide +kernel
theorem dX6_mealOf_10 : decode cX6_mealOf 10 = .ok (.iload_n 1, 1) := by decide +kernel
theorem dX6_mealOf_11 : decode cX6_mealOf 11 = .ok (.iadd, 1) := by decide +kernel
theorem dX6_mealOf_12 : decode cX6_mealOf 12 = .ok (.iaload, 1) := by decide +kernel
theorem dX6_mealOf_13 : decode cX6_mealOf 13 = .ok (.iconst 3, 1) := by decide +kernel
theorem dX6_mealOf_14 : decode cX6_mealOf 14 = .ok (.if_icmp .ne 9, 3) := by decide +kernel
theorem dX6_mealOf_17 : decode cX6_mealOf 17 = .ok (.iconst 2, 1) := by decide +kernel
theorem dX6_mealOf_18 : decode cX6_mealOf 18 = .ok (.iload_n 2, 1) := by decide +kernel
theorem dX6_mealOf_19 : decode cX6_mealOf 19 = .ok (.imul, 1) := by decide +kernel
theorem dX6_mealOf_20 : decode cX6_mealOf 20 = .ok (.goto 20, 3) := by decide +kernel
theorem dX6_mealOf_23 : decode cX6_mealOf 23 = .ok (.aload_n 0, 1) := by decide +kernel
theorem dX6_mealOf_24 : decode cX6_mealOf 24 = .ok (.bipush 29, 2) := by decide +kernel
theorem dX6_mealOf_26 : decode cX6_mealOf 26 = .ok (.iload_n 1, 1) := by decide +kernel
theorem dX6_mealOf_27 : decode cX6_mealOf 27 = .ok (.iadd, 1) := by decide +kernel
theorem dX6_mealOf_28 : decode cX6_mealOf 28 = .ok (.iaload, 1) := by decide +kernel
theorem dX6_mealOf_29 : decode cX6_mealOf 29 = .ok (.iconst 4, 1) := by decide +kernel
theorem dX6_mealOf_30 : decode cX6_mealOf 30 = .ok (.if_icmp .ne 9, 3) := by decide +kernel
theorem dX6_mealOf_33 : decode cX6_mealOf 33 = .ok (.iload_n 2, 1) := by decide +kernel
theorem dX6_mealOf_34 : decode cX6_mealOf 34 = .ok (.iconst 2, 1) := by decide +kernel
theorem dX6_mealOf_35 : decode cX6_mealOf 35 = .ok (.idiv, 1) := by decide +kernel
theorem dX6_mealOf_36 : decode cX6_mealOf 36 = .ok (.goto 4, 3) := by decide +kernel
theorem dX6_mealOf_39 : decode cX6_mealOf 39 = .ok (.iload_n 2, 1) := by decide +kernel
theorem dX6_mealOf_40 : decode cX6_mealOf 40 = .ok (.ireturn, 1) := by decide +kernel
theorem dX6_at_0 : decode cX6_at 0 = .ok (.aload_n 0, 1) := by decide +kernel
theorem dX6_at_1 : decode cX6_at 1 = .ok (.iload_n 1, 1) := by decide +kernel
theorem dX6_at_2 : decode cX6_at 2 = .ok (.invokevirtual 71, 3) := by decide +kernel
theorem dX6_at_5 : decode cX6_at 5 = .ok (.ifCond .ne 5, 3) := by decide +kernel
theorem dX6_at_8 : decode cX6_at 8 = .ok (.iconst (-1), 1) := by decide +kernel
theorem dX6_at_9 : decode cX6_at 9 = .ok (.ireturn, 1) := by decide +kernel
theorem dX6_at_10 : decode cX6_at 10 = .ok (.iload_n 2, 1) := by decide +kernel
theorem dX6_at_11 : decode cX6_at 11 = .ok (.tableswitch 68 0 3 #[29, 39, 49, 59], 29) := by decide +kernel
theorem dX6_at_40 : decode cX6_at 40 = .ok (.aload_n 0, 1) := by decide +kernel
theorem dX6_at_41 : decode cX6_at 41 = .ok (.getfield 23, 3) := by decide +kernel
theorem dX6_at_44 : decode cX6_at 44 = .ok (.bipush 29, 2) := by decide +kernel
theorem dX6_at_46 : decode cX6_at 46 = .ok (.iload_n 1, 1) := by decide +kernel
theorem dX6_at_47 : decode cX6_at 47 = .ok (.iadd, 1) := by decide +kernel
theorem dX6_at_48 : decode cX6_at 48 = .ok (.iaload, 1) := by decide +kernel
theorem dX6_at_49 : decode cX6_at 49 = .ok (.ireturn, 1) := by decide +kernel
theorem dX6_at_50 : decode cX6_at 50 = .ok (.aload_n 0, 1) := by decide +kernel
theorem dX6_at_51 : decode cX6_at 51 = .ok (.getfield 23, 3) := by decide +kernel
theorem dX6_at_54 : decode cX6_at 54 = .ok (.bipush 34, 2) := by decide +kernel
theorem dX6_at_56 : decode cX6_at 56 = .ok (.iload_n 1, 1) := by decide +kernel
theorem dX6_at_57 : decode cX6_at 57 = .ok (.iadd, 1) := by decide +kernel
theorem dX6_at_58 : decode cX6_at 58 = .ok (.iaload, 1) := by decide +kernel
theorem dX6_at_59 : decode cX6_at 59 = .ok (.ireturn, 1) := by decide +kernel
theorem dX6_at_60 : decode cX6_at 60 = .ok (.aload_n 0, 1) := by decide +kernel
theorem dX6_at_61 : decode cX6_at 61 = .ok (.getfield 23, 3) := by decide +kernel
theorem dX6_at_64 : decode cX6_at 64 = .ok (.bipush 21, 2) := by decide +kernel
theorem dX6_at_66 : decode cX6_at 66 = .ok (.iload_n 1, 1) := by decide +kernel
theorem dX6_at_67 : decode cX6_at 67 = .ok (.iadd, 1) := by decide +kernel
theorem dX6_at_68 : decode cX6_at 68 = .ok (.iaload, 1) := by decide +kernel
theorem dX6_at_69 : decode cX6_at 69 = .ok (.ireturn, 1) := by decide +kernel
theorem dX6_at_70 : decode cX6_at 70 = .ok (.aload_n 0, 1) := by decide +kernel
theorem dX6_at_71 : decode cX6_at 71 = .ok (.getfield 23, 3) := by decide +kernel
theorem dX6_at_74 : decode cX6_at 74 = .ok (.iload_n 1, 1) := by decide +kernel
theorem dX6_at_75 : decode cX6_at 75 = .ok (.invokestatic 74, 3) := by decide +kernel
theorem dX6_at_78 : decode cX6_at 78 = .ok (.ireturn, 1) := by decide +kernel
theorem dX6_at_79 : decode cX6_at 79 = .ok (.iconst (-1), 1) := by decide +kernel
theorem dX6_at_80 : decode cX6_at 80 = .ok (.ireturn, 1) := by decide +kernel
theorem dX6_type_0 : decode cX6_type 0 = .ok (.iload_n 1, 1) := by decide +kernel
theorem dX6_type_1 : decode cX6_type 1 = .ok (.bipush 32, 2) := by decide +kernel
theorem dX6_type_3 : decode cX6_type 3 = .ok (.bipush 126, 2) := by decide +kernel
theorem dX6_type_5 : decode cX6_type 5 = .ok (.invokestatic 47, 3) := by decide +kernel
theorem dX6_type_8 : decode cX6_type 8 = .ok (.ifCond .ne 5, 3) := by decide +kernel
theorem dX6_type_11 : decode cX6_type 11 = .ok (.iconst (-1), 1) := by decide +kernel
theorem dX6_type_12 : decode cX6_type 12 = .ok (.ireturn, 1) := by decide +kernel
theorem dX6_type_13 : decode cX6_type 13 = .ok (.aload_n 0, 1) := by decide +kernel
theorem dX6_type_14 : decode cX6_type 14 = .ok (.getfield 77, 3) := by decide +kernel
theorem dX6_type_17 : decode cX6_type 17 = .ok (.bipush 80, 2) := by decide +kernel
theorem dX6_type_19 : decode cX6_type 19 = .ok (.if_icmp .ne 6, 3) := by decide +kernel
theorem dX6_type_22 : decode cX6_type 22 = .ok (.bipush (-3), 2) := by decide +kernel
theorem dX6_type_24 : decode cX6_type 24 = .ok (.ireturn, 1) := by decide +kernel
theorem dX6_type_25 : decode cX6_type 25 = .ok (.aload_n 0, 1) := by decide +kernel
theorem dX6_type_26 : decode cX6_type 26 = .ok (.getfield 20, 3) := by decide +kernel
theorem dX6_type_29 : decode cX6_type 29 = .ok (.aload_n 0, 1) := by decide +kernel
theorem dX6_type_30 : decode cX6_type 30 = .ok (.getfield 77, 3) := by decide +kernel
theorem dX6_type_33 : decode cX6_type 33 = .ok (.iload_n 1, 1) := by decide +kernel
theorem dX6_type_34 : decode cX6_type 34 = .ok (.iastore, 1) := by decide +kernel
theorem dX6_type_35 : decode cX6_type 35 = .ok (.aload_n 0, 1) := by decide +kernel
theorem dX6_type_36 : decode cX6_type 36 = .ok (.dup, 1) := by decide +kernel
theorem dX6_type_37 : decode cX6_type 37 = .ok (.getfield 77, 3) := by decide +kernel
theorem dX6_type_40 : decode cX6_type 40 = .ok (.iconst 1, 1) := by decide +kernel
theorem dX6_type_41 : decode cX6_type 41 = .ok (.iadd, 1) := by decide +kernel
theorem dX6_type_42 : decode cX6_type 42 = .ok (.putfield 77, 3) := by decide +kernel
theorem dX6_type_45 : decode cX6_type 45 = .ok (.aload_n 0, 1) := by decide +kernel
theorem dX6_type_46 : decode cX6_type 46 = .ok (.getfield 77, 3) := by decide +kernel
theorem dX6_type_49 : decode cX6_type 49 = .ok (.ireturn, 1) := by decide +kernel
theorem dX6_peek_0 : decode cX6_peek 0 = .ok (.aload_n 0, 1) := by decide +kernel
theorem dX6_peek_1 : decode cX6_peek 1 = .ok (.getfield 81, 3) := by decide +kernel
theorem dX6_peek_4 : decode cX6_peek 4 = .ok (.aload_n 0, 1) := by decide +kernel
theorem dX6_peek_5 : decode cX6_peek 5 = .ok (.getfield 77, 3) := by decide +kernel
theorem dX6_peek_8 : decode cX6_peek 8 = .ok (.if_icmp .ge 30, 3) := by decide +kernel
theorem dX6_peek_11 : decode cX6_peek 11 = .ok (.aload_n 0, 1) := by decide +kernel
theorem dX6_peek_12 : decode cX6_peek 12 = .ok (.getfield 20, 3) := by decide +kernel
theorem dX6_peek_15 : decode cX6_peek 15 = .ok (.aload_n 0, 1) := by decide +kernel
theorem dX6_peek_16 : decode cX6_peek 16 = .ok (.getfield 81, 3) := by decide +kernel
theorem dX6_peek_19 : decode cX6_peek 19 = .ok (.iaload, 1) := by decide +kernel
theorem dX6_peek_20 : decode cX6_peek 20 = .ok (.bipush 32, 2) := by decide +kernel
theorem dX6_peek_22 : decode cX6_peek 22 = .ok (.if_icmp .ne 16, 3) := by decide +kernel
theorem dX6_peek_25 : decode cX6_peek 25 = .ok (.aload_n 0, 1) := by decide +kernel
theorem dX6_peek_26 : decode cX6_peek 26 = .ok (.dup, 1) := by decide +kernel
theorem dX6_peek_27 : decode cX6_peek 27 = .ok (.getfield 81, 3) := by decide +kernel
theorem dX6_peek_30 : decode cX6_peek 30 = .ok (.iconst 1, 1) := by decide +kernel
theorem dX6_peek_31 : decode cX6_peek 31 = .ok (.iadd, 1) := by decide +kernel
theorem dX6_peek_32 : decode cX6_peek 32 = .ok (.putfield 81, 3) := by decide +kernel
theorem dX6_peek_35 : decode cX6_peek 35 = .ok (.goto (-35), 3) := by decide +kernel
theorem dX6_peek_38 : decode cX6_peek 38 = .ok (.aload_n 0, 1) := by decide +kernel
theorem dX6_peek_39 : decode cX6_peek 39 = .ok (.getfield 81, 3) := by decide +kernel
theorem dX6_peek_42 : decode cX6_peek 42 = .ok (.aload_n 0, 1) := by decide +kernel
theorem dX6_peek_43 : decode cX6_peek 43 = .ok (.getfield 77, 3) := by decide +kernel
theorem dX6_peek_46 : decode cX6_peek 46 = .ok (.if_icmp .ge 15, 3) := by decide +kernel
theorem dX6_peek_49 : decode cX6_peek 49 = .ok (.aload_n 0, 1) := by decide +kernel
theorem dX6_peek_50 : decode cX6_peek 50 = .ok (.getfield 20, 3) := by decide +kernel
theorem dX6_peek_53 : decode cX6_peek 53 = .ok (.aload_n 0, 1) := by decide +kernel
theorem dX6_peek_54 : decode cX6_peek 54 = .ok (.getfield 81, 3) := by decide +kernel
theorem dX6_peek_57 : decode cX6_peek 57 = .ok (.iaload, 1) := by decide +kernel
theorem dX6_peek_58 : decode cX6_peek 58 = .ok (.goto 4, 3) := by decide +kernel
theorem dX6_peek_61 : decode cX6_peek 61 = .ok (.iconst 0, 1) := by decide +kernel
theorem dX6_peek_62 : decode cX6_peek 62 = .ok (.ireturn, 1) := by decide +kernel
theorem dX6_isSign_0 : decode cX6_isSign 0 = .ok (.aload_n 0, 1) := by decide +kernel
theorem dX6_isSign_1 : decode cX6_isSign 1 = .ok (.invokevirtual 84, 3) := by decide +kernel
theorem dX6_isSign_4 : decode cX6_isSign 4 = .ok (.iload_n 1, 1) := by decide +kernel
theorem dX6_isSign_5 : decode cX6_isSign 5 = .ok (.if_icmp .eq 5, 3) := by decide +kernel
theorem dX6_isSign_8 : decode cX6_isSign 8 = .ok (.iconst 0, 1) := by decide +kernel
theorem dX6_isSign_9 : decode cX6_isSign 9 = .ok (.ireturn, 1) := by decide +kernel
theorem dX6_isSign_10 : decode cX6_isSign 10 = .ok (.aload_n 0, 1) := by decide +kernel
theorem dX6_isSign_11 : decode cX6_isSign 11 = .ok (.dup, 1) := by decide +kernel
theorem dX6_isSign_12 : decode cX6_isSign 12 = .ok (.getfield 81, 3) := by decide +kernel
theorem dX6_isSign_15 : decode cX6_isSign 15 = .ok (.iconst 1, 1) := by decide +kernel
theorem dX6_isSign_16 : decode cX6_isSign 16 = .ok (.iadd, 1) := by decide +kernel
theorem dX6_isSign_17 : decode cX6_isSign 17 = .ok (.putfield 81, 3) := by decide +kernel
theorem dX6_isSign_20 : decode cX6_isSign 20 = .ok (.iconst 1, 1) := by decide +kernel
theorem dX6_isSign_21 : decode cX6_isSign 21 = .ok (.ireturn, 1) := by decide +kernel
theorem dX6_isDigit_0 : decode cX6_isDigit 0 = .ok (.aload_n 0, 1) := by decide +kernel
theorem dX6_isDigit_1 : decode cX6_isDigit 1 = .ok (.aload_n 0, 1) := by decide +kernel
theorem dX6_isDigit_2 : decode cX6_isDigit 2 = .ok (.invokevirtual 84, 3) := by decide +kernel
theorem dX6_isDigit_5 : decode cX6_isDigit 5 = .ok (.bipush 48, 2) := by decide +kernel
theorem dX6_isDigit_7 : decode cX6_isDigit 7 = .ok (.isub, 1) := by decide +kernel
theorem dX6_isDigit_8 : decode cX6_isDigit 8 = .ok (.putfield 88, 3) := by decide +kernel
theorem dX6_isDigit_11 : decode cX6_isDigit 11 = .ok (.aload_n 0, 1) := by decide +kernel
theorem dX6_isDigit_12 : decode cX6_isDigit 12 = .ok (.getfield 88, 3) := by decide +kernel
theorem dX6_isDigit_15 : decode cX6_isDigit 15 = .ok (.iload_n 1, 1) := by decide +kernel
theorem dX6_isDigit_16 : decode cX6_isDigit 16 = .ok (.iload_n 2, 1) := by decide +kernel
theorem dX6_isDigit_17 : decode cX6_isDigit 17 = .ok (.invokestatic 47, 3) := by decide +kernel
theorem dX6_isDigit_20 : decode cX6_isDigit 20 = .ok (.ifCond .ne 5, 3) := by decide +kernel
theorem dX6_isDigit_23 : decode cX6_isDigit 23 = .ok (.iconst 0, 1) := by decide +kernel
theorem dX6_isDigit_24 : decode cX6_isDigit 24 = .ok (.ireturn, 1) := by decide +kernel
theorem dX6_isDigit_25 : decode cX6_isDigit 25 = .ok (.aload_n 0, 1) := by decide +kernel
theorem dX6_isDigit_26 : decode cX6_isDigit 26 = .ok (.dup, 1) := by decide +kernel
theorem dX6_isDigit_27 : decode cX6_isDigit 27 = .ok (.getfield 81, 3) := by decide +kernel
theorem dX6_isDigit_30 : decode cX6_isDigit 30 = .ok (.iconst 1, 1) := by decide +kernel
theorem dX6_isDigit_31 : decode cX6_isDigit 31 = .ok (.iadd, 1) := by decide +kernel
theorem dX6_isDigit_32 : decode cX6_isDigit 32 = .ok (.putfield 81, 3) := by decide +kernel
theorem dX6_isDigit_35 : decode cX6_isDigit 35 = .ok (.iconst 1, 1) := by decide +kernel
theorem dX6_isDigit_36 : decode cX6_isDigit 36 = .ok (.ireturn, 1) := by decide +kernel
theorem dX6_isNumber_0 : decode cX6_isNumber 0 = .ok (.aload_n 0, 1) := by decide +kernel
theorem dX6_isNumber_1 : decode cX6_isNumber 1 = .ok (.iconst 0, 1) := by decide +kernel
theorem dX6_isNumber_2 : decode cX6_isNumber 2 = .ok (.bipush 9, 2) := by decide +kernel
theorem dX6_isNumber_4 : decode cX6_isNumber 4 = .ok (.invokevirtual 91, 3) := by decide +kernel
theorem dX6_isNumber_7 : decode cX6_isNumber 7 = .ok (.ifCond .ne 5, 3) := by decide +kernel
theorem dX6_isNumber_10 : decode cX6_isNumber 10 = .ok (.iconst 0, 1) := by decide +kernel
theorem dX6_isNumber_11 : decode cX6_isNumber 11 = .ok (.ireturn, 1) := by decide +kernel
theorem dX6_isNumber_12 : decode cX6_isNumber 12 = .ok (.aload_n 0, 1) := by decide +kernel
theorem dX6_isNumber_13 : decode cX6_isNumber 13 = .ok (.getfield 81, 3) := by decide +kernel
theorem dX6_isNumber_16 : decode cX6_isNumber 16 = .ok (.iconst 1, 1) := by decide +kernel
theorem dX6_isNumber_17 : decode cX6_isNumber 17 = .ok (.isub, 1) := by decide +kernel
theorem dX6_isNumber_18 : decode cX6_isNumber 18 = .ok (.istore_n 2, 1) := by decide +kernel
theorem dX6_isNumber_19 : decode cX6_isNumber 19 = .ok (.aload_n 0, 1) := by decide +kernel
theorem dX6_isNumber_20 : decode cX6_isNumber 20 = .ok (.getfield 88, 3) := by decide +kernel
theorem dX6_isNumber_23 : decode cX6_isNumber 23 = .ok (.istore_n 3, 1) := by decide +kernel
theorem dX6_isNumber_24 : decode cX6_isNumber 24 = .ok (.aload_n 0, 1) := by decide +kernel
theorem dX6_isNumber_25 : decode cX6_isNumber 25 = .ok (.getfield 81, 3) := by decide +kernel
theorem dX6_isNumber_28 : decode cX6_isNumber 28 = .ok (.aload_n 0, 1) := by decide +kernel
theorem dX6_isNumber_29 : decode cX6_isNumber 29 = .ok (.getfield 77, 3) := by decide +kernel
theorem dX6_isNumber_32 : decode cX6_isNumber 32 = .ok (.if_icmp .ge 50, 3) := by decide +kernel
theorem dX6_isNumber_35 : decode cX6_isNumber 35 = .ok (.aload_n 0, 1) := by decide +kernel
theorem dX6_isNumber_36 : decode cX6_isNumber 36 = .ok (.getfield 20, 3) := by decide +kernel
theorem dX6_isNumber_39 : decode cX6_isNumber 39 = .ok (.aload_n 0, 1) := by decide +kernel
theorem dX6_isNumber_40 : decode cX6_isNumber 40 = .ok (.getfield 81, 3) := by decide +kernel
theorem dX6_isNumber_43 : decode cX6_isNumber 43 = .ok (.iaload, 1) := by decide +kernel
theorem dX6_isNumber_44 : decode cX6_isNumber 44 = .ok (.bipush 48, 2) := by decide +kernel
theorem dX6_isNumber_46 : decode cX6_isNumber 46 = .ok (.bipush 57, 2) := by decide +kernel
theorem dX6_isNumber_48 : decode cX6_isNumber 48 = .ok (.invokestatic 47, 3) := by decide +kernel
theorem dX6_isNumber_51 : decode cX6_isNumber 51 = .ok (.ifCond .eq 31, 3) := by decide +kernel
theorem dX6_isNumber_54 : decode cX6_isNumber 54 = .ok (.bipush 10, 2) := by decide +kernel
theorem dX6_isNumber_56 : decode cX6_isNumber 56 = .ok (.iload_n 3, 1) := by decide +kernel
theorem dX6_isNumber_57 : decode cX6_isNumber 57 = .ok (.imul, 1) := by decide +kernel
theorem dX6_isNumber_58 : decode cX6_isNumber 58 = .ok (.aload_n 0, 1) := by decide +kernel
theorem dX6_isNumber_59 : decode cX6_isNumber 59 = .ok (.getfield 20, 3) := by decide +kernel
theorem dX6_isNumber_62 : decode cX6_isNumber 62 = .ok (.aload_n 0, 1) := by decide +kernel
theorem dX6_isNumber_63 : decode cX6_isNumber 63 = .ok (.getfield 81, 3) := by decide +kernel
theorem dX6_isNumber_66 : decode cX6_isNumber 66 = .ok (.iaload, 1) := by decide +kernel
theorem dX6_isNumber_67 : decode cX6_isNumber 67 = .ok (.iadd, 1) := by decide +kernel
theorem dX6_isNumber_68 : decode cX6_isNumber 68 = .ok (.bipush 48, 2) := by decide +kernel
theorem dX6_isNumber_70 : decode cX6_isNumber 70 = .ok (.isub, 1) := by decide +kernel
theorem dX6_isNumber_71 : decode cX6_isNumber 71 = .ok (.istore_n 3, 1) := by decide +kernel
theorem dX6_isNumber_72 : decode cX6_isNumber 72 = .ok (.aload_n 0, 1) := by decide +kernel
theorem dX6_isNumber_73 : decode cX6_isNumber 73 = .ok (.dup, 1) := by decide +kernel
theorem dX6_isNumber_74 : decode cX6_isNumber 74 = .ok (.getfield 81, 3) := by decide +kernel
theorem dX6_isNumber_77 : decode cX6_isNumber 77 = .ok (.iconst 1, 1) := by decide +kernel
theorem dX6_isNumber_78 : decode cX6_isNumber 78 = .ok (.iadd, 1) := by decide +kernel
theorem dX6_isNumber_79 : decode cX6_isNumber 79 = .ok (.putfield 81, 3) := by decide +kernel
theorem dX6_isNumber_82 : decode cX6_isNumber 82 = .ok (.aload_n 0, 1) := by decide +kernel
theorem dX6_isNumber_83 : decode cX6_isNumber 83 = .ok (.iload_n 3, 1) := by decide +kernel
theorem dX6_isNumber_84 : decode cX6_isNumber 84 = .ok (.putfield 88, 3) := by decide +kernel
theorem dX6_isNumber_87 : decode cX6_isNumber 87 = .ok (.iload_n 3, 1) := by decide +kernel
theorem dX6_isNumber_88 : decode cX6_isNumber 88 = .ok (.iload_n 1, 1) := by decide +kernel
theorem dX6_isNumber_89 : decode cX6_isNumber 89 = .ok (.if_icmp .le 10, 3) := by decide +kernel
theorem dX6_isNumber_92 : decode cX6_isNumber 92 = .ok (.aload_n 0, 1) := by decide +kernel
theorem dX6_isNumber_93 : decode cX6_isNumber 93 = .ok (.iload_n 2, 1) := by decide +kernel
theorem dX6_isNumber_94 : decode cX6_isNumber 94 = .ok (.putfield 81, 3) := by decide +kernel
theorem dX6_isNumber_97 : decode cX6_isNumber 97 = .ok (.iconst 0, 1) := by decide +kernel
theorem dX6_isNumber_98 : decode cX6_isNumber 98 = .ok (.ireturn, 1) := by decide +kernel
theorem dX6_isNumber_99 : decode cX6_isNumber 99 = .ok (.aload_n 0, 1) := by decide +kernel
theorem dX6_isNumber_100 : decode cX6_isNumber 100 = .ok (.getfield 81, 3) := by decide +kernel
theorem dX6_isNumber_103 : decode cX6_isNumber 103 = .ok (.aload_n 0, 1) := by decide +kernel
theorem dX6_isNumber_104 : decode cX6_isNumber 104 = .ok (.getfield 77, 3) := by decide +kernel
theorem dX6_isNumber_107 : decode cX6_isNumber 107 = .ok (.if_icmp .eq 22, 3) := by decide +kernel
theorem dX6_isNumber_110 : decode cX6_isNumber 110 = .ok (.aload_n 0, 1) := by decide +kernel
theorem dX6_isNumber_111 : decode cX6_isNumber 111 = .ok (.getfield 20, 3) := by decide +kernel
theorem dX6_isNumber_114 : decode cX6_isNumber 114 = .ok (.aload_n 0, 1) := by decide +kernel
theorem dX6_isNumber_115 : decode cX6_isNumber 115 = .ok (.getfield 81, 3) := by decide +kernel
theorem dX6_isNumber_118 : decode cX6_isNumber 118 = .ok (.iaload, 1) := by decide +kernel
theorem dX6_isNumber_119 : decode cX6_isNumber 119 = .ok (.bipush 48, 2) := by decide +kernel
theorem dX6_isNumber_121 : decode cX6_isNumber 121 = .ok (.bipush 57, 2) := by decide +kernel
theorem dX6_isNumber_123 : decode cX6_isNumber 123 = .ok (.invokestatic 47, 3) := by decide +kernel
theorem dX6_isNumber_126 : decode cX6_isNumber 126 = .ok (.ifCond .ne 7, 3) := by decide +kernel
theorem dX6_isNumber_129 : decode cX6_isNumber 129 = .ok (.iconst 1, 1) := by decide +kernel
theorem dX6_isNumber_130 : decode cX6_isNumber 130 = .ok (.goto 4, 3) := by decide +kernel
theorem dX6_isNumber_133 : decode cX6_isNumber 133 = .ok (.iconst 0, 1) := by decide +kernel
theorem dX6_isNumber_134 : decode cX6_isNumber 134 = .ok (.ireturn, 1) := by decide +kernel
theorem dX6_kindBy_0 : decode cX6_kindBy 0 = .ok (.iload_n 0, 1) := by decide +kernel
theorem dX6_kindBy_1 : decode cX6_kindBy 1 = .ok (.bipush 112, 2) := by decide +kernel
theorem dX6_kindBy_3 : decode cX6_kindBy 3 = .ok (.if_icmp .ne 7, 3) := by decide +kernel
theorem dX6_kindBy_6 : decode cX6_kindBy 6 = .ok (.iconst 0, 1) := by decide +kernel
theorem dX6_kindBy_7 : decode cX6_kindBy 7 = .ok (.goto 44, 3) := by decide +kernel
theorem dX6_kindBy_10 : decode cX6_kindBy 10 = .ok (.iload_n 0, 1) := by decide +kernel
theorem dX6_kindBy_11 : decode cX6_kindBy 11 = .ok (.bipush 103, 2) := by decide +kernel
theorem dX6_kindBy_13 : decode cX6_kindBy 13 = .ok (.if_icmp .ne 7, 3) := by decide +kernel
theorem dX6_kindBy_16 : decode cX6_kindBy 16 = .ok (.iconst 1, 1) := by decide +kernel
theorem dX6_kindBy_17 : decode cX6_kindBy 17 = .ok (.goto 34, 3) := by decide +kernel
theorem dX6_kindBy_20 : decode cX6_kindBy 20 = .ok (.iload_n 0, 1) := by decide +kernel
theorem dX6_kindBy_21 : decode cX6_kindBy 21 = .ok (.bipush 115, 2) := by decide +kernel
theorem dX6_kindBy_23 : decode cX6_kindBy 23 = .ok (.if_icmp .ne 7, 3) := by decide +kernel
theorem dX6_kindBy_26 : decode cX6_kindBy 26 = .ok (.iconst 2, 1) := by decide +kernel
theorem dX6_kindBy_27 : decode cX6_kindBy 27 = .ok (.goto 24, 3) := by decide +kernel
theorem dX6_kindBy_30 : decode cX6_kindBy 30 = .ok (.iload_n 0, 1) := by decide +kernel
theorem dX6_kindBy_31 : decode cX6_kindBy 31 = .ok (.bipush 102, 2) := by decide +kernel
theorem dX6_kindBy_33 : decode cX6_kindBy 33 = .ok (.if_icmp .ne 7, 3) := by decide +kernel
theorem dX6_kindBy_36 : decode cX6_kindBy 36 = .ok (.iconst 3, 1) := by decide +kernel
theorem dX6_kindBy_37 : decode cX6_kindBy 37 = .ok (.goto 14, 3) := by decide +kernel
theorem dX6_kindBy_40 : decode cX6_kindBy 40 = .ok (.iload_n 0, 1) := by decide +kernel
theorem dX6_kindBy_41 : decode cX6_kindBy 41 = .ok (.bipush 121, 2) := by decide +kernel
theorem dX6_kindBy_43 : decode cX6_kindBy 43 = .ok (.if_icmp .ne 7, 3) := by decide +kernel
theorem dX6_kindBy_46 : decode cX6_kindBy 46 = .ok (.iconst 4, 1) := by decide +kernel
theorem dX6_kindBy_47 : decode cX6_kindBy 47 = .ok (.goto 4, 3) := by decide +kernel
theorem dX6_kindBy_50 : decode cX6_kindBy 50 = .ok (.iconst (-1), 1) := by decide +kernel
theorem dX6_kindBy_51 : decode cX6_kindBy 51 = .ok (.ireturn, 1) := by decide +kernel
theorem dX6_isHouseItem_0 : decode cX6_isHouseItem 0 = .ok (.aload_n 0, 1) := by decide +kernel
theorem dX6_isHouseItem_1 : decode cX6_isHouseItem 1 = .ok (.bipush 99, 2) := by decide +kernel
theorem dX6_isHouseItem_3 : decode cX6_isHouseItem 3 = .ok (.invokevirtual 95, 3) := by decide +kernel
theorem dX6_isHouseItem_6 : decode cX6_isHouseItem 6 = .ok (.ifCond .ne 5, 3) := by decide +kernel
theorem dX6_isHouseItem_9 : decode cX6_isHouseItem 9 = .ok (.iconst 0, 1) := by decide +kernel
theorem dX6_isHouseItem_10 : decode cX6_isHouseItem 10 = .ok (.ireturn, 1) := by decide +kernel
theorem dX6_isHouseItem_11 : decode cX6_isHouseItem 11 = .ok (.bipush 10, 2) := by decide +kernel
theorem dX6_isHouseItem_13 : decode cX6_isHouseItem 13 = .ok (.aload_n 0, 1) := by decide +kernel
theorem dX6_isHouseItem_14 : decode cX6_isHouseItem 14 = .ok (.getfield 88, 3) := by decide +kernel
theorem dX6_isHouseItem_17 : decode cX6_isHouseItem 17 = .ok (.imul, 1) := by decide +kernel
theorem dX6_isHouseItem_18 : decode cX6_isHouseItem 18 = .ok (.istore_n 1, 1) := by decide +kernel
theorem dX6_isHouseItem_19 : decode cX6_isHouseItem 19 = .ok (.aload_n 0, 1) := by decide +kernel
theorem dX6_isHouseItem_20 : decode cX6_isHouseItem 20 = .ok (.bipush 46, 2) := by decide +kernel
theorem dX6_isHouseItem_22 : decode cX6_isHouseItem 22 = .ok (.invokevirtual 98, 3) := by decide +kernel
theorem dX6_isHouseItem_25 : decode cX6_isHouseItem 25 = .ok (.ifCond .eq 12, 3) := by decide +kernel
theorem dX6_isHouseItem_28 : decode cX6_isHouseItem 28 = .ok (.aload_n 0, 1) := by decide +kernel
theorem dX6_isHouseItem_29 : decode cX6_isHouseItem 29 = .ok (.bipush 20, 2) := by decide +kernel
theorem dX6_isHouseItem_31 : decode cX6_isHouseItem 31 = .ok (.invokevirtual 95, 3) := by decide +kernel
theorem dX6_isHouseItem_34 : decode cX6_isHouseItem 34 = .ok (.ifCond .ne 5, 3) := by decide +kernel
theorem dX6_isHouseItem_37 : decode cX6_isHouseItem 37 = .ok (.iconst 0, 1) := by decide +kernel
theorem dX6_isHouseItem_38 : decode cX6_isHouseItem 38 = .ok (.ireturn, 1) := by decide +kernel
theorem dX6_isHouseItem_39 : decode cX6_isHouseItem 39 = .ok (.aload_n 0, 1) := by decide +kernel
theorem dX6_isHouseItem_40 : decode cX6_isHouseItem 40 = .ok (.getfield 29, 3) := by decide +kernel
theorem dX6_isHouseItem_43 : decode cX6_isHouseItem 43 = .ok (.iload_n 1, 1) := by decide +kernel
theorem dX6_isHouseItem_44 : decode cX6_isHouseItem 44 = .ok (.aload_n 0, 1) := by decide +kernel
theorem dX6_isHouseItem_45 : decode cX6_isHouseItem 45 = .ok (.getfield 88, 3) := by decide +kernel
theorem dX6_isHouseItem_48 : decode cX6_isHouseItem 48 = .ok (.invokestatic 51, 3) := by decide +kernel
theorem dX6_isHouseItem_51 : decode cX6_isHouseItem 51 = .ok (.istore_n 2, 1) := by decide +kernel
theorem dX6_isHouseItem_52 : decode cX6_isHouseItem 52 = .ok (.iconst 0, 1) := by decide +kernel
theorem dX6_isHouseItem_53 : decode cX6_isHouseItem 53 = .ok (.istore_n 3, 1) := by decide +kernel
theorem dX6_isHouseItem_54 : decode cX6_isHouseItem 54 = .ok (.iload_n 3, 1) := by decide +kernel
theorem dX6_isHouseItem_55 : decode cX6_isHouseItem 55 = .ok (.iconst 3, 1) := by decide +kernel
theorem dX6_isHouseItem_56 : decode cX6_isHouseItem 56 = .ok (.if_icmp .ge 35, 3) := by decide +kernel
theorem dX6_isHouseItem_59 : decode cX6_isHouseItem 59 = .ok (.aload_n 0, 1) := by decide +kernel
theorem dX6_isHouseItem_60 : decode cX6_isHouseItem 60 = .ok (.getfield 29, 3) := by decide +kernel
theorem dX6_isHouseItem_63 : decode cX6_isHouseItem 63 = .ok (.bipush 15, 2) := by decide +kernel
theorem dX6_isHouseItem_65 : decode cX6_isHouseItem 65 = .ok (.iload_n 2, 1) := by decide +kernel
theorem dX6_isHouseItem_66 : decode cX6_isHouseItem 66 = .ok (.iadd, 1) := by decide +kernel
theorem dX6_isHouseItem_67 : decode cX6_isHouseItem 67 = .ok (.dup2, 1) := by decide +kernel
theorem dX6_isHouseItem_68 : decode cX6_isHouseItem 68 = .ok (.iaload, 1) := by decide +kernel
theorem dX6_isHouseItem_69 : decode cX6_isHouseItem 69 = .ok (.aload_n 0, 1) := by decide +kernel
theorem dX6_isHouseItem_70 : decode cX6_isHouseItem 70 = .ok (.bipush 33, 2) := by decide +kernel
theorem dX6_isHouseItem_72 : decode cX6_isHouseItem 72 = .ok (.invokevirtual 98, 3) := by decide +kernel
theorem dX6_isHouseItem_75 : decode cX6_isHouseItem 75 = .ok (.ifCond .eq 7, 3) := by decide +kernel
theorem dX6_isHouseItem_78 : decode cX6_isHouseItem 78 = .ok (.iconst 1, 1) := by decide +kernel
theorem dX6_isHouseItem_79 : decode cX6_isHouseItem 79 = .ok (.goto 4, 3) := by decide +kernel
theorem dX6_isHouseItem_82 : decode cX6_isHouseItem 82 = .ok (.iconst 0, 1) := by decide +kernel
theorem dX6_isHouseItem_83 : decode cX6_isHouseItem 83 = .ok (.iadd, 1) := by decide +kernel
theorem dX6_isHouseItem_84 : decode cX6_isHouseItem 84 = .ok (.iastore, 1) := by decide +kernel
theorem dX6_isHouseItem_85 : decode cX6_isHouseItem 85 = .ok (.iinc 3 1, 3) := by decide +kernel
theorem dX6_isHouseItem_88 : decode cX6_isHouseItem 88 = .ok (.goto (-34), 3) := by decide +kernel
theorem dX6_isHouseItem_91 : decode cX6_isHouseItem 91 = .ok (.iconst 1, 1) := by decide +kernel
theorem dX6_isHouseItem_92 : decode cX6_isHouseItem 92 = .ok (.ireturn, 1) := by decide +kernel
theorem dX6_isHogItem_0 : decode cX6_isHogItem 0 = .ok (.aload_n 0, 1) := by decide +kernel
theorem dX6_isHogItem_1 : decode cX6_isHogItem 1 = .ok (.invokevirtual 84, 3) := by decide +kernel
theorem dX6_isHogItem_4 : decode cX6_isHogItem 4 = .ok (.invokestatic 101, 3) := by decide +kernel
theorem dX6_isHogItem_7 : decode cX6_isHogItem 7 = .ok (.istore_n 1, 1) := by decide +kernel
theorem dX6_isHogItem_8 : decode cX6_isHogItem 8 = .ok (.iload_n 1, 1) := by decide +kernel
theorem dX6_isHogItem_9 : decode cX6_isHogItem 9 = .ok (.ifCond .ge 5, 3) := by decide +kernel
theorem dX6_isHogItem_12 : decode cX6_isHogItem 12 = .ok (.iconst 0, 1) := by decide +kernel
theorem dX6_isHogItem_13 : decode cX6_isHogItem 13 = .ok (.ireturn, 1) := by decide +kernel
theorem dX6_isHogItem_14 : decode cX6_isHogItem 14 = .ok (.aload_n 0, 1) := by decide +kernel
theorem dX6_isHogItem_15 : decode cX6_isHogItem 15 = .ok (.dup, 1) := by decide +kernel
theorem dX6_isHogItem_16 : decode cX6_isHogItem 16 = .ok (.getfield 81, 3) := by decide +kernel
theorem dX6_isHogItem_19 : decode cX6_isHogItem 19 = .ok (.iconst 1, 1) := by decide +kernel
theorem dX6_isHogItem_20 : decode cX6_isHogItem 20 = .ok (.iadd, 1) := by decide +kernel
theorem dX6_isHogItem_21 : decode cX6_isHogItem 21 = .ok (.putfield 81, 3) := by decide +kernel
theorem dX6_isHogItem_24 : decode cX6_isHogItem 24 = .ok (.aload_n 0, 1) := by decide +kernel
theorem dX6_isHogItem_25 : decode cX6_isHogItem 25 = .ok (.iconst 1, 1) := by decide +kernel
theorem dX6_isHogItem_26 : decode cX6_isHogItem 26 = .ok (.bipush 9, 2) := by decide +kernel
theorem dX6_isHogItem_28 : decode cX6_isHogItem 28 = .ok (.invokevirtual 91, 3) := by decide +kernel
theorem dX6_isHogItem_31 : decode cX6_isHogItem 31 = .ok (.ifCond .ne 5, 3) := by decide +kernel
theorem dX6_isHogItem_34 : decode cX6_isHogItem 34 = .ok (.iconst 0, 1) := by decide +kernel
theorem dX6_isHogItem_35 : decode cX6_isHogItem 35 = .ok (.ireturn, 1) := by decide +kernel
theorem dX6_isHogItem_36 : decode cX6_isHogItem 36 = .ok (.aload_n 0, 1) := by decide +kernel
theorem dX6_isHogItem_37 : decode cX6_isHogItem 37 = .ok (.getfield 29, 3) := by decide +kernel
theorem dX6_isHogItem_40 : decode cX6_isHogItem 40 = .ok (.iload_n 1, 1) := by decide +kernel
theorem dX6_isHogItem_41 : decode cX6_isHogItem 41 = .ok (.aload_n 0, 1) := by decide +kernel
theorem dX6_isHogItem_42 : decode cX6_isHogItem 42 = .ok (.getfield 88, 3) := by decide +kernel
theorem dX6_isHogItem_45 : decode cX6_isHogItem 45 = .ok (.iconst 0, 1) := by decide +kernel
theorem dX6_isHogItem_46 : decode cX6_isHogItem 46 = .ok (.invokestatic 59, 3) := by decide +kernel
theorem dX6_isHogItem_49 : decode cX6_isHogItem 49 = .ok (.istore_n 2, 1) := by decide +kernel
theorem dX6_isHogItem_50 : decode cX6_isHogItem 50 = .ok (.aload_n 0, 1) := by decide +kernel
theorem dX6_isHogItem_51 : decode cX6_isHogItem 51 = .ok (.bipush 64, 2) := by decide +kernel
theorem dX6_isHogItem_53 : decode cX6_isHogItem 53 = .ok (.invokevirtual 98, 3) := by decide +kernel
theorem dX6_isHogItem_56 : decode cX6_isHogItem 56 = .ok (.ifCond .eq 35, 3) := by decide +kernel
theorem dX6_isHogItem_59 : decode cX6_isHogItem 59 = .ok (.aload_n 0, 1) := by decide +kernel
theorem dX6_isHogItem_60 : decode cX6_isHogItem 60 = .ok (.iconst 0, 1) := by decide +kernel
theorem dX6_isHogItem_61 : decode cX6_isHogItem 61 = .ok (.aload_n 0, 1) := by decide +kernel
theorem dX6_isHogItem_62 : decode cX6_isHogItem 62 = .ok (.getfield 29, 3) := by decide +kernel
theorem dX6_isHogItem_65 : decode cX6_isHogItem 65 = .ok (.bipush 27, 2) := by decide +kernel
theorem dX6_isHogItem_67 : decode cX6_isHogItem 67 = .ok (.iaload, 1) := by decide +kernel
theorem dX6_isHogItem_68 : decode cX6_isHogItem 68 = .ok (.iconst 1, 1) := by decide +kernel
theorem dX6_isHogItem_69 : decode cX6_isHogItem 69 = .ok (.isub, 1) := by decide +kernel
theorem dX6_isHogItem_70 : decode cX6_isHogItem 70 = .ok (.invokevirtual 91, 3) := by decide +kernel
theorem dX6_isHogItem_73 : decode cX6_isHogItem 73 = .ok (.ifCond .ne 5, 3) := by decide +kernel
theorem dX6_isHogItem_76 : decode cX6_isHogItem 76 = .ok (.iconst 0, 1) := by decide +kernel
theorem dX6_isHogItem_77 : decode cX6_isHogItem 77 = .ok (.ireturn, 1) := by decide +kernel
theorem dX6_isHogItem_78 : decode cX6_isHogItem 78 = .ok (.aload_n 0, 1) := by decide +kernel
theorem dX6_isHogItem_79 : decode cX6_isHogItem 79 = .ok (.getfield 29, 3) := by decide +kernel
theorem dX6_isHogItem_82 : decode cX6_isHogItem 82 = .ok (.bipush 21, 2) := by decide +kernel
theorem dX6_isHogItem_84 : decode cX6_isHogItem 84 = .ok (.iload_n 2, 1) := by decide +kernel
theorem dX6_isHogItem_85 : decode cX6_isHogItem 85 = .ok (.iadd, 1) := by decide +kernel
theorem dX6_isHogItem_86 : decode cX6_isHogItem 86 = .ok (.aload_n 0, 1) := by decide +kernel
theorem dX6_isHogItem_87 : decode cX6_isHogItem 87 = .ok (.getfield 88, 3) := by decide +kernel
theorem dX6_isHogItem_90 : decode cX6_isHogItem 90 = .ok (.iastore, 1) := by decide +kernel
theorem dX6_isHogItem_91 : decode cX6_isHogItem 91 = .ok (.iconst 1, 1) := by decide +kernel
theorem dX6_isHogItem_92 : decode cX6_isHogItem 92 = .ok (.ireturn, 1) := by decide +kernel
theorem dX6_isLane_0 : decode cX6_isLane 0 = .ok (.aload_n 0, 1) := by decide +kernel
theorem dX6_isLane_1 : decode cX6_isLane 1 = .ok (.bipush 20, 2) := by decide +kernel
theorem dX6_isLane_3 : decode cX6_isLane 3 = .ok (.invokevirtual 95, 3) := by decide +kernel
theorem dX6_isLane_6 : decode cX6_isLane 6 = .ok (.ifCond .ne 5, 3) := by decide +kernel
theorem dX6_isLane_9 : decode cX6_isLane 9 = .ok (.iconst 0, 1) := by decide +kernel
theorem dX6_isLane_10 : decode cX6_isLane 10 = .ok (.ireturn, 1) := by decide +kernel
theorem dX6_isLane_11 : decode cX6_isLane 11 = .ok (.aload_n 0, 1) := by decide +kernel
theorem dX6_isLane_12 : decode cX6_isLane 12 = .ok (.getfield 29, 3) := by decide +kernel
theorem dX6_isLane_15 : decode cX6_isLane 15 = .ok (.bipush 26, 2) := by decide +kernel
theorem dX6_isLane_17 : decode cX6_isLane 17 = .ok (.aload_n 0, 1) := by decide +kernel
theorem dX6_isLane_18 : decode cX6_isLane 18 = .ok (.getfield 88, 3) := by decide +kernel
theorem dX6_isLane_21 : decode cX6_isLane 21 = .ok (.iastore, 1) := by decide +kernel
theorem dX6_isLane_22 : decode cX6_isLane 22 = .ok (.aload_n 0, 1) := by decide +kernel
theorem dX6_isLane_23 : decode cX6_isLane 23 = .ok (.bipush 59, 2) := by decide +kernel
theorem dX6_isLane_25 : decode cX6_isLane 25 = .ok (.invokevirtual 98, 3) := by decide +kernel
theorem dX6_isLane_28 : decode cX6_isLane 28 = .ok (.ifCond .ne 5, 3) := by decide +kernel
theorem dX6_isLane_31 : decode cX6_isLane 31 = .ok (.iconst 0, 1) := by decide +kernel
theorem dX6_isLane_32 : decode cX6_isLane 32 = .ok (.ireturn, 1) := by decide +kernel
theorem dX6_isLane_33 : decode cX6_isLane 33 = .ok (.iconst 1, 1) := by decide +kernel
theorem dX6_isLane_34 : decode cX6_isLane 34 = .ok (.istore_n 1, 1) := by decide +kernel
theorem dX6_isLane_35 : decode cX6_isLane 35 = .ok (.iload_n 1, 1) := by decide +kernel
theorem dX6_isLane_36 : decode cX6_isLane 36 = .ok (.ifCond .eq 42, 3) := by decide +kernel
theorem dX6_isLane_39 : decode cX6_isLane 39 = .ok (.aload_n 0, 1) := by decide +kernel
theorem dX6_isLane_40 : decode cX6_isLane 40 = .ok (.invokevirtual 105, 3) := by decide +kernel
theorem dX6_isLane_43 : decode cX6_isLane 43 = .ok (.ifCond .ne 5, 3) := by decide +kernel
theorem dX6_isLane_46 : decode cX6_isLane 46 = .ok (.iconst 0, 1) := by decide +kernel
theorem dX6_isLane_47 : decode cX6_isLane 47 = .ok (.ireturn, 1) := by decide +kernel
theorem dX6_isLane_48 : decode cX6_isLane 48 = .ok (.aload_n 0, 1) := by decide +kernel
theorem dX6_isLane_49 : decode cX6_isLane 49 = .ok (.getfield 29, 3) := by decide +kernel
theorem dX6_isLane_52 : decode cX6_isLane 52 = .ok (.bipush 27, 2) := by decide +kernel
theorem dX6_isLane_54 : decode cX6_isLane 54 = .ok (.iaload, 1) := by decide +kernel
theorem dX6_isLane_55 : decode cX6_isLane 55 = .ok (.bipush 6, 2) := by decide +kernel
theorem dX6_isLane_57 : decode cX6_isLane 57 = .ok (.if_icmp .ge 16, 3) := by decide +kernel
theorem dX6_isLane_60 : decode cX6_isLane 60 = .ok (.aload_n 0, 1) := by decide +kernel
theorem dX6_isLane_61 : decode cX6_isLane 61 = .ok (.bipush 44, 2) := by decide +kernel
theorem dX6_isLane_63 : decode cX6_isLane 63 = .ok (.invokevirtual 98, 3) := by decide +kernel
theorem dX6_isLane_66 : decode cX6_isLane 66 = .ok (.ifCond .eq 7, 3) := by decide +kernel
theorem dX6_isLane_69 : decode cX6_isLane 69 = .ok (.iconst 1, 1) := by decide +kernel
theorem dX6_isLane_70 : decode cX6_isLane 70 = .ok (.goto 4, 3) := by decide +kernel
theorem dX6_isLane_73 : decode cX6_isLane 73 = .ok (.iconst 0, 1) := by decide +kernel
theorem dX6_isLane_74 : decode cX6_isLane 74 = .ok (.istore_n 1, 1) := by decide +kernel
theorem dX6_isLane_75 : decode cX6_isLane 75 = .ok (.goto (-40), 3) := by decide +kernel
theorem dX6_isLane_78 : decode cX6_isLane 78 = .ok (.aload_n 0, 1) := by decide +kernel
theorem dX6_isLane_79 : decode cX6_isLane 79 = .ok (.bipush 59, 2) := by decide +kernel
theorem dX6_isLane_81 : decode cX6_isLane 81 = .ok (.invokevirtual 98, 3) := by decide +kernel
theorem dX6_isLane_84 : decode cX6_isLane 84 = .ok (.istore_n 1, 1) := by decide +kernel
theorem dX6_isLane_85 : decode cX6_isLane 85 = .ok (.iload_n 1, 1) := by decide +kernel
theorem dX6_isLane_86 : decode cX6_isLane 86 = .ok (.ifCond .eq 41, 3) := by decide +kernel
theorem dX6_isLane_89 : decode cX6_isLane 89 = .ok (.aload_n 0, 1) := by decide +kernel
theorem dX6_isLane_90 : decode cX6_isLane 90 = .ok (.invokevirtual 109, 3) := by decide +kernel
theorem dX6_isLane_93 : decode cX6_isLane 93 = .ok (.ifCond .ne 5, 3) := by decide +kernel
theorem dX6_isLane_96 : decode cX6_isLane 96 = .ok (.iconst 0, 1) := by decide +kernel
theorem dX6_isLane_97 : decode cX6_isLane 97 = .ok (.ireturn, 1) := by decide +kernel
theorem dX6_isLane_98 : decode cX6_isLane 98 = .ok (.aload_n 0, 1) := by decide +kernel
theorem dX6_isLane_99 : decode cX6_isLane 99 = .ok (.getfield 29, 3) := by decide +kernel
theorem dX6_isLane_102 : decode cX6_isLane 102 = .ok (.bipush 28, 2) := by decide +kernel
theorem dX6_isLane_104 : decode cX6_isLane 104 = .ok (.iaload, 1) := by decide +kernel
theorem dX6_isLane_105 : decode cX6_isLane 105 = .ok (.iconst 5, 1) := by decide +kernel
theorem dX6_isLane_106 : decode cX6_isLane 106 = .ok (.if_icmp .ge 16, 3) := by decide +kernel
theorem dX6_isLane_109 : decode cX6_isLane 109 = .ok (.aload_n 0, 1) := by decide +kernel
theorem dX6_isLane_110 : decode cX6_isLane 110 = .ok (.bipush 44, 2) := by decide +kernel
theorem dX6_isLane_112 : decode cX6_isLane 112 = .ok (.invokevirtual 98, 3) := by decide +kernel
theorem dX6_isLane_115 : decode cX6_isLane 115 = .ok (.ifCond .eq 7, 3) := by decide +kernel
theorem dX6_isLane_118 : decode cX6_isLane 118 = .ok (.iconst 1, 1) := by decide +kernel
theorem dX6_isLane_119 : decode cX6_isLane 119 = .ok (.goto 4, 3) := by decide +kernel
theorem dX6_isLane_122 : decode cX6_isLane 122 = .ok (.iconst 0, 1) := by decide +kernel
theorem dX6_isLane_123 : decode cX6_isLane 123 = .ok (.istore_n 1, 1) := by decide +kernel
theorem dX6_isLane_124 : decode cX6_isLane 124 = .ok (.goto (-39), 3) := by decide +kernel
theorem dX6_isLane_127 : decode cX6_isLane 127 = .ok (.aload_n 0, 1) := by decide +kernel
theorem dX6_isLane_128 : decode cX6_isLane 128 = .ok (.invokevirtual 84, 3) := by decide +kernel
theorem dX6_isLane_131 : decode cX6_isLane 131 = .ok (.ifCond .ne 7, 3) := by decide +kernel
theorem dX6_isLane_134 : decode cX6_isLane 134 = .ok (.iconst 1, 1) := by decide +kernel
theorem dX6_isLane_135 : decode cX6_isLane 135 = .ok (.goto 4, 3) := by decide +kernel
theorem dX6_isLane_138 : decode cX6_isLane 138 = .ok (.iconst 0, 1) := by decide +kernel
theorem dX6_isLane_139 : decode cX6_isLane 139 = .ok (.ireturn, 1) := by decide +kernel
theorem dX6_read_0 : decode cX6_read 0 = .ok (.iconst 0, 1) := by decide +kernel
theorem dX6_read_1 : decode cX6_read 1 = .ok (.istore_n 1, 1) := by decide +kernel
theorem dX6_read_2 : decode cX6_read 2 = .ok (.iload_n 1, 1) := by decide +kernel
theorem dX6_read_3 : decode cX6_read 3 = .ok (.sipush 248, 3) := by decide +kernel
theorem dX6_read_6 : decode cX6_read 6 = .ok (.if_icmp .ge 16, 3) := by decide +kernel
theorem dX6_read_9 : decode cX6_read 9 = .ok (.aload_n 0, 1) := by decide +kernel
theorem dX6_read_10 : decode cX6_read 10 = .ok (.getfield 29, 3) := by decide +kernel
theorem dX6_read_13 : decode cX6_read 13 = .ok (.iload_n 1, 1) := by decide +kernel
theorem dX6_read_14 : decode cX6_read 14 = .ok (.iconst 0, 1) := by decide +kernel
theorem dX6_read_15 : decode cX6_read 15 = .ok (.iastore, 1) := by decide +kernel
theorem dX6_read_16 : decode cX6_read 16 = .ok (.iinc 1 1, 3) := by decide +kernel
theorem dX6_read_19 : decode cX6_read 19 = .ok (.goto (-17), 3) := by decide +kernel
theorem dX6_read_22 : decode cX6_read 22 = .ok (.aload_n 0, 1) := by decide +kernel
theorem dX6_read_23 : decode cX6_read 23 = .ok (.getfield 29, 3) := by decide +kernel
theorem dX6_read_26 : decode cX6_read 26 = .ok (.iconst 1, 1) := by decide +kernel
theorem dX6_read_27 : decode cX6_read 27 = .ok (.aload_n 0, 1) := by decide +kernel
theorem dX6_read_28 : decode cX6_read 28 = .ok (.getfield 23, 3) := by decide +kernel
theorem dX6_read_31 : decode cX6_read 31 = .ok (.iconst 1, 1) := by decide +kernel
theorem dX6_read_32 : decode cX6_read 32 = .ok (.iaload, 1) := by decide +kernel
theorem dX6_read_33 : decode cX6_read 33 = .ok (.iastore, 1) := by decide +kernel
theorem dX6_read_34 : decode cX6_read 34 = .ok (.aload_n 0, 1) := by decide +kernel
theorem dX6_read_35 : decode cX6_read 35 = .ok (.iconst 0, 1) := by decide +kernel
theorem dX6_read_36 : decode cX6_read 36 = .ok (.putfield 81, 3) := by decide +kernel
theorem dX6_read_39 : decode cX6_read 39 = .ok (.aload_n 0, 1) := by decide +kernel
theorem dX6_read_40 : decode cX6_read 40 = .ok (.invokevirtual 112, 3) := by decide +kernel
theorem dX6_read_43 : decode cX6_read 43 = .ok (.istore_n 1, 1) := by decide +kernel
theorem dX6_read_44 : decode cX6_read 44 = .ok (.aload_n 0, 1) := by decide +kernel
theorem dX6_read_45 : decode cX6_read 45 = .ok (.iconst 0, 1) := by decide +kernel
theorem dX6_read_46 : decode cX6_read 46 = .ok (.putfield 77, 3) := by decide +kernel
theorem dX6_read_49 : decode cX6_read 49 = .ok (.iload_n 1, 1) := by decide +kernel
theorem dX6_read_50 : decode cX6_read 50 = .ok (.ifCond .ne 11, 3) := by decide +kernel
theorem dX6_read_53 : decode cX6_read 53 = .ok (.bipush (-20), 2) := by decide +kernel
theorem dX6_read_55 : decode cX6_read 55 = .ok (.aload_n 0, 1) := by decide +kernel
theorem dX6_read_56 : decode cX6_read 56 = .ok (.getfield 81, 3) := by decide +kernel
theorem dX6_read_59 : decode cX6_read 59 = .ok (.isub, 1) := by decide +kernel
theorem dX6_read_60 : decode cX6_read 60 = .ok (.ireturn, 1) := by decide +kernel
theorem dX6_read_61 : decode cX6_read 61 = .ok (.aload_n 0, 1) := by decide +kernel
theorem dX6_read_62 : decode cX6_read 62 = .ok (.getfield 29, 3) := by decide +kernel
theorem dX6_read_65 : decode cX6_read 65 = .ok (.iconst 0, 1) := by decide +kernel
theorem dX6_read_66 : decode cX6_read 66 = .ok (.aload_n 0, 1) := by decide +kernel
theorem dX6_read_67 : decode cX6_read 67 = .ok (.getfield 23, 3) := by decide +kernel
theorem dX6_read_70 : decode cX6_read 70 = .ok (.iconst 0, 1) := by decide +kernel
theorem dX6_read_71 : decode cX6_read 71 = .ok (.sipush 248, 3) := by decide +kernel
theorem dX6_read_74 : decode cX6_read 74 = .ok (.invokestatic 115, 3) := by decide +kernel
theorem dX6_read_77 : decode cX6_read 77 = .ok (.aload_n 0, 1) := by decide +kernel
theorem dX6_read_78 : decode cX6_read 78 = .ok (.getfield 23, 3) := by decide +kernel
theorem dX6_read_81 : decode cX6_read 81 = .ok (.bipush 27, 2) := by decide +kernel
theorem dX6_read_83 : decode cX6_read 83 = .ok (.iaload, 1) := by decide +kernel
theorem dX6_read_84 : decode cX6_read 84 = .ok (.ireturn, 1) := by decide +kernel
theorem dX6_lostOnes_0 : decode cX6_lostOnes 0 = .ok (.iconst 0, 1) := by decide +kernel
theorem dX6_lostOnes_1 : decode cX6_lostOnes 1 = .ok (.istore_n 1, 1) := by decide +kernel
theorem dX6_lostOnes_2 : decode cX6_lostOnes 2 = .ok (.iconst 0, 1) := by decide +kernel
theorem dX6_lostOnes_3 : decode cX6_lostOnes 3 = .ok (.istore_n 2, 1) := by decide +kernel
theorem dX6_lostOnes_4 : decode cX6_lostOnes 4 = .ok (.iload_n 2, 1) := by decide +kernel
theorem dX6_lostOnes_5 : decode cX6_lostOnes 5 = .ok (.aload_n 0, 1) := by decide +kernel
theorem dX6_lostOnes_6 : decode cX6_lostOnes 6 = .ok (.bipush 27, 2) := by decide +kernel
theorem dX6_lostOnes_8 : decode cX6_lostOnes 8 = .ok (.iaload, 1) := by decide +kernel
theorem dX6_lostOnes_9 : decode cX6_lostOnes 9 = .ok (.if_icmp .ge 27, 3) := by decide +kernel
theorem dX6_lostOnes_12 : decode cX6_lostOnes 12 = .ok (.iload_n 1, 1) := by decide +kernel
theorem dX6_lostOnes_13 : decode cX6_lostOnes 13 = .ok (.aload_n 0, 1) := by decide +kernel
theorem dX6_lostOnes_14 : decode cX6_lostOnes 14 = .ok (.iload_n 2, 1) := by decide +kernel
theorem dX6_lostOnes_15 : decode cX6_lostOnes 15 = .ok (.invokestatic 63, 3) := by decide +kernel
theorem dX6_lostOnes_18 : decode cX6_lostOnes 18 = .ok (.ifCond .eq 9, 3) := by decide +kernel
theorem dX6_lostOnes_21 : decode cX6_lostOnes 21 = .ok (.iconst 1, 1) := by decide +kernel
theorem dX6_lostOnes_22 : decode cX6_lostOnes 22 = .ok (.iload_n 2, 1) := by decide +kernel
theorem dX6_lostOnes_23 : decode cX6_lostOnes 23 = .ok (.ishl, 1) := by decide +kernel
theorem dX6_lostOnes_24 : decode cX6_lostOnes 24 = .ok (.goto 4, 3) := by decide +kernel
theorem dX6_lostOnes_27 : decode cX6_lostOnes 27 = .ok (.iconst 0, 1) := by decide +kernel
theorem dX6_lostOnes_28 : decode cX6_lostOnes 28 = .ok (.ior, 1) := by decide +kernel
theorem dX6_lostOnes_29 : decode cX6_lostOnes 29 = .ok (.istore_n 1, 1) := by decide +kernel
theorem dX6_lostOnes_30 : decode cX6_lostOnes 30 = .ok (.iinc 2 1, 3) := by decide +kernel
theorem dX6_lostOnes_33 : decode cX6_lostOnes 33 = .ok (.goto (-29), 3) := by decide +kernel
theorem dX6_lostOnes_36 : decode cX6_lostOnes 36 = .ok (.iload_n 1, 1) := by decide +kernel
theorem dX6_lostOnes_37 : decode cX6_lostOnes 37 = .ok (.ireturn, 1) := by decide +kernel
theorem dX6_owedBy_0 : decode cX6_owedBy 0 = .ok (.iconst 0, 1) := by decide +kernel
theorem dX6_owedBy_1 : decode cX6_owedBy 1 = .ok (.istore_n 1, 1) := by decide +kernel
theorem dX6_owedBy_2 : decode cX6_owedBy 2 = .ok (.iconst 0, 1) := by decide +kernel
theorem dX6_owedBy_3 : decode cX6_owedBy 3 = .ok (.istore_n 2, 1) := by decide +kernel
theorem dX6_owedBy_4 : decode cX6_owedBy 4 = .ok (.iload_n 2, 1) := by decide +kernel
theorem dX6_owedBy_5 : decode cX6_owedBy 5 = .ok (.aload_n 0, 1) := by decide +kernel
theorem dX6_owedBy_6 : decode cX6_owedBy 6 = .ok (.bipush 27, 2) := by decide +kernel
theorem dX6_owedBy_8 : decode cX6_owedBy 8 = .ok (.iaload, 1) := by decide +kernel
theorem dX6_owedBy_9 : decode cX6_owedBy 9 = .ok (.if_icmp .ge 17, 3) := by decide +kernel
theorem dX6_owedBy_12 : decode cX6_owedBy 12 = .ok (.iload_n 1, 1) := by decide +kernel
theorem dX6_owedBy_13 : decode cX6_owedBy 13 = .ok (.aload_n 0, 1) := by decide +kernel
theorem dX6_owedBy_14 : decode cX6_owedBy 14 = .ok (.iconst 3, 1) := by decide +kernel
theorem dX6_owedBy_15 : decode cX6_owedBy 15 = .ok (.iload_n 2, 1) := by decide +kernel
theorem dX6_owedBy_16 : decode cX6_owedBy 16 = .ok (.iadd, 1) := by decide +kernel
theorem dX6_owedBy_17 : decode cX6_owedBy 17 = .ok (.iaload, 1) := by decide +kernel
theorem dX6_owedBy_18 : decode cX6_owedBy 18 = .ok (.iadd, 1) := by decide +kernel
theorem dX6_owedBy_19 : decode cX6_owedBy 19 = .ok (.istore_n 1, 1) := by decide +kernel
theorem dX6_owedBy_20 : decode cX6_owedBy 20 = .ok (.iinc 2 1, 3) := by decide +kernel
theorem dX6_owedBy_23 : decode cX6_owedBy 23 = .ok (.goto (-19), 3) := by decide +kernel
theorem dX6_owedBy_26 : decode cX6_owedBy 26 = .ok (.iload_n 1, 1) := by decide +kernel
theorem dX6_owedBy_27 : decode cX6_owedBy 27 = .ok (.ireturn, 1) := by decide +kernel
theorem dX6_isWinter_0 : decode cX6_isWinter 0 = .ok (.aload_n 0, 1) := by decide +kernel
theorem dX6_isWinter_1 : decode cX6_isWinter 1 = .ok (.iconst 0, 1) := by decide +kernel
theorem dX6_isWinter_2 : decode cX6_isWinter 2 = .ok (.iaload, 1) := by decide +kernel
theorem dX6_isWinter_3 : decode cX6_isWinter 3 = .ok (.bipush 20, 2) := by decide +kernel
theorem dX6_isWinter_5 : decode cX6_isWinter 5 = .ok (.irem, 1) := by decide +kernel
theorem dX6_isWinter_6 : decode cX6_isWinter 6 = .ok (.bipush 15, 2) := by decide +kernel
theorem dX6_isWinter_8 : decode cX6_isWinter 8 = .ok (.if_icmp .lt 7, 3) := by decide +kernel
theorem dX6_isWinter_11 : decode cX6_isWinter 11 = .ok (.iconst 1, 1) := by decide +kernel
theorem dX6_isWinter_12 : decode cX6_isWinter 12 = .ok (.goto 4, 3) := by decide +kernel
theorem dX6_isWinter_15 : decode cX6_isWinter 15 = .ok (.iconst 0, 1) := by decide +kernel
theorem dX6_isWinter_16 : decode cX6_isWinter 16 = .ok (.ireturn, 1) := by decide +kernel
theorem dX6_count_0 : decode cX6_count 0 = .ok (.iload_n 1, 1) := by decide +kernel
theorem dX6_count_1 : decode cX6_count 1 = .ok (.tableswitch 129 0 8 #[51, 59, 67, 74, 82, 89, 97, 105, 121], 51) := by decide +kernel
theorem dX6_count_52 : decode cX6_count 52 = .ok (.aload_n 0, 1) := by decide +kernel
theorem dX6_count_53 : decode cX6_count 53 = .ok (.getfield 23, 3) := by decide +kernel
theorem dX6_count_56 : decode cX6_count 56 = .ok (.bipush 27, 2) := by decide +kernel
theorem dX6_count_58 : decode cX6_count 58 = .ok (.iaload, 1) := by decide +kernel
theorem dX6_count_59 : decode cX6_count 59 = .ok (.ireturn, 1) := by decide +kernel
theorem dX6_count_60 : decode cX6_count 60 = .ok (.aload_n 0, 1) := by decide +kernel
theorem dX6_count_61 : decode cX6_count 61 = .ok (.getfield 23, 3) := by decide +kernel
theorem dX6_count_64 : decode cX6_count 64 = .ok (.bipush 28, 2) := by decide +kernel
theorem dX6_count_66 : decode cX6_count 66 = .ok (.iaload, 1) := by decide +kernel
theorem dX6_count_67 : decode cX6_count 67 = .ok (.ireturn, 1) := by decide +kernel
theorem dX6_count_68 : decode cX6_count 68 = .ok (.aload_n 0, 1) := by decide +kernel
theorem dX6_count_69 : decode cX6_count 69 = .ok (.getfield 23, 3) := by decide +kernel
theorem dX6_count_72 : decode cX6_count 72 = .ok (.iconst 0, 1) := by decide +kernel
theorem dX6_count_73 : decode cX6_count 73 = .ok (.iaload, 1) := by decide +kernel
theorem dX6_count_74 : decode cX6_count 74 = .ok (.ireturn, 1) := by decide +kernel
theorem dX6_count_75 : decode cX6_count 75 = .ok (.aload_n 0, 1) := by decide +kernel
theorem dX6_count_76 : decode cX6_count 76 = .ok (.getfield 23, 3) := by decide +kernel
theorem dX6_count_79 : decode cX6_count 79 = .ok (.bipush 26, 2) := by decide +kernel
theorem dX6_count_81 : decode cX6_count 81 = .ok (.iaload, 1) := by decide +kernel
theorem dX6_count_82 : decode cX6_count 82 = .ok (.ireturn, 1) := by decide +kernel
theorem dX6_count_83 : decode cX6_count 83 = .ok (.aload_n 0, 1) := by decide +kernel
theorem dX6_count_84 : decode cX6_count 84 = .ok (.getfield 23, 3) := by decide +kernel
theorem dX6_count_87 : decode cX6_count 87 = .ok (.iconst 2, 1) := by decide +kernel
theorem dX6_count_88 : decode cX6_count 88 = .ok (.iaload, 1) := by decide +kernel
theorem dX6_count_89 : decode cX6_count 89 = .ok (.ireturn, 1) := by decide +kernel
theorem dX6_count_90 : decode cX6_count 90 = .ok (.aload_n 0, 1) := by decide +kernel
theorem dX6_count_91 : decode cX6_count 91 = .ok (.getfield 23, 3) := by decide +kernel
theorem dX6_count_94 : decode cX6_count 94 = .ok (.invokestatic 119, 3) := by decide +kernel
theorem dX6_count_97 : decode cX6_count 97 = .ok (.ireturn, 1) := by decide +kernel
theorem dX6_count_98 : decode cX6_count 98 = .ok (.aload_n 0, 1) := by decide +kernel
theorem dX6_count_99 : decode cX6_count 99 = .ok (.getfield 23, 3) := by decide +kernel
theorem dX6_count_102 : decode cX6_count 102 = .ok (.invokestatic 123, 3) := by decide +kernel
theorem dX6_count_105 : decode cX6_count 105 = .ok (.ireturn, 1) := by decide +kernel
theorem dX6_count_106 : decode cX6_count 106 = .ok (.aload_n 0, 1) := by decide +kernel
theorem dX6_count_107 : decode cX6_count 107 = .ok (.getfield 23, 3) := by decide +kernel
theorem dX6_count_110 : decode cX6_count 110 = .ok (.invokestatic 126, 3) := by decide +kernel
theorem dX6_count_113 : decode cX6_count 113 = .ok (.ifCond .eq 7, 3) := by decide +kernel
theorem dX6_count_116 : decode cX6_count 116 = .ok (.iconst 1, 1) := by decide +kernel
theorem dX6_count_117 : decode cX6_count 117 = .ok (.goto 4, 3) := by decide +kernel
theorem dX6_count_120 : decode cX6_count 120 = .ok (.iconst 0, 1) := by decide +kernel
theorem dX6_count_121 : decode cX6_count 121 = .ok (.ireturn, 1) := by decide +kernel
theorem dX6_count_122 : decode cX6_count 122 = .ok (.aload_n 0, 1) := by decide +kernel
theorem dX6_count_123 : decode cX6_count 123 = .ok (.getfield 23, 3) := by decide +kernel
theorem dX6_count_126 : decode cX6_count 126 = .ok (.bipush 39, 2) := by decide +kernel
theorem dX6_count_128 : decode cX6_count 128 = .ok (.iaload, 1) := by decide +kernel
theorem dX6_count_129 : decode cX6_count 129 = .ok (.ireturn, 1) := by decide +kernel
theorem dX6_count_130 : decode cX6_count 130 = .ok (.iconst (-1), 1) := by decide +kernel
theorem dX6_count_131 : decode cX6_count 131 = .ok (.ireturn, 1) := by decide +kernel
theorem dX6_note_0 : decode cX6_note 0 = .ok (.aload_n 0, 1) := by decide +kernel
theorem dX6_note_1 : decode cX6_note 1 = .ok (.getfield 23, 3) := by decide +kernel
theorem dX6_note_4 : decode cX6_note 4 = .ok (.bipush 39, 2) := by decide +kernel
theorem dX6_note_6 : decode cX6_note 6 = .ok (.iaload, 1) := by decide +kernel
theorem dX6_note_7 : decode cX6_note 7 = .ok (.bipush 8, 2) := by decide +kernel
theorem dX6_note_9 : decode cX6_note 9 = .ok (.if_icmp .ne 32, 3) := by decide +kernel
theorem dX6_note_12 : decode cX6_note 12 = .ok (.aload_n 0, 1) := by decide +kernel
theorem dX6_note_13 : decode cX6_note 13 = .ok (.getfield 23, 3) := by decide +kernel
theorem dX6_note_16 : decode cX6_note 16 = .ok (.bipush 66, 2) := by decide +kernel
theorem dX6_note_18 : decode cX6_note 18 = .ok (.aload_n 0, 1) := by decide +kernel
theorem dX6_note_19 : decode cX6_note 19 = .ok (.getfield 23, 3) := by decide +kernel
theorem dX6_note_22 : decode cX6_note 22 = .ok (.bipush 40, 2) := by decide +kernel
theorem dX6_note_24 : decode cX6_note 24 = .ok (.sipush 182, 3) := by decide +kernel
theorem dX6_note_27 : decode cX6_note 27 = .ok (.invokestatic 115, 3) := by decide +kernel
theorem dX6_note_30 : decode cX6_note 30 = .ok (.aload_n 0, 1) := by decide +kernel
theorem dX6_note_31 : decode cX6_note 31 = .ok (.getfield 23, 3) := by decide +kernel
theorem dX6_note_34 : decode cX6_note 34 = .ok (.bipush 39, 2) := by decide +kernel
theorem dX6_note_36 : decode cX6_note 36 = .ok (.dup2, 1) := by decide +kernel
theorem dX6_note_37 : decode cX6_note 37 = .ok (.iaload, 1) := by decide +kernel
theorem dX6_note_38 : decode cX6_note 38 = .ok (.iconst 1, 1) := by decide +kernel
theorem dX6_note_39 : decode cX6_note 39 = .ok (.isub, 1) := by decide +kernel
theorem dX6_note_40 : decode cX6_note 40 = .ok (.iastore, 1) := by decide +kernel
theorem dX6_note_41 : decode cX6_note 41 = .ok (.aload_n 0, 1) := by decide +kernel
theorem dX6_note_42 : decode cX6_note 42 = .ok (.getfield 23, 3) := by decide +kernel
theorem dX6_note_45 : decode cX6_note 45 = .ok (.iconst 0, 1) := by decide +kernel
theorem dX6_note_46 : decode cX6_note 46 = .ok (.aload_n 0, 1) := by decide +kernel
theorem dX6_note_47 : decode cX6_note 47 = .ok (.getfield 23, 3) := by decide +kernel
theorem dX6_note_50 : decode cX6_note 50 = .ok (.bipush 40, 2) := by decide +kernel
theorem dX6_note_52 : decode cX6_note 52 = .ok (.bipush 26, 2) := by decide +kernel
theorem dX6_note_54 : decode cX6_note 54 = .ok (.aload_n 0, 1) := by decide +kernel
theorem dX6_note_55 : decode cX6_note 55 = .ok (.getfield 23, 3) := by decide +kernel
theorem dX6_note_58 : decode cX6_note 58 = .ok (.bipush 39, 2) := by decide +kernel
theorem dX6_note_60 : decode cX6_note 60 = .ok (.iaload, 1) := by decide +kernel
theorem dX6_note_61 : decode cX6_note 61 = .ok (.imul, 1) := by decide +kernel
theorem dX6_note_62 : decode cX6_note 62 = .ok (.iadd, 1) := by decide +kernel
theorem dX6_note_63 : decode cX6_note 63 = .ok (.bipush 26, 2) := by decide +kernel
theorem dX6_note_65 : decode cX6_note 65 = .ok (.invokestatic 115, 3) := by decide +kernel
theorem dX6_note_68 : decode cX6_note 68 = .ok (.aload_n 0, 1) := by decide +kernel
theorem dX6_note_69 : decode cX6_note 69 = .ok (.getfield 23, 3) := by decide +kernel
theorem dX6_note_72 : decode cX6_note 72 = .ok (.bipush 39, 2) := by decide +kernel
theorem dX6_note_74 : decode cX6_note 74 = .ok (.dup2, 1) := by decide +kernel
theorem dX6_note_75 : decode cX6_note 75 = .ok (.iaload, 1) := by decide +kernel
theorem dX6_note_76 : decode cX6_note 76 = .ok (.iconst 1, 1) := by decide +kernel
theorem dX6_note_77 : decode cX6_note 77 = .ok (.iadd, 1) := by decide +kernel
theorem dX6_note_78 : decode cX6_note 78 = .ok (.iastore, 1) := by decide +kernel
theorem dX6_note_79 : decode cX6_note 79 = .ok (.return_, 1) := by decide +kernel
theorem dX6_nextOf_0 : decode cX6_nextOf 0 = .ok (.iconst 1, 1) := by decide +kernel
theorem dX6_nextOf_1 : decode cX6_nextOf 1 = .ok (.istore_n 3, 1) := by decide +kernel
theorem dX6_nextOf_2 : decode cX6_nextOf 2 = .ok (.iload_n 3, 1) := by decide +kernel
theorem dX6_nextOf_3 : decode cX6_nextOf 3 = .ok (.aload_n 0, 1) := by decide +kernel
theorem dX6_nextOf_4 : decode cX6_nextOf 4 = .ok (.bipush 27, 2) := by decide +kernel
theorem dX6_nextOf_6 : decode cX6_nextOf 6 = .ok (.iaload, 1) := by decide +kernel
theorem dX6_nextOf_7 : decode cX6_nextOf 7 = .ok (.if_icmp .ge 49, 3) := by decide +kernel
theorem dX6_nextOf_10 : decode cX6_nextOf 10 = .ok (.aload_n 0, 1) := by decide +kernel
theorem dX6_nextOf_11 : decode cX6_nextOf 11 = .ok (.bipush 21, 2) := by decide +kernel
theorem dX6_nextOf_13 : decode cX6_nextOf 13 = .ok (.iload_n 1, 1) := by decide +kernel
theorem dX6_nextOf_14 : decode cX6_nextOf 14 = .ok (.iadd, 1) := by decide +kernel
theorem dX6_nextOf_15 : decode cX6_nextOf 15 = .ok (.iaload, 1) := by decide +kernel
theorem dX6_nextOf_16 : decode cX6_nextOf 16 = .ok (.iload_n 3, 1) := by decide +kernel
theorem dX6_nextOf_17 : decode cX6_nextOf 17 = .ok (.iadd, 1) := by decide +kernel
theorem dX6_nextOf_18 : decode cX6_nextOf 18 = .ok (.aload_n 0, 1) := by decide +kernel
theorem dX6_nextOf_19 : decode cX6_nextOf 19 = .ok (.bipush 27, 2) := by decide +kernel
theorem dX6_nextOf_21 : decode cX6_nextOf 21 = .ok (.iaload, 1) := by decide +kernel
theorem dX6_nextOf_22 : decode cX6_nextOf 22 = .ok (.irem, 1) := by decide +kernel
theorem dX6_nextOf_23 : decode cX6_nextOf 23 = .ok (.istore 4, 2) := by decide +kernel
theorem dX6_nextOf_25 : decode cX6_nextOf 25 = .ok (.aload_n 0, 1) := by decide +kernel
theorem dX6_nextOf_26 : decode cX6_nextOf 26 = .ok (.iload 4, 2) := by decide +kernel
theorem dX6_nextOf_28 : decode cX6_nextOf 28 = .ok (.invokestatic 63, 3) := by decide +kernel
theorem dX6_nextOf_31 : decode cX6_nextOf 31 = .ok (.ifCond .ne 19, 3) := by decide +kernel
theorem dX6_nextOf_34 : decode cX6_nextOf 34 = .ok (.iload_n 2, 1) := by decide +kernel
theorem dX6_nextOf_35 : decode cX6_nextOf 35 = .ok (.ifCond .eq 12, 3) := by decide +kernel
theorem dX6_nextOf_38 : decode cX6_nextOf 38 = .ok (.aload_n 0, 1) := by decide +kernel
theorem dX6_nextOf_39 : decode cX6_nextOf 39 = .ok (.iload 4, 2) := by decide +kernel
theorem dX6_nextOf_41 : decode cX6_nextOf 41 = .ok (.invokestatic 67, 3) := by decide +kernel
theorem dX6_nextOf_44 : decode cX6_nextOf 44 = .ok (.ifCond .ne 6, 3) := by decide +kernel
theorem dX6_nextOf_47 : decode cX6_nextOf 47 = .ok (.iload 4, 2) := by decide +kernel
theorem dX6_nextOf_49 : decode cX6_nextOf 49 = .ok (.ireturn, 1) := by decide +kernel
theorem dX6_nextOf_50 : decode cX6_nextOf 50 = .ok (.iinc 3 1, 3) := by decide +kernel
theorem dX6_nextOf_53 : decode cX6_nextOf 53 = .ok (.goto (-51), 3) := by decide +kernel
theorem dX6_nextOf_56 : decode cX6_nextOf 56 = .ok (.bipush (-4), 2) := by decide +kernel
theorem dX6_nextOf_58 : decode cX6_nextOf 58 = .ok (.ireturn, 1) := by decide +kernel
theorem dX6_goesOn_0 : decode cX6_goesOn 0 = .ok (.aload_n 0, 1) := by decide +kernel
theorem dX6_goesOn_1 : decode cX6_goesOn 1 = .ok (.bipush 29, 2) := by decide +kernel
theorem dX6_goesOn_3 : decode cX6_goesOn 3 = .ok (.iload_n 1, 1) := by decide +kernel
theorem dX6_goesOn_4 : decode cX6_goesOn 4 = .ok (.iadd, 1) := by decide +kernel
theorem dX6_goesOn_5 : decode cX6_goesOn 5 = .ok (.iaload, 1) := by decide +kernel
theorem dX6_goesOn_6 : decode cX6_goesOn 6 = .ok (.istore_n 3, 1) := by decide +kernel
theorem dX6_goesOn_7 : decode cX6_goesOn 7 = .ok (.iload_n 2, 1) := by decide +kernel
theorem dX6_goesOn_8 : decode cX6_goesOn 8 = .ok (.ifCond .eq 17, 3) := by decide +kernel
theorem dX6_goesOn_11 : decode cX6_goesOn 11 = .ok (.iload_n 3, 1) := by decide +kernel
theorem dX6_goesOn_12 : decode cX6_goesOn 12 = .ok (.iconst 1, 1) := by decide +kernel
theorem dX6_goesOn_13 : decode cX6_goesOn 13 = .ok (.if_icmp .eq 8, 3) := by decide +kernel
theorem dX6_goesOn_16 : decode cX6_goesOn 16 = .ok (.iload_n 3, 1) := by decide +kernel
theorem dX6_goesOn_17 : decode cX6_goesOn 17 = .ok (.iconst 3, 1) := by decide +kernel
theorem dX6_goesOn_18 : decode cX6_goesOn 18 = .ok (.if_icmp .ne 7, 3) := by decide +kernel
theorem dX6_goesOn_21 : decode cX6_goesOn 21 = .ok (.iconst 1, 1) := by decide +kernel
theorem dX6_goesOn_22 : decode cX6_goesOn 22 = .ok (.goto 4, 3) := by decide +kernel
theorem dX6_goesOn_25 : decode cX6_goesOn 25 = .ok (.iconst 0, 1) := by decide +kernel
theorem dX6_goesOn_26 : decode cX6_goesOn 26 = .ok (.istore 4, 2) := by decide +kernel
theorem dX6_goesOn_28 : decode cX6_goesOn 28 = .ok (.iload 4, 2) := by decide +kernel
theorem dX6_goesOn_30 : decode cX6_goesOn 30 = .ok (.ifCond .ne 69, 3) := by decide +kernel
theorem dX6_goesOn_33 : decode cX6_goesOn 33 = .ok (.aload_n 0, 1) := by decide +kernel
theorem dX6_goesOn_34 : decode cX6_goesOn 34 = .ok (.iload_n 1, 1) := by decide +kernel
theorem dX6_goesOn_35 : decode cX6_goesOn 35 = .ok (.iload_n 3, 1) := by decide +kernel
theorem dX6_goesOn_36 : decode cX6_goesOn 36 = .ok (.iconst 2, 1) := by decide +kernel
theorem dX6_goesOn_37 : decode cX6_goesOn 37 = .ok (.if_icmp .eq 8, 3) := by decide +kernel
theorem dX6_goesOn_40 : decode cX6_goesOn 40 = .ok (.iload_n 3, 1) := by decide +kernel
theorem dX6_goesOn_41 : decode cX6_goesOn 41 = .ok (.iconst 4, 1) := by decide +kernel
theorem dX6_goesOn_42 : decode cX6_goesOn 42 = .ok (.if_icmp .ne 7, 3) := by decide +kernel
theorem dX6_goesOn_45 : decode cX6_goesOn 45 = .ok (.iconst 1, 1) := by decide +kernel
theorem dX6_goesOn_46 : decode cX6_goesOn 46 = .ok (.goto 4, 3) := by decide +kernel
theorem dX6_goesOn_49 : decode cX6_goesOn 49 = .ok (.iconst 0, 1) := by decide +kernel
theorem dX6_goesOn_50 : decode cX6_goesOn 50 = .ok (.invokestatic 130, 3) := by decide +kernel
theorem dX6_goesOn_53 : decode cX6_goesOn 53 = .ok (.istore 5, 2) := by decide +kernel
theorem dX6_goesOn_55 : decode cX6_goesOn 55 = .ok (.iload 5, 2) := by decide +kernel
theorem dX6_goesOn_57 : decode cX6_goesOn 57 = .ok (.bipush (-4), 2) := by decide +kernel
theorem dX6_goesOn_59 : decode cX6_goesOn 59 = .ok (.if_icmp .ne 12, 3) := by decide +kernel
theorem dX6_goesOn_62 : decode cX6_goesOn 62 = .ok (.aload_n 0, 1) := by decide +kernel
theorem dX6_goesOn_63 : decode cX6_goesOn 63 = .ok (.iload_n 1, 1) := by decide +kernel
theorem dX6_goesOn_64 : decode cX6_goesOn 64 = .ok (.iconst 0, 1) := by decide +kernel
theorem dX6_goesOn_65 : decode cX6_goesOn 65 = .ok (.invokestatic 130, 3) := by decide +kernel
theorem dX6_goesOn_68 : decode cX6_goesOn 68 = .ok (.goto 5, 3) := by decide +kernel
theorem dX6_goesOn_71 : decode cX6_goesOn 71 = .ok (.iload 5, 2) := by decide +kernel
theorem dX6_goesOn_73 : decode cX6_goesOn 73 = .ok (.istore 5, 2) := by decide +kernel
theorem dX6_goesOn_75 : decode cX6_goesOn 75 = .ok (.aload_n 0, 1) := by decide +kernel
theorem dX6_goesOn_76 : decode cX6_goesOn 76 = .ok (.bipush 21, 2) := by decide +kernel
theorem dX6_goesOn_78 : decode cX6_goesOn 78 = .ok (.iload_n 1, 1) := by decide +kernel
theorem dX6_goesOn_79 : decode cX6_goesOn 79 = .ok (.iadd, 1) := by decide +kernel
theorem dX6_goesOn_80 : decode cX6_goesOn 80 = .ok (.iload 5, 2) := by decide +kernel
theorem dX6_goesOn_82 : decode cX6_goesOn 82 = .ok (.bipush (-4), 2) := by decide +kernel
theorem dX6_goesOn_84 : decode cX6_goesOn 84 = .ok (.if_icmp .ne 12, 3) := by decide +kernel
theorem dX6_goesOn_87 : decode cX6_goesOn 87 = .ok (.aload_n 0, 1) := by decide +kernel
theorem dX6_goesOn_88 : decode cX6_goesOn 88 = .ok (.bipush 21, 2) := by decide +kernel
theorem dX6_goesOn_90 : decode cX6_goesOn 90 = .ok (.iload_n 1, 1) := by decide +kernel
theorem dX6_goesOn_91 : decode cX6_goesOn 91 = .ok (.iadd, 1) := by decide +kernel
theorem dX6_goesOn_92 : decode cX6_goesOn 92 = .ok (.iaload, 1) := by decide +kernel
theorem dX6_goesOn_93 : decode cX6_goesOn 93 = .ok (.goto 5, 3) := by decide +kernel
theorem dX6_goesOn_96 : decode cX6_goesOn 96 = .ok (.iload 5, 2) := by decide +kernel
theorem dX6_goesOn_98 : decode cX6_goesOn 98 = .ok (.iastore, 1) := by decide +kernel
theorem dX6_goesOn_99 : decode cX6_goesOn 99 = .ok (.return_, 1) := by decide +kernel
theorem dX6_turnIn_0 : decode cX6_turnIn 0 = .ok (.aload_n 1, 1) := by decide +kernel
theorem dX6_turnIn_1 : decode cX6_turnIn 1 = .ok (.bipush 21, 2) := by decide +kernel
theorem dX6_turnIn_3 : decode cX6_turnIn 3 = .ok (.iload_n 2, 1) := by decide +kernel
theorem dX6_turnIn_4 : decode cX6_turnIn 4 = .ok (.iadd, 1) := by decide +kernel
theorem dX6_turnIn_5 : decode cX6_turnIn 5 = .ok (.iaload, 1) := by decide +kernel
theorem dX6_turnIn_6 : decode cX6_turnIn 6 = .ok (.istore_n 3, 1) := by decide +kernel
theorem dX6_turnIn_7 : decode cX6_turnIn 7 = .ok (.aload_n 1, 1) := by decide +kernel
theorem dX6_turnIn_8 : decode cX6_turnIn 8 = .ok (.iload_n 3, 1) := by decide +kernel
theorem dX6_turnIn_9 : decode cX6_turnIn 9 = .ok (.invokestatic 63, 3) := by decide +kernel
theorem dX6_turnIn_12 : decode cX6_turnIn 12 = .ok (.ifCond .eq 10, 3) := by decide +kernel
theorem dX6_turnIn_15 : decode cX6_turnIn 15 = .ok (.aload_n 1, 1) := by decide +kernel
theorem dX6_turnIn_16 : decode cX6_turnIn 16 = .ok (.iload_n 2, 1) := by decide +kernel
theorem dX6_turnIn_17 : decode cX6_turnIn 17 = .ok (.iconst 0, 1) := by decide +kernel
theorem dX6_turnIn_18 : decode cX6_turnIn 18 = .ok (.invokestatic 134, 3) := by decide +kernel
theorem dX6_turnIn_21 : decode cX6_turnIn 21 = .ok (.return_, 1) := by decide +kernel
theorem dX6_turnIn_22 : decode cX6_turnIn 22 = .ok (.aload_n 1, 1) := by decide +kernel
theorem dX6_turnIn_23 : decode cX6_turnIn 23 = .ok (.iload_n 2, 1) := by decide +kernel
theorem dX6_turnIn_24 : decode cX6_turnIn 24 = .ok (.invokestatic 74, 3) := by decide +kernel
theorem dX6_turnIn_27 : decode cX6_turnIn 27 = .ok (.istore 4, 2) := by decide +kernel
theorem dX6_turnIn_29 : decode cX6_turnIn 29 = .ok (.aload_n 0, 1) := by decide +kernel
theorem dX6_turnIn_30 : decode cX6_turnIn 30 = .ok (.getfield 35, 3) := by decide +kernel
theorem dX6_turnIn_33 : decode cX6_turnIn 33 = .ok (.iload_n 3, 1) := by decide +kernel
theorem dX6_turnIn_34 : decode cX6_turnIn 34 = .ok (.iaload, 1) := by decide +kernel
theorem dX6_turnIn_35 : decode cX6_turnIn 35 = .ok (.iload 4, 2) := by decide +kernel
theorem dX6_turnIn_37 : decode cX6_turnIn 37 = .ok (.if_icmp .ge 12, 3) := by decide +kernel
theorem dX6_turnIn_40 : decode cX6_turnIn 40 = .ok (.aload_n 0, 1) := by decide +kernel
theorem dX6_turnIn_41 : decode cX6_turnIn 41 = .ok (.getfield 35, 3) := by decide +kernel
theorem dX6_turnIn_44 : decode cX6_turnIn 44 = .ok (.iload_n 3, 1) := by decide +kernel
theorem dX6_turnIn_45 : decode cX6_turnIn 45 = .ok (.iaload, 1) := by decide +kernel
theorem dX6_turnIn_46 : decode cX6_turnIn 46 = .ok (.goto 5, 3) := by decide +kernel
theorem dX6_turnIn_49 : decode cX6_turnIn 49 = .ok (.iload 4, 2) := by decide +kernel
theorem dX6_turnIn_51 : decode cX6_turnIn 51 = .ok (.istore 5, 2) := by decide +kernel
theorem dX6_turnIn_53 : decode cX6_turnIn 53 = .ok (.aload_n 0, 1) := by decide +kernel
theorem dX6_turnIn_54 : decode cX6_turnIn 54 = .ok (.getfield 35, 3) := by decide +kernel
theorem dX6_turnIn_57 : decode cX6_turnIn 57 = .ok (.iload_n 3, 1) := by decide +kernel
theorem dX6_turnIn_58 : decode cX6_turnIn 58 = .ok (.dup2, 1) := by decide +kernel
theorem dX6_turnIn_59 : decode cX6_turnIn 59 = .ok (.iaload, 1) := by decide +kernel
theorem dX6_turnIn_60 : decode cX6_turnIn 60 = .ok (.iload 5, 2) := by decide +kernel
theorem dX6_turnIn_62 : decode cX6_turnIn 62 = .ok (.isub, 1) := by decide +kernel
theorem dX6_turnIn_63 : decode cX6_turnIn 63 = .ok (.iastore, 1) := by decide +kernel
theorem dX6_turnIn_64 : decode cX6_turnIn 64 = .ok (.aload_n 1, 1) := by decide +kernel
theorem dX6_turnIn_65 : decode cX6_turnIn 65 = .ok (.iconst 2, 1) := by decide +kernel
theorem dX6_turnIn_66 : decode cX6_turnIn 66 = .ok (.dup2, 1) := by decide +kernel
theorem dX6_turnIn_67 : decode cX6_turnIn 67 = .ok (.iaload, 1) := by decide +kernel
theorem dX6_turnIn_68 : decode cX6_turnIn 68 = .ok (.iload 5, 2) := by decide +kernel
theorem dX6_turnIn_70 : decode cX6_turnIn 70 = .ok (.iadd, 1) := by decide +kernel
theorem dX6_turnIn_71 : decode cX6_turnIn 71 = .ok (.iastore, 1) := by decide +kernel
theorem dX6_turnIn_72 : decode cX6_turnIn 72 = .ok (.aload_n 1, 1) := by decide +kernel
theorem dX6_turnIn_73 : decode cX6_turnIn 73 = .ok (.iconst 3, 1) := by decide +kernel
theorem dX6_turnIn_74 : decode cX6_turnIn 74 = .ok (.iload_n 3, 1) := by decide +kernel
theorem dX6_turnIn_75 : decode cX6_turnIn 75 = .ok (.iadd, 1) := by decide +kernel
theorem dX6_turnIn_76 : decode cX6_turnIn 76 = .ok (.aload_n 1, 1) := by decide +kernel
theorem dX6_turnIn_77 : decode cX6_turnIn 77 = .ok (.iconst 3, 1) := by decide +kernel
theorem dX6_turnIn_78 : decode cX6_turnIn 78 = .ok (.iload_n 3, 1) := by decide +kernel
theorem dX6_turnIn_79 : decode cX6_turnIn 79 = .ok (.iadd, 1) := by decide +kernel
theorem dX6_turnIn_80 : decode cX6_turnIn 80 = .ok (.iaload, 1) := by decide +kernel
theorem dX6_turnIn_81 : decode cX6_turnIn 81 = .ok (.iload 5, 2) := by decide +kernel
theorem dX6_turnIn_83 : decode cX6_turnIn 83 = .ok (.if_icmp .le 14, 3) := by decide +kernel
theorem dX6_turnIn_86 : decode cX6_turnIn 86 = .ok (.aload_n 1, 1) := by decide +kernel
theorem dX6_turnIn_87 : decode cX6_turnIn 87 = .ok (.iconst 3, 1) := by decide +kernel
theorem dX6_turnIn_88 : decode cX6_turnIn 88 = .ok (.iload_n 3, 1) := by decide +kernel
theorem dX6_turnIn_89 : decode cX6_turnIn 89 = .ok (.iadd, 1) := by decide +kernel
theorem dX6_turnIn_90 : decode cX6_turnIn 90 = .ok (.iaload, 1) := by decide +kernel
theorem dX6_turnIn_91 : decode cX6_turnIn 91 = .ok (.iload 5, 2) := by decide +kernel
theorem dX6_turnIn_93 : decode cX6_turnIn 93 = .ok (.isub, 1) := by decide +kernel
theorem dX6_turnIn_94 : decode cX6_turnIn 94 = .ok (.goto 4, 3) := by decide +kernel
theorem dX6_turnIn_97 : decode cX6_turnIn 97 = .ok (.iconst 0, 1) := by decide +kernel
theorem dX6_turnIn_98 : decode cX6_turnIn 98 = .ok (.iastore, 1) := by decide +kernel
theorem dX6_turnIn_99 : decode cX6_turnIn 99 = .ok (.aload_n 0, 1) := by decide +kernel
theorem dX6_turnIn_100 : decode cX6_turnIn 100 = .ok (.getfield 38, 3) := by decide +kernel
theorem dX6_turnIn_103 : decode cX6_turnIn 103 = .ok (.iload_n 3, 1) := by decide +kernel
theorem dX6_turnIn_104 : decode cX6_turnIn 104 = .ok (.dup2, 1) := by decide +kernel
theorem dX6_turnIn_105 : decode cX6_turnIn 105 = .ok (.iaload, 1) := by decide +kernel
theorem dX6_turnIn_106 : decode cX6_turnIn 106 = .ok (.iload 5, 2) := by decide +kernel
theorem dX6_turnIn_108 : decode cX6_turnIn 108 = .ok (.ifCond .le 7, 3) := by decide +kernel
theorem dX6_turnIn_111 : decode cX6_turnIn 111 = .ok (.iconst 1, 1) := by decide +kernel
theorem dX6_turnIn_112 : decode cX6_turnIn 112 = .ok (.goto 4, 3) := by decide +kernel
theorem dX6_turnIn_115 : decode cX6_turnIn 115 = .ok (.iconst 0, 1) := by decide +kernel
theorem dX6_turnIn_116 : decode cX6_turnIn 116 = .ok (.iadd, 1) := by decide +kernel
theorem dX6_turnIn_117 : decode cX6_turnIn 117 = .ok (.iastore, 1) := by decide +kernel
theorem dX6_turnIn_118 : decode cX6_turnIn 118 = .ok (.iload 5, 2) := by decide +kernel
theorem dX6_turnIn_120 : decode cX6_turnIn 120 = .ok (.iload 4, 2) := by decide +kernel
theorem dX6_turnIn_122 : decode cX6_turnIn 122 = .ok (.if_icmp .ge 21, 3) := by decide +kernel
theorem dX6_turnIn_125 : decode cX6_turnIn 125 = .ok (.aload_n 1, 1) := by decide +kernel
theorem dX6_turnIn_126 : decode cX6_turnIn 126 = .ok (.iconst 3, 1) := by decide +kernel
theorem dX6_turnIn_127 : decode cX6_turnIn 127 = .ok (.iload_n 3, 1) := by decide +kernel
theorem dX6_turnIn_128 : decode cX6_turnIn 128 = .ok (.iadd, 1) := by decide +kernel
theorem dX6_turnIn_129 : decode cX6_turnIn 129 = .ok (.iaload, 1) := by decide +kernel
theorem dX6_turnIn_130 : decode cX6_turnIn 130 = .ok (.ifCond .le 13, 3) := by decide +kernel
theorem dX6_turnIn_133 : decode cX6_turnIn 133 = .ok (.aload_n 1, 1) := by decide +kernel
theorem dX6_turnIn_134 : decode cX6_turnIn 134 = .ok (.bipush 15, 2) := by decide +kernel
theorem dX6_turnIn_136 : decode cX6_turnIn 136 = .ok (.iload_n 3, 1) := by decide +kernel
theorem dX6_turnIn_137 : decode cX6_turnIn 137 = .ok (.iadd, 1) := by decide +kernel
theorem dX6_turnIn_138 : decode cX6_turnIn 138 = .ok (.dup2, 1) := by decide +kernel
theorem dX6_turnIn_139 : decode cX6_turnIn 139 = .ok (.iaload, 1) := by decide +kernel
theorem dX6_turnIn_140 : decode cX6_turnIn 140 = .ok (.iconst 1, 1) := by decide +kernel
theorem dX6_turnIn_141 : decode cX6_turnIn 141 = .ok (.iadd, 1) := by decide +kernel
theorem dX6_turnIn_142 : decode cX6_turnIn 142 = .ok (.iastore, 1) := by decide +kernel
theorem dX6_turnIn_143 : decode cX6_turnIn 143 = .ok (.aload_n 1, 1) := by decide +kernel
theorem dX6_turnIn_144 : decode cX6_turnIn 144 = .ok (.iload_n 2, 1) := by decide +kernel
theorem dX6_turnIn_145 : decode cX6_turnIn 145 = .ok (.iload 5, 2) := by decide +kernel
theorem dX6_turnIn_147 : decode cX6_turnIn 147 = .ok (.iload 4, 2) := by decide +kernel
theorem dX6_turnIn_149 : decode cX6_turnIn 149 = .ok (.if_icmp .ne 15, 3) := by decide +kernel
theorem dX6_turnIn_152 : decode cX6_turnIn 152 = .ok (.aload_n 1, 1) := by decide +kernel
theorem dX6_turnIn_153 : decode cX6_turnIn 153 = .ok (.iload_n 3, 1) := by decide +kernel
theorem dX6_turnIn_154 : decode cX6_turnIn 154 = .ok (.invokestatic 63, 3) := by decide +kernel
theorem dX6_turnIn_157 : decode cX6_turnIn 157 = .ok (.ifCond .ne 7, 3) := by decide +kernel
theorem dX6_turnIn_160 : decode cX6_turnIn 160 = .ok (.iconst 1, 1) := by decide +kernel
theorem dX6_turnIn_161 : decode cX6_turnIn 161 = .ok (.goto 4, 3) := by decide +kernel
theorem dX6_turnIn_164 : decode cX6_turnIn 164 = .ok (.iconst 0, 1) := by decide +kernel
theorem dX6_turnIn_165 : decode cX6_turnIn 165 = .ok (.invokestatic 134, 3) := by decide +kernel
theorem dX6_turnIn_168 : decode cX6_turnIn 168 = .ok (.return_, 1) := by decide +kernel
theorem dX6_nightIn_0 : decode cX6_nightIn 0 = .ok (.aload_n 1, 1) := by decide +kernel
theorem dX6_nightIn_1 : decode cX6_nightIn 1 = .ok (.invokestatic 126, 3) := by decide +kernel
theorem dX6_nightIn_4 : decode cX6_nightIn 4 = .ok (.istore_n 3, 1) := by decide +kernel
theorem dX6_nightIn_5 : decode cX6_nightIn 5 = .ok (.iconst 0, 1) := by decide +kernel
theorem dX6_nightIn_6 : decode cX6_nightIn 6 = .ok (.istore 4, 2) := by decide +kernel
theorem dX6_nightIn_8 : decode cX6_nightIn 8 = .ok (.iload 4, 2) := by decide +kernel
theorem dX6_nightIn_10 : decode cX6_nightIn 10 = .ok (.aload_n 1, 1) := by decide +kernel
theorem dX6_nightIn_11 : decode cX6_nightIn 11 = .ok (.bipush 27, 2) := by decide +kernel
theorem dX6_nightIn_13 : decode cX6_nightIn 13 = .ok (.iaload, 1) := by decide +kernel
theorem dX6_nightIn_14 : decode cX6_nightIn 14 = .ok (.if_icmp .ge 40, 3) := by decide +kernel
theorem dX6_nightIn_17 : decode cX6_nightIn 17 = .ok (.aload_n 0, 1) := by decide +kernel
theorem dX6_nightIn_18 : decode cX6_nightIn 18 = .ok (.getfield 35, 3) := by decide +kernel
theorem dX6_nightIn_21 : decode cX6_nightIn 21 = .ok (.iload 4, 2) := by decide +kernel
theorem dX6_nightIn_23 : decode cX6_nightIn 23 = .ok (.iload_n 3, 1) := by decide +kernel
theorem dX6_nightIn_24 : decode cX6_nightIn 24 = .ok (.ifCond .ne 12, 3) := by decide +kernel
theorem dX6_nightIn_27 : decode cX6_nightIn 27 = .ok (.aload_n 1, 1) := by decide +kernel
theorem dX6_nightIn_28 : decode cX6_nightIn 28 = .ok (.iload 4, 2) := by decide +kernel
theorem dX6_nightIn_30 : decode cX6_nightIn 30 = .ok (.invokestatic 63, 3) := by decide +kernel
theorem dX6_nightIn_33 : decode cX6_nightIn 33 = .ok (.ifCond .eq 7, 3) := by decide +kernel
theorem dX6_nightIn_36 : decode cX6_nightIn 36 = .ok (.iconst 0, 1) := by decide +kernel
theorem dX6_nightIn_37 : decode cX6_nightIn 37 = .ok (.goto 10, 3) := by decide +kernel
theorem dX6_nightIn_40 : decode cX6_nightIn 40 = .ok (.aload_n 1, 1) := by decide +kernel
theorem dX6_nightIn_41 : decode cX6_nightIn 41 = .ok (.bipush 9, 2) := by decide +kernel
theorem dX6_nightIn_43 : decode cX6_nightIn 43 = .ok (.iload 4, 2) := by decide +kernel
theorem dX6_nightIn_45 : decode cX6_nightIn 45 = .ok (.iadd, 1) := by decide +kernel
theorem dX6_nightIn_46 : decode cX6_nightIn 46 = .ok (.iaload, 1) := by decide +kernel
theorem dX6_nightIn_47 : decode cX6_nightIn 47 = .ok (.iastore, 1) := by decide +kernel
theorem dX6_nightIn_48 : decode cX6_nightIn 48 = .ok (.iinc 4 1, 3) := by decide +kernel
theorem dX6_nightIn_51 : decode cX6_nightIn 51 = .ok (.goto (-43), 3) := by decide +kernel
theorem dX6_nightIn_54 : decode cX6_nightIn 54 = .ok (.iconst 0, 1) := by decide +kernel
theorem dX6_nightIn_55 : decode cX6_nightIn 55 = .ok (.istore 4, 2) := by decide +kernel
theorem dX6_nightIn_57 : decode cX6_nightIn 57 = .ok (.iload 4, 2) := by decide +kernel
theorem dX6_nightIn_59 : decode cX6_nightIn 59 = .ok (.aload_n 1, 1) := by decide +kernel
theorem dX6_nightIn_60 : decode cX6_nightIn 60 = .ok (.bipush 28, 2) := by decide +kernel
theorem dX6_nightIn_62 : decode cX6_nightIn 62 = .ok (.iaload, 1) := by decide +kernel
theorem dX6_nightIn_63 : decode cX6_nightIn 63 = .ok (.if_icmp .ge 29, 3) := by decide +kernel
theorem dX6_nightIn_66 : decode cX6_nightIn 66 = .ok (.iload_n 3, 1) := by decide +kernel
theorem dX6_nightIn_67 : decode cX6_nightIn 67 = .ok (.ifCond .ne 25, 3) := by decide +kernel
theorem dX6_nightIn_70 : decode cX6_nightIn 70 = .ok (.iload_n 2, 1) := by decide +kernel
theorem dX6_nightIn_71 : decode cX6_nightIn 71 = .ok (.iload 4, 2) := by decide +kernel
theorem dX6_nightIn_73 : decode cX6_nightIn 73 = .ok (.invokestatic 138, 3) := by decide +kernel
theorem dX6_nightIn_76 : decode cX6_nightIn 76 = .ok (.ifCond .ne 10, 3) := by decide +kernel
theorem dX6_nightIn_79 : decode cX6_nightIn 79 = .ok (.aload_n 0, 1) := by decide +kernel
theorem dX6_nightIn_80 : decode cX6_nightIn 80 = .ok (.aload_n 1, 1) := by decide +kernel
theorem dX6_nightIn_81 : decode cX6_nightIn 81 = .ok (.iload 4, 2) := by decide +kernel
theorem dX6_nightIn_83 : decode cX6_nightIn 83 = .ok (.invokevirtual 141, 3) := by decide +kernel
theorem dX6_nightIn_86 : decode cX6_nightIn 86 = .ok (.iinc 4 1, 3) := by decide +kernel
theorem dX6_nightIn_89 : decode cX6_nightIn 89 = .ok (.goto (-32), 3) := by decide +kernel
theorem dX6_nightIn_92 : decode cX6_nightIn 92 = .ok (.iconst 0, 1) := by decide +kernel
theorem dX6_nightIn_93 : decode cX6_nightIn 93 = .ok (.istore 4, 2) := by decide +kernel
theorem dX6_nightIn_95 : decode cX6_nightIn 95 = .ok (.iload 4, 2) := by decide +kernel
theorem dX6_nightIn_97 : decode cX6_nightIn 97 = .ok (.aload_n 1, 1) := by decide +kernel
theorem dX6_nightIn_98 : decode cX6_nightIn 98 = .ok (.bipush 27, 2) := by decide +kernel
theorem dX6_nightIn_100 : decode cX6_nightIn 100 = .ok (.iaload, 1) := by decide +kernel
theorem dX6_nightIn_101 : decode cX6_nightIn 101 = .ok (.if_icmp .ge 107, 3) := by decide +kernel
theorem dX6_nightIn_104 : decode cX6_nightIn 104 = .ok (.aload_n 0, 1) := by decide +kernel
theorem dX6_nightIn_105 : decode cX6_nightIn 105 = .ok (.getfield 35, 3) := by decide +kernel
theorem dX6_nightIn_108 : decode cX6_nightIn 108 = .ok (.iload 4, 2) := by decide +kernel
theorem dX6_nightIn_110 : decode cX6_nightIn 110 = .ok (.aload_n 1, 1) := by decide +kernel
theorem dX6_nightIn_111 : decode cX6_nightIn 111 = .ok (.iload 4, 2) := by decide +kernel
theorem dX6_nightIn_113 : decode cX6_nightIn 113 = .ok (.invokestatic 63, 3) := by decide +kernel
theorem dX6_nightIn_116 : decode cX6_nightIn 116 = .ok (.ifCond .eq 7, 3) := by decide +kernel
theorem dX6_nightIn_119 : decode cX6_nightIn 119 = .ok (.iconst 0, 1) := by decide +kernel
theorem dX6_nightIn_120 : decode cX6_nightIn 120 = .ok (.goto 10, 3) := by decide +kernel
theorem dX6_nightIn_123 : decode cX6_nightIn 123 = .ok (.aload_n 0, 1) := by decide +kernel
theorem dX6_nightIn_124 : decode cX6_nightIn 124 = .ok (.getfield 35, 3) := by decide +kernel
theorem dX6_nightIn_127 : decode cX6_nightIn 127 = .ok (.iload 4, 2) := by decide +kernel
theorem dX6_nightIn_129 : decode cX6_nightIn 129 = .ok (.iaload, 1) := by decide +kernel
theorem dX6_nightIn_130 : decode cX6_nightIn 130 = .ok (.iastore, 1) := by decide +kernel
theorem dX6_nightIn_131 : decode cX6_nightIn 131 = .ok (.aload_n 1, 1) := by decide +kernel
theorem dX6_nightIn_132 : decode cX6_nightIn 132 = .ok (.iconst 3, 1) := by decide +kernel
theorem dX6_nightIn_133 : decode cX6_nightIn 133 = .ok (.iload 4, 2) := by decide +kernel
theorem dX6_nightIn_135 : decode cX6_nightIn 135 = .ok (.iadd, 1) := by decide +kernel
theorem dX6_nightIn_136 : decode cX6_nightIn 136 = .ok (.iaload, 1) := by decide +kernel
theorem dX6_nightIn_137 : decode cX6_nightIn 137 = .ok (.aload_n 1, 1) := by decide +kernel
theorem dX6_nightIn_138 : decode cX6_nightIn 138 = .ok (.iconst 3, 1) := by decide +kernel
theorem dX6_nightIn_139 : decode cX6_nightIn 139 = .ok (.iload 4, 2) := by decide +kernel
theorem dX6_nightIn_141 : decode cX6_nightIn 141 = .ok (.iadd, 1) := by decide +kernel
theorem dX6_nightIn_142 : decode cX6_nightIn 142 = .ok (.iaload, 1) := by decide +kernel
theorem dX6_nightIn_143 : decode cX6_nightIn 143 = .ok (.aload_n 1, 1) := by decide +kernel
theorem dX6_nightIn_144 : decode cX6_nightIn 144 = .ok (.bipush 26, 2) := by decide +kernel
theorem dX6_nightIn_146 : decode cX6_nightIn 146 = .ok (.iaload, 1) := by decide +kernel
theorem dX6_nightIn_147 : decode cX6_nightIn 147 = .ok (.imul, 1) := by decide +kernel
theorem dX6_nightIn_148 : decode cX6_nightIn 148 = .ok (.bipush 100, 2) := by decide +kernel
theorem dX6_nightIn_150 : decode cX6_nightIn 150 = .ok (.idiv, 1) := by decide +kernel
theorem dX6_nightIn_151 : decode cX6_nightIn 151 = .ok (.iadd, 1) := by decide +kernel
theorem dX6_nightIn_152 : decode cX6_nightIn 152 = .ok (.istore 5, 2) := by decide +kernel
theorem dX6_nightIn_154 : decode cX6_nightIn 154 = .ok (.iload_n 3, 1) := by decide +kernel
theorem dX6_nightIn_155 : decode cX6_nightIn 155 = .ok (.ifCond .ne 12, 3) := by decide +kernel
theorem dX6_nightIn_158 : decode cX6_nightIn 158 = .ok (.aload_n 1, 1) := by decide +kernel
theorem dX6_nightIn_159 : decode cX6_nightIn 159 = .ok (.iload 4, 2) := by decide +kernel
theorem dX6_nightIn_161 : decode cX6_nightIn 161 = .ok (.invokestatic 63, 3) := by decide +kernel
theorem dX6_nightIn_164 : decode cX6_nightIn 164 = .ok (.ifCond .eq 12, 3) := by decide +kernel
theorem dX6_nightIn_167 : decode cX6_nightIn 167 = .ok (.aload_n 1, 1) := by decide +kernel
theorem dX6_nightIn_168 : decode cX6_nightIn 168 = .ok (.iconst 3, 1) := by decide +kernel
theorem dX6_nightIn_169 : decode cX6_nightIn 169 = .ok (.iload 4, 2) := by decide +kernel
theorem dX6_nightIn_171 : decode cX6_nightIn 171 = .ok (.iadd, 1) := by decide +kernel
theorem dX6_nightIn_172 : decode cX6_nightIn 172 = .ok (.iaload, 1) := by decide +kernel
theorem dX6_nightIn_173 : decode cX6_nightIn 173 = .ok (.goto 5, 3) := by decide +kernel
theorem dX6_nightIn_176 : decode cX6_nightIn 176 = .ok (.iload 5, 2) := by decide +kernel
theorem dX6_nightIn_178 : decode cX6_nightIn 178 = .ok (.istore 5, 2) := by decide +kernel
theorem dX6_nightIn_180 : decode cX6_nightIn 180 = .ok (.aload_n 1, 1) := by decide +kernel
theorem dX6_nightIn_181 : decode cX6_nightIn 181 = .ok (.iconst 3, 1) := by decide +kernel
theorem dX6_nightIn_182 : decode cX6_nightIn 182 = .ok (.iload 4, 2) := by decide +kernel
theorem dX6_nightIn_184 : decode cX6_nightIn 184 = .ok (.iadd, 1) := by decide +kernel
theorem dX6_nightIn_185 : decode cX6_nightIn 185 = .ok (.iload 5, 2) := by decide +kernel
theorem dX6_nightIn_187 : decode cX6_nightIn 187 = .ok (.sipush 9999, 3) := by decide +kernel
theorem dX6_nightIn_190 : decode cX6_nightIn 190 = .ok (.if_icmp .le 9, 3) := by decide +kernel
theorem dX6_nightIn_193 : decode cX6_nightIn 193 = .ok (.sipush 9999, 3) := by decide +kernel
theorem dX6_nightIn_196 : decode cX6_nightIn 196 = .ok (.goto 5, 3) := by decide +kernel
theorem dX6_nightIn_199 : decode cX6_nightIn 199 = .ok (.iload 5, 2) := by decide +kernel
theorem dX6_nightIn_201 : decode cX6_nightIn 201 = .ok (.iastore, 1) := by decide +kernel
theorem dX6_nightIn_202 : decode cX6_nightIn 202 = .ok (.iinc 4 1, 3) := by decide +kernel
theorem dX6_nightIn_205 : decode cX6_nightIn 205 = .ok (.goto (-110), 3) := by decide +kernel
theorem dX6_nightIn_208 : decode cX6_nightIn 208 = .ok (.aload_n 1, 1) := by decide +kernel
theorem dX6_nightIn_209 : decode cX6_nightIn 209 = .ok (.iconst 0, 1) := by decide +kernel
theorem dX6_nightIn_210 : decode cX6_nightIn 210 = .ok (.dup2, 1) := by decide +kernel
theorem dX6_nightIn_211 : decode cX6_nightIn 211 = .ok (.iaload, 1) := by decide +kernel
theorem dX6_nightIn_212 : decode cX6_nightIn 212 = .ok (.iconst 1, 1) := by decide +kernel
theorem dX6_nightIn_213 : decode cX6_nightIn 213 = .ok (.iadd, 1) := by decide +kernel
theorem dX6_nightIn_214 : decode cX6_nightIn 214 = .ok (.iastore, 1) := by decide +kernel
theorem dX6_nightIn_215 : decode cX6_nightIn 215 = .ok (.return_, 1) := by decide +kernel
theorem dX6_nights_0 : decode cX6_nights 0 = .ok (.iload_n 1, 1) := by decide +kernel
theorem dX6_nights_1 : decode cX6_nights 1 = .ok (.iconst 1, 1) := by decide +kernel
theorem dX6_nights_2 : decode cX6_nights 2 = .ok (.bipush 40, 2) := by decide +kernel
theorem dX6_nights_4 : decode cX6_nights 4 = .ok (.invokestatic 47, 3) := by decide +kernel
theorem dX6_nights_7 : decode cX6_nights 7 = .ok (.ifCond .ne 5, 3) := by decide +kernel
theorem dX6_nights_10 : decode cX6_nights 10 = .ok (.iconst (-1), 1) := by decide +kernel
theorem dX6_nights_11 : decode cX6_nights 11 = .ok (.ireturn, 1) := by decide +kernel
theorem dX6_nights_12 : decode cX6_nights 12 = .ok (.aload_n 0, 1) := by decide +kernel
theorem dX6_nights_13 : decode cX6_nights 13 = .ok (.getfield 23, 3) := by decide +kernel
theorem dX6_nights_16 : decode cX6_nights 16 = .ok (.iconst 0, 1) := by decide +kernel
theorem dX6_nights_17 : decode cX6_nights 17 = .ok (.iaload, 1) := by decide +kernel
theorem dX6_nights_18 : decode cX6_nights 18 = .ok (.iload_n 1, 1) := by decide +kernel
theorem dX6_nights_19 : decode cX6_nights 19 = .ok (.iadd, 1) := by decide +kernel
theorem dX6_nights_20 : decode cX6_nights 20 = .ok (.sipush 9999, 3) := by decide +kernel
theorem dX6_nights_23 : decode cX6_nights 23 = .ok (.if_icmp .le 6, 3) := by decide +kernel
theorem dX6_nights_26 : decode cX6_nights 26 = .ok (.bipush (-3), 2) := by decide +kernel
theorem dX6_nights_28 : decode cX6_nights 28 = .ok (.ireturn, 1) := by decide +kernel
theorem dX6_nights_29 : decode cX6_nights 29 = .ok (.iconst 0, 1) := by decide +kernel
theorem dX6_nights_30 : decode cX6_nights 30 = .ok (.istore_n 2, 1) := by decide +kernel
theorem dX6_nights_31 : decode cX6_nights 31 = .ok (.iload_n 2, 1) := by decide +kernel
theorem dX6_nights_32 : decode cX6_nights 32 = .ok (.iload_n 1, 1) := by decide +kernel
theorem dX6_nights_33 : decode cX6_nights 33 = .ok (.if_icmp .ge 22, 3) := by decide +kernel
theorem dX6_nights_36 : decode cX6_nights 36 = .ok (.aload_n 0, 1) := by decide +kernel
theorem dX6_nights_37 : decode cX6_nights 37 = .ok (.invokevirtual 145, 3) := by decide +kernel
theorem dX6_nights_40 : decode cX6_nights 40 = .ok (.aload_n 0, 1) := by decide +kernel
theorem dX6_nights_41 : decode cX6_nights 41 = .ok (.aload_n 0, 1) := by decide +kernel
theorem dX6_nights_42 : decode cX6_nights 42 = .ok (.getfield 23, 3) := by decide +kernel
theorem dX6_nights_45 : decode cX6_nights 45 = .ok (.iconst 0, 1) := by decide +kernel
theorem dX6_nights_46 : decode cX6_nights 46 = .ok (.invokevirtual 148, 3) := by decide +kernel
theorem dX6_nights_49 : decode cX6_nights 49 = .ok (.iinc 2 1, 3) := by decide +kernel
theorem dX6_nights_52 : decode cX6_nights 52 = .ok (.goto (-21), 3) := by decide +kernel
theorem dX6_nights_55 : decode cX6_nights 55 = .ok (.aload_n 0, 1) := by decide +kernel
theorem dX6_nights_56 : decode cX6_nights 56 = .ok (.getfield 23, 3) := by decide +kernel
theorem dX6_nights_59 : decode cX6_nights 59 = .ok (.invokestatic 119, 3) := by decide +kernel
theorem dX6_nights_62 : decode cX6_nights 62 = .ok (.ireturn, 1) := by decide +kernel
theorem dX6_put_0 : decode cX6_put 0 = .ok (.aload_n 0, 1) := by decide +kernel
theorem dX6_put_1 : decode cX6_put 1 = .ok (.iload_n 1, 1) := by decide +kernel
theorem dX6_put_2 : decode cX6_put 2 = .ok (.invokevirtual 55, 3) := by decide +kernel
theorem dX6_put_5 : decode cX6_put 5 = .ok (.ifCond .eq 13, 3) := by decide +kernel
theorem dX6_put_8 : decode cX6_put 8 = .ok (.iload_n 2, 1) := by decide +kernel
theorem dX6_put_9 : decode cX6_put 9 = .ok (.iconst 0, 1) := by decide +kernel
theorem dX6_put_10 : decode cX6_put 10 = .ok (.bipush 20, 2) := by decide +kernel
theorem dX6_put_12 : decode cX6_put 12 = .ok (.invokestatic 47, 3) := by decide +kernel
theorem dX6_put_15 : decode cX6_put 15 = .ok (.ifCond .ne 5, 3) := by decide +kernel
theorem dX6_put_18 : decode cX6_put 18 = .ok (.iconst (-1), 1) := by decide +kernel
theorem dX6_put_19 : decode cX6_put 19 = .ok (.ireturn, 1) := by decide +kernel
theorem dX6_put_20 : decode cX6_put 20 = .ok (.aload_n 0, 1) := by decide +kernel
theorem dX6_put_21 : decode cX6_put 21 = .ok (.getfield 23, 3) := by decide +kernel
theorem dX6_put_24 : decode cX6_put 24 = .ok (.bipush 9, 2) := by decide +kernel
theorem dX6_put_26 : decode cX6_put 26 = .ok (.iload_n 1, 1) := by decide +kernel
theorem dX6_put_27 : decode cX6_put 27 = .ok (.iadd, 1) := by decide +kernel
theorem dX6_put_28 : decode cX6_put 28 = .ok (.iaload, 1) := by decide +kernel
theorem dX6_put_29 : decode cX6_put 29 = .ok (.istore_n 3, 1) := by decide +kernel
theorem dX6_put_30 : decode cX6_put 30 = .ok (.iload_n 3, 1) := by decide +kernel
theorem dX6_put_31 : decode cX6_put 31 = .ok (.iload_n 2, 1) := by decide +kernel
theorem dX6_put_32 : decode cX6_put 32 = .ok (.if_icmp .ne 6, 3) := by decide +kernel
theorem dX6_put_35 : decode cX6_put 35 = .ok (.bipush (-2), 2) := by decide +kernel
theorem dX6_put_37 : decode cX6_put 37 = .ok (.ireturn, 1) := by decide +kernel
theorem dX6_put_38 : decode cX6_put 38 = .ok (.aload_n 0, 1) := by decide +kernel
theorem dX6_put_39 : decode cX6_put 39 = .ok (.invokevirtual 145, 3) := by decide +kernel
theorem dX6_put_42 : decode cX6_put 42 = .ok (.aload_n 0, 1) := by decide +kernel
theorem dX6_put_43 : decode cX6_put 43 = .ok (.getfield 23, 3) := by decide +kernel
theorem dX6_put_46 : decode cX6_put 46 = .ok (.bipush 9, 2) := by decide +kernel
theorem dX6_put_48 : decode cX6_put 48 = .ok (.iload_n 1, 1) := by decide +kernel
theorem dX6_put_49 : decode cX6_put 49 = .ok (.iadd, 1) := by decide +kernel
theorem dX6_put_50 : decode cX6_put 50 = .ok (.iload_n 2, 1) := by decide +kernel
theorem dX6_put_51 : decode cX6_put 51 = .ok (.iastore, 1) := by decide +kernel
theorem dX6_put_52 : decode cX6_put 52 = .ok (.iload_n 3, 1) := by decide +kernel
theorem dX6_put_53 : decode cX6_put 53 = .ok (.ireturn, 1) := by decide +kernel
theorem dX6_pay_0 : decode cX6_pay 0 = .ok (.aload_n 0, 1) := by decide +kernel
theorem dX6_pay_1 : decode cX6_pay 1 = .ok (.iload_n 1, 1) := by decide +kernel
theorem dX6_pay_2 : decode cX6_pay 2 = .ok (.invokevirtual 55, 3) := by decide +kernel
theorem dX6_pay_5 : decode cX6_pay 5 = .ok (.ifCond .eq 14, 3) := by decide +kernel
theorem dX6_pay_8 : decode cX6_pay 8 = .ok (.iload_n 2, 1) := by decide +kernel
theorem dX6_pay_9 : decode cX6_pay 9 = .ok (.iconst 1, 1) := by decide +kernel
theorem dX6_pay_10 : decode cX6_pay 10 = .ok (.sipush 9999, 3) := by decide +kernel
theorem dX6_pay_13 : decode cX6_pay 13 = .ok (.invokestatic 47, 3) := by decide +kernel
theorem dX6_pay_16 : decode cX6_pay 16 = .ok (.ifCond .ne 5, 3) := by decide +kernel
theorem dX6_pay_19 : decode cX6_pay 19 = .ok (.iconst (-1), 1) := by decide +kernel
theorem dX6_pay_20 : decode cX6_pay 20 = .ok (.ireturn, 1) := by decide +kernel
theorem dX6_pay_21 : decode cX6_pay 21 = .ok (.aload_n 0, 1) := by decide +kernel
theorem dX6_pay_22 : decode cX6_pay 22 = .ok (.getfield 23, 3) := by decide +kernel
theorem dX6_pay_25 : decode cX6_pay 25 = .ok (.iconst 3, 1) := by decide +kernel
theorem dX6_pay_26 : decode cX6_pay 26 = .ok (.iload_n 1, 1) := by decide +kernel
theorem dX6_pay_27 : decode cX6_pay 27 = .ok (.iadd, 1) := by decide +kernel
theorem dX6_pay_28 : decode cX6_pay 28 = .ok (.iaload, 1) := by decide +kernel
theorem dX6_pay_29 : decode cX6_pay 29 = .ok (.ifCond .ne 6, 3) := by decide +kernel
theorem dX6_pay_32 : decode cX6_pay 32 = .ok (.bipush (-2), 2) := by decide +kernel
theorem dX6_pay_34 : decode cX6_pay 34 = .ok (.ireturn, 1) := by decide +kernel
theorem dX6_pay_35 : decode cX6_pay 35 = .ok (.aload_n 0, 1) := by decide +kernel
theorem dX6_pay_36 : decode cX6_pay 36 = .ok (.invokevirtual 145, 3) := by decide +kernel
theorem dX6_pay_39 : decode cX6_pay 39 = .ok (.aload_n 0, 1) := by decide +kernel
theorem dX6_pay_40 : decode cX6_pay 40 = .ok (.getfield 23, 3) := by decide +kernel
theorem dX6_pay_43 : decode cX6_pay 43 = .ok (.iconst 3, 1) := by decide +kernel
theorem dX6_pay_44 : decode cX6_pay 44 = .ok (.iload_n 1, 1) := by decide +kernel
theorem dX6_pay_45 : decode cX6_pay 45 = .ok (.iadd, 1) := by decide +kernel
theorem dX6_pay_46 : decode cX6_pay 46 = .ok (.aload_n 0, 1) := by decide +kernel
theorem dX6_pay_47 : decode cX6_pay 47 = .ok (.getfield 23, 3) := by decide +kernel
theorem dX6_pay_50 : decode cX6_pay 50 = .ok (.iconst 3, 1) := by decide +kernel
theorem dX6_pay_51 : decode cX6_pay 51 = .ok (.iload_n 1, 1) := by decide +kernel
theorem dX6_pay_52 : decode cX6_pay 52 = .ok (.iadd, 1) := by decide +kernel
theorem dX6_pay_53 : decode cX6_pay 53 = .ok (.iaload, 1) := by decide +kernel
theorem dX6_pay_54 : decode cX6_pay 54 = .ok (.iload_n 2, 1) := by decide +kernel
theorem dX6_pay_55 : decode cX6_pay 55 = .ok (.if_icmp .le 16, 3) := by decide +kernel
theorem dX6_pay_58 : decode cX6_pay 58 = .ok (.aload_n 0, 1) := by decide +kernel
theorem dX6_pay_59 : decode cX6_pay 59 = .ok (.getfield 23, 3) := by decide +kernel
theorem dX6_pay_62 : decode cX6_pay 62 = .ok (.iconst 3, 1) := by decide +kernel
theorem dX6_pay_63 : decode cX6_pay 63 = .ok (.iload_n 1, 1) := by decide +kernel
theorem dX6_pay_64 : decode cX6_pay 64 = .ok (.iadd, 1) := by decide +kernel
theorem dX6_pay_65 : decode cX6_pay 65 = .ok (.iaload, 1) := by decide +kernel
theorem dX6_pay_66 : decode cX6_pay 66 = .ok (.iload_n 2, 1) := by decide +kernel
theorem dX6_pay_67 : decode cX6_pay 67 = .ok (.isub, 1) := by decide +kernel
theorem dX6_pay_68 : decode cX6_pay 68 = .ok (.goto 4, 3) := by decide +kernel
theorem dX6_pay_71 : decode cX6_pay 71 = .ok (.iconst 0, 1) := by decide +kernel
theorem dX6_pay_72 : decode cX6_pay 72 = .ok (.iastore, 1) := by decide +kernel
theorem dX6_pay_73 : decode cX6_pay 73 = .ok (.aload_n 0, 1) := by decide +kernel
end
section
theorem dX6_pay_74 : decode cX6_pay 74 = .ok (.getfield 23, 3) := by decide +kernel
theorem dX6_pay_77 : decode cX6_pay 77 = .ok (.iconst 3, 1) := by decide +kernel
theorem dX6_pay_78 : decode cX6_pay 78 = .ok (.iload_n 1, 1) := by decide +kernel
theorem dX6_pay_79 : decode cX6_pay 79 = .ok (.iadd, 1) := by decide +kernel
theorem dX6_pay_80 : decode cX6_pay 80 = .ok (.iaload, 1) := by decide +kernel
theorem dX6_pay_81 : decode cX6_pay 81 = .ok (.ireturn, 1) := by decide +kernel
theorem dX6_drive_0 : decode cX6_drive 0 = .ok (.aload_n 0, 1) := by decide +kernel
theorem dX6_drive_1 : decode cX6_drive 1 = .ok (.iload_n 1, 1) := by decide +kernel
theorem dX6_drive_2 : decode cX6_drive 2 = .ok (.invokevirtual 71, 3) := by decide +kernel
theorem dX6_drive_5 : decode cX6_drive 5 = .ok (.ifCond .eq 11, 3) := by decide +kernel
theorem dX6_drive_8 : decode cX6_drive 8 = .ok (.aload_n 0, 1) := by decide +kernel
theorem dX6_drive_9 : decode cX6_drive 9 = .ok (.iload_n 2, 1) := by decide +kernel
theorem dX6_drive_10 : decode cX6_drive 10 = .ok (.invokevirtual 55, 3) := by decide +kernel
theorem dX6_drive_13 : decode cX6_drive 13 = .ok (.ifCond .ne 5, 3) := by decide +kernel
theorem dX6_drive_16 : decode cX6_drive 16 = .ok (.iconst (-1), 1) := by decide +kernel
theorem dX6_drive_17 : decode cX6_drive 17 = .ok (.ireturn, 1) := by decide +kernel
theorem dX6_drive_18 : decode cX6_drive 18 = .ok (.aload_n 0, 1) := by decide +kernel
theorem dX6_drive_19 : decode cX6_drive 19 = .ok (.getfield 23, 3) := by decide +kernel
theorem dX6_drive_22 : decode cX6_drive 22 = .ok (.bipush 21, 2) := by decide +kernel
theorem dX6_drive_24 : decode cX6_drive 24 = .ok (.iload_n 1, 1) := by decide +kernel
theorem dX6_drive_25 : decode cX6_drive 25 = .ok (.iadd, 1) := by decide +kernel
theorem dX6_drive_26 : decode cX6_drive 26 = .ok (.iaload, 1) := by decide +kernel
theorem dX6_drive_27 : decode cX6_drive 27 = .ok (.istore_n 3, 1) := by decide +kernel
theorem dX6_drive_28 : decode cX6_drive 28 = .ok (.iload_n 3, 1) := by decide +kernel
theorem dX6_drive_29 : decode cX6_drive 29 = .ok (.iload_n 2, 1) := by decide +kernel
theorem dX6_drive_30 : decode cX6_drive 30 = .ok (.if_icmp .ne 6, 3) := by decide +kernel
theorem dX6_drive_33 : decode cX6_drive 33 = .ok (.bipush (-2), 2) := by decide +kernel
theorem dX6_drive_35 : decode cX6_drive 35 = .ok (.ireturn, 1) := by decide +kernel
theorem dX6_drive_36 : decode cX6_drive 36 = .ok (.aload_n 0, 1) := by decide +kernel
theorem dX6_drive_37 : decode cX6_drive 37 = .ok (.invokevirtual 145, 3) := by decide +kernel
theorem dX6_drive_40 : decode cX6_drive 40 = .ok (.aload_n 0, 1) := by decide +kernel
theorem dX6_drive_41 : decode cX6_drive 41 = .ok (.getfield 23, 3) := by decide +kernel
theorem dX6_drive_44 : decode cX6_drive 44 = .ok (.bipush 21, 2) := by decide +kernel
theorem dX6_drive_46 : decode cX6_drive 46 = .ok (.iload_n 1, 1) := by decide +kernel
theorem dX6_drive_47 : decode cX6_drive 47 = .ok (.iadd, 1) := by decide +kernel
theorem dX6_drive_48 : decode cX6_drive 48 = .ok (.iload_n 2, 1) := by decide +kernel
theorem dX6_drive_49 : decode cX6_drive 49 = .ok (.iastore, 1) := by decide +kernel
theorem dX6_drive_50 : decode cX6_drive 50 = .ok (.iload_n 3, 1) := by decide +kernel
theorem dX6_drive_51 : decode cX6_drive 51 = .ok (.ireturn, 1) := by decide +kernel
theorem dX6_forgive_0 : decode cX6_forgive 0 = .ok (.aload_n 0, 1) := by decide +kernel
theorem dX6_forgive_1 : decode cX6_forgive 1 = .ok (.iload_n 1, 1) := by decide +kernel
theorem dX6_forgive_2 : decode cX6_forgive 2 = .ok (.invokevirtual 55, 3) := by decide +kernel
theorem dX6_forgive_5 : decode cX6_forgive 5 = .ok (.ifCond .ne 5, 3) := by decide +kernel
theorem dX6_forgive_8 : decode cX6_forgive 8 = .ok (.iconst (-1), 1) := by decide +kernel
theorem dX6_forgive_9 : decode cX6_forgive 9 = .ok (.ireturn, 1) := by decide +kernel
theorem dX6_forgive_10 : decode cX6_forgive 10 = .ok (.aload_n 0, 1) := by decide +kernel
theorem dX6_forgive_11 : decode cX6_forgive 11 = .ok (.getfield 23, 3) := by decide +kernel
theorem dX6_forgive_14 : decode cX6_forgive 14 = .ok (.bipush 15, 2) := by decide +kernel
theorem dX6_forgive_16 : decode cX6_forgive 16 = .ok (.iload_n 1, 1) := by decide +kernel
theorem dX6_forgive_17 : decode cX6_forgive 17 = .ok (.iadd, 1) := by decide +kernel
theorem dX6_forgive_18 : decode cX6_forgive 18 = .ok (.iaload, 1) := by decide +kernel
theorem dX6_forgive_19 : decode cX6_forgive 19 = .ok (.istore_n 2, 1) := by decide +kernel
theorem dX6_forgive_20 : decode cX6_forgive 20 = .ok (.iload_n 2, 1) := by decide +kernel
theorem dX6_forgive_21 : decode cX6_forgive 21 = .ok (.ifCond .ne 6, 3) := by decide +kernel
theorem dX6_forgive_24 : decode cX6_forgive 24 = .ok (.bipush (-2), 2) := by decide +kernel
theorem dX6_forgive_26 : decode cX6_forgive 26 = .ok (.ireturn, 1) := by decide +kernel
theorem dX6_forgive_27 : decode cX6_forgive 27 = .ok (.aload_n 0, 1) := by decide +kernel
theorem dX6_forgive_28 : decode cX6_forgive 28 = .ok (.invokevirtual 145, 3) := by decide +kernel
theorem dX6_forgive_31 : decode cX6_forgive 31 = .ok (.aload_n 0, 1) := by decide +kernel
theorem dX6_forgive_32 : decode cX6_forgive 32 = .ok (.getfield 23, 3) := by decide +kernel
theorem dX6_forgive_35 : decode cX6_forgive 35 = .ok (.bipush 15, 2) := by decide +kernel
theorem dX6_forgive_37 : decode cX6_forgive 37 = .ok (.iload_n 1, 1) := by decide +kernel
theorem dX6_forgive_38 : decode cX6_forgive 38 = .ok (.iadd, 1) := by decide +kernel
theorem dX6_forgive_39 : decode cX6_forgive 39 = .ok (.iconst 0, 1) := by decide +kernel
theorem dX6_forgive_40 : decode cX6_forgive 40 = .ok (.iastore, 1) := by decide +kernel
theorem dX6_forgive_41 : decode cX6_forgive 41 = .ok (.iload_n 2, 1) := by decide +kernel
theorem dX6_forgive_42 : decode cX6_forgive 42 = .ok (.ireturn, 1) := by decide +kernel
theorem dX6_drift_0 : decode cX6_drift 0 = .ok (.iload_n 1, 1) := by decide +kernel
theorem dX6_drift_1 : decode cX6_drift 1 = .ok (.iconst 1, 1) := by decide +kernel
theorem dX6_drift_2 : decode cX6_drift 2 = .ok (.bipush 40, 2) := by decide +kernel
theorem dX6_drift_4 : decode cX6_drift 4 = .ok (.invokestatic 47, 3) := by decide +kernel
theorem dX6_drift_7 : decode cX6_drift 7 = .ok (.ifCond .ne 5, 3) := by decide +kernel
theorem dX6_drift_10 : decode cX6_drift 10 = .ok (.iconst (-1), 1) := by decide +kernel
theorem dX6_drift_11 : decode cX6_drift 11 = .ok (.ireturn, 1) := by decide +kernel
theorem dX6_drift_12 : decode cX6_drift 12 = .ok (.aload_n 0, 1) := by decide +kernel
theorem dX6_drift_13 : decode cX6_drift 13 = .ok (.getfield 23, 3) := by decide +kernel
theorem dX6_drift_16 : decode cX6_drift 16 = .ok (.iconst 0, 1) := by decide +kernel
theorem dX6_drift_17 : decode cX6_drift 17 = .ok (.iaload, 1) := by decide +kernel
theorem dX6_drift_18 : decode cX6_drift 18 = .ok (.iload_n 1, 1) := by decide +kernel
theorem dX6_drift_19 : decode cX6_drift 19 = .ok (.iadd, 1) := by decide +kernel
theorem dX6_drift_20 : decode cX6_drift 20 = .ok (.sipush 9999, 3) := by decide +kernel
theorem dX6_drift_23 : decode cX6_drift 23 = .ok (.if_icmp .le 6, 3) := by decide +kernel
theorem dX6_drift_26 : decode cX6_drift 26 = .ok (.bipush (-3), 2) := by decide +kernel
theorem dX6_drift_28 : decode cX6_drift 28 = .ok (.ireturn, 1) := by decide +kernel
theorem dX6_drift_29 : decode cX6_drift 29 = .ok (.iconst 0, 1) := by decide +kernel
theorem dX6_drift_30 : decode cX6_drift 30 = .ok (.istore_n 2, 1) := by decide +kernel
theorem dX6_drift_31 : decode cX6_drift 31 = .ok (.iload_n 2, 1) := by decide +kernel
theorem dX6_drift_32 : decode cX6_drift 32 = .ok (.iload_n 1, 1) := by decide +kernel
theorem dX6_drift_33 : decode cX6_drift 33 = .ok (.if_icmp .ge 96, 3) := by decide +kernel
theorem dX6_drift_36 : decode cX6_drift 36 = .ok (.aload_n 0, 1) := by decide +kernel
theorem dX6_drift_37 : decode cX6_drift 37 = .ok (.invokevirtual 145, 3) := by decide +kernel
theorem dX6_drift_40 : decode cX6_drift 40 = .ok (.aload_n 0, 1) := by decide +kernel
theorem dX6_drift_41 : decode cX6_drift 41 = .ok (.getfield 23, 3) := by decide +kernel
theorem dX6_drift_44 : decode cX6_drift 44 = .ok (.iconst 1, 1) := by decide +kernel
theorem dX6_drift_45 : decode cX6_drift 45 = .ok (.aload_n 0, 1) := by decide +kernel
theorem dX6_drift_46 : decode cX6_drift 46 = .ok (.getfield 23, 3) := by decide +kernel
theorem dX6_drift_49 : decode cX6_drift 49 = .ok (.iconst 1, 1) := by decide +kernel
theorem dX6_drift_50 : decode cX6_drift 50 = .ok (.iaload, 1) := by decide +kernel
theorem dX6_drift_51 : decode cX6_drift 51 = .ok (.i2l, 1) := by decide +kernel
theorem dX6_drift_52 : decode cX6_drift 52 = .ok (.ldc2_w 151, 3) := by decide +kernel
theorem dX6_drift_55 : decode cX6_drift 55 = .ok (.lmul, 1) := by decide +kernel
theorem dX6_drift_56 : decode cX6_drift 56 = .ok (.ldc2_w 153, 3) := by decide +kernel
theorem dX6_drift_59 : decode cX6_drift 59 = .ok (.ladd, 1) := by decide +kernel
theorem dX6_drift_60 : decode cX6_drift 60 = .ok (.ldc2_w 155, 3) := by decide +kernel
theorem dX6_drift_63 : decode cX6_drift 63 = .ok (.lrem, 1) := by decide +kernel
theorem dX6_drift_64 : decode cX6_drift 64 = .ok (.l2i, 1) := by decide +kernel
theorem dX6_drift_65 : decode cX6_drift 65 = .ok (.iastore, 1) := by decide +kernel
theorem dX6_drift_66 : decode cX6_drift 66 = .ok (.aload_n 0, 1) := by decide +kernel
theorem dX6_drift_67 : decode cX6_drift 67 = .ok (.getfield 23, 3) := by decide +kernel
theorem dX6_drift_70 : decode cX6_drift 70 = .ok (.bipush 27, 2) := by decide +kernel
theorem dX6_drift_72 : decode cX6_drift 72 = .ok (.iaload, 1) := by decide +kernel
theorem dX6_drift_73 : decode cX6_drift 73 = .ok (.ifCond .le 41, 3) := by decide +kernel
theorem dX6_drift_76 : decode cX6_drift 76 = .ok (.aload_n 0, 1) := by decide +kernel
theorem dX6_drift_77 : decode cX6_drift 77 = .ok (.getfield 23, 3) := by decide +kernel
theorem dX6_drift_80 : decode cX6_drift 80 = .ok (.bipush 9, 2) := by decide +kernel
theorem dX6_drift_82 : decode cX6_drift 82 = .ok (.aload_n 0, 1) := by decide +kernel
theorem dX6_drift_83 : decode cX6_drift 83 = .ok (.getfield 23, 3) := by decide +kernel
theorem dX6_drift_86 : decode cX6_drift 86 = .ok (.iconst 1, 1) := by decide +kernel
theorem dX6_drift_87 : decode cX6_drift 87 = .ok (.iaload, 1) := by decide +kernel
theorem dX6_drift_88 : decode cX6_drift 88 = .ok (.ldc 157, 2) := by decide +kernel
theorem dX6_drift_90 : decode cX6_drift 90 = .ok (.idiv, 1) := by decide +kernel
theorem dX6_drift_91 : decode cX6_drift 91 = .ok (.aload_n 0, 1) := by decide +kernel
theorem dX6_drift_92 : decode cX6_drift 92 = .ok (.getfield 23, 3) := by decide +kernel
theorem dX6_drift_95 : decode cX6_drift 95 = .ok (.bipush 27, 2) := by decide +kernel
theorem dX6_drift_97 : decode cX6_drift 97 = .ok (.iaload, 1) := by decide +kernel
theorem dX6_drift_98 : decode cX6_drift 98 = .ok (.irem, 1) := by decide +kernel
theorem dX6_drift_99 : decode cX6_drift 99 = .ok (.iadd, 1) := by decide +kernel
theorem dX6_drift_100 : decode cX6_drift 100 = .ok (.aload_n 0, 1) := by decide +kernel
theorem dX6_drift_101 : decode cX6_drift 101 = .ok (.getfield 23, 3) := by decide +kernel
theorem dX6_drift_104 : decode cX6_drift 104 = .ok (.iconst 1, 1) := by decide +kernel
theorem dX6_drift_105 : decode cX6_drift 105 = .ok (.iaload, 1) := by decide +kernel
theorem dX6_drift_106 : decode cX6_drift 106 = .ok (.sipush 128, 3) := by decide +kernel
theorem dX6_drift_109 : decode cX6_drift 109 = .ok (.idiv, 1) := by decide +kernel
theorem dX6_drift_110 : decode cX6_drift 110 = .ok (.bipush 21, 2) := by decide +kernel
theorem dX6_drift_112 : decode cX6_drift 112 = .ok (.irem, 1) := by decide +kernel
theorem dX6_drift_113 : decode cX6_drift 113 = .ok (.iastore, 1) := by decide +kernel
theorem dX6_drift_114 : decode cX6_drift 114 = .ok (.aload_n 0, 1) := by decide +kernel
theorem dX6_drift_115 : decode cX6_drift 115 = .ok (.aload_n 0, 1) := by decide +kernel
theorem dX6_drift_116 : decode cX6_drift 116 = .ok (.getfield 23, 3) := by decide +kernel
theorem dX6_drift_119 : decode cX6_drift 119 = .ok (.iconst 0, 1) := by decide +kernel
theorem dX6_drift_120 : decode cX6_drift 120 = .ok (.invokevirtual 148, 3) := by decide +kernel
theorem dX6_drift_123 : decode cX6_drift 123 = .ok (.iinc 2 1, 3) := by decide +kernel
theorem dX6_drift_126 : decode cX6_drift 126 = .ok (.goto (-95), 3) := by decide +kernel
theorem dX6_drift_129 : decode cX6_drift 129 = .ok (.aload_n 0, 1) := by decide +kernel
theorem dX6_drift_130 : decode cX6_drift 130 = .ok (.getfield 23, 3) := by decide +kernel
theorem dX6_drift_133 : decode cX6_drift 133 = .ok (.invokestatic 119, 3) := by decide +kernel
theorem dX6_drift_136 : decode cX6_drift 136 = .ok (.ireturn, 1) := by decide +kernel
theorem dX6_undo_0 : decode cX6_undo 0 = .ok (.aload_n 0, 1) := by decide +kernel
theorem dX6_undo_1 : decode cX6_undo 1 = .ok (.getfield 23, 3) := by decide +kernel
theorem dX6_undo_4 : decode cX6_undo 4 = .ok (.bipush 39, 2) := by decide +kernel
theorem dX6_undo_6 : decode cX6_undo 6 = .ok (.iaload, 1) := by decide +kernel
theorem dX6_undo_7 : decode cX6_undo 7 = .ok (.ifCond .ne 6, 3) := by decide +kernel
theorem dX6_undo_10 : decode cX6_undo 10 = .ok (.bipush (-4), 2) := by decide +kernel
theorem dX6_undo_12 : decode cX6_undo 12 = .ok (.ireturn, 1) := by decide +kernel
theorem dX6_undo_13 : decode cX6_undo 13 = .ok (.aload_n 0, 1) := by decide +kernel
theorem dX6_undo_14 : decode cX6_undo 14 = .ok (.getfield 23, 3) := by decide +kernel
theorem dX6_undo_17 : decode cX6_undo 17 = .ok (.bipush 39, 2) := by decide +kernel
theorem dX6_undo_19 : decode cX6_undo 19 = .ok (.dup2, 1) := by decide +kernel
theorem dX6_undo_20 : decode cX6_undo 20 = .ok (.iaload, 1) := by decide +kernel
theorem dX6_undo_21 : decode cX6_undo 21 = .ok (.iconst 1, 1) := by decide +kernel
theorem dX6_undo_22 : decode cX6_undo 22 = .ok (.isub, 1) := by decide +kernel
theorem dX6_undo_23 : decode cX6_undo 23 = .ok (.iastore, 1) := by decide +kernel
theorem dX6_undo_24 : decode cX6_undo 24 = .ok (.aload_n 0, 1) := by decide +kernel
theorem dX6_undo_25 : decode cX6_undo 25 = .ok (.getfield 23, 3) := by decide +kernel
theorem dX6_undo_28 : decode cX6_undo 28 = .ok (.bipush 40, 2) := by decide +kernel
theorem dX6_undo_30 : decode cX6_undo 30 = .ok (.bipush 26, 2) := by decide +kernel
theorem dX6_undo_32 : decode cX6_undo 32 = .ok (.aload_n 0, 1) := by decide +kernel
theorem dX6_undo_33 : decode cX6_undo 33 = .ok (.getfield 23, 3) := by decide +kernel
theorem dX6_undo_36 : decode cX6_undo 36 = .ok (.bipush 39, 2) := by decide +kernel
theorem dX6_undo_38 : decode cX6_undo 38 = .ok (.iaload, 1) := by decide +kernel
theorem dX6_undo_39 : decode cX6_undo 39 = .ok (.imul, 1) := by decide +kernel
theorem dX6_undo_40 : decode cX6_undo 40 = .ok (.iadd, 1) := by decide +kernel
theorem dX6_undo_41 : decode cX6_undo 41 = .ok (.aload_n 0, 1) := by decide +kernel
theorem dX6_undo_42 : decode cX6_undo 42 = .ok (.getfield 23, 3) := by decide +kernel
theorem dX6_undo_45 : decode cX6_undo 45 = .ok (.iconst 0, 1) := by decide +kernel
theorem dX6_undo_46 : decode cX6_undo 46 = .ok (.bipush 26, 2) := by decide +kernel
theorem dX6_undo_48 : decode cX6_undo 48 = .ok (.invokestatic 115, 3) := by decide +kernel
theorem dX6_undo_51 : decode cX6_undo 51 = .ok (.aload_n 0, 1) := by decide +kernel
theorem dX6_undo_52 : decode cX6_undo 52 = .ok (.getfield 23, 3) := by decide +kernel
theorem dX6_undo_55 : decode cX6_undo 55 = .ok (.bipush 39, 2) := by decide +kernel
theorem dX6_undo_57 : decode cX6_undo 57 = .ok (.iaload, 1) := by decide +kernel
theorem dX6_undo_58 : decode cX6_undo 58 = .ok (.ireturn, 1) := by decide +kernel
theorem dX6_seed_0 : decode cX6_seed 0 = .ok (.iload_n 1, 1) := by decide +kernel
theorem dX6_seed_1 : decode cX6_seed 1 = .ok (.ifCond .ge 5, 3) := by decide +kernel
theorem dX6_seed_4 : decode cX6_seed 4 = .ok (.iconst (-1), 1) := by decide +kernel
theorem dX6_seed_5 : decode cX6_seed 5 = .ok (.ireturn, 1) := by decide +kernel
theorem dX6_seed_6 : decode cX6_seed 6 = .ok (.aload_n 0, 1) := by decide +kernel
theorem dX6_seed_7 : decode cX6_seed 7 = .ok (.getfield 23, 3) := by decide +kernel
theorem dX6_seed_10 : decode cX6_seed 10 = .ok (.iconst 1, 1) := by decide +kernel
theorem dX6_seed_11 : decode cX6_seed 11 = .ok (.iaload, 1) := by decide +kernel
theorem dX6_seed_12 : decode cX6_seed 12 = .ok (.istore_n 2, 1) := by decide +kernel
theorem dX6_seed_13 : decode cX6_seed 13 = .ok (.aload_n 0, 1) := by decide +kernel
theorem dX6_seed_14 : decode cX6_seed 14 = .ok (.getfield 23, 3) := by decide +kernel
theorem dX6_seed_17 : decode cX6_seed 17 = .ok (.iconst 1, 1) := by decide +kernel
theorem dX6_seed_18 : decode cX6_seed 18 = .ok (.iload_n 1, 1) := by decide +kernel
theorem dX6_seed_19 : decode cX6_seed 19 = .ok (.iastore, 1) := by decide +kernel
theorem dX6_seed_20 : decode cX6_seed 20 = .ok (.iload_n 2, 1) := by decide +kernel
theorem dX6_seed_21 : decode cX6_seed 21 = .ok (.ireturn, 1) := by decide +kernel
theorem dX6_begin_0 : decode cX6_begin 0 = .ok (.aload_n 0, 1) := by decide +kernel
theorem dX6_begin_1 : decode cX6_begin 1 = .ok (.getfield 23, 3) := by decide +kernel
theorem dX6_begin_4 : decode cX6_begin 4 = .ok (.iconst 0, 1) := by decide +kernel
theorem dX6_begin_5 : decode cX6_begin 5 = .ok (.aload_n 0, 1) := by decide +kernel
theorem dX6_begin_6 : decode cX6_begin 6 = .ok (.getfield 26, 3) := by decide +kernel
theorem dX6_begin_9 : decode cX6_begin 9 = .ok (.iconst 0, 1) := by decide +kernel
theorem dX6_begin_10 : decode cX6_begin 10 = .ok (.sipush 248, 3) := by decide +kernel
theorem dX6_begin_13 : decode cX6_begin 13 = .ok (.invokestatic 115, 3) := by decide +kernel
theorem dX6_begin_16 : decode cX6_begin 16 = .ok (.iconst 0, 1) := by decide +kernel
theorem dX6_begin_17 : decode cX6_begin 17 = .ok (.istore_n 1, 1) := by decide +kernel
theorem dX6_begin_18 : decode cX6_begin 18 = .ok (.iload_n 1, 1) := by decide +kernel
theorem dX6_begin_19 : decode cX6_begin 19 = .ok (.bipush 6, 2) := by decide +kernel
theorem dX6_begin_21 : decode cX6_begin 21 = .ok (.if_icmp .ge 16, 3) := by decide +kernel
theorem dX6_begin_24 : decode cX6_begin 24 = .ok (.aload_n 0, 1) := by decide +kernel
theorem dX6_begin_25 : decode cX6_begin 25 = .ok (.getfield 38, 3) := by decide +kernel
theorem dX6_begin_28 : decode cX6_begin 28 = .ok (.iload_n 1, 1) := by decide +kernel
theorem dX6_begin_29 : decode cX6_begin 29 = .ok (.iconst 0, 1) := by decide +kernel
theorem dX6_begin_30 : decode cX6_begin 30 = .ok (.iastore, 1) := by decide +kernel
theorem dX6_begin_31 : decode cX6_begin 31 = .ok (.iinc 1 1, 3) := by decide +kernel
theorem dX6_begin_34 : decode cX6_begin 34 = .ok (.goto (-16), 3) := by decide +kernel
theorem dX6_begin_37 : decode cX6_begin 37 = .ok (.return_, 1) := by decide +kernel
theorem dX6_goOn_0 : decode cX6_goOn 0 = .ok (.iconst 0, 1) := by decide +kernel
theorem dX6_goOn_1 : decode cX6_goOn 1 = .ok (.istore_n 2, 1) := by decide +kernel
theorem dX6_goOn_2 : decode cX6_goOn 2 = .ok (.iload_n 2, 1) := by decide +kernel
theorem dX6_goOn_3 : decode cX6_goOn 3 = .ok (.iload_n 1, 1) := by decide +kernel
theorem dX6_goOn_4 : decode cX6_goOn 4 = .ok (.if_icmp .ge 18, 3) := by decide +kernel
theorem dX6_goOn_7 : decode cX6_goOn 7 = .ok (.aload_n 0, 1) := by decide +kernel
theorem dX6_goOn_8 : decode cX6_goOn 8 = .ok (.aload_n 0, 1) := by decide +kernel
theorem dX6_goOn_9 : decode cX6_goOn 9 = .ok (.getfield 26, 3) := by decide +kernel
theorem dX6_goOn_12 : decode cX6_goOn 12 = .ok (.iconst 0, 1) := by decide +kernel
theorem dX6_goOn_13 : decode cX6_goOn 13 = .ok (.invokevirtual 148, 3) := by decide +kernel
theorem dX6_goOn_16 : decode cX6_goOn 16 = .ok (.iinc 2 1, 3) := by decide +kernel
theorem dX6_goOn_19 : decode cX6_goOn 19 = .ok (.goto (-17), 3) := by decide +kernel
theorem dX6_goOn_22 : decode cX6_goOn 22 = .ok (.return_, 1) := by decide +kernel
theorem dX6_ahead_0 : decode cX6_ahead 0 = .ok (.aload_n 0, 1) := by decide +kernel
theorem dX6_ahead_1 : decode cX6_ahead 1 = .ok (.iload_n 1, 1) := by decide +kernel
theorem dX6_ahead_2 : decode cX6_ahead 2 = .ok (.invokevirtual 55, 3) := by decide +kernel
theorem dX6_ahead_5 : decode cX6_ahead 5 = .ok (.ifCond .eq 22, 3) := by decide +kernel
theorem dX6_ahead_8 : decode cX6_ahead 8 = .ok (.iload_n 2, 1) := by decide +kernel
theorem dX6_ahead_9 : decode cX6_ahead 9 = .ok (.iconst 0, 1) := by decide +kernel
theorem dX6_ahead_10 : decode cX6_ahead 10 = .ok (.bipush 60, 2) := by decide +kernel
theorem dX6_ahead_12 : decode cX6_ahead 12 = .ok (.invokestatic 47, 3) := by decide +kernel
theorem dX6_ahead_15 : decode cX6_ahead 15 = .ok (.ifCond .eq 12, 3) := by decide +kernel
theorem dX6_ahead_18 : decode cX6_ahead 18 = .ok (.iload_n 3, 1) := by decide +kernel
theorem dX6_ahead_19 : decode cX6_ahead 19 = .ok (.iconst 0, 1) := by decide +kernel
theorem dX6_ahead_20 : decode cX6_ahead 20 = .ok (.iconst 1, 1) := by decide +kernel
theorem dX6_ahead_21 : decode cX6_ahead 21 = .ok (.invokestatic 47, 3) := by decide +kernel
theorem dX6_ahead_24 : decode cX6_ahead 24 = .ok (.ifCond .ne 5, 3) := by decide +kernel
theorem dX6_ahead_27 : decode cX6_ahead 27 = .ok (.iconst (-1), 1) := by decide +kernel
theorem dX6_ahead_28 : decode cX6_ahead 28 = .ok (.ireturn, 1) := by decide +kernel
theorem dX6_ahead_29 : decode cX6_ahead 29 = .ok (.aload_n 0, 1) := by decide +kernel
theorem dX6_ahead_30 : decode cX6_ahead 30 = .ok (.invokevirtual 158, 3) := by decide +kernel
theorem dX6_ahead_33 : decode cX6_ahead 33 = .ok (.aload_n 0, 1) := by decide +kernel
theorem dX6_ahead_34 : decode cX6_ahead 34 = .ok (.iload_n 2, 1) := by decide +kernel
theorem dX6_ahead_35 : decode cX6_ahead 35 = .ok (.invokevirtual 161, 3) := by decide +kernel
theorem dX6_ahead_38 : decode cX6_ahead 38 = .ok (.iload_n 3, 1) := by decide +kernel
theorem dX6_ahead_39 : decode cX6_ahead 39 = .ok (.ifCond .ne 14, 3) := by decide +kernel
theorem dX6_ahead_42 : decode cX6_ahead 42 = .ok (.aload_n 0, 1) := by decide +kernel
theorem dX6_ahead_43 : decode cX6_ahead 43 = .ok (.getfield 26, 3) := by decide +kernel
theorem dX6_ahead_46 : decode cX6_ahead 46 = .ok (.iconst 3, 1) := by decide +kernel
theorem dX6_ahead_47 : decode cX6_ahead 47 = .ok (.iload_n 1, 1) := by decide +kernel
theorem dX6_ahead_48 : decode cX6_ahead 48 = .ok (.iadd, 1) := by decide +kernel
theorem dX6_ahead_49 : decode cX6_ahead 49 = .ok (.iaload, 1) := by decide +kernel
theorem dX6_ahead_50 : decode cX6_ahead 50 = .ok (.goto 12, 3) := by decide +kernel
theorem dX6_ahead_53 : decode cX6_ahead 53 = .ok (.aload_n 0, 1) := by decide +kernel
theorem dX6_ahead_54 : decode cX6_ahead 54 = .ok (.getfield 26, 3) := by decide +kernel
theorem dX6_ahead_57 : decode cX6_ahead 57 = .ok (.bipush 15, 2) := by decide +kernel
theorem dX6_ahead_59 : decode cX6_ahead 59 = .ok (.iload_n 1, 1) := by decide +kernel
theorem dX6_ahead_60 : decode cX6_ahead 60 = .ok (.iadd, 1) := by decide +kernel
theorem dX6_ahead_61 : decode cX6_ahead 61 = .ok (.iaload, 1) := by decide +kernel
theorem dX6_ahead_62 : decode cX6_ahead 62 = .ok (.ireturn, 1) := by decide +kernel
theorem dX6_where_0 : decode cX6_where 0 = .ok (.aload_n 0, 1) := by decide +kernel
theorem dX6_where_1 : decode cX6_where 1 = .ok (.iload_n 1, 1) := by decide +kernel
theorem dX6_where_2 : decode cX6_where 2 = .ok (.invokevirtual 71, 3) := by decide +kernel
theorem dX6_where_5 : decode cX6_where 5 = .ok (.ifCond .eq 13, 3) := by decide +kernel
theorem dX6_where_8 : decode cX6_where 8 = .ok (.iload_n 2, 1) := by decide +kernel
theorem dX6_where_9 : decode cX6_where 9 = .ok (.iconst 0, 1) := by decide +kernel
theorem dX6_where_10 : decode cX6_where 10 = .ok (.bipush 60, 2) := by decide +kernel
theorem dX6_where_12 : decode cX6_where 12 = .ok (.invokestatic 47, 3) := by decide +kernel
theorem dX6_where_15 : decode cX6_where 15 = .ok (.ifCond .ne 5, 3) := by decide +kernel
theorem dX6_where_18 : decode cX6_where 18 = .ok (.iconst (-1), 1) := by decide +kernel
theorem dX6_where_19 : decode cX6_where 19 = .ok (.ireturn, 1) := by decide +kernel
theorem dX6_where_20 : decode cX6_where 20 = .ok (.aload_n 0, 1) := by decide +kernel
theorem dX6_where_21 : decode cX6_where 21 = .ok (.invokevirtual 158, 3) := by decide +kernel
theorem dX6_where_24 : decode cX6_where 24 = .ok (.aload_n 0, 1) := by decide +kernel
theorem dX6_where_25 : decode cX6_where 25 = .ok (.iload_n 2, 1) := by decide +kernel
theorem dX6_where_26 : decode cX6_where 26 = .ok (.invokevirtual 161, 3) := by decide +kernel
theorem dX6_where_29 : decode cX6_where 29 = .ok (.aload_n 0, 1) := by decide +kernel
theorem dX6_where_30 : decode cX6_where 30 = .ok (.getfield 26, 3) := by decide +kernel
theorem dX6_where_33 : decode cX6_where 33 = .ok (.bipush 21, 2) := by decide +kernel
theorem dX6_where_35 : decode cX6_where 35 = .ok (.iload_n 1, 1) := by decide +kernel
theorem dX6_where_36 : decode cX6_where 36 = .ok (.iadd, 1) := by decide +kernel
theorem dX6_where_37 : decode cX6_where 37 = .ok (.iaload, 1) := by decide +kernel
theorem dX6_where_38 : decode cX6_where 38 = .ok (.ireturn, 1) := by decide +kernel
theorem dX6_then_0 : decode cX6_then 0 = .ok (.iload_n 1, 1) := by decide +kernel
theorem dX6_then_1 : decode cX6_then 1 = .ok (.iconst 0, 1) := by decide +kernel
theorem dX6_then_2 : decode cX6_then 2 = .ok (.bipush 60, 2) := by decide +kernel
theorem dX6_then_4 : decode cX6_then 4 = .ok (.invokestatic 47, 3) := by decide +kernel
theorem dX6_then_7 : decode cX6_then 7 = .ok (.ifCond .eq 12, 3) := by decide +kernel
theorem dX6_then_10 : decode cX6_then 10 = .ok (.iload_n 2, 1) := by decide +kernel
theorem dX6_then_11 : decode cX6_then 11 = .ok (.iconst 0, 1) := by decide +kernel
theorem dX6_then_12 : decode cX6_then 12 = .ok (.iconst 1, 1) := by decide +kernel
theorem dX6_then_13 : decode cX6_then 13 = .ok (.invokestatic 47, 3) := by decide +kernel
theorem dX6_then_16 : decode cX6_then 16 = .ok (.ifCond .ne 5, 3) := by decide +kernel
theorem dX6_then_19 : decode cX6_then 19 = .ok (.iconst (-1), 1) := by decide +kernel
theorem dX6_then_20 : decode cX6_then 20 = .ok (.ireturn, 1) := by decide +kernel
theorem dX6_then_21 : decode cX6_then 21 = .ok (.aload_n 0, 1) := by decide +kernel
theorem dX6_then_22 : decode cX6_then 22 = .ok (.invokevirtual 158, 3) := by decide +kernel
theorem dX6_then_25 : decode cX6_then 25 = .ok (.aload_n 0, 1) := by decide +kernel
theorem dX6_then_26 : decode cX6_then 26 = .ok (.iload_n 1, 1) := by decide +kernel
theorem dX6_then_27 : decode cX6_then 27 = .ok (.invokevirtual 161, 3) := by decide +kernel
theorem dX6_then_30 : decode cX6_then 30 = .ok (.iload_n 2, 1) := by decide +kernel
theorem dX6_then_31 : decode cX6_then 31 = .ok (.ifCond .ne 13, 3) := by decide +kernel
theorem dX6_then_34 : decode cX6_then 34 = .ok (.aload_n 0, 1) := by decide +kernel
theorem dX6_then_35 : decode cX6_then 35 = .ok (.getfield 26, 3) := by decide +kernel
theorem dX6_then_38 : decode cX6_then 38 = .ok (.invokestatic 119, 3) := by decide +kernel
theorem dX6_then_41 : decode cX6_then 41 = .ok (.goto 9, 3) := by decide +kernel
theorem dX6_then_44 : decode cX6_then 44 = .ok (.aload_n 0, 1) := by decide +kernel
theorem dX6_then_45 : decode cX6_then 45 = .ok (.getfield 26, 3) := by decide +kernel
theorem dX6_then_48 : decode cX6_then 48 = .ok (.iconst 2, 1) := by decide +kernel
theorem dX6_then_49 : decode cX6_then 49 = .ok (.iaload, 1) := by decide +kernel
theorem dX6_then_50 : decode cX6_then 50 = .ok (.ireturn, 1) := by decide +kernel
theorem dX6_lost_0 : decode cX6_lost 0 = .ok (.aload_n 0, 1) := by decide +kernel
theorem dX6_lost_1 : decode cX6_lost 1 = .ok (.iload_n 1, 1) := by decide +kernel
theorem dX6_lost_2 : decode cX6_lost 2 = .ok (.invokevirtual 55, 3) := by decide +kernel
theorem dX6_lost_5 : decode cX6_lost 5 = .ok (.ifCond .ne 5, 3) := by decide +kernel
theorem dX6_lost_8 : decode cX6_lost 8 = .ok (.iconst (-1), 1) := by decide +kernel
theorem dX6_lost_9 : decode cX6_lost 9 = .ok (.ireturn, 1) := by decide +kernel
theorem dX6_lost_10 : decode cX6_lost 10 = .ok (.aload_n 0, 1) := by decide +kernel
theorem dX6_lost_11 : decode cX6_lost 11 = .ok (.invokevirtual 158, 3) := by decide +kernel
theorem dX6_lost_14 : decode cX6_lost 14 = .ok (.iconst 0, 1) := by decide +kernel
theorem dX6_lost_15 : decode cX6_lost 15 = .ok (.istore_n 2, 1) := by decide +kernel
theorem dX6_lost_16 : decode cX6_lost 16 = .ok (.iload_n 2, 1) := by decide +kernel
theorem dX6_lost_17 : decode cX6_lost 17 = .ok (.bipush 60, 2) := by decide +kernel
theorem dX6_lost_19 : decode cX6_lost 19 = .ok (.if_icmp .gt 31, 3) := by decide +kernel
theorem dX6_lost_22 : decode cX6_lost 22 = .ok (.aload_n 0, 1) := by decide +kernel
theorem dX6_lost_23 : decode cX6_lost 23 = .ok (.getfield 26, 3) := by decide +kernel
theorem dX6_lost_26 : decode cX6_lost 26 = .ok (.iload_n 1, 1) := by decide +kernel
theorem dX6_lost_27 : decode cX6_lost 27 = .ok (.invokestatic 63, 3) := by decide +kernel
theorem dX6_lost_30 : decode cX6_lost 30 = .ok (.ifCond .eq 5, 3) := by decide +kernel
theorem dX6_lost_33 : decode cX6_lost 33 = .ok (.iload_n 2, 1) := by decide +kernel
theorem dX6_lost_34 : decode cX6_lost 34 = .ok (.ireturn, 1) := by decide +kernel
theorem dX6_lost_35 : decode cX6_lost 35 = .ok (.aload_n 0, 1) := by decide +kernel
theorem dX6_lost_36 : decode cX6_lost 36 = .ok (.aload_n 0, 1) := by decide +kernel
theorem dX6_lost_37 : decode cX6_lost 37 = .ok (.getfield 26, 3) := by decide +kernel
theorem dX6_lost_40 : decode cX6_lost 40 = .ok (.iconst 0, 1) := by decide +kernel
theorem dX6_lost_41 : decode cX6_lost 41 = .ok (.invokevirtual 148, 3) := by decide +kernel
theorem dX6_lost_44 : decode cX6_lost 44 = .ok (.iinc 2 1, 3) := by decide +kernel
theorem dX6_lost_47 : decode cX6_lost 47 = .ok (.goto (-31), 3) := by decide +kernel
theorem dX6_lost_50 : decode cX6_lost 50 = .ok (.bipush (-4), 2) := by decide +kernel
theorem dX6_lost_52 : decode cX6_lost 52 = .ok (.ireturn, 1) := by decide +kernel
theorem dX6_free_0 : decode cX6_free 0 = .ok (.aload_n 0, 1) := by decide +kernel
theorem dX6_free_1 : decode cX6_free 1 = .ok (.iload_n 1, 1) := by decide +kernel
theorem dX6_free_2 : decode cX6_free 2 = .ok (.invokevirtual 55, 3) := by decide +kernel
theorem dX6_free_5 : decode cX6_free 5 = .ok (.ifCond .ne 5, 3) := by decide +kernel
theorem dX6_free_8 : decode cX6_free 8 = .ok (.iconst (-1), 1) := by decide +kernel
theorem dX6_free_9 : decode cX6_free 9 = .ok (.ireturn, 1) := by decide +kernel
theorem dX6_free_10 : decode cX6_free 10 = .ok (.aload_n 0, 1) := by decide +kernel
theorem dX6_free_11 : decode cX6_free 11 = .ok (.invokevirtual 158, 3) := by decide +kernel
theorem dX6_free_14 : decode cX6_free 14 = .ok (.iconst 0, 1) := by decide +kernel
theorem dX6_free_15 : decode cX6_free 15 = .ok (.istore_n 2, 1) := by decide +kernel
theorem dX6_free_16 : decode cX6_free 16 = .ok (.iload_n 2, 1) := by decide +kernel
theorem dX6_free_17 : decode cX6_free 17 = .ok (.bipush 60, 2) := by decide +kernel
theorem dX6_free_19 : decode cX6_free 19 = .ok (.if_icmp .gt 31, 3) := by decide +kernel
theorem dX6_free_22 : decode cX6_free 22 = .ok (.aload_n 0, 1) := by decide +kernel
theorem dX6_free_23 : decode cX6_free 23 = .ok (.getfield 26, 3) := by decide +kernel
theorem dX6_free_26 : decode cX6_free 26 = .ok (.iconst 3, 1) := by decide +kernel
theorem dX6_free_27 : decode cX6_free 27 = .ok (.iload_n 1, 1) := by decide +kernel
theorem dX6_free_28 : decode cX6_free 28 = .ok (.iadd, 1) := by decide +kernel
theorem dX6_free_29 : decode cX6_free 29 = .ok (.iaload, 1) := by decide +kernel
theorem dX6_free_30 : decode cX6_free 30 = .ok (.ifCond .ne 5, 3) := by decide +kernel
theorem dX6_free_33 : decode cX6_free 33 = .ok (.iload_n 2, 1) := by decide +kernel
theorem dX6_free_34 : decode cX6_free 34 = .ok (.ireturn, 1) := by decide +kernel
theorem dX6_free_35 : decode cX6_free 35 = .ok (.aload_n 0, 1) := by decide +kernel
theorem dX6_free_36 : decode cX6_free 36 = .ok (.aload_n 0, 1) := by decide +kernel
theorem dX6_free_37 : decode cX6_free 37 = .ok (.getfield 26, 3) := by decide +kernel
theorem dX6_free_40 : decode cX6_free 40 = .ok (.iconst 0, 1) := by decide +kernel
theorem dX6_free_41 : decode cX6_free 41 = .ok (.invokevirtual 148, 3) := by decide +kernel
theorem dX6_free_44 : decode cX6_free 44 = .ok (.iinc 2 1, 3) := by decide +kernel
theorem dX6_free_47 : decode cX6_free 47 = .ok (.goto (-31), 3) := by decide +kernel
theorem dX6_free_50 : decode cX6_free 50 = .ok (.bipush (-4), 2) := by decide +kernel
theorem dX6_free_52 : decode cX6_free 52 = .ok (.ireturn, 1) := by decide +kernel
theorem dX6_keep_0 : decode cX6_keep 0 = .ok (.aload_n 0, 1) := by decide +kernel
theorem dX6_keep_1 : decode cX6_keep 1 = .ok (.iload_n 1, 1) := by decide +kernel
theorem dX6_keep_2 : decode cX6_keep 2 = .ok (.invokevirtual 55, 3) := by decide +kernel
theorem dX6_keep_5 : decode cX6_keep 5 = .ok (.ifCond .eq 13, 3) := by decide +kernel
theorem dX6_keep_8 : decode cX6_keep 8 = .ok (.iload_n 2, 1) := by decide +kernel
theorem dX6_keep_9 : decode cX6_keep 9 = .ok (.iconst 1, 1) := by decide +kernel
theorem dX6_keep_10 : decode cX6_keep 10 = .ok (.bipush 40, 2) := by decide +kernel
theorem dX6_keep_12 : decode cX6_keep 12 = .ok (.invokestatic 47, 3) := by decide +kernel
theorem dX6_keep_15 : decode cX6_keep 15 = .ok (.ifCond .ne 5, 3) := by decide +kernel
theorem dX6_keep_18 : decode cX6_keep 18 = .ok (.iconst (-1), 1) := by decide +kernel
theorem dX6_keep_19 : decode cX6_keep 19 = .ok (.ireturn, 1) := by decide +kernel
theorem dX6_keep_20 : decode cX6_keep 20 = .ok (.iconst 0, 1) := by decide +kernel
theorem dX6_keep_21 : decode cX6_keep 21 = .ok (.istore_n 3, 1) := by decide +kernel
theorem dX6_keep_22 : decode cX6_keep 22 = .ok (.iload_n 3, 1) := by decide +kernel
theorem dX6_keep_23 : decode cX6_keep 23 = .ok (.bipush 20, 2) := by decide +kernel
theorem dX6_keep_25 : decode cX6_keep 25 = .ok (.if_icmp .gt 41, 3) := by decide +kernel
theorem dX6_keep_28 : decode cX6_keep 28 = .ok (.aload_n 0, 1) := by decide +kernel
theorem dX6_keep_29 : decode cX6_keep 29 = .ok (.invokevirtual 158, 3) := by decide +kernel
theorem dX6_keep_32 : decode cX6_keep 32 = .ok (.aload_n 0, 1) := by decide +kernel
theorem dX6_keep_33 : decode cX6_keep 33 = .ok (.getfield 26, 3) := by decide +kernel
theorem dX6_keep_36 : decode cX6_keep 36 = .ok (.bipush 9, 2) := by decide +kernel
theorem dX6_keep_38 : decode cX6_keep 38 = .ok (.iload_n 1, 1) := by decide +kernel
theorem dX6_keep_39 : decode cX6_keep 39 = .ok (.iadd, 1) := by decide +kernel
theorem dX6_keep_40 : decode cX6_keep 40 = .ok (.iload_n 3, 1) := by decide +kernel
theorem dX6_keep_41 : decode cX6_keep 41 = .ok (.iastore, 1) := by decide +kernel
theorem dX6_keep_42 : decode cX6_keep 42 = .ok (.aload_n 0, 1) := by decide +kernel
theorem dX6_keep_43 : decode cX6_keep 43 = .ok (.iload_n 2, 1) := by decide +kernel
theorem dX6_keep_44 : decode cX6_keep 44 = .ok (.invokevirtual 161, 3) := by decide +kernel
theorem dX6_keep_47 : decode cX6_keep 47 = .ok (.aload_n 0, 1) := by decide +kernel
theorem dX6_keep_48 : decode cX6_keep 48 = .ok (.getfield 26, 3) := by decide +kernel
theorem dX6_keep_51 : decode cX6_keep 51 = .ok (.iload_n 1, 1) := by decide +kernel
theorem dX6_keep_52 : decode cX6_keep 52 = .ok (.invokestatic 63, 3) := by decide +kernel
theorem dX6_keep_55 : decode cX6_keep 55 = .ok (.ifCond .ne 5, 3) := by decide +kernel
theorem dX6_keep_58 : decode cX6_keep 58 = .ok (.iload_n 3, 1) := by decide +kernel
theorem dX6_keep_59 : decode cX6_keep 59 = .ok (.ireturn, 1) := by decide +kernel
theorem dX6_keep_60 : decode cX6_keep 60 = .ok (.iinc 3 1, 3) := by decide +kernel
theorem dX6_keep_63 : decode cX6_keep 63 = .ok (.goto (-41), 3) := by decide +kernel
theorem dX6_keep_66 : decode cX6_keep 66 = .ok (.bipush (-4), 2) := by decide +kernel
theorem dX6_keep_68 : decode cX6_keep 68 = .ok (.ireturn, 1) := by decide +kernel
theorem dX6_layParts_0 : decode cX6_layParts 0 = .ok (.iload_n 1, 1) := by decide +kernel
theorem dX6_layParts_1 : decode cX6_layParts 1 = .ok (.istore_n 3, 1) := by decide +kernel
theorem dX6_layParts_2 : decode cX6_layParts 2 = .ok (.iconst 0, 1) := by decide +kernel
theorem dX6_layParts_3 : decode cX6_layParts 3 = .ok (.istore 4, 2) := by decide +kernel
theorem dX6_layParts_5 : decode cX6_layParts 5 = .ok (.aload_n 0, 1) := by decide +kernel
theorem dX6_layParts_6 : decode cX6_layParts 6 = .ok (.getfield 23, 3) := by decide +kernel
theorem dX6_layParts_9 : decode cX6_layParts 9 = .ok (.bipush 27, 2) := by decide +kernel
theorem dX6_layParts_11 : decode cX6_layParts 11 = .ok (.iaload, 1) := by decide +kernel
theorem dX6_layParts_12 : decode cX6_layParts 12 = .ok (.iconst 2, 1) := by decide +kernel
theorem dX6_layParts_13 : decode cX6_layParts 13 = .ok (.isub, 1) := by decide +kernel
theorem dX6_layParts_14 : decode cX6_layParts 14 = .ok (.istore 5, 2) := by decide +kernel
theorem dX6_layParts_16 : decode cX6_layParts 16 = .ok (.iload 5, 2) := by decide +kernel
theorem dX6_layParts_18 : decode cX6_layParts 18 = .ok (.ifCond .lt 39, 3) := by decide +kernel
theorem dX6_layParts_21 : decode cX6_layParts 21 = .ok (.aload_n 0, 1) := by decide +kernel
theorem dX6_layParts_22 : decode cX6_layParts 22 = .ok (.getfield 41, 3) := by decide +kernel
theorem dX6_layParts_25 : decode cX6_layParts 25 = .ok (.iload 5, 2) := by decide +kernel
theorem dX6_layParts_27 : decode cX6_layParts 27 = .ok (.iload_n 3, 1) := by decide +kernel
theorem dX6_layParts_28 : decode cX6_layParts 28 = .ok (.iload_n 2, 1) := by decide +kernel
theorem dX6_layParts_29 : decode cX6_layParts 29 = .ok (.iconst 1, 1) := by decide +kernel
theorem dX6_layParts_30 : decode cX6_layParts 30 = .ok (.iadd, 1) := by decide +kernel
theorem dX6_layParts_31 : decode cX6_layParts 31 = .ok (.irem, 1) := by decide +kernel
theorem dX6_layParts_32 : decode cX6_layParts 32 = .ok (.iastore, 1) := by decide +kernel
theorem dX6_layParts_33 : decode cX6_layParts 33 = .ok (.iload_n 3, 1) := by decide +kernel
theorem dX6_layParts_34 : decode cX6_layParts 34 = .ok (.iload_n 2, 1) := by decide +kernel
theorem dX6_layParts_35 : decode cX6_layParts 35 = .ok (.iconst 1, 1) := by decide +kernel
theorem dX6_layParts_36 : decode cX6_layParts 36 = .ok (.iadd, 1) := by decide +kernel
theorem dX6_layParts_37 : decode cX6_layParts 37 = .ok (.idiv, 1) := by decide +kernel
theorem dX6_layParts_38 : decode cX6_layParts 38 = .ok (.istore_n 3, 1) := by decide +kernel
theorem dX6_layParts_39 : decode cX6_layParts 39 = .ok (.iload 4, 2) := by decide +kernel
theorem dX6_layParts_41 : decode cX6_layParts 41 = .ok (.aload_n 0, 1) := by decide +kernel
theorem dX6_layParts_42 : decode cX6_layParts 42 = .ok (.getfield 41, 3) := by decide +kernel
theorem dX6_layParts_45 : decode cX6_layParts 45 = .ok (.iload 5, 2) := by decide +kernel
theorem dX6_layParts_47 : decode cX6_layParts 47 = .ok (.iaload, 1) := by decide +kernel
theorem dX6_layParts_48 : decode cX6_layParts 48 = .ok (.iadd, 1) := by decide +kernel
theorem dX6_layParts_49 : decode cX6_layParts 49 = .ok (.istore 4, 2) := by decide +kernel
theorem dX6_layParts_51 : decode cX6_layParts 51 = .ok (.iinc 5 (-1), 3) := by decide +kernel
theorem dX6_layParts_54 : decode cX6_layParts 54 = .ok (.goto (-38), 3) := by decide +kernel
theorem dX6_layParts_57 : decode cX6_layParts 57 = .ok (.aload_n 0, 1) := by decide +kernel
theorem dX6_layParts_58 : decode cX6_layParts 58 = .ok (.getfield 41, 3) := by decide +kernel
theorem dX6_layParts_61 : decode cX6_layParts 61 = .ok (.aload_n 0, 1) := by decide +kernel
theorem dX6_layParts_62 : decode cX6_layParts 62 = .ok (.getfield 23, 3) := by decide +kernel
theorem dX6_layParts_65 : decode cX6_layParts 65 = .ok (.bipush 27, 2) := by decide +kernel
theorem dX6_layParts_67 : decode cX6_layParts 67 = .ok (.iaload, 1) := by decide +kernel
theorem dX6_layParts_68 : decode cX6_layParts 68 = .ok (.iconst 1, 1) := by decide +kernel
theorem dX6_layParts_69 : decode cX6_layParts 69 = .ok (.isub, 1) := by decide +kernel
theorem dX6_layParts_70 : decode cX6_layParts 70 = .ok (.iload_n 2, 1) := by decide +kernel
theorem dX6_layParts_71 : decode cX6_layParts 71 = .ok (.iload 4, 2) := by decide +kernel
theorem dX6_layParts_73 : decode cX6_layParts 73 = .ok (.isub, 1) := by decide +kernel
theorem dX6_layParts_74 : decode cX6_layParts 74 = .ok (.iastore, 1) := by decide +kernel
theorem dX6_layParts_75 : decode cX6_layParts 75 = .ok (.iload 4, 2) := by decide +kernel
theorem dX6_layParts_77 : decode cX6_layParts 77 = .ok (.iload_n 2, 1) := by decide +kernel
theorem dX6_layParts_78 : decode cX6_layParts 78 = .ok (.if_icmp .gt 7, 3) := by decide +kernel
theorem dX6_layParts_81 : decode cX6_layParts 81 = .ok (.iconst 1, 1) := by decide +kernel
theorem dX6_layParts_82 : decode cX6_layParts 82 = .ok (.goto 4, 3) := by decide +kernel
theorem dX6_layParts_85 : decode cX6_layParts 85 = .ok (.iconst 0, 1) := by decide +kernel
theorem dX6_layParts_86 : decode cX6_layParts 86 = .ok (.ireturn, 1) := by decide +kernel
theorem dX6_part_0 : decode cX6_part 0 = .ok (.iload_n 1, 1) := by decide +kernel
theorem dX6_part_1 : decode cX6_part 1 = .ok (.iconst 0, 1) := by decide +kernel
theorem dX6_part_2 : decode cX6_part 2 = .ok (.bipush 12, 2) := by decide +kernel
theorem dX6_part_4 : decode cX6_part 4 = .ok (.invokestatic 47, 3) := by decide +kernel
theorem dX6_part_7 : decode cX6_part 7 = .ok (.ifCond .eq 19, 3) := by decide +kernel
theorem dX6_part_10 : decode cX6_part 10 = .ok (.iload_n 2, 1) := by decide +kernel
theorem dX6_part_11 : decode cX6_part 11 = .ok (.iconst 1, 1) := by decide +kernel
theorem dX6_part_12 : decode cX6_part 12 = .ok (.bipush 30, 2) := by decide +kernel
theorem dX6_part_14 : decode cX6_part 14 = .ok (.invokestatic 47, 3) := by decide +kernel
theorem dX6_part_17 : decode cX6_part 17 = .ok (.ifCond .eq 9, 3) := by decide +kernel
theorem dX6_part_20 : decode cX6_part 20 = .ok (.iload_n 3, 1) := by decide +kernel
theorem dX6_part_21 : decode cX6_part 21 = .ok (.bipush (-2), 2) := by decide +kernel
theorem dX6_part_23 : decode cX6_part 23 = .ok (.if_icmp .ge 5, 3) := by decide +kernel
theorem dX6_part_26 : decode cX6_part 26 = .ok (.iconst (-1), 1) := by decide +kernel
theorem dX6_part_27 : decode cX6_part 27 = .ok (.ireturn, 1) := by decide +kernel
theorem dX6_part_28 : decode cX6_part 28 = .ok (.iconst 1, 1) := by decide +kernel
theorem dX6_part_29 : decode cX6_part 29 = .ok (.istore 4, 2) := by decide +kernel
theorem dX6_part_31 : decode cX6_part 31 = .ok (.iconst 1, 1) := by decide +kernel
theorem dX6_part_32 : decode cX6_part 32 = .ok (.istore 5, 2) := by decide +kernel
theorem dX6_part_34 : decode cX6_part 34 = .ok (.iload 5, 2) := by decide +kernel
theorem dX6_part_36 : decode cX6_part 36 = .ok (.aload_n 0, 1) := by decide +kernel
theorem dX6_part_37 : decode cX6_part 37 = .ok (.getfield 23, 3) := by decide +kernel
theorem dX6_part_40 : decode cX6_part 40 = .ok (.bipush 27, 2) := by decide +kernel
theorem dX6_part_42 : decode cX6_part 42 = .ok (.iaload, 1) := by decide +kernel
theorem dX6_part_43 : decode cX6_part 43 = .ok (.if_icmp .ge 17, 3) := by decide +kernel
theorem dX6_part_46 : decode cX6_part 46 = .ok (.iload 4, 2) := by decide +kernel
theorem dX6_part_48 : decode cX6_part 48 = .ok (.iload_n 1, 1) := by decide +kernel
theorem dX6_part_49 : decode cX6_part 49 = .ok (.iconst 1, 1) := by decide +kernel
theorem dX6_part_50 : decode cX6_part 50 = .ok (.iadd, 1) := by decide +kernel
theorem dX6_part_51 : decode cX6_part 51 = .ok (.imul, 1) := by decide +kernel
theorem dX6_part_52 : decode cX6_part 52 = .ok (.istore 4, 2) := by decide +kernel
theorem dX6_part_54 : decode cX6_part 54 = .ok (.iinc 5 1, 3) := by decide +kernel
theorem dX6_part_57 : decode cX6_part 57 = .ok (.goto (-23), 3) := by decide +kernel
theorem dX6_part_60 : decode cX6_part 60 = .ok (.bipush (-4), 2) := by decide +kernel
theorem dX6_part_62 : decode cX6_part 62 = .ok (.istore 5, 2) := by decide +kernel
theorem dX6_part_64 : decode cX6_part 64 = .ok (.bipush (-4), 2) := by decide +kernel
theorem dX6_part_66 : decode cX6_part 66 = .ok (.istore 6, 2) := by decide +kernel
theorem dX6_part_68 : decode cX6_part 68 = .ok (.iconst 0, 1) := by decide +kernel
theorem dX6_part_69 : decode cX6_part 69 = .ok (.istore 7, 2) := by decide +kernel
theorem dX6_part_71 : decode cX6_part 71 = .ok (.iload 7, 2) := by decide +kernel
theorem dX6_part_73 : decode cX6_part 73 = .ok (.iload 4, 2) := by decide +kernel
theorem dX6_part_75 : decode cX6_part 75 = .ok (.if_icmp .ge 132, 3) := by decide +kernel
theorem dX6_part_78 : decode cX6_part 78 = .ok (.aload_n 0, 1) := by decide +kernel
theorem dX6_part_79 : decode cX6_part 79 = .ok (.getfield 23, 3) := by decide +kernel
theorem dX6_part_82 : decode cX6_part 82 = .ok (.bipush 27, 2) := by decide +kernel
theorem dX6_part_84 : decode cX6_part 84 = .ok (.iaload, 1) := by decide +kernel
theorem dX6_part_85 : decode cX6_part 85 = .ok (.ifCond .le 122, 3) := by decide +kernel
theorem dX6_part_88 : decode cX6_part 88 = .ok (.aload_n 0, 1) := by decide +kernel
theorem dX6_part_89 : decode cX6_part 89 = .ok (.iload 7, 2) := by decide +kernel
theorem dX6_part_91 : decode cX6_part 91 = .ok (.iload_n 1, 1) := by decide +kernel
theorem dX6_part_92 : decode cX6_part 92 = .ok (.invokevirtual 165, 3) := by decide +kernel
theorem dX6_part_95 : decode cX6_part 95 = .ok (.ifCond .eq 106, 3) := by decide +kernel
theorem dX6_part_98 : decode cX6_part 98 = .ok (.aload_n 0, 1) := by decide +kernel
theorem dX6_part_99 : decode cX6_part 99 = .ok (.invokevirtual 158, 3) := by decide +kernel
theorem dX6_part_102 : decode cX6_part 102 = .ok (.aload_n 0, 1) := by decide +kernel
theorem dX6_part_103 : decode cX6_part 103 = .ok (.getfield 41, 3) := by decide +kernel
theorem dX6_part_106 : decode cX6_part 106 = .ok (.iconst 0, 1) := by decide +kernel
theorem dX6_part_107 : decode cX6_part 107 = .ok (.aload_n 0, 1) := by decide +kernel
theorem dX6_part_108 : decode cX6_part 108 = .ok (.getfield 26, 3) := by decide +kernel
theorem dX6_part_111 : decode cX6_part 111 = .ok (.bipush 9, 2) := by decide +kernel
theorem dX6_part_113 : decode cX6_part 113 = .ok (.aload_n 0, 1) := by decide +kernel
theorem dX6_part_114 : decode cX6_part 114 = .ok (.getfield 23, 3) := by decide +kernel
theorem dX6_part_117 : decode cX6_part 117 = .ok (.bipush 27, 2) := by decide +kernel
theorem dX6_part_119 : decode cX6_part 119 = .ok (.iaload, 1) := by decide +kernel
theorem dX6_part_120 : decode cX6_part 120 = .ok (.invokestatic 115, 3) := by decide +kernel
theorem dX6_part_123 : decode cX6_part 123 = .ok (.aload_n 0, 1) := by decide +kernel
theorem dX6_part_124 : decode cX6_part 124 = .ok (.iload_n 2, 1) := by decide +kernel
theorem dX6_part_125 : decode cX6_part 125 = .ok (.invokevirtual 161, 3) := by decide +kernel
theorem dX6_part_128 : decode cX6_part 128 = .ok (.aload_n 0, 1) := by decide +kernel
theorem dX6_part_129 : decode cX6_part 129 = .ok (.getfield 23, 3) := by decide +kernel
theorem dX6_part_132 : decode cX6_part 132 = .ok (.bipush 27, 2) := by decide +kernel
theorem dX6_part_134 : decode cX6_part 134 = .ok (.iaload, 1) := by decide +kernel
theorem dX6_part_135 : decode cX6_part 135 = .ok (.aload_n 0, 1) := by decide +kernel
theorem dX6_part_136 : decode cX6_part 136 = .ok (.getfield 26, 3) := by decide +kernel
theorem dX6_part_139 : decode cX6_part 139 = .ok (.invokestatic 119, 3) := by decide +kernel
theorem dX6_part_142 : decode cX6_part 142 = .ok (.invokestatic 168, 3) := by decide +kernel
theorem dX6_part_145 : decode cX6_part 145 = .ok (.isub, 1) := by decide +kernel
theorem dX6_part_146 : decode cX6_part 146 = .ok (.istore 8, 2) := by decide +kernel
theorem dX6_part_148 : decode cX6_part 148 = .ok (.aload_n 0, 1) := by decide +kernel
theorem dX6_part_149 : decode cX6_part 149 = .ok (.getfield 26, 3) := by decide +kernel
theorem dX6_part_152 : decode cX6_part 152 = .ok (.invokestatic 123, 3) := by decide +kernel
theorem dX6_part_155 : decode cX6_part 155 = .ok (.istore 9, 2) := by decide +kernel
theorem dX6_part_157 : decode cX6_part 157 = .ok (.iload 8, 2) := by decide +kernel
theorem dX6_part_159 : decode cX6_part 159 = .ok (.iload 5, 2) := by decide +kernel
theorem dX6_part_161 : decode cX6_part 161 = .ok (.if_icmp .gt 17, 3) := by decide +kernel
theorem dX6_part_164 : decode cX6_part 164 = .ok (.iload 8, 2) := by decide +kernel
theorem dX6_part_166 : decode cX6_part 166 = .ok (.iload 5, 2) := by decide +kernel
theorem dX6_part_168 : decode cX6_part 168 = .ok (.if_icmp .ne 33, 3) := by decide +kernel
theorem dX6_part_171 : decode cX6_part 171 = .ok (.iload 9, 2) := by decide +kernel
theorem dX6_part_173 : decode cX6_part 173 = .ok (.iload 6, 2) := by decide +kernel
theorem dX6_part_175 : decode cX6_part 175 = .ok (.if_icmp .ge 26, 3) := by decide +kernel
theorem dX6_part_178 : decode cX6_part 178 = .ok (.iload 8, 2) := by decide +kernel
theorem dX6_part_180 : decode cX6_part 180 = .ok (.istore 5, 2) := by decide +kernel
theorem dX6_part_182 : decode cX6_part 182 = .ok (.iload 9, 2) := by decide +kernel
theorem dX6_part_184 : decode cX6_part 184 = .ok (.istore 6, 2) := by decide +kernel
theorem dX6_part_186 : decode cX6_part 186 = .ok (.aload_n 0, 1) := by decide +kernel
theorem dX6_part_187 : decode cX6_part 187 = .ok (.getfield 41, 3) := by decide +kernel
theorem dX6_part_190 : decode cX6_part 190 = .ok (.iconst 0, 1) := by decide +kernel
theorem dX6_part_191 : decode cX6_part 191 = .ok (.aload_n 0, 1) := by decide +kernel
theorem dX6_part_192 : decode cX6_part 192 = .ok (.getfield 44, 3) := by decide +kernel
theorem dX6_part_195 : decode cX6_part 195 = .ok (.iconst 0, 1) := by decide +kernel
theorem dX6_part_196 : decode cX6_part 196 = .ok (.bipush 6, 2) := by decide +kernel
theorem dX6_part_198 : decode cX6_part 198 = .ok (.invokestatic 115, 3) := by decide +kernel
theorem dX6_part_201 : decode cX6_part 201 = .ok (.iinc 7 1, 3) := by decide +kernel
theorem dX6_part_204 : decode cX6_part 204 = .ok (.goto (-133), 3) := by decide +kernel
theorem dX6_part_207 : decode cX6_part 207 = .ok (.iload_n 3, 1) := by decide +kernel
theorem dX6_part_208 : decode cX6_part 208 = .ok (.ifCond .ge 16, 3) := by decide +kernel
theorem dX6_part_211 : decode cX6_part 211 = .ok (.iload_n 3, 1) := by decide +kernel
theorem dX6_part_212 : decode cX6_part 212 = .ok (.iconst (-1), 1) := by decide +kernel
theorem dX6_part_213 : decode cX6_part 213 = .ok (.if_icmp .ne 8, 3) := by decide +kernel
theorem dX6_part_216 : decode cX6_part 216 = .ok (.iload 5, 2) := by decide +kernel
theorem dX6_part_218 : decode cX6_part 218 = .ok (.goto 5, 3) := by decide +kernel
theorem dX6_part_221 : decode cX6_part 221 = .ok (.iload 6, 2) := by decide +kernel
theorem dX6_part_223 : decode cX6_part 223 = .ok (.ireturn, 1) := by decide +kernel
theorem dX6_part_224 : decode cX6_part 224 = .ok (.aload_n 0, 1) := by decide +kernel
theorem dX6_part_225 : decode cX6_part 225 = .ok (.iload_n 3, 1) := by decide +kernel
theorem dX6_part_226 : decode cX6_part 226 = .ok (.invokevirtual 55, 3) := by decide +kernel
theorem dX6_part_229 : decode cX6_part 229 = .ok (.ifCond .eq 12, 3) := by decide +kernel
theorem dX6_part_232 : decode cX6_part 232 = .ok (.aload_n 0, 1) := by decide +kernel
theorem dX6_part_233 : decode cX6_part 233 = .ok (.getfield 44, 3) := by decide +kernel
theorem dX6_part_236 : decode cX6_part 236 = .ok (.iload_n 3, 1) := by decide +kernel
theorem dX6_part_237 : decode cX6_part 237 = .ok (.iaload, 1) := by decide +kernel
theorem dX6_part_238 : decode cX6_part 238 = .ok (.goto 5, 3) := by decide +kernel
theorem dX6_part_241 : decode cX6_part 241 = .ok (.bipush (-4), 2) := by decide +kernel
theorem dX6_part_243 : decode cX6_part 243 = .ok (.ireturn, 1) := by decide +kernel
theorem dX6_drives_0 : decode cX6_drives 0 = .ok (.aload_n 0, 1) := by decide +kernel
theorem dX6_drives_1 : decode cX6_drives 1 = .ok (.iload_n 1, 1) := by decide +kernel
theorem dX6_drives_2 : decode cX6_drives 2 = .ok (.invokevirtual 55, 3) := by decide +kernel
theorem dX6_drives_5 : decode cX6_drives 5 = .ok (.ifCond .eq 22, 3) := by decide +kernel
theorem dX6_drives_8 : decode cX6_drives 8 = .ok (.iload_n 2, 1) := by decide +kernel
theorem dX6_drives_9 : decode cX6_drives 9 = .ok (.iconst 1, 1) := by decide +kernel
theorem dX6_drives_10 : decode cX6_drives 10 = .ok (.bipush 40, 2) := by decide +kernel
theorem dX6_drives_12 : decode cX6_drives 12 = .ok (.invokestatic 47, 3) := by decide +kernel
theorem dX6_drives_15 : decode cX6_drives 15 = .ok (.ifCond .eq 12, 3) := by decide +kernel
theorem dX6_drives_18 : decode cX6_drives 18 = .ok (.iload_n 3, 1) := by decide +kernel
theorem dX6_drives_19 : decode cX6_drives 19 = .ok (.iconst 0, 1) := by decide +kernel
theorem dX6_drives_20 : decode cX6_drives 20 = .ok (.iconst 1, 1) := by decide +kernel
theorem dX6_drives_21 : decode cX6_drives 21 = .ok (.invokestatic 47, 3) := by decide +kernel
theorem dX6_drives_24 : decode cX6_drives 24 = .ok (.ifCond .ne 5, 3) := by decide +kernel
theorem dX6_drives_27 : decode cX6_drives 27 = .ok (.iconst (-1), 1) := by decide +kernel
theorem dX6_drives_28 : decode cX6_drives 28 = .ok (.ireturn, 1) := by decide +kernel
theorem dX6_drives_29 : decode cX6_drives 29 = .ok (.bipush (-4), 2) := by decide +kernel
theorem dX6_drives_31 : decode cX6_drives 31 = .ok (.istore 4, 2) := by decide +kernel
theorem dX6_drives_33 : decode cX6_drives 33 = .ok (.bipush (-4), 2) := by decide +kernel
theorem dX6_drives_35 : decode cX6_drives 35 = .ok (.istore 5, 2) := by decide +kernel
theorem dX6_drives_37 : decode cX6_drives 37 = .ok (.bipush (-4), 2) := by decide +kernel
theorem dX6_drives_39 : decode cX6_drives 39 = .ok (.istore 6, 2) := by decide +kernel
theorem dX6_drives_41 : decode cX6_drives 41 = .ok (.iconst 0, 1) := by decide +kernel
theorem dX6_drives_42 : decode cX6_drives 42 = .ok (.istore 7, 2) := by decide +kernel
theorem dX6_drives_44 : decode cX6_drives 44 = .ok (.iload 7, 2) := by decide +kernel
theorem dX6_drives_46 : decode cX6_drives 46 = .ok (.aload_n 0, 1) := by decide +kernel
theorem dX6_drives_47 : decode cX6_drives 47 = .ok (.getfield 23, 3) := by decide +kernel
theorem dX6_drives_50 : decode cX6_drives 50 = .ok (.bipush 28, 2) := by decide +kernel
theorem dX6_drives_52 : decode cX6_drives 52 = .ok (.iaload, 1) := by decide +kernel
theorem dX6_drives_53 : decode cX6_drives 53 = .ok (.if_icmp .ge 157, 3) := by decide +kernel
theorem dX6_drives_56 : decode cX6_drives 56 = .ok (.iconst 0, 1) := by decide +kernel
theorem dX6_drives_57 : decode cX6_drives 57 = .ok (.istore 8, 2) := by decide +kernel
theorem dX6_drives_59 : decode cX6_drives 59 = .ok (.iload 8, 2) := by decide +kernel
theorem dX6_drives_61 : decode cX6_drives 61 = .ok (.aload_n 0, 1) := by decide +kernel
theorem dX6_drives_62 : decode cX6_drives 62 = .ok (.getfield 23, 3) := by decide +kernel
theorem dX6_drives_65 : decode cX6_drives 65 = .ok (.bipush 27, 2) := by decide +kernel
theorem dX6_drives_67 : decode cX6_drives 67 = .ok (.iaload, 1) := by decide +kernel
theorem dX6_drives_68 : decode cX6_drives 68 = .ok (.if_icmp .ge 136, 3) := by decide +kernel
theorem dX6_drives_71 : decode cX6_drives 71 = .ok (.iload 8, 2) := by decide +kernel
theorem dX6_drives_73 : decode cX6_drives 73 = .ok (.aload_n 0, 1) := by decide +kernel
theorem dX6_drives_74 : decode cX6_drives 74 = .ok (.getfield 23, 3) := by decide +kernel
theorem dX6_drives_77 : decode cX6_drives 77 = .ok (.bipush 21, 2) := by decide +kernel
theorem dX6_drives_79 : decode cX6_drives 79 = .ok (.iload 7, 2) := by decide +kernel
theorem dX6_drives_81 : decode cX6_drives 81 = .ok (.iadd, 1) := by decide +kernel
theorem dX6_drives_82 : decode cX6_drives 82 = .ok (.iaload, 1) := by decide +kernel
theorem dX6_drives_83 : decode cX6_drives 83 = .ok (.if_icmp .eq 115, 3) := by decide +kernel
theorem dX6_drives_86 : decode cX6_drives 86 = .ok (.aload_n 0, 1) := by decide +kernel
theorem dX6_drives_87 : decode cX6_drives 87 = .ok (.invokevirtual 158, 3) := by decide +kernel
theorem dX6_drives_90 : decode cX6_drives 90 = .ok (.aload_n 0, 1) := by decide +kernel
theorem dX6_drives_91 : decode cX6_drives 91 = .ok (.getfield 26, 3) := by decide +kernel
theorem dX6_drives_94 : decode cX6_drives 94 = .ok (.bipush 21, 2) := by decide +kernel
theorem dX6_drives_96 : decode cX6_drives 96 = .ok (.iload 7, 2) := by decide +kernel
theorem dX6_drives_98 : decode cX6_drives 98 = .ok (.iadd, 1) := by decide +kernel
theorem dX6_drives_99 : decode cX6_drives 99 = .ok (.iload 8, 2) := by decide +kernel
theorem dX6_drives_101 : decode cX6_drives 101 = .ok (.iastore, 1) := by decide +kernel
theorem dX6_drives_102 : decode cX6_drives 102 = .ok (.aload_n 0, 1) := by decide +kernel
theorem dX6_drives_103 : decode cX6_drives 103 = .ok (.iload_n 2, 1) := by decide +kernel
theorem dX6_drives_104 : decode cX6_drives 104 = .ok (.invokevirtual 161, 3) := by decide +kernel
theorem dX6_drives_107 : decode cX6_drives 107 = .ok (.aload_n 0, 1) := by decide +kernel
theorem dX6_drives_108 : decode cX6_drives 108 = .ok (.getfield 26, 3) := by decide +kernel
theorem dX6_drives_111 : decode cX6_drives 111 = .ok (.bipush 15, 2) := by decide +kernel
theorem dX6_drives_113 : decode cX6_drives 113 = .ok (.iload_n 1, 1) := by decide +kernel
theorem dX6_drives_114 : decode cX6_drives 114 = .ok (.iadd, 1) := by decide +kernel
theorem dX6_drives_115 : decode cX6_drives 115 = .ok (.iaload, 1) := by decide +kernel
theorem dX6_drives_116 : decode cX6_drives 116 = .ok (.iload 5, 2) := by decide +kernel
theorem dX6_drives_118 : decode cX6_drives 118 = .ok (.if_icmp .lt 30, 3) := by decide +kernel
theorem dX6_drives_121 : decode cX6_drives 121 = .ok (.aload_n 0, 1) := by decide +kernel
theorem dX6_drives_122 : decode cX6_drives 122 = .ok (.getfield 26, 3) := by decide +kernel
theorem dX6_drives_125 : decode cX6_drives 125 = .ok (.bipush 15, 2) := by decide +kernel
theorem dX6_drives_127 : decode cX6_drives 127 = .ok (.iload_n 1, 1) := by decide +kernel
theorem dX6_drives_128 : decode cX6_drives 128 = .ok (.iadd, 1) := by decide +kernel
theorem dX6_drives_129 : decode cX6_drives 129 = .ok (.iaload, 1) := by decide +kernel
theorem dX6_drives_130 : decode cX6_drives 130 = .ok (.iload 5, 2) := by decide +kernel
theorem dX6_drives_132 : decode cX6_drives 132 = .ok (.if_icmp .ne 20, 3) := by decide +kernel
theorem dX6_drives_135 : decode cX6_drives 135 = .ok (.aload_n 0, 1) := by decide +kernel
theorem dX6_drives_136 : decode cX6_drives 136 = .ok (.getfield 26, 3) := by decide +kernel
theorem dX6_drives_139 : decode cX6_drives 139 = .ok (.iconst 3, 1) := by decide +kernel
theorem dX6_drives_140 : decode cX6_drives 140 = .ok (.iload_n 1, 1) := by decide +kernel
theorem dX6_drives_141 : decode cX6_drives 141 = .ok (.iadd, 1) := by decide +kernel
theorem dX6_drives_142 : decode cX6_drives 142 = .ok (.iaload, 1) := by decide +kernel
theorem dX6_drives_143 : decode cX6_drives 143 = .ok (.iload 6, 2) := by decide +kernel
theorem dX6_drives_145 : decode cX6_drives 145 = .ok (.if_icmp .ge 7, 3) := by decide +kernel
theorem dX6_drives_148 : decode cX6_drives 148 = .ok (.iconst 1, 1) := by decide +kernel
theorem dX6_drives_149 : decode cX6_drives 149 = .ok (.goto 4, 3) := by decide +kernel
theorem dX6_drives_152 : decode cX6_drives 152 = .ok (.iconst 0, 1) := by decide +kernel
theorem dX6_drives_153 : decode cX6_drives 153 = .ok (.istore 9, 2) := by decide +kernel
theorem dX6_drives_155 : decode cX6_drives 155 = .ok (.iload 4, 2) := by decide +kernel
theorem dX6_drives_157 : decode cX6_drives 157 = .ok (.bipush (-4), 2) := by decide +kernel
theorem dX6_drives_159 : decode cX6_drives 159 = .ok (.if_icmp .eq 8, 3) := by decide +kernel
theorem dX6_drives_162 : decode cX6_drives 162 = .ok (.iload 9, 2) := by decide +kernel
theorem dX6_drives_164 : decode cX6_drives 164 = .ok (.ifCond .eq 34, 3) := by decide +kernel
theorem dX6_drives_167 : decode cX6_drives 167 = .ok (.bipush 10, 2) := by decide +kernel
theorem dX6_drives_169 : decode cX6_drives 169 = .ok (.iload 7, 2) := by decide +kernel
theorem dX6_drives_171 : decode cX6_drives 171 = .ok (.imul, 1) := by decide +kernel
theorem dX6_drives_172 : decode cX6_drives 172 = .ok (.iload 8, 2) := by decide +kernel
theorem dX6_drives_174 : decode cX6_drives 174 = .ok (.iadd, 1) := by decide +kernel
theorem dX6_drives_175 : decode cX6_drives 175 = .ok (.istore 4, 2) := by decide +kernel
theorem dX6_drives_177 : decode cX6_drives 177 = .ok (.aload_n 0, 1) := by decide +kernel
theorem dX6_drives_178 : decode cX6_drives 178 = .ok (.getfield 26, 3) := by decide +kernel
theorem dX6_drives_181 : decode cX6_drives 181 = .ok (.bipush 15, 2) := by decide +kernel
theorem dX6_drives_183 : decode cX6_drives 183 = .ok (.iload_n 1, 1) := by decide +kernel
theorem dX6_drives_184 : decode cX6_drives 184 = .ok (.iadd, 1) := by decide +kernel
theorem dX6_drives_185 : decode cX6_drives 185 = .ok (.iaload, 1) := by decide +kernel
theorem dX6_drives_186 : decode cX6_drives 186 = .ok (.istore 5, 2) := by decide +kernel
theorem dX6_drives_188 : decode cX6_drives 188 = .ok (.aload_n 0, 1) := by decide +kernel
theorem dX6_drives_189 : decode cX6_drives 189 = .ok (.getfield 26, 3) := by decide +kernel
theorem dX6_drives_192 : decode cX6_drives 192 = .ok (.iconst 3, 1) := by decide +kernel
theorem dX6_drives_193 : decode cX6_drives 193 = .ok (.iload_n 1, 1) := by decide +kernel
theorem dX6_drives_194 : decode cX6_drives 194 = .ok (.iadd, 1) := by decide +kernel
theorem dX6_drives_195 : decode cX6_drives 195 = .ok (.iaload, 1) := by decide +kernel
theorem dX6_drives_196 : decode cX6_drives 196 = .ok (.istore 6, 2) := by decide +kernel
theorem dX6_drives_198 : decode cX6_drives 198 = .ok (.iinc 8 1, 3) := by decide +kernel
theorem dX6_drives_201 : decode cX6_drives 201 = .ok (.goto (-142), 3) := by decide +kernel
theorem dX6_drives_204 : decode cX6_drives 204 = .ok (.iinc 7 1, 3) := by decide +kernel
theorem dX6_drives_207 : decode cX6_drives 207 = .ok (.goto (-163), 3) := by decide +kernel
theorem dX6_drives_210 : decode cX6_drives 210 = .ok (.iload_n 3, 1) := by decide +kernel
theorem dX6_drives_211 : decode cX6_drives 211 = .ok (.ifCond .ne 8, 3) := by decide +kernel
theorem dX6_drives_214 : decode cX6_drives 214 = .ok (.iload 4, 2) := by decide +kernel
theorem dX6_drives_216 : decode cX6_drives 216 = .ok (.goto 5, 3) := by decide +kernel
theorem dX6_drives_219 : decode cX6_drives 219 = .ok (.iload 5, 2) := by decide +kernel
theorem dX6_drives_221 : decode cX6_drives 221 = .ok (.ireturn, 1) := by decide +kernel
theorem dX6_visits_0 : decode cX6_visits 0 = .ok (.iload_n 1, 1) := by decide +kernel
theorem dX6_visits_1 : decode cX6_visits 1 = .ok (.iconst 1, 1) := by decide +kernel
theorem dX6_visits_2 : decode cX6_visits 2 = .ok (.bipush 40, 2) := by decide +kernel
theorem dX6_visits_4 : decode cX6_visits 4 = .ok (.invokestatic 47, 3) := by decide +kernel
theorem dX6_visits_7 : decode cX6_visits 7 = .ok (.ifCond .eq 12, 3) := by decide +kernel
theorem dX6_visits_10 : decode cX6_visits 10 = .ok (.iload_n 2, 1) := by decide +kernel
theorem dX6_visits_11 : decode cX6_visits 11 = .ok (.iconst 0, 1) := by decide +kernel
theorem dX6_visits_12 : decode cX6_visits 12 = .ok (.iconst 1, 1) := by decide +kernel
theorem dX6_visits_13 : decode cX6_visits 13 = .ok (.invokestatic 47, 3) := by decide +kernel
theorem dX6_visits_16 : decode cX6_visits 16 = .ok (.ifCond .ne 5, 3) := by decide +kernel
theorem dX6_visits_19 : decode cX6_visits 19 = .ok (.iconst (-1), 1) := by decide +kernel
theorem dX6_visits_20 : decode cX6_visits 20 = .ok (.ireturn, 1) := by decide +kernel
theorem dX6_visits_21 : decode cX6_visits 21 = .ok (.aload_n 0, 1) := by decide +kernel
theorem dX6_visits_22 : decode cX6_visits 22 = .ok (.invokevirtual 158, 3) := by decide +kernel
theorem dX6_visits_25 : decode cX6_visits 25 = .ok (.aload_n 0, 1) := by decide +kernel
theorem dX6_visits_26 : decode cX6_visits 26 = .ok (.iload_n 1, 1) := by decide +kernel
theorem dX6_visits_27 : decode cX6_visits 27 = .ok (.invokevirtual 161, 3) := by decide +kernel
theorem dX6_visits_30 : decode cX6_visits 30 = .ok (.bipush (-4), 2) := by decide +kernel
theorem dX6_visits_32 : decode cX6_visits 32 = .ok (.istore_n 3, 1) := by decide +kernel
theorem dX6_visits_33 : decode cX6_visits 33 = .ok (.iconst 0, 1) := by decide +kernel
theorem dX6_visits_34 : decode cX6_visits 34 = .ok (.istore 4, 2) := by decide +kernel
theorem dX6_visits_36 : decode cX6_visits 36 = .ok (.iload 4, 2) := by decide +kernel
theorem dX6_visits_38 : decode cX6_visits 38 = .ok (.aload_n 0, 1) := by decide +kernel
theorem dX6_visits_39 : decode cX6_visits 39 = .ok (.getfield 23, 3) := by decide +kernel
theorem dX6_visits_42 : decode cX6_visits 42 = .ok (.bipush 27, 2) := by decide +kernel
theorem dX6_visits_44 : decode cX6_visits 44 = .ok (.iaload, 1) := by decide +kernel
theorem dX6_visits_45 : decode cX6_visits 45 = .ok (.if_icmp .ge 38, 3) := by decide +kernel
theorem dX6_visits_48 : decode cX6_visits 48 = .ok (.iload_n 3, 1) := by decide +kernel
theorem dX6_visits_49 : decode cX6_visits 49 = .ok (.bipush (-4), 2) := by decide +kernel
theorem dX6_visits_51 : decode cX6_visits 51 = .ok (.if_icmp .eq 19, 3) := by decide +kernel
theorem dX6_visits_54 : decode cX6_visits 54 = .ok (.aload_n 0, 1) := by decide +kernel
theorem dX6_visits_55 : decode cX6_visits 55 = .ok (.getfield 38, 3) := by decide +kernel
theorem dX6_visits_58 : decode cX6_visits 58 = .ok (.iload 4, 2) := by decide +kernel
theorem dX6_visits_60 : decode cX6_visits 60 = .ok (.iaload, 1) := by decide +kernel
theorem dX6_visits_61 : decode cX6_visits 61 = .ok (.aload_n 0, 1) := by decide +kernel
theorem dX6_visits_62 : decode cX6_visits 62 = .ok (.getfield 38, 3) := by decide +kernel
theorem dX6_visits_65 : decode cX6_visits 65 = .ok (.iload_n 3, 1) := by decide +kernel
theorem dX6_visits_66 : decode cX6_visits 66 = .ok (.iaload, 1) := by decide +kernel
theorem dX6_visits_67 : decode cX6_visits 67 = .ok (.if_icmp .le 8, 3) := by decide +kernel
theorem dX6_visits_70 : decode cX6_visits 70 = .ok (.iload 4, 2) := by decide +kernel
theorem dX6_visits_72 : decode cX6_visits 72 = .ok (.goto 4, 3) := by decide +kernel
theorem dX6_visits_75 : decode cX6_visits 75 = .ok (.iload_n 3, 1) := by decide +kernel
theorem dX6_visits_76 : decode cX6_visits 76 = .ok (.istore_n 3, 1) := by decide +kernel
theorem dX6_visits_77 : decode cX6_visits 77 = .ok (.iinc 4 1, 3) := by decide +kernel
theorem dX6_visits_80 : decode cX6_visits 80 = .ok (.goto (-44), 3) := by decide +kernel
theorem dX6_visits_83 : decode cX6_visits 83 = .ok (.iload_n 3, 1) := by decide +kernel
theorem dX6_visits_84 : decode cX6_visits 84 = .ok (.bipush (-4), 2) := by decide +kernel
theorem dX6_visits_86 : decode cX6_visits 86 = .ok (.if_icmp .eq 7, 3) := by decide +kernel
theorem dX6_visits_89 : decode cX6_visits 89 = .ok (.iload_n 2, 1) := by decide +kernel
theorem dX6_visits_90 : decode cX6_visits 90 = .ok (.ifCond .ne 7, 3) := by decide +kernel
theorem dX6_visits_93 : decode cX6_visits 93 = .ok (.iload_n 3, 1) := by decide +kernel
theorem dX6_visits_94 : decode cX6_visits 94 = .ok (.goto 9, 3) := by decide +kernel
theorem dX6_visits_97 : decode cX6_visits 97 = .ok (.aload_n 0, 1) := by decide +kernel
theorem dX6_visits_98 : decode cX6_visits 98 = .ok (.getfield 38, 3) := by decide +kernel
theorem dX6_visits_101 : decode cX6_visits 101 = .ok (.iload_n 3, 1) := by decide +kernel
theorem dX6_visits_102 : decode cX6_visits 102 = .ok (.iaload, 1) := by decide +kernel
theorem dX6_visits_103 : decode cX6_visits 103 = .ok (.ireturn, 1) := by decide +kernel
theorem dX6_solvent_0 : decode cX6_solvent 0 = .ok (.aload_n 0, 1) := by decide +kernel
theorem dX6_solvent_1 : decode cX6_solvent 1 = .ok (.iload_n 1, 1) := by decide +kernel
theorem dX6_solvent_2 : decode cX6_solvent 2 = .ok (.invokevirtual 55, 3) := by decide +kernel
theorem dX6_solvent_5 : decode cX6_solvent 5 = .ok (.ifCond .eq 13, 3) := by decide +kernel
theorem dX6_solvent_8 : decode cX6_solvent 8 = .ok (.iload_n 2, 1) := by decide +kernel
theorem dX6_solvent_9 : decode cX6_solvent 9 = .ok (.iconst 1, 1) := by decide +kernel
theorem dX6_solvent_10 : decode cX6_solvent 10 = .ok (.bipush 40, 2) := by decide +kernel
theorem dX6_solvent_12 : decode cX6_solvent 12 = .ok (.invokestatic 47, 3) := by decide +kernel
theorem dX6_solvent_15 : decode cX6_solvent 15 = .ok (.ifCond .ne 5, 3) := by decide +kernel
theorem dX6_solvent_18 : decode cX6_solvent 18 = .ok (.iconst (-1), 1) := by decide +kernel
theorem dX6_solvent_19 : decode cX6_solvent 19 = .ok (.ireturn, 1) := by decide +kernel
theorem dX6_solvent_20 : decode cX6_solvent 20 = .ok (.bipush 20, 2) := by decide +kernel
theorem dX6_solvent_22 : decode cX6_solvent 22 = .ok (.istore_n 3, 1) := by decide +kernel
theorem dX6_solvent_23 : decode cX6_solvent 23 = .ok (.iload_n 3, 1) := by decide +kernel
theorem dX6_solvent_24 : decode cX6_solvent 24 = .ok (.ifCond .lt 47, 3) := by decide +kernel
theorem dX6_solvent_27 : decode cX6_solvent 27 = .ok (.aload_n 0, 1) := by decide +kernel
theorem dX6_solvent_28 : decode cX6_solvent 28 = .ok (.invokevirtual 158, 3) := by decide +kernel
theorem dX6_solvent_31 : decode cX6_solvent 31 = .ok (.aload_n 0, 1) := by decide +kernel
theorem dX6_solvent_32 : decode cX6_solvent 32 = .ok (.getfield 26, 3) := by decide +kernel
theorem dX6_solvent_35 : decode cX6_solvent 35 = .ok (.bipush 26, 2) := by decide +kernel
theorem dX6_solvent_37 : decode cX6_solvent 37 = .ok (.iload_n 3, 1) := by decide +kernel
theorem dX6_solvent_38 : decode cX6_solvent 38 = .ok (.iastore, 1) := by decide +kernel
theorem dX6_solvent_39 : decode cX6_solvent 39 = .ok (.aload_n 0, 1) := by decide +kernel
theorem dX6_solvent_40 : decode cX6_solvent 40 = .ok (.iload_n 2, 1) := by decide +kernel
theorem dX6_solvent_41 : decode cX6_solvent 41 = .ok (.invokevirtual 161, 3) := by decide +kernel
theorem dX6_solvent_44 : decode cX6_solvent 44 = .ok (.aload_n 0, 1) := by decide +kernel
theorem dX6_solvent_45 : decode cX6_solvent 45 = .ok (.getfield 26, 3) := by decide +kernel
theorem dX6_solvent_48 : decode cX6_solvent 48 = .ok (.iconst 3, 1) := by decide +kernel
theorem dX6_solvent_49 : decode cX6_solvent 49 = .ok (.iload_n 1, 1) := by decide +kernel
theorem dX6_solvent_50 : decode cX6_solvent 50 = .ok (.iadd, 1) := by decide +kernel
theorem dX6_solvent_51 : decode cX6_solvent 51 = .ok (.iaload, 1) := by decide +kernel
theorem dX6_solvent_52 : decode cX6_solvent 52 = .ok (.aload_n 0, 1) := by decide +kernel
theorem dX6_solvent_53 : decode cX6_solvent 53 = .ok (.getfield 23, 3) := by decide +kernel
theorem dX6_solvent_56 : decode cX6_solvent 56 = .ok (.iconst 3, 1) := by decide +kernel
theorem dX6_solvent_57 : decode cX6_solvent 57 = .ok (.iload_n 1, 1) := by decide +kernel
theorem dX6_solvent_58 : decode cX6_solvent 58 = .ok (.iadd, 1) := by decide +kernel
theorem dX6_solvent_59 : decode cX6_solvent 59 = .ok (.iaload, 1) := by decide +kernel
theorem dX6_solvent_60 : decode cX6_solvent 60 = .ok (.if_icmp .gt 5, 3) := by decide +kernel
theorem dX6_solvent_63 : decode cX6_solvent 63 = .ok (.iload_n 3, 1) := by decide +kernel
theorem dX6_solvent_64 : decode cX6_solvent 64 = .ok (.ireturn, 1) := by decide +kernel
theorem dX6_solvent_65 : decode cX6_solvent 65 = .ok (.iinc 3 (-1), 3) := by decide +kernel
theorem dX6_solvent_68 : decode cX6_solvent 68 = .ok (.goto (-45), 3) := by decide +kernel
theorem dX6_solvent_71 : decode cX6_solvent 71 = .ok (.bipush (-4), 2) := by decide +kernel
theorem dX6_solvent_73 : decode cX6_solvent 73 = .ok (.ireturn, 1) := by decide +kernel
theorem dX6_sleep_0 : decode cX6_sleep 0 = .ok (.aload_n 0, 1) := by decide +kernel
theorem dX6_sleep_1 : decode cX6_sleep 1 = .ok (.iload_n 1, 1) := by decide +kernel
theorem dX6_sleep_2 : decode cX6_sleep 2 = .ok (.invokevirtual 55, 3) := by decide +kernel
theorem dX6_sleep_5 : decode cX6_sleep 5 = .ok (.ifCond .eq 22, 3) := by decide +kernel
theorem dX6_sleep_8 : decode cX6_sleep 8 = .ok (.iload_n 2, 1) := by decide +kernel
theorem dX6_sleep_9 : decode cX6_sleep 9 = .ok (.iconst 0, 1) := by decide +kernel
theorem dX6_sleep_10 : decode cX6_sleep 10 = .ok (.bipush 10, 2) := by decide +kernel
theorem dX6_sleep_12 : decode cX6_sleep 12 = .ok (.invokestatic 47, 3) := by decide +kernel
theorem dX6_sleep_15 : decode cX6_sleep 15 = .ok (.ifCond .eq 12, 3) := by decide +kernel
theorem dX6_sleep_18 : decode cX6_sleep 18 = .ok (.iload_n 3, 1) := by decide +kernel
theorem dX6_sleep_19 : decode cX6_sleep 19 = .ok (.iconst 0, 1) := by decide +kernel
theorem dX6_sleep_20 : decode cX6_sleep 20 = .ok (.iconst 1, 1) := by decide +kernel
theorem dX6_sleep_21 : decode cX6_sleep 21 = .ok (.invokestatic 47, 3) := by decide +kernel
theorem dX6_sleep_24 : decode cX6_sleep 24 = .ok (.ifCond .ne 5, 3) := by decide +kernel
theorem dX6_sleep_27 : decode cX6_sleep 27 = .ok (.iconst (-1), 1) := by decide +kernel
theorem dX6_sleep_28 : decode cX6_sleep 28 = .ok (.ireturn, 1) := by decide +kernel
theorem dX6_sleep_29 : decode cX6_sleep 29 = .ok (.iconst 0, 1) := by decide +kernel
theorem dX6_sleep_30 : decode cX6_sleep 30 = .ok (.istore 4, 2) := by decide +kernel
theorem dX6_sleep_32 : decode cX6_sleep 32 = .ok (.iconst 1, 1) := by decide +kernel
theorem dX6_sleep_33 : decode cX6_sleep 33 = .ok (.istore 5, 2) := by decide +kernel
theorem dX6_sleep_35 : decode cX6_sleep 35 = .ok (.iconst 0, 1) := by decide +kernel
theorem dX6_sleep_36 : decode cX6_sleep 36 = .ok (.istore 6, 2) := by decide +kernel
theorem dX6_sleep_38 : decode cX6_sleep 38 = .ok (.iload 6, 2) := by decide +kernel
theorem dX6_sleep_40 : decode cX6_sleep 40 = .ok (.aload_n 0, 1) := by decide +kernel
theorem dX6_sleep_41 : decode cX6_sleep 41 = .ok (.getfield 23, 3) := by decide +kernel
theorem dX6_sleep_44 : decode cX6_sleep 44 = .ok (.bipush 28, 2) := by decide +kernel
theorem dX6_sleep_46 : decode cX6_sleep 46 = .ok (.iaload, 1) := by decide +kernel
theorem dX6_sleep_47 : decode cX6_sleep 47 = .ok (.if_icmp .ge 16, 3) := by decide +kernel
theorem dX6_sleep_50 : decode cX6_sleep 50 = .ok (.iload 5, 2) := by decide +kernel
theorem dX6_sleep_52 : decode cX6_sleep 52 = .ok (.bipush 10, 2) := by decide +kernel
theorem dX6_sleep_54 : decode cX6_sleep 54 = .ok (.imul, 1) := by decide +kernel
theorem dX6_sleep_55 : decode cX6_sleep 55 = .ok (.istore 5, 2) := by decide +kernel
theorem dX6_sleep_57 : decode cX6_sleep 57 = .ok (.iinc 6 1, 3) := by decide +kernel
theorem dX6_sleep_60 : decode cX6_sleep 60 = .ok (.goto (-22), 3) := by decide +kernel
theorem dX6_sleep_63 : decode cX6_sleep 63 = .ok (.iconst 0, 1) := by decide +kernel
theorem dX6_sleep_64 : decode cX6_sleep 64 = .ok (.istore 6, 2) := by decide +kernel
theorem dX6_sleep_66 : decode cX6_sleep 66 = .ok (.iload 6, 2) := by decide +kernel
theorem dX6_sleep_68 : decode cX6_sleep 68 = .ok (.iconst 1, 1) := by decide +kernel
theorem dX6_sleep_69 : decode cX6_sleep 69 = .ok (.aload_n 0, 1) := by decide +kernel
theorem dX6_sleep_70 : decode cX6_sleep 70 = .ok (.getfield 23, 3) := by decide +kernel
theorem dX6_sleep_73 : decode cX6_sleep 73 = .ok (.bipush 28, 2) := by decide +kernel
theorem dX6_sleep_75 : decode cX6_sleep 75 = .ok (.iaload, 1) := by decide +kernel
theorem dX6_sleep_76 : decode cX6_sleep 76 = .ok (.ishl, 1) := by decide +kernel
theorem dX6_sleep_77 : decode cX6_sleep 77 = .ok (.if_icmp .ge 102, 3) := by decide +kernel
theorem dX6_sleep_80 : decode cX6_sleep 80 = .ok (.iconst 1, 1) := by decide +kernel
theorem dX6_sleep_81 : decode cX6_sleep 81 = .ok (.istore 7, 2) := by decide +kernel
theorem dX6_sleep_83 : decode cX6_sleep 83 = .ok (.iconst 0, 1) := by decide +kernel
theorem dX6_sleep_84 : decode cX6_sleep 84 = .ok (.istore 8, 2) := by decide +kernel
theorem dX6_sleep_86 : decode cX6_sleep 86 = .ok (.iload 8, 2) := by decide +kernel
theorem dX6_sleep_88 : decode cX6_sleep 88 = .ok (.aload_n 0, 1) := by decide +kernel
theorem dX6_sleep_89 : decode cX6_sleep 89 = .ok (.getfield 23, 3) := by decide +kernel
theorem dX6_sleep_92 : decode cX6_sleep 92 = .ok (.bipush 28, 2) := by decide +kernel
theorem dX6_sleep_94 : decode cX6_sleep 94 = .ok (.iaload, 1) := by decide +kernel
theorem dX6_sleep_95 : decode cX6_sleep 95 = .ok (.if_icmp .ge 32, 3) := by decide +kernel
theorem dX6_sleep_98 : decode cX6_sleep 98 = .ok (.iload 7, 2) := by decide +kernel
theorem dX6_sleep_100 : decode cX6_sleep 100 = .ok (.iload 6, 2) := by decide +kernel
theorem dX6_sleep_102 : decode cX6_sleep 102 = .ok (.iload 8, 2) := by decide +kernel
theorem dX6_sleep_104 : decode cX6_sleep 104 = .ok (.invokestatic 138, 3) := by decide +kernel
theorem dX6_sleep_107 : decode cX6_sleep 107 = .ok (.ifCond .eq 7, 3) := by decide +kernel
theorem dX6_sleep_110 : decode cX6_sleep 110 = .ok (.iload_n 2, 1) := by decide +kernel
theorem dX6_sleep_111 : decode cX6_sleep 111 = .ok (.goto 7, 3) := by decide +kernel
theorem dX6_sleep_114 : decode cX6_sleep 114 = .ok (.bipush 10, 2) := by decide +kernel
theorem dX6_sleep_116 : decode cX6_sleep 116 = .ok (.iload_n 2, 1) := by decide +kernel
theorem dX6_sleep_117 : decode cX6_sleep 117 = .ok (.isub, 1) := by decide +kernel
theorem dX6_sleep_118 : decode cX6_sleep 118 = .ok (.imul, 1) := by decide +kernel
theorem dX6_sleep_119 : decode cX6_sleep 119 = .ok (.istore 7, 2) := by decide +kernel
theorem dX6_sleep_121 : decode cX6_sleep 121 = .ok (.iinc 8 1, 3) := by decide +kernel
theorem dX6_sleep_124 : decode cX6_sleep 124 = .ok (.goto (-38), 3) := by decide +kernel
theorem dX6_sleep_127 : decode cX6_sleep 127 = .ok (.aload_n 0, 1) := by decide +kernel
theorem dX6_sleep_128 : decode cX6_sleep 128 = .ok (.invokevirtual 158, 3) := by decide +kernel
theorem dX6_sleep_131 : decode cX6_sleep 131 = .ok (.aload_n 0, 1) := by decide +kernel
theorem dX6_sleep_132 : decode cX6_sleep 132 = .ok (.aload_n 0, 1) := by decide +kernel
theorem dX6_sleep_133 : decode cX6_sleep 133 = .ok (.getfield 26, 3) := by decide +kernel
theorem dX6_sleep_136 : decode cX6_sleep 136 = .ok (.iload 6, 2) := by decide +kernel
theorem dX6_sleep_138 : decode cX6_sleep 138 = .ok (.invokevirtual 148, 3) := by decide +kernel
theorem dX6_sleep_141 : decode cX6_sleep 141 = .ok (.iload 4, 2) := by decide +kernel
theorem dX6_sleep_143 : decode cX6_sleep 143 = .ok (.aload_n 0, 1) := by decide +kernel
theorem dX6_sleep_144 : decode cX6_sleep 144 = .ok (.getfield 26, 3) := by decide +kernel
theorem dX6_sleep_147 : decode cX6_sleep 147 = .ok (.bipush 15, 2) := by decide +kernel
theorem dX6_sleep_149 : decode cX6_sleep 149 = .ok (.iload_n 1, 1) := by decide +kernel
theorem dX6_sleep_150 : decode cX6_sleep 150 = .ok (.iadd, 1) := by decide +kernel
theorem dX6_sleep_151 : decode cX6_sleep 151 = .ok (.iaload, 1) := by decide +kernel
theorem dX6_sleep_152 : decode cX6_sleep 152 = .ok (.aload_n 0, 1) := by decide +kernel
theorem dX6_sleep_153 : decode cX6_sleep 153 = .ok (.getfield 23, 3) := by decide +kernel
theorem dX6_sleep_156 : decode cX6_sleep 156 = .ok (.bipush 15, 2) := by decide +kernel
theorem dX6_sleep_158 : decode cX6_sleep 158 = .ok (.iload_n 1, 1) := by decide +kernel
theorem dX6_sleep_159 : decode cX6_sleep 159 = .ok (.iadd, 1) := by decide +kernel
theorem dX6_sleep_160 : decode cX6_sleep 160 = .ok (.iaload, 1) := by decide +kernel
theorem dX6_sleep_161 : decode cX6_sleep 161 = .ok (.if_icmp .le 8, 3) := by decide +kernel
theorem dX6_sleep_164 : decode cX6_sleep 164 = .ok (.iload 7, 2) := by decide +kernel
theorem dX6_sleep_166 : decode cX6_sleep 166 = .ok (.goto 4, 3) := by decide +kernel
theorem dX6_sleep_169 : decode cX6_sleep 169 = .ok (.iconst 0, 1) := by decide +kernel
theorem dX6_sleep_170 : decode cX6_sleep 170 = .ok (.iadd, 1) := by decide +kernel
theorem dX6_sleep_171 : decode cX6_sleep 171 = .ok (.istore 4, 2) := by decide +kernel
theorem dX6_sleep_173 : decode cX6_sleep 173 = .ok (.iinc 6 1, 3) := by decide +kernel
theorem dX6_sleep_176 : decode cX6_sleep 176 = .ok (.goto (-110), 3) := by decide +kernel
theorem dX6_sleep_179 : decode cX6_sleep 179 = .ok (.iload 4, 2) := by decide +kernel
theorem dX6_sleep_181 : decode cX6_sleep 181 = .ok (.istore 6, 2) := by decide +kernel
theorem dX6_sleep_183 : decode cX6_sleep 183 = .ok (.iload 5, 2) := by decide +kernel
theorem dX6_sleep_185 : decode cX6_sleep 185 = .ok (.istore 7, 2) := by decide +kernel
theorem dX6_sleep_187 : decode cX6_sleep 187 = .ok (.iload 7, 2) := by decide +kernel
theorem dX6_sleep_189 : decode cX6_sleep 189 = .ok (.ifCond .le 21, 3) := by decide +kernel
theorem dX6_sleep_192 : decode cX6_sleep 192 = .ok (.iload 6, 2) := by decide +kernel
theorem dX6_sleep_194 : decode cX6_sleep 194 = .ok (.iload 7, 2) := by decide +kernel
theorem dX6_sleep_196 : decode cX6_sleep 196 = .ok (.irem, 1) := by decide +kernel
theorem dX6_sleep_197 : decode cX6_sleep 197 = .ok (.istore 8, 2) := by decide +kernel
theorem dX6_sleep_199 : decode cX6_sleep 199 = .ok (.iload 7, 2) := by decide +kernel
theorem dX6_sleep_201 : decode cX6_sleep 201 = .ok (.istore 6, 2) := by decide +kernel
theorem dX6_sleep_203 : decode cX6_sleep 203 = .ok (.iload 8, 2) := by decide +kernel
theorem dX6_sleep_205 : decode cX6_sleep 205 = .ok (.istore 7, 2) := by decide +kernel
theorem dX6_sleep_207 : decode cX6_sleep 207 = .ok (.goto (-20), 3) := by decide +kernel
theorem dX6_sleep_210 : decode cX6_sleep 210 = .ok (.iload_n 3, 1) := by decide +kernel
theorem dX6_sleep_211 : decode cX6_sleep 211 = .ok (.ifCond .ne 8, 3) := by decide +kernel
theorem dX6_sleep_214 : decode cX6_sleep 214 = .ok (.iload 4, 2) := by decide +kernel
theorem dX6_sleep_216 : decode cX6_sleep 216 = .ok (.goto 5, 3) := by decide +kernel
theorem dX6_sleep_219 : decode cX6_sleep 219 = .ok (.iload 5, 2) := by decide +kernel
theorem dX6_sleep_221 : decode cX6_sleep 221 = .ok (.iload 6, 2) := by decide +kernel
theorem dX6_sleep_223 : decode cX6_sleep 223 = .ok (.idiv, 1) := by decide +kernel
theorem dX6_sleep_224 : decode cX6_sleep 224 = .ok (.ireturn, 1) := by decide +kernel
theorem dX6_image_0 : decode cX6_image 0 = .ok (.aload_n 0, 1) := by decide +kernel
theorem dX6_image_1 : decode cX6_image 1 = .ok (.getfield 23, 3) := by decide +kernel
theorem dX6_image_4 : decode cX6_image 4 = .ok (.iconst 0, 1) := by decide +kernel
theorem dX6_image_5 : decode cX6_image 5 = .ok (.aload_n 0, 1) := by decide +kernel
theorem dX6_image_6 : decode cX6_image 6 = .ok (.getfield 32, 3) := by decide +kernel
theorem dX6_image_9 : decode cX6_image 9 = .ok (.iconst 0, 1) := by decide +kernel
theorem dX6_image_10 : decode cX6_image 10 = .ok (.sipush 248, 3) := by decide +kernel
theorem dX6_image_13 : decode cX6_image 13 = .ok (.invokestatic 115, 3) := by decide +kernel
theorem dX6_image_16 : decode cX6_image 16 = .ok (.aload_n 0, 1) := by decide +kernel
theorem dX6_image_17 : decode cX6_image 17 = .ok (.iconst 1, 1) := by decide +kernel
theorem dX6_image_18 : decode cX6_image 18 = .ok (.putfield 171, 3) := by decide +kernel
theorem dX6_image_21 : decode cX6_image 21 = .ok (.iconst 1, 1) := by decide +kernel
theorem dX6_image_22 : decode cX6_image 22 = .ok (.ireturn, 1) := by decide +kernel
theorem dX6_restore_0 : decode cX6_restore 0 = .ok (.aload_n 0, 1) := by decide +kernel
theorem dX6_restore_1 : decode cX6_restore 1 = .ok (.getfield 171, 3) := by decide +kernel
theorem dX6_restore_4 : decode cX6_restore 4 = .ok (.ifCond .ne 6, 3) := by decide +kernel
theorem dX6_restore_7 : decode cX6_restore 7 = .ok (.bipush (-4), 2) := by decide +kernel
theorem dX6_restore_9 : decode cX6_restore 9 = .ok (.ireturn, 1) := by decide +kernel
theorem dX6_restore_10 : decode cX6_restore 10 = .ok (.aload_n 0, 1) := by decide +kernel
theorem dX6_restore_11 : decode cX6_restore 11 = .ok (.getfield 32, 3) := by decide +kernel
theorem dX6_restore_14 : decode cX6_restore 14 = .ok (.iconst 0, 1) := by decide +kernel
theorem dX6_restore_15 : decode cX6_restore 15 = .ok (.aload_n 0, 1) := by decide +kernel
theorem dX6_restore_16 : decode cX6_restore 16 = .ok (.getfield 23, 3) := by decide +kernel
theorem dX6_restore_19 : decode cX6_restore 19 = .ok (.iconst 0, 1) := by decide +kernel
theorem dX6_restore_20 : decode cX6_restore 20 = .ok (.sipush 248, 3) := by decide +kernel
theorem dX6_restore_23 : decode cX6_restore 23 = .ok (.invokestatic 115, 3) := by decide +kernel
theorem dX6_restore_26 : decode cX6_restore 26 = .ok (.iconst 1, 1) := by decide +kernel
theorem dX6_restore_27 : decode cX6_restore 27 = .ok (.ireturn, 1) := by decide +kernel
theorem dX6_isSheet_0 : decode cX6_isSheet 0 = .ok (.iload_n 0, 1) := by decide +kernel
theorem dX6_isSheet_1 : decode cX6_isSheet 1 = .ok (.iconst 0, 1) := by decide +kernel
theorem dX6_isSheet_2 : decode cX6_isSheet 2 = .ok (.iconst 3, 1) := by decide +kernel
theorem dX6_isSheet_3 : decode cX6_isSheet 3 = .ok (.invokestatic 47, 3) := by decide +kernel
theorem dX6_isSheet_6 : decode cX6_isSheet 6 = .ok (.ireturn, 1) := by decide +kernel
theorem dX6_isPart_0 : decode cX6_isPart 0 = .ok (.iload_n 1, 1) := by decide +kernel
theorem dX6_isPart_1 : decode cX6_isPart 1 = .ok (.ifCond .lt 23, 3) := by decide +kernel
theorem dX6_isPart_4 : decode cX6_isPart 4 = .ok (.iload_n 0, 1) := by decide +kernel
theorem dX6_isPart_5 : decode cX6_isPart 5 = .ok (.ifCond .lt 19, 3) := by decide +kernel
theorem dX6_isPart_8 : decode cX6_isPart 8 = .ok (.iload_n 1, 1) := by decide +kernel
theorem dX6_isPart_9 : decode cX6_isPart 9 = .ok (.iload_n 2, 1) := by decide +kernel
theorem dX6_isPart_10 : decode cX6_isPart 10 = .ok (.if_icmp .gt 14, 3) := by decide +kernel
theorem dX6_isPart_13 : decode cX6_isPart 13 = .ok (.iload_n 0, 1) := by decide +kernel
theorem dX6_isPart_14 : decode cX6_isPart 14 = .ok (.iload_n 2, 1) := by decide +kernel
theorem dX6_isPart_15 : decode cX6_isPart 15 = .ok (.iload_n 1, 1) := by decide +kernel
theorem dX6_isPart_16 : decode cX6_isPart 16 = .ok (.isub, 1) := by decide +kernel
theorem dX6_isPart_17 : decode cX6_isPart 17 = .ok (.if_icmp .gt 7, 3) := by decide +kernel
theorem dX6_isPart_20 : decode cX6_isPart 20 = .ok (.iconst 1, 1) := by decide +kernel
theorem dX6_isPart_21 : decode cX6_isPart 21 = .ok (.goto 4, 3) := by decide +kernel
theorem dX6_isPart_24 : decode cX6_isPart 24 = .ok (.iconst 0, 1) := by decide +kernel
theorem dX6_isPart_25 : decode cX6_isPart 25 = .ok (.ireturn, 1) := by decide +kernel
theorem dX6_wrong_0 : decode cX6_wrong 0 = .ok (.aload_n 0, 1) := by decide +kernel
theorem dX6_wrong_1 : decode cX6_wrong 1 = .ok (.getfield 7, 3) := by decide +kernel
theorem dX6_wrong_4 : decode cX6_wrong 4 = .ok (.iload_n 1, 1) := by decide +kernel
theorem dX6_wrong_5 : decode cX6_wrong 5 = .ok (.iaload, 1) := by decide +kernel
theorem dX6_wrong_6 : decode cX6_wrong 6 = .ok (.ifCond .ge 8, 3) := by decide +kernel
theorem dX6_wrong_9 : decode cX6_wrong 9 = .ok (.bipush (-11), 2) := by decide +kernel
theorem dX6_wrong_11 : decode cX6_wrong 11 = .ok (.goto 39, 3) := by decide +kernel
theorem dX6_wrong_14 : decode cX6_wrong 14 = .ok (.aload_n 0, 1) := by decide +kernel
theorem dX6_wrong_15 : decode cX6_wrong 15 = .ok (.getfield 7, 3) := by decide +kernel
theorem dX6_wrong_18 : decode cX6_wrong 18 = .ok (.iload_n 1, 1) := by decide +kernel
theorem dX6_wrong_19 : decode cX6_wrong 19 = .ok (.iaload, 1) := by decide +kernel
theorem dX6_wrong_20 : decode cX6_wrong 20 = .ok (.iload_n 2, 1) := by decide +kernel
theorem dX6_wrong_21 : decode cX6_wrong 21 = .ok (.if_icmp .eq 8, 3) := by decide +kernel
theorem dX6_wrong_24 : decode cX6_wrong 24 = .ok (.bipush (-12), 2) := by decide +kernel
theorem dX6_wrong_26 : decode cX6_wrong 26 = .ok (.goto 24, 3) := by decide +kernel
theorem dX6_wrong_29 : decode cX6_wrong 29 = .ok (.iload_n 3, 1) := by decide +kernel
theorem dX6_wrong_30 : decode cX6_wrong 30 = .ok (.iload 4, 2) := by decide +kernel
theorem dX6_wrong_32 : decode cX6_wrong 32 = .ok (.aload_n 0, 1) := by decide +kernel
theorem dX6_wrong_33 : decode cX6_wrong 33 = .ok (.getfield 13, 3) := by decide +kernel
theorem dX6_wrong_36 : decode cX6_wrong 36 = .ok (.iload_n 1, 1) := by decide +kernel
theorem dX6_wrong_37 : decode cX6_wrong 37 = .ok (.iaload, 1) := by decide +kernel
theorem dX6_wrong_38 : decode cX6_wrong 38 = .ok (.invokestatic 175, 3) := by decide +kernel
theorem dX6_wrong_41 : decode cX6_wrong 41 = .ok (.ifCond .eq 7, 3) := by decide +kernel
theorem dX6_wrong_44 : decode cX6_wrong 44 = .ok (.iconst 0, 1) := by decide +kernel
theorem dX6_wrong_45 : decode cX6_wrong 45 = .ok (.goto 5, 3) := by decide +kernel
theorem dX6_wrong_48 : decode cX6_wrong 48 = .ok (.bipush (-13), 2) := by decide +kernel
theorem dX6_wrong_50 : decode cX6_wrong 50 = .ok (.ireturn, 1) := by decide +kernel
theorem dX6_isLeft_0 : decode cX6_isLeft 0 = .ok (.iconst 1, 1) := by decide +kernel
theorem dX6_isLeft_1 : decode cX6_isLeft 1 = .ok (.istore 5, 2) := by decide +kernel
theorem dX6_isLeft_3 : decode cX6_isLeft 3 = .ok (.iconst 0, 1) := by decide +kernel
theorem dX6_isLeft_4 : decode cX6_isLeft 4 = .ok (.istore 6, 2) := by decide +kernel
theorem dX6_isLeft_6 : decode cX6_isLeft 6 = .ok (.iload 6, 2) := by decide +kernel
theorem dX6_isLeft_8 : decode cX6_isLeft 8 = .ok (.iload 4, 2) := by decide +kernel
theorem dX6_isLeft_10 : decode cX6_isLeft 10 = .ok (.if_icmp .ge 55, 3) := by decide +kernel
theorem dX6_isLeft_13 : decode cX6_isLeft 13 = .ok (.iload 5, 2) := by decide +kernel
theorem dX6_isLeft_15 : decode cX6_isLeft 15 = .ok (.ifCond .eq 50, 3) := by decide +kernel
theorem dX6_isLeft_18 : decode cX6_isLeft 18 = .ok (.aload_n 0, 1) := by decide +kernel
theorem dX6_isLeft_19 : decode cX6_isLeft 19 = .ok (.aload_n 0, 1) := by decide +kernel
theorem dX6_isLeft_20 : decode cX6_isLeft 20 = .ok (.getfield 26, 3) := by decide +kernel
theorem dX6_isLeft_23 : decode cX6_isLeft 23 = .ok (.iconst 0, 1) := by decide +kernel
theorem dX6_isLeft_24 : decode cX6_isLeft 24 = .ok (.invokevirtual 148, 3) := by decide +kernel
theorem dX6_isLeft_27 : decode cX6_isLeft 27 = .ok (.aload_n 0, 1) := by decide +kernel
theorem dX6_isLeft_28 : decode cX6_isLeft 28 = .ok (.getfield 35, 3) := by decide +kernel
theorem dX6_isLeft_31 : decode cX6_isLeft 31 = .ok (.iload_n 1, 1) := by decide +kernel
theorem dX6_isLeft_32 : decode cX6_isLeft 32 = .ok (.iaload, 1) := by decide +kernel
theorem dX6_isLeft_33 : decode cX6_isLeft 33 = .ok (.i2l, 1) := by decide +kernel
theorem dX6_isLeft_34 : decode cX6_isLeft 34 = .ok (.aload_n 0, 1) := by decide +kernel
theorem dX6_isLeft_35 : decode cX6_isLeft 35 = .ok (.getfield 16, 3) := by decide +kernel
theorem dX6_isLeft_38 : decode cX6_isLeft 38 = .ok (.bipush 24, 2) := by decide +kernel
theorem dX6_isLeft_40 : decode cX6_isLeft 40 = .ok (.iload_n 2, 1) := by decide +kernel
theorem dX6_isLeft_41 : decode cX6_isLeft 41 = .ok (.imul, 1) := by decide +kernel
theorem dX6_isLeft_42 : decode cX6_isLeft 42 = .ok (.iload_n 3, 1) := by decide +kernel
theorem dX6_isLeft_43 : decode cX6_isLeft 43 = .ok (.iadd, 1) := by decide +kernel
theorem dX6_isLeft_44 : decode cX6_isLeft 44 = .ok (.iload 6, 2) := by decide +kernel
theorem dX6_isLeft_46 : decode cX6_isLeft 46 = .ok (.iadd, 1) := by decide +kernel
theorem dX6_isLeft_47 : decode cX6_isLeft 47 = .ok (.laload, 1) := by decide +kernel
theorem dX6_isLeft_48 : decode cX6_isLeft 48 = .ok (.lcmp, 1) := by decide +kernel
theorem dX6_isLeft_49 : decode cX6_isLeft 49 = .ok (.ifCond .ne 7, 3) := by decide +kernel
theorem dX6_isLeft_52 : decode cX6_isLeft 52 = .ok (.iconst 1, 1) := by decide +kernel
theorem dX6_isLeft_53 : decode cX6_isLeft 53 = .ok (.goto 4, 3) := by decide +kernel
theorem dX6_isLeft_56 : decode cX6_isLeft 56 = .ok (.iconst 0, 1) := by decide +kernel
theorem dX6_isLeft_57 : decode cX6_isLeft 57 = .ok (.istore 5, 2) := by decide +kernel
theorem dX6_isLeft_59 : decode cX6_isLeft 59 = .ok (.iinc 6 1, 3) := by decide +kernel
theorem dX6_isLeft_62 : decode cX6_isLeft 62 = .ok (.goto (-56), 3) := by decide +kernel
theorem dX6_isLeft_65 : decode cX6_isLeft 65 = .ok (.iload 5, 2) := by decide +kernel
theorem dX6_isLeft_67 : decode cX6_isLeft 67 = .ok (.ireturn, 1) := by decide +kernel
theorem dX6_dawns_0 : decode cX6_dawns 0 = .ok (.aload_n 0, 1) := by decide +kernel
theorem dX6_dawns_1 : decode cX6_dawns 1 = .ok (.iload_n 1, 1) := by decide +kernel
theorem dX6_dawns_2 : decode cX6_dawns 2 = .ok (.invokevirtual 71, 3) := by decide +kernel
theorem dX6_dawns_5 : decode cX6_dawns 5 = .ok (.ifCond .eq 49, 3) := by decide +kernel
theorem dX6_dawns_8 : decode cX6_dawns 8 = .ok (.aload_n 0, 1) := by decide +kernel
theorem dX6_dawns_9 : decode cX6_dawns 9 = .ok (.iload_n 2, 1) := by decide +kernel
theorem dX6_dawns_10 : decode cX6_dawns 10 = .ok (.invokevirtual 55, 3) := by decide +kernel
theorem dX6_dawns_13 : decode cX6_dawns 13 = .ok (.ifCond .eq 41, 3) := by decide +kernel
theorem dX6_dawns_16 : decode cX6_dawns 16 = .ok (.iload_n 3, 1) := by decide +kernel
theorem dX6_dawns_17 : decode cX6_dawns 17 = .ok (.invokestatic 178, 3) := by decide +kernel
theorem dX6_dawns_20 : decode cX6_dawns 20 = .ok (.ifCond .eq 34, 3) := by decide +kernel
theorem dX6_dawns_23 : decode cX6_dawns 23 = .ok (.iload 4, 2) := by decide +kernel
theorem dX6_dawns_25 : decode cX6_dawns 25 = .ok (.iconst 0, 1) := by decide +kernel
theorem dX6_dawns_26 : decode cX6_dawns 26 = .ok (.iconst 3, 1) := by decide +kernel
theorem dX6_dawns_27 : decode cX6_dawns 27 = .ok (.invokestatic 47, 3) := by decide +kernel
theorem dX6_dawns_30 : decode cX6_dawns 30 = .ok (.ifCond .eq 24, 3) := by decide +kernel
theorem dX6_dawns_33 : decode cX6_dawns 33 = .ok (.iload 6, 2) := by decide +kernel
theorem dX6_dawns_35 : decode cX6_dawns 35 = .ok (.iconst 1, 1) := by decide +kernel
theorem dX6_dawns_36 : decode cX6_dawns 36 = .ok (.bipush 8, 2) := by decide +kernel
theorem dX6_dawns_38 : decode cX6_dawns 38 = .ok (.invokestatic 47, 3) := by decide +kernel
theorem dX6_dawns_41 : decode cX6_dawns 41 = .ok (.ifCond .eq 13, 3) := by decide +kernel
theorem dX6_dawns_44 : decode cX6_dawns 44 = .ok (.iload 7, 2) := by decide +kernel
theorem dX6_dawns_46 : decode cX6_dawns 46 = .ok (.iconst 0, 1) := by decide +kernel
theorem dX6_dawns_47 : decode cX6_dawns 47 = .ok (.iconst 1, 1) := by decide +kernel
theorem dX6_dawns_48 : decode cX6_dawns 48 = .ok (.invokestatic 47, 3) := by decide +kernel
theorem dX6_dawns_51 : decode cX6_dawns 51 = .ok (.ifCond .ne 5, 3) := by decide +kernel
theorem dX6_dawns_54 : decode cX6_dawns 54 = .ok (.iconst (-1), 1) := by decide +kernel
theorem dX6_dawns_55 : decode cX6_dawns 55 = .ok (.ireturn, 1) := by decide +kernel
theorem dX6_dawns_56 : decode cX6_dawns 56 = .ok (.aload_n 0, 1) := by decide +kernel
theorem dX6_dawns_57 : decode cX6_dawns 57 = .ok (.iload_n 3, 1) := by decide +kernel
theorem dX6_dawns_58 : decode cX6_dawns 58 = .ok (.iload 4, 2) := by decide +kernel
theorem dX6_dawns_60 : decode cX6_dawns 60 = .ok (.iload 5, 2) := by decide +kernel
theorem dX6_dawns_62 : decode cX6_dawns 62 = .ok (.iload 6, 2) := by decide +kernel
theorem dX6_dawns_64 : decode cX6_dawns 64 = .ok (.invokevirtual 181, 3) := by decide +kernel
theorem dX6_dawns_67 : decode cX6_dawns 67 = .ok (.istore 8, 2) := by decide +kernel
theorem dX6_dawns_69 : decode cX6_dawns 69 = .ok (.iload 8, 2) := by decide +kernel
theorem dX6_dawns_71 : decode cX6_dawns 71 = .ok (.ifCond .eq 6, 3) := by decide +kernel
theorem dX6_dawns_74 : decode cX6_dawns 74 = .ok (.iload 8, 2) := by decide +kernel
theorem dX6_dawns_76 : decode cX6_dawns 76 = .ok (.ireturn, 1) := by decide +kernel
theorem dX6_dawns_77 : decode cX6_dawns 77 = .ok (.iconst 0, 1) := by decide +kernel
theorem dX6_dawns_78 : decode cX6_dawns 78 = .ok (.istore 9, 2) := by decide +kernel
theorem dX6_dawns_80 : decode cX6_dawns 80 = .ok (.iload 7, 2) := by decide +kernel
theorem dX6_dawns_82 : decode cX6_dawns 82 = .ok (.istore 10, 2) := by decide +kernel
theorem dX6_dawns_84 : decode cX6_dawns 84 = .ok (.iload 10, 2) := by decide +kernel
theorem dX6_dawns_86 : decode cX6_dawns 86 = .ok (.iload 7, 2) := by decide +kernel
theorem dX6_dawns_88 : decode cX6_dawns 88 = .ok (.ifCond .ne 7, 3) := by decide +kernel
theorem dX6_dawns_91 : decode cX6_dawns 91 = .ok (.iconst 4, 1) := by decide +kernel
theorem dX6_dawns_92 : decode cX6_dawns 92 = .ok (.goto 5, 3) := by decide +kernel
theorem dX6_dawns_95 : decode cX6_dawns 95 = .ok (.bipush 9, 2) := by decide +kernel
theorem dX6_dawns_97 : decode cX6_dawns 97 = .ok (.if_icmp .gt 60, 3) := by decide +kernel
theorem dX6_dawns_100 : decode cX6_dawns 100 = .ok (.aload_n 0, 1) := by decide +kernel
theorem dX6_dawns_101 : decode cX6_dawns 101 = .ok (.invokevirtual 158, 3) := by decide +kernel
theorem dX6_dawns_104 : decode cX6_dawns 104 = .ok (.aload_n 0, 1) := by decide +kernel
theorem dX6_dawns_105 : decode cX6_dawns 105 = .ok (.getfield 26, 3) := by decide +kernel
theorem dX6_dawns_108 : decode cX6_dawns 108 = .ok (.iload 7, 2) := by decide +kernel
theorem dX6_dawns_110 : decode cX6_dawns 110 = .ok (.ifCond .ne 8, 3) := by decide +kernel
theorem dX6_dawns_113 : decode cX6_dawns 113 = .ok (.bipush 29, 2) := by decide +kernel
theorem dX6_dawns_115 : decode cX6_dawns 115 = .ok (.goto 5, 3) := by decide +kernel
theorem dX6_dawns_118 : decode cX6_dawns 118 = .ok (.bipush 34, 2) := by decide +kernel
theorem dX6_dawns_120 : decode cX6_dawns 120 = .ok (.iload_n 1, 1) := by decide +kernel
theorem dX6_dawns_121 : decode cX6_dawns 121 = .ok (.iadd, 1) := by decide +kernel
theorem dX6_dawns_122 : decode cX6_dawns 122 = .ok (.iload 10, 2) := by decide +kernel
theorem dX6_dawns_124 : decode cX6_dawns 124 = .ok (.iastore, 1) := by decide +kernel
theorem dX6_dawns_125 : decode cX6_dawns 125 = .ok (.iload 9, 2) := by decide +kernel
theorem dX6_dawns_127 : decode cX6_dawns 127 = .ok (.aload_n 0, 1) := by decide +kernel
theorem dX6_dawns_128 : decode cX6_dawns 128 = .ok (.iload_n 2, 1) := by decide +kernel
theorem dX6_dawns_129 : decode cX6_dawns 129 = .ok (.iload_n 3, 1) := by decide +kernel
theorem dX6_dawns_130 : decode cX6_dawns 130 = .ok (.iload 5, 2) := by decide +kernel
theorem dX6_dawns_132 : decode cX6_dawns 132 = .ok (.iload 6, 2) := by decide +kernel
theorem dX6_dawns_134 : decode cX6_dawns 134 = .ok (.invokevirtual 185, 3) := by decide +kernel
theorem dX6_dawns_137 : decode cX6_dawns 137 = .ok (.ifCond .eq 10, 3) := by decide +kernel
theorem dX6_dawns_140 : decode cX6_dawns 140 = .ok (.iconst 1, 1) := by decide +kernel
theorem dX6_dawns_141 : decode cX6_dawns 141 = .ok (.iload 10, 2) := by decide +kernel
theorem dX6_dawns_143 : decode cX6_dawns 143 = .ok (.ishl, 1) := by decide +kernel
theorem dX6_dawns_144 : decode cX6_dawns 144 = .ok (.goto 4, 3) := by decide +kernel
theorem dX6_dawns_147 : decode cX6_dawns 147 = .ok (.iconst 0, 1) := by decide +kernel
theorem dX6_dawns_148 : decode cX6_dawns 148 = .ok (.ior, 1) := by decide +kernel
theorem dX6_dawns_149 : decode cX6_dawns 149 = .ok (.istore 9, 2) := by decide +kernel
theorem dX6_dawns_151 : decode cX6_dawns 151 = .ok (.iinc 10 1, 3) := by decide +kernel
theorem dX6_dawns_154 : decode cX6_dawns 154 = .ok (.goto (-70), 3) := by decide +kernel
theorem dX6_dawns_157 : decode cX6_dawns 157 = .ok (.iload 9, 2) := by decide +kernel
theorem dX6_dawns_159 : decode cX6_dawns 159 = .ok (.ireturn, 1) := by decide +kernel
theorem dX6_cutTo_0 : decode cX6_cutTo 0 = .ok (.iload_n 0, 1) := by decide +kernel
theorem dX6_cutTo_1 : decode cX6_cutTo 1 = .ok (.ifCond .ne 10, 3) := by decide +kernel
theorem dX6_cutTo_4 : decode cX6_cutTo 4 = .ok (.lload_n 1, 1) := by decide +kernel
theorem dX6_cutTo_5 : decode cX6_cutTo 5 = .ok (.l2i, 1) := by decide +kernel
theorem dX6_cutTo_6 : decode cX6_cutTo 6 = .ok (.i2b, 1) := by decide +kernel
theorem dX6_cutTo_7 : decode cX6_cutTo 7 = .ok (.i2l, 1) := by decide +kernel
theorem dX6_cutTo_8 : decode cX6_cutTo 8 = .ok (.goto 27, 3) := by decide +kernel
theorem dX6_cutTo_11 : decode cX6_cutTo 11 = .ok (.iload_n 0, 1) := by decide +kernel
theorem dX6_cutTo_12 : decode cX6_cutTo 12 = .ok (.iconst 1, 1) := by decide +kernel
theorem dX6_cutTo_13 : decode cX6_cutTo 13 = .ok (.if_icmp .ne 10, 3) := by decide +kernel
theorem dX6_cutTo_16 : decode cX6_cutTo 16 = .ok (.lload_n 1, 1) := by decide +kernel
theorem dX6_cutTo_17 : decode cX6_cutTo 17 = .ok (.l2i, 1) := by decide +kernel
theorem dX6_cutTo_18 : decode cX6_cutTo 18 = .ok (.i2s, 1) := by decide +kernel
theorem dX6_cutTo_19 : decode cX6_cutTo 19 = .ok (.i2l, 1) := by decide +kernel
theorem dX6_cutTo_20 : decode cX6_cutTo 20 = .ok (.goto 15, 3) := by decide +kernel
theorem dX6_cutTo_23 : decode cX6_cutTo 23 = .ok (.iload_n 0, 1) := by decide +kernel
theorem dX6_cutTo_24 : decode cX6_cutTo 24 = .ok (.iconst 2, 1) := by decide +kernel
theorem dX6_cutTo_25 : decode cX6_cutTo 25 = .ok (.if_icmp .ne 9, 3) := by decide +kernel
theorem dX6_cutTo_28 : decode cX6_cutTo 28 = .ok (.lload_n 1, 1) := by decide +kernel
theorem dX6_cutTo_29 : decode cX6_cutTo 29 = .ok (.l2i, 1) := by decide +kernel
theorem dX6_cutTo_30 : decode cX6_cutTo 30 = .ok (.i2l, 1) := by decide +kernel
theorem dX6_cutTo_31 : decode cX6_cutTo 31 = .ok (.goto 4, 3) := by decide +kernel
theorem dX6_cutTo_34 : decode cX6_cutTo 34 = .ok (.lload_n 1, 1) := by decide +kernel
theorem dX6_cutTo_35 : decode cX6_cutTo 35 = .ok (.lreturn, 1) := by decide +kernel
theorem dX6_film_0 : decode cX6_film 0 = .ok (.aload_n 0, 1) := by decide +kernel
theorem dX6_film_1 : decode cX6_film 1 = .ok (.iload_n 1, 1) := by decide +kernel
theorem dX6_film_2 : decode cX6_film 2 = .ok (.invokevirtual 55, 3) := by decide +kernel
theorem dX6_film_5 : decode cX6_film 5 = .ok (.ifCond .eq 30, 3) := by decide +kernel
theorem dX6_film_8 : decode cX6_film 8 = .ok (.iload_n 2, 1) := by decide +kernel
theorem dX6_film_9 : decode cX6_film 9 = .ok (.iconst 1, 1) := by decide +kernel
theorem dX6_film_10 : decode cX6_film 10 = .ok (.bipush 24, 2) := by decide +kernel
theorem dX6_film_12 : decode cX6_film 12 = .ok (.invokestatic 47, 3) := by decide +kernel
theorem dX6_film_15 : decode cX6_film 15 = .ok (.ifCond .eq 20, 3) := by decide +kernel
theorem dX6_film_18 : decode cX6_film 18 = .ok (.iload_n 3, 1) := by decide +kernel
theorem dX6_film_19 : decode cX6_film 19 = .ok (.invokestatic 178, 3) := by decide +kernel
theorem dX6_film_22 : decode cX6_film 22 = .ok (.ifCond .eq 13, 3) := by decide +kernel
theorem dX6_film_25 : decode cX6_film 25 = .ok (.iload 4, 2) := by decide +kernel
theorem dX6_film_27 : decode cX6_film 27 = .ok (.iconst 0, 1) := by decide +kernel
theorem dX6_film_28 : decode cX6_film 28 = .ok (.iconst 3, 1) := by decide +kernel
theorem dX6_film_29 : decode cX6_film 29 = .ok (.invokestatic 47, 3) := by decide +kernel
theorem dX6_film_32 : decode cX6_film 32 = .ok (.ifCond .ne 5, 3) := by decide +kernel
theorem dX6_film_35 : decode cX6_film 35 = .ok (.iconst (-1), 1) := by decide +kernel
theorem dX6_film_36 : decode cX6_film 36 = .ok (.ireturn, 1) := by decide +kernel
theorem dX6_film_37 : decode cX6_film 37 = .ok (.aload_n 0, 1) := by decide +kernel
theorem dX6_film_38 : decode cX6_film 38 = .ok (.iload_n 3, 1) := by decide +kernel
theorem dX6_film_39 : decode cX6_film 39 = .ok (.iload 4, 2) := by decide +kernel
theorem dX6_film_41 : decode cX6_film 41 = .ok (.iload 5, 2) := by decide +kernel
theorem dX6_film_43 : decode cX6_film 43 = .ok (.iload_n 2, 1) := by decide +kernel
theorem dX6_film_44 : decode cX6_film 44 = .ok (.invokevirtual 181, 3) := by decide +kernel
theorem dX6_film_47 : decode cX6_film 47 = .ok (.istore 6, 2) := by decide +kernel
theorem dX6_film_49 : decode cX6_film 49 = .ok (.iload 6, 2) := by decide +kernel
theorem dX6_film_51 : decode cX6_film 51 = .ok (.ifCond .eq 6, 3) := by decide +kernel
theorem dX6_film_54 : decode cX6_film 54 = .ok (.iload 6, 2) := by decide +kernel
theorem dX6_film_56 : decode cX6_film 56 = .ok (.ireturn, 1) := by decide +kernel
theorem dX6_film_57 : decode cX6_film 57 = .ok (.aload_n 0, 1) := by decide +kernel
theorem dX6_film_58 : decode cX6_film 58 = .ok (.invokevirtual 158, 3) := by decide +kernel
theorem dX6_film_61 : decode cX6_film 61 = .ok (.iconst 0, 1) := by decide +kernel
theorem dX6_film_62 : decode cX6_film 62 = .ok (.istore 7, 2) := by decide +kernel
theorem dX6_film_64 : decode cX6_film 64 = .ok (.iload 7, 2) := by decide +kernel
theorem dX6_film_66 : decode cX6_film 66 = .ok (.iload_n 2, 1) := by decide +kernel
theorem dX6_film_67 : decode cX6_film 67 = .ok (.if_icmp .ge 47, 3) := by decide +kernel
theorem dX6_film_70 : decode cX6_film 70 = .ok (.aload_n 0, 1) := by decide +kernel
theorem dX6_film_71 : decode cX6_film 71 = .ok (.aload_n 0, 1) := by decide +kernel
theorem dX6_film_72 : decode cX6_film 72 = .ok (.getfield 26, 3) := by decide +kernel
theorem dX6_film_75 : decode cX6_film 75 = .ok (.iconst 0, 1) := by decide +kernel
theorem dX6_film_76 : decode cX6_film 76 = .ok (.invokevirtual 148, 3) := by decide +kernel
theorem dX6_film_79 : decode cX6_film 79 = .ok (.aload_n 0, 1) := by decide +kernel
theorem dX6_film_80 : decode cX6_film 80 = .ok (.getfield 16, 3) := by decide +kernel
theorem dX6_film_83 : decode cX6_film 83 = .ok (.bipush 24, 2) := by decide +kernel
theorem dX6_film_85 : decode cX6_film 85 = .ok (.iload_n 3, 1) := by decide +kernel
theorem dX6_film_86 : decode cX6_film 86 = .ok (.imul, 1) := by decide +kernel
theorem dX6_film_87 : decode cX6_film 87 = .ok (.iload 5, 2) := by decide +kernel
theorem dX6_film_89 : decode cX6_film 89 = .ok (.iadd, 1) := by decide +kernel
theorem dX6_film_90 : decode cX6_film 90 = .ok (.iload 7, 2) := by decide +kernel
theorem dX6_film_92 : decode cX6_film 92 = .ok (.iadd, 1) := by decide +kernel
theorem dX6_film_93 : decode cX6_film 93 = .ok (.iload 4, 2) := by decide +kernel
theorem dX6_film_95 : decode cX6_film 95 = .ok (.aload_n 0, 1) := by decide +kernel
theorem dX6_film_96 : decode cX6_film 96 = .ok (.getfield 26, 3) := by decide +kernel
theorem dX6_film_99 : decode cX6_film 99 = .ok (.iconst 3, 1) := by decide +kernel
theorem dX6_film_100 : decode cX6_film 100 = .ok (.iload_n 1, 1) := by decide +kernel
theorem dX6_film_101 : decode cX6_film 101 = .ok (.iadd, 1) := by decide +kernel
theorem dX6_film_102 : decode cX6_film 102 = .ok (.iaload, 1) := by decide +kernel
theorem dX6_film_103 : decode cX6_film 103 = .ok (.i2l, 1) := by decide +kernel
theorem dX6_film_104 : decode cX6_film 104 = .ok (.invokestatic 189, 3) := by decide +kernel
theorem dX6_film_107 : decode cX6_film 107 = .ok (.lastore, 1) := by decide +kernel
theorem dX6_film_108 : decode cX6_film 108 = .ok (.iinc 7 1, 3) := by decide +kernel
theorem dX6_film_111 : decode cX6_film 111 = .ok (.goto (-47), 3) := by decide +kernel
theorem dX6_film_114 : decode cX6_film 114 = .ok (.iload_n 2, 1) := by decide +kernel
theorem dX6_film_115 : decode cX6_film 115 = .ok (.ireturn, 1) := by decide +kernel
theorem dX6_sheet_0 : decode cX6_sheet 0 = .ok (.iload_n 1, 1) := by decide +kernel
theorem dX6_sheet_1 : decode cX6_sheet 1 = .ok (.invokestatic 178, 3) := by decide +kernel
theorem dX6_sheet_4 : decode cX6_sheet 4 = .ok (.ifCond .eq 18, 3) := by decide +kernel
theorem dX6_sheet_7 : decode cX6_sheet 7 = .ok (.iload_n 2, 1) := by decide +kernel
theorem dX6_sheet_8 : decode cX6_sheet 8 = .ok (.iconst 0, 1) := by decide +kernel
theorem dX6_sheet_9 : decode cX6_sheet 9 = .ok (.iconst 3, 1) := by decide +kernel
theorem dX6_sheet_10 : decode cX6_sheet 10 = .ok (.invokestatic 47, 3) := by decide +kernel
theorem dX6_sheet_13 : decode cX6_sheet 13 = .ok (.ifCond .eq 9, 3) := by decide +kernel
theorem dX6_sheet_16 : decode cX6_sheet 16 = .ok (.iload_n 3, 1) := by decide +kernel
theorem dX6_sheet_17 : decode cX6_sheet 17 = .ok (.bipush 24, 2) := by decide +kernel
theorem dX6_sheet_19 : decode cX6_sheet 19 = .ok (.if_icmp .le 5, 3) := by decide +kernel
theorem dX6_sheet_22 : decode cX6_sheet 22 = .ok (.iconst (-1), 1) := by decide +kernel
theorem dX6_sheet_23 : decode cX6_sheet 23 = .ok (.ireturn, 1) := by decide +kernel
theorem dX6_sheet_24 : decode cX6_sheet 24 = .ok (.iload_n 3, 1) := by decide +kernel
theorem dX6_sheet_25 : decode cX6_sheet 25 = .ok (.ifCond .ge 6, 3) := by decide +kernel
theorem dX6_sheet_28 : decode cX6_sheet 28 = .ok (.bipush (-14), 2) := by decide +kernel
theorem dX6_sheet_30 : decode cX6_sheet 30 = .ok (.ireturn, 1) := by decide +kernel
theorem dX6_sheet_31 : decode cX6_sheet 31 = .ok (.aload_n 0, 1) := by decide +kernel
theorem dX6_sheet_32 : decode cX6_sheet 32 = .ok (.getfield 7, 3) := by decide +kernel
theorem dX6_sheet_35 : decode cX6_sheet 35 = .ok (.iload_n 1, 1) := by decide +kernel
theorem dX6_sheet_36 : decode cX6_sheet 36 = .ok (.iload_n 2, 1) := by decide +kernel
theorem dX6_sheet_37 : decode cX6_sheet 37 = .ok (.iastore, 1) := by decide +kernel
theorem dX6_sheet_38 : decode cX6_sheet 38 = .ok (.aload_n 0, 1) := by decide +kernel
theorem dX6_sheet_39 : decode cX6_sheet 39 = .ok (.getfield 13, 3) := by decide +kernel
theorem dX6_sheet_42 : decode cX6_sheet 42 = .ok (.iload_n 1, 1) := by decide +kernel
theorem dX6_sheet_43 : decode cX6_sheet 43 = .ok (.iload_n 3, 1) := by decide +kernel
theorem dX6_sheet_44 : decode cX6_sheet 44 = .ok (.iastore, 1) := by decide +kernel
theorem dX6_sheet_45 : decode cX6_sheet 45 = .ok (.iconst 0, 1) := by decide +kernel
theorem dX6_sheet_46 : decode cX6_sheet 46 = .ok (.istore 4, 2) := by decide +kernel
theorem dX6_sheet_48 : decode cX6_sheet 48 = .ok (.iload 4, 2) := by decide +kernel
theorem dX6_sheet_50 : decode cX6_sheet 50 = .ok (.bipush 24, 2) := by decide +kernel
theorem dX6_sheet_52 : decode cX6_sheet 52 = .ok (.if_icmp .ge 22, 3) := by decide +kernel
theorem dX6_sheet_55 : decode cX6_sheet 55 = .ok (.aload_n 0, 1) := by decide +kernel
theorem dX6_sheet_56 : decode cX6_sheet 56 = .ok (.getfield 16, 3) := by decide +kernel
theorem dX6_sheet_59 : decode cX6_sheet 59 = .ok (.bipush 24, 2) := by decide +kernel
theorem dX6_sheet_61 : decode cX6_sheet 61 = .ok (.iload_n 1, 1) := by decide +kernel
theorem dX6_sheet_62 : decode cX6_sheet 62 = .ok (.imul, 1) := by decide +kernel
theorem dX6_sheet_63 : decode cX6_sheet 63 = .ok (.iload 4, 2) := by decide +kernel
theorem dX6_sheet_65 : decode cX6_sheet 65 = .ok (.iadd, 1) := by decide +kernel
theorem dX6_sheet_66 : decode cX6_sheet 66 = .ok (.lconst 0, 1) := by decide +kernel
theorem dX6_sheet_67 : decode cX6_sheet 67 = .ok (.lastore, 1) := by decide +kernel
theorem dX6_sheet_68 : decode cX6_sheet 68 = .ok (.iinc 4 1, 3) := by decide +kernel
theorem dX6_sheet_71 : decode cX6_sheet 71 = .ok (.goto (-23), 3) := by decide +kernel
theorem dX6_sheet_74 : decode cX6_sheet 74 = .ok (.iload_n 3, 1) := by decide +kernel
theorem dX6_sheet_75 : decode cX6_sheet 75 = .ok (.ireturn, 1) := by decide +kernel
theorem dX6_drop_0 : decode cX6_drop 0 = .ok (.iload_n 1, 1) := by decide +kernel
theorem dX6_drop_1 : decode cX6_drop 1 = .ok (.invokestatic 178, 3) := by decide +kernel
theorem dX6_drop_4 : decode cX6_drop 4 = .ok (.ifCond .ne 5, 3) := by decide +kernel
theorem dX6_drop_7 : decode cX6_drop 7 = .ok (.iconst (-1), 1) := by decide +kernel
theorem dX6_drop_8 : decode cX6_drop 8 = .ok (.ireturn, 1) := by decide +kernel
theorem dX6_drop_9 : decode cX6_drop 9 = .ok (.aload_n 0, 1) := by decide +kernel
theorem dX6_drop_10 : decode cX6_drop 10 = .ok (.getfield 7, 3) := by decide +kernel
theorem dX6_drop_13 : decode cX6_drop 13 = .ok (.iload_n 1, 1) := by decide +kernel
theorem dX6_drop_14 : decode cX6_drop 14 = .ok (.iaload, 1) := by decide +kernel
theorem dX6_drop_15 : decode cX6_drop 15 = .ok (.ifCond .ge 6, 3) := by decide +kernel
theorem dX6_drop_18 : decode cX6_drop 18 = .ok (.bipush (-11), 2) := by decide +kernel
theorem dX6_drop_20 : decode cX6_drop 20 = .ok (.ireturn, 1) := by decide +kernel
theorem dX6_drop_21 : decode cX6_drop 21 = .ok (.aload_n 0, 1) := by decide +kernel
theorem dX6_drop_22 : decode cX6_drop 22 = .ok (.getfield 7, 3) := by decide +kernel
theorem dX6_drop_25 : decode cX6_drop 25 = .ok (.iload_n 1, 1) := by decide +kernel
theorem dX6_drop_26 : decode cX6_drop 26 = .ok (.iconst (-1), 1) := by decide +kernel
theorem dX6_drop_27 : decode cX6_drop 27 = .ok (.iastore, 1) := by decide +kernel
theorem dX6_drop_28 : decode cX6_drop 28 = .ok (.aload_n 0, 1) := by decide +kernel
theorem dX6_drop_29 : decode cX6_drop 29 = .ok (.getfield 13, 3) := by decide +kernel
theorem dX6_drop_32 : decode cX6_drop 32 = .ok (.iload_n 1, 1) := by decide +kernel
theorem dX6_drop_33 : decode cX6_drop 33 = .ok (.iaload, 1) := by decide +kernel
theorem dX6_drop_34 : decode cX6_drop 34 = .ok (.ireturn, 1) := by decide +kernel
theorem dX6_item_0 : decode cX6_item 0 = .ok (.iload_n 1, 1) := by decide +kernel
theorem dX6_item_1 : decode cX6_item 1 = .ok (.invokestatic 178, 3) := by decide +kernel
theorem dX6_item_4 : decode cX6_item 4 = .ok (.ifCond .eq 12, 3) := by decide +kernel
theorem dX6_item_7 : decode cX6_item 7 = .ok (.iload_n 2, 1) := by decide +kernel
theorem dX6_item_8 : decode cX6_item 8 = .ok (.iconst 0, 1) := by decide +kernel
theorem dX6_item_9 : decode cX6_item 9 = .ok (.iconst 3, 1) := by decide +kernel
theorem dX6_item_10 : decode cX6_item 10 = .ok (.invokestatic 47, 3) := by decide +kernel
theorem dX6_item_13 : decode cX6_item 13 = .ok (.ifCond .ne 5, 3) := by decide +kernel
theorem dX6_item_16 : decode cX6_item 16 = .ok (.iconst (-1), 1) := by decide +kernel
theorem dX6_item_17 : decode cX6_item 17 = .ok (.ireturn, 1) := by decide +kernel
theorem dX6_item_18 : decode cX6_item 18 = .ok (.aload_n 0, 1) := by decide +kernel
theorem dX6_item_19 : decode cX6_item 19 = .ok (.iload_n 1, 1) := by decide +kernel
theorem dX6_item_20 : decode cX6_item 20 = .ok (.iload_n 2, 1) := by decide +kernel
theorem dX6_item_21 : decode cX6_item 21 = .ok (.iload_n 3, 1) := by decide +kernel
theorem dX6_item_22 : decode cX6_item 22 = .ok (.iconst 1, 1) := by decide +kernel
theorem dX6_item_23 : decode cX6_item 23 = .ok (.invokevirtual 181, 3) := by decide +kernel
theorem dX6_item_26 : decode cX6_item 26 = .ok (.istore 6, 2) := by decide +kernel
theorem dX6_item_28 : decode cX6_item 28 = .ok (.iload 6, 2) := by decide +kernel
theorem dX6_item_30 : decode cX6_item 30 = .ok (.ifCond .eq 6, 3) := by decide +kernel
theorem dX6_item_33 : decode cX6_item 33 = .ok (.iload 6, 2) := by decide +kernel
theorem dX6_item_35 : decode cX6_item 35 = .ok (.ireturn, 1) := by decide +kernel
theorem dX6_item_36 : decode cX6_item 36 = .ok (.aload_n 0, 1) := by decide +kernel
theorem dX6_item_37 : decode cX6_item 37 = .ok (.getfield 16, 3) := by decide +kernel
theorem dX6_item_40 : decode cX6_item 40 = .ok (.bipush 24, 2) := by decide +kernel
theorem dX6_item_42 : decode cX6_item 42 = .ok (.iload_n 1, 1) := by decide +kernel
theorem dX6_item_43 : decode cX6_item 43 = .ok (.imul, 1) := by decide +kernel
theorem dX6_item_44 : decode cX6_item 44 = .ok (.iload_n 3, 1) := by decide +kernel
theorem dX6_item_45 : decode cX6_item 45 = .ok (.iadd, 1) := by decide +kernel
theorem dX6_item_46 : decode cX6_item 46 = .ok (.iload_n 2, 1) := by decide +kernel
theorem dX6_item_47 : decode cX6_item 47 = .ok (.ifCond .ne 11, 3) := by decide +kernel
theorem dX6_item_50 : decode cX6_item 50 = .ok (.lload 4, 2) := by decide +kernel
theorem dX6_item_52 : decode cX6_item 52 = .ok (.l2i, 1) := by decide +kernel
theorem dX6_item_53 : decode cX6_item 53 = .ok (.i2b, 1) := by decide +kernel
theorem dX6_item_54 : decode cX6_item 54 = .ok (.i2l, 1) := by decide +kernel
theorem dX6_item_55 : decode cX6_item 55 = .ok (.goto 30, 3) := by decide +kernel
theorem dX6_item_58 : decode cX6_item 58 = .ok (.iload_n 2, 1) := by decide +kernel
theorem dX6_item_59 : decode cX6_item 59 = .ok (.iconst 1, 1) := by decide +kernel
theorem dX6_item_60 : decode cX6_item 60 = .ok (.if_icmp .ne 11, 3) := by decide +kernel
theorem dX6_item_63 : decode cX6_item 63 = .ok (.lload 4, 2) := by decide +kernel
theorem dX6_item_65 : decode cX6_item 65 = .ok (.l2i, 1) := by decide +kernel
theorem dX6_item_66 : decode cX6_item 66 = .ok (.i2s, 1) := by decide +kernel
theorem dX6_item_67 : decode cX6_item 67 = .ok (.i2l, 1) := by decide +kernel
theorem dX6_item_68 : decode cX6_item 68 = .ok (.goto 17, 3) := by decide +kernel
theorem dX6_item_71 : decode cX6_item 71 = .ok (.iload_n 2, 1) := by decide +kernel
theorem dX6_item_72 : decode cX6_item 72 = .ok (.iconst 2, 1) := by decide +kernel
theorem dX6_item_73 : decode cX6_item 73 = .ok (.if_icmp .ne 10, 3) := by decide +kernel
theorem dX6_item_76 : decode cX6_item 76 = .ok (.lload 4, 2) := by decide +kernel
theorem dX6_item_78 : decode cX6_item 78 = .ok (.l2i, 1) := by decide +kernel
theorem dX6_item_79 : decode cX6_item 79 = .ok (.i2l, 1) := by decide +kernel
theorem dX6_item_80 : decode cX6_item 80 = .ok (.goto 5, 3) := by decide +kernel
theorem dX6_item_83 : decode cX6_item 83 = .ok (.lload 4, 2) := by decide +kernel
theorem dX6_item_85 : decode cX6_item 85 = .ok (.lastore, 1) := by decide +kernel
theorem dX6_item_86 : decode cX6_item 86 = .ok (.iconst 1, 1) := by decide +kernel
theorem dX6_item_87 : decode cX6_item 87 = .ok (.ireturn, 1) := by decide +kernel
theorem dX6_copy_0 : decode cX6_copy 0 = .ok (.iload_n 1, 1) := by decide +kernel
theorem dX6_copy_1 : decode cX6_copy 1 = .ok (.invokestatic 178, 3) := by decide +kernel
theorem dX6_copy_4 : decode cX6_copy 4 = .ok (.ifCond .eq 10, 3) := by decide +kernel
theorem dX6_copy_7 : decode cX6_copy 7 = .ok (.iload_n 3, 1) := by decide +kernel
theorem dX6_copy_8 : decode cX6_copy 8 = .ok (.invokestatic 178, 3) := by decide +kernel
theorem dX6_copy_11 : decode cX6_copy 11 = .ok (.ifCond .ne 5, 3) := by decide +kernel
theorem dX6_copy_14 : decode cX6_copy 14 = .ok (.iconst (-1), 1) := by decide +kernel
theorem dX6_copy_15 : decode cX6_copy 15 = .ok (.ireturn, 1) := by decide +kernel
theorem dX6_copy_16 : decode cX6_copy 16 = .ok (.aload_n 0, 1) := by decide +kernel
theorem dX6_copy_17 : decode cX6_copy 17 = .ok (.getfield 7, 3) := by decide +kernel
theorem dX6_copy_20 : decode cX6_copy 20 = .ok (.iload_n 1, 1) := by decide +kernel
theorem dX6_copy_21 : decode cX6_copy 21 = .ok (.iaload, 1) := by decide +kernel
theorem dX6_copy_22 : decode cX6_copy 22 = .ok (.ifCond .lt 12, 3) := by decide +kernel
theorem dX6_copy_25 : decode cX6_copy 25 = .ok (.aload_n 0, 1) := by decide +kernel
theorem dX6_copy_26 : decode cX6_copy 26 = .ok (.getfield 7, 3) := by decide +kernel
theorem dX6_copy_29 : decode cX6_copy 29 = .ok (.iload_n 3, 1) := by decide +kernel
theorem dX6_copy_30 : decode cX6_copy 30 = .ok (.iaload, 1) := by decide +kernel
theorem dX6_copy_31 : decode cX6_copy 31 = .ok (.ifCond .ge 6, 3) := by decide +kernel
theorem dX6_copy_34 : decode cX6_copy 34 = .ok (.bipush (-11), 2) := by decide +kernel
theorem dX6_copy_36 : decode cX6_copy 36 = .ok (.ireturn, 1) := by decide +kernel
theorem dX6_copy_37 : decode cX6_copy 37 = .ok (.aload_n 0, 1) := by decide +kernel
theorem dX6_copy_38 : decode cX6_copy 38 = .ok (.getfield 7, 3) := by decide +kernel
theorem dX6_copy_41 : decode cX6_copy 41 = .ok (.iload_n 1, 1) := by decide +kernel
theorem dX6_copy_42 : decode cX6_copy 42 = .ok (.iaload, 1) := by decide +kernel
theorem dX6_copy_43 : decode cX6_copy 43 = .ok (.aload_n 0, 1) := by decide +kernel
theorem dX6_copy_44 : decode cX6_copy 44 = .ok (.getfield 7, 3) := by decide +kernel
theorem dX6_copy_47 : decode cX6_copy 47 = .ok (.iload_n 3, 1) := by decide +kernel
theorem dX6_copy_48 : decode cX6_copy 48 = .ok (.iaload, 1) := by decide +kernel
theorem dX6_copy_49 : decode cX6_copy 49 = .ok (.if_icmp .eq 6, 3) := by decide +kernel
theorem dX6_copy_52 : decode cX6_copy 52 = .ok (.bipush (-12), 2) := by decide +kernel
theorem dX6_copy_54 : decode cX6_copy 54 = .ok (.ireturn, 1) := by decide +kernel
theorem dX6_copy_55 : decode cX6_copy 55 = .ok (.iload_n 2, 1) := by decide +kernel
theorem dX6_copy_56 : decode cX6_copy 56 = .ok (.iload 5, 2) := by decide +kernel
theorem dX6_copy_58 : decode cX6_copy 58 = .ok (.aload_n 0, 1) := by decide +kernel
theorem dX6_copy_59 : decode cX6_copy 59 = .ok (.getfield 13, 3) := by decide +kernel
theorem dX6_copy_62 : decode cX6_copy 62 = .ok (.iload_n 1, 1) := by decide +kernel
theorem dX6_copy_63 : decode cX6_copy 63 = .ok (.iaload, 1) := by decide +kernel
theorem dX6_copy_64 : decode cX6_copy 64 = .ok (.invokestatic 175, 3) := by decide +kernel
theorem dX6_copy_67 : decode cX6_copy 67 = .ok (.ifCond .eq 19, 3) := by decide +kernel
theorem dX6_copy_70 : decode cX6_copy 70 = .ok (.iload 4, 2) := by decide +kernel
theorem dX6_copy_72 : decode cX6_copy 72 = .ok (.iload 5, 2) := by decide +kernel
theorem dX6_copy_74 : decode cX6_copy 74 = .ok (.aload_n 0, 1) := by decide +kernel
theorem dX6_copy_75 : decode cX6_copy 75 = .ok (.getfield 13, 3) := by decide +kernel
theorem dX6_copy_78 : decode cX6_copy 78 = .ok (.iload_n 3, 1) := by decide +kernel
theorem dX6_copy_79 : decode cX6_copy 79 = .ok (.iaload, 1) := by decide +kernel
theorem dX6_copy_80 : decode cX6_copy 80 = .ok (.invokestatic 175, 3) := by decide +kernel
theorem dX6_copy_83 : decode cX6_copy 83 = .ok (.ifCond .ne 6, 3) := by decide +kernel
theorem dX6_copy_86 : decode cX6_copy 86 = .ok (.bipush (-13), 2) := by decide +kernel
theorem dX6_copy_88 : decode cX6_copy 88 = .ok (.ireturn, 1) := by decide +kernel
theorem dX6_copy_89 : decode cX6_copy 89 = .ok (.iload_n 1, 1) := by decide +kernel
theorem dX6_copy_90 : decode cX6_copy 90 = .ok (.iload_n 3, 1) := by decide +kernel
theorem dX6_copy_91 : decode cX6_copy 91 = .ok (.if_icmp .ne 13, 3) := by decide +kernel
theorem dX6_copy_94 : decode cX6_copy 94 = .ok (.iload 4, 2) := by decide +kernel
theorem dX6_copy_96 : decode cX6_copy 96 = .ok (.iload_n 2, 1) := by decide +kernel
theorem dX6_copy_97 : decode cX6_copy 97 = .ok (.if_icmp .le 7, 3) := by decide +kernel
theorem dX6_copy_100 : decode cX6_copy 100 = .ok (.iconst 1, 1) := by decide +kernel
theorem dX6_copy_101 : decode cX6_copy 101 = .ok (.goto 4, 3) := by decide +kernel
theorem dX6_copy_104 : decode cX6_copy 104 = .ok (.iconst 0, 1) := by decide +kernel
theorem dX6_copy_105 : decode cX6_copy 105 = .ok (.istore 6, 2) := by decide +kernel
theorem dX6_copy_107 : decode cX6_copy 107 = .ok (.iconst 0, 1) := by decide +kernel
theorem dX6_copy_108 : decode cX6_copy 108 = .ok (.istore 7, 2) := by decide +kernel
theorem dX6_copy_110 : decode cX6_copy 110 = .ok (.iload 7, 2) := by decide +kernel
theorem dX6_copy_112 : decode cX6_copy 112 = .ok (.iload 5, 2) := by decide +kernel
theorem dX6_copy_114 : decode cX6_copy 114 = .ok (.if_icmp .ge 57, 3) := by decide +kernel
theorem dX6_copy_117 : decode cX6_copy 117 = .ok (.iload 6, 2) := by decide +kernel
theorem dX6_copy_119 : decode cX6_copy 119 = .ok (.ifCond .eq 13, 3) := by decide +kernel
theorem dX6_copy_122 : decode cX6_copy 122 = .ok (.iload 5, 2) := by decide +kernel
theorem dX6_copy_124 : decode cX6_copy 124 = .ok (.iconst 1, 1) := by decide +kernel
theorem dX6_copy_125 : decode cX6_copy 125 = .ok (.isub, 1) := by decide +kernel
theorem dX6_copy_126 : decode cX6_copy 126 = .ok (.iload 7, 2) := by decide +kernel
theorem dX6_copy_128 : decode cX6_copy 128 = .ok (.isub, 1) := by decide +kernel
theorem dX6_copy_129 : decode cX6_copy 129 = .ok (.goto 5, 3) := by decide +kernel
theorem dX6_copy_132 : decode cX6_copy 132 = .ok (.iload 7, 2) := by decide +kernel
theorem dX6_copy_134 : decode cX6_copy 134 = .ok (.istore 8, 2) := by decide +kernel
theorem dX6_copy_136 : decode cX6_copy 136 = .ok (.aload_n 0, 1) := by decide +kernel
theorem dX6_copy_137 : decode cX6_copy 137 = .ok (.getfield 16, 3) := by decide +kernel
theorem dX6_copy_140 : decode cX6_copy 140 = .ok (.bipush 24, 2) := by decide +kernel
theorem dX6_copy_142 : decode cX6_copy 142 = .ok (.iload_n 3, 1) := by decide +kernel
theorem dX6_copy_143 : decode cX6_copy 143 = .ok (.imul, 1) := by decide +kernel
theorem dX6_copy_144 : decode cX6_copy 144 = .ok (.iload 4, 2) := by decide +kernel
theorem dX6_copy_146 : decode cX6_copy 146 = .ok (.iadd, 1) := by decide +kernel
theorem dX6_copy_147 : decode cX6_copy 147 = .ok (.iload 8, 2) := by decide +kernel
theorem dX6_copy_149 : decode cX6_copy 149 = .ok (.iadd, 1) := by decide +kernel
theorem dX6_copy_150 : decode cX6_copy 150 = .ok (.aload_n 0, 1) := by decide +kernel
theorem dX6_copy_151 : decode cX6_copy 151 = .ok (.getfield 16, 3) := by decide +kernel
theorem dX6_copy_154 : decode cX6_copy 154 = .ok (.bipush 24, 2) := by decide +kernel
theorem dX6_copy_156 : decode cX6_copy 156 = .ok (.iload_n 1, 1) := by decide +kernel
theorem dX6_copy_157 : decode cX6_copy 157 = .ok (.imul, 1) := by decide +kernel
theorem dX6_copy_158 : decode cX6_copy 158 = .ok (.iload_n 2, 1) := by decide +kernel
theorem dX6_copy_159 : decode cX6_copy 159 = .ok (.iadd, 1) := by decide +kernel
theorem dX6_copy_160 : decode cX6_copy 160 = .ok (.iload 8, 2) := by decide +kernel
theorem dX6_copy_162 : decode cX6_copy 162 = .ok (.iadd, 1) := by decide +kernel
theorem dX6_copy_163 : decode cX6_copy 163 = .ok (.laload, 1) := by decide +kernel
theorem dX6_copy_164 : decode cX6_copy 164 = .ok (.lastore, 1) := by decide +kernel
theorem dX6_copy_165 : decode cX6_copy 165 = .ok (.iinc 7 1, 3) := by decide +kernel
theorem dX6_copy_168 : decode cX6_copy 168 = .ok (.goto (-58), 3) := by decide +kernel
theorem dX6_copy_171 : decode cX6_copy 171 = .ok (.iload 5, 2) := by decide +kernel
theorem dX6_copy_173 : decode cX6_copy 173 = .ok (.ireturn, 1) := by decide +kernel
theorem dJ6_bitCount_0f7a4_0 : decode cJ6_bitCount_0f7a4 0 = .ok (.iload_n 0, 1) := by decide +kernel
theorem dJ6_bitCount_0f7a4_1 : decode cJ6_bitCount_0f7a4 1 = .ok (.iload_n 0, 1) := by decide +kernel
theorem dJ6_bitCount_0f7a4_2 : decode cJ6_bitCount_0f7a4 2 = .ok (.iconst 1, 1) := by decide +kernel
theorem dJ6_bitCount_0f7a4_3 : decode cJ6_bitCount_0f7a4 3 = .ok (.iushr, 1) := by decide +kernel
theorem dJ6_bitCount_0f7a4_4 : decode cJ6_bitCount_0f7a4 4 = .ok (.ldc_w 265, 3) := by decide +kernel
theorem dJ6_bitCount_0f7a4_7 : decode cJ6_bitCount_0f7a4 7 = .ok (.iand, 1) := by decide +kernel
theorem dJ6_bitCount_0f7a4_8 : decode cJ6_bitCount_0f7a4 8 = .ok (.isub, 1) := by decide +kernel
theorem dJ6_bitCount_0f7a4_9 : decode cJ6_bitCount_0f7a4 9 = .ok (.istore_n 0, 1) := by decide +kernel
theorem dJ6_bitCount_0f7a4_10 : decode cJ6_bitCount_0f7a4 10 = .ok (.iload_n 0, 1) := by decide +kernel
theorem dJ6_bitCount_0f7a4_11 : decode cJ6_bitCount_0f7a4 11 = .ok (.ldc_w 266, 3) := by decide +kernel
theorem dJ6_bitCount_0f7a4_14 : decode cJ6_bitCount_0f7a4 14 = .ok (.iand, 1) := by decide +kernel
theorem dJ6_bitCount_0f7a4_15 : decode cJ6_bitCount_0f7a4 15 = .ok (.iload_n 0, 1) := by decide +kernel
theorem dJ6_bitCount_0f7a4_16 : decode cJ6_bitCount_0f7a4 16 = .ok (.iconst 2, 1) := by decide +kernel
theorem dJ6_bitCount_0f7a4_17 : decode cJ6_bitCount_0f7a4 17 = .ok (.iushr, 1) := by decide +kernel
theorem dJ6_bitCount_0f7a4_18 : decode cJ6_bitCount_0f7a4 18 = .ok (.ldc_w 266, 3) := by decide +kernel
theorem dJ6_bitCount_0f7a4_21 : decode cJ6_bitCount_0f7a4 21 = .ok (.iand, 1) := by decide +kernel
theorem dJ6_bitCount_0f7a4_22 : decode cJ6_bitCount_0f7a4 22 = .ok (.iadd, 1) := by decide +kernel
theorem dJ6_bitCount_0f7a4_23 : decode cJ6_bitCount_0f7a4 23 = .ok (.istore_n 0, 1) := by decide +kernel
theorem dJ6_bitCount_0f7a4_24 : decode cJ6_bitCount_0f7a4 24 = .ok (.iload_n 0, 1) := by decide +kernel
theorem dJ6_bitCount_0f7a4_25 : decode cJ6_bitCount_0f7a4 25 = .ok (.iload_n 0, 1) := by decide +kernel
theorem dJ6_bitCount_0f7a4_26 : decode cJ6_bitCount_0f7a4 26 = .ok (.iconst 4, 1) := by decide +kernel
theorem dJ6_bitCount_0f7a4_27 : decode cJ6_bitCount_0f7a4 27 = .ok (.iushr, 1) := by decide +kernel
theorem dJ6_bitCount_0f7a4_28 : decode cJ6_bitCount_0f7a4 28 = .ok (.iadd, 1) := by decide +kernel
theorem dJ6_bitCount_0f7a4_29 : decode cJ6_bitCount_0f7a4 29 = .ok (.ldc_w 267, 3) := by decide +kernel
theorem dJ6_bitCount_0f7a4_32 : decode cJ6_bitCount_0f7a4 32 = .ok (.iand, 1) := by decide +kernel
theorem dJ6_bitCount_0f7a4_33 : decode cJ6_bitCount_0f7a4 33 = .ok (.istore_n 0, 1) := by decide +kernel
theorem dJ6_bitCount_0f7a4_34 : decode cJ6_bitCount_0f7a4 34 = .ok (.iload_n 0, 1) := by decide +kernel
theorem dJ6_bitCount_0f7a4_35 : decode cJ6_bitCount_0f7a4 35 = .ok (.iload_n 0, 1) := by decide +kernel
theorem dJ6_bitCount_0f7a4_36 : decode cJ6_bitCount_0f7a4 36 = .ok (.bipush 8, 2) := by decide +kernel
theorem dJ6_bitCount_0f7a4_38 : decode cJ6_bitCount_0f7a4 38 = .ok (.iushr, 1) := by decide +kernel
theorem dJ6_bitCount_0f7a4_39 : decode cJ6_bitCount_0f7a4 39 = .ok (.iadd, 1) := by decide +kernel
theorem dJ6_bitCount_0f7a4_40 : decode cJ6_bitCount_0f7a4 40 = .ok (.istore_n 0, 1) := by decide +kernel
theorem dJ6_bitCount_0f7a4_41 : decode cJ6_bitCount_0f7a4 41 = .ok (.iload_n 0, 1) := by decide +kernel
theorem dJ6_bitCount_0f7a4_42 : decode cJ6_bitCount_0f7a4 42 = .ok (.iload_n 0, 1) := by decide +kernel
theorem dJ6_bitCount_0f7a4_43 : decode cJ6_bitCount_0f7a4 43 = .ok (.bipush 16, 2) := by decide +kernel
theorem dJ6_bitCount_0f7a4_45 : decode cJ6_bitCount_0f7a4 45 = .ok (.iushr, 1) := by decide +kernel
theorem dJ6_bitCount_0f7a4_46 : decode cJ6_bitCount_0f7a4 46 = .ok (.iadd, 1) := by decide +kernel
theorem dJ6_bitCount_0f7a4_47 : decode cJ6_bitCount_0f7a4 47 = .ok (.istore_n 0, 1) := by decide +kernel
theorem dJ6_bitCount_0f7a4_48 : decode cJ6_bitCount_0f7a4 48 = .ok (.iload_n 0, 1) := by decide +kernel
theorem dJ6_bitCount_0f7a4_49 : decode cJ6_bitCount_0f7a4 49 = .ok (.bipush 63, 2) := by decide +kernel
theorem dJ6_bitCount_0f7a4_51 : decode cJ6_bitCount_0f7a4 51 = .ok (.iand, 1) := by decide +kernel
theorem dJ6_bitCount_0f7a4_52 : decode cJ6_bitCount_0f7a4 52 = .ok (.ireturn, 1) := by decide +kernel
end
section
def mm_Rn (o : Nat) : String := match o with
  | 0 => RX0
  | 1 => RX1
  | 2 => RX2
  | 3 => RX3
  | 4 => RX4
  | 5 => RX5
  | 6 => RX6
  | _ => RJ6
def mm_Tn (o : Nat) : u_T := match o with
  | 0 => TX0
  | 1 => TX1
  | 2 => TX2
  | 3 => TX3
  | 4 => TX4
  | 5 => TX5
  | _ => TX6
def mm_tyn (o : Nat) : Nat → FieldType := match o with
  | 0 => tyX0
  | 1 => tyX1
  | 2 => tyX2
  | 3 => tyX3
  | 4 => tyX4
  | 5 => tyX5
  | _ => tyX6
def mm_N (o : Nat) : Nat := match o with
  | 0 => 14
  | 1 => 4
  | 2 => 2
  | 3 => 4
  | 4 => 5
  | 5 => 9
  | _ => 16
def mm_yL : List MethodName := [yX0_init, yX0_takeFrom, yX0_beginAnew, yX0_hasHouse, yX0_hasHog, yX0_addHouse, yX0_addHog, yX0_isLost, yX0_isWinter, yX0_lostSet, yX0_owedByAll, yX0_guests, yX0_appetite, yX0_takeOff, yX0_drawSaucer, yX0_passNights, yX0_passNight, yX0_visit, yX0_eat, yX0_nextHouse, yX0_addInterest, yX1_init, yX1_find, yX1_judge, yX1_nextWay, yX2_init, yX2_forget, yX2_remember, yX2_dropOldest, yX2_bringBack, yX2_takeFrom, yX3_init, yX3_begin, yX3_hasItems, yX3_refusal, yX3_write, yX4_init, yX4_add, yX4_tellLane, yX4_tellHouses, yX4_tellHouse, yX4_tellHogs, yX4_tellHog, yX4_kindOf, yX4_number, yX4_isDigit, yX4_look, yX4_takes, yX4_faultAt, yX5_init, yX5_house, yX5_hog, yX5_interest, yX5_of, yX5_at, yX5_type, yX5_read, yX5_count, yX5_nights, yX5_put, yX5_pay, yX5_drive, yX5_forgive, yX5_drift, yX5_undo, yX5_seed, yX5_ahead, yX5_where, yX5_then, yX5_lost, yX5_free, yX5_keep, yX5_part, yX5_drives, yX5_visits, yX5_solvent, yX5_sleep, yX5_image, yX5_restore, yX5_dawns, yX5_film, yX5_sheet, yX5_drop, yX5_item, yX5_copy, yX5_within, yX5_foretell, yX5_foretellDriven, yX5_chance, yX5_looksMore, yX5_commonDivisor, yX5_dawnsAs, yX6_init, yX6_in, yX6_has, yX6_bits, yX6_bring, yX6_isHouse, yX6_isHog, yX6_addHouse, yX6_addHog, yX6_house, yX6_hog, yX6_interest, yX6_hogsAt, yX6_isLost, yX6_of, yX6_mealOf, yX6_at, yX6_type, yX6_peek, yX6_isSign, yX6_isDigit, yX6_isNumber, yX6_kindBy, yX6_isHouseItem, yX6_isHogItem, yX6_isLane, yX6_read, yX6_lostOnes, yX6_owedBy, yX6_isWinter, yX6_count, yX6_note, yX6_nextOf, yX6_goesOn, yX6_turnIn, yX6_nightIn, yX6_nights, yX6_put, yX6_pay, yX6_drive, yX6_forgive, yX6_drift, yX6_undo, yX6_seed, yX6_begin, yX6_goOn, yX6_ahead, yX6_where, yX6_then, yX6_lost, yX6_free, yX6_keep, yX6_layParts, yX6_part, yX6_drives, yX6_visits, yX6_solvent, yX6_sleep, yX6_image, yX6_restore, yX6_isSheet, yX6_isPart, yX6_wrong, yX6_isLeft, yX6_dawns, yX6_cutTo, yX6_film, yX6_sheet, yX6_drop, yX6_item, yX6_copy, yJ6_bitCount_0f7a4]
def mm_cL : List ByteArray := [cX0_init, cX0_takeFrom, cX0_beginAnew, cX0_hasHouse, cX0_hasHog, cX0_addHouse, cX0_addHog, cX0_isLost, cX0_isWinter, cX0_lostSet, cX0_owedByAll, cX0_guests, cX0_appetite, cX0_takeOff, cX0_drawSaucer, cX0_passNights, cX0_passNight, cX0_visit, cX0_eat, cX0_nextHouse, cX0_addInterest, cX1_init, cX1_find, cX1_judge, cX1_nextWay, cX2_init, cX2_forget, cX2_remember, cX2_dropOldest, cX2_bringBack, cX2_takeFrom, cX3_init, cX3_begin, cX3_hasItems, cX3_refusal, cX3_write, cX4_init, cX4_add, cX4_tellLane, cX4_tellHouses, cX4_tellHouse, cX4_tellHogs, cX4_tellHog, cX4_kindOf, cX4_number, cX4_isDigit, cX4_look, cX4_takes, cX4_faultAt, cX5_init, cX5_house, cX5_hog, cX5_interest, cX5_of, cX5_at, cX5_type, cX5_read, cX5_count, cX5_nights, cX5_put, cX5_pay, cX5_drive, cX5_forgive, cX5_drift, cX5_undo, cX5_seed, cX5_ahead, cX5_where, cX5_then, cX5_lost, cX5_free, cX5_keep, cX5_part, cX5_drives, cX5_visits, cX5_solvent, cX5_sleep, cX5_image, cX5_restore, cX5_dawns, cX5_film, cX5_sheet, cX5_drop, cX5_item, cX5_copy, cX5_within, cX5_foretell, cX5_foretellDriven, cX5_chance, cX5_looksMore, cX5_commonDivisor, cX5_dawnsAs, cX6_init, cX6_in, cX6_has, cX6_bits, cX6_bring, cX6_isHouse, cX6_isHog, cX6_addHouse, cX6_addHog, cX6_house, cX6_hog, cX6_interest, cX6_hogsAt, cX6_isLost, cX6_of, cX6_mealOf, cX6_at, cX6_type, cX6_peek, cX6_isSign, cX6_isDigit, cX6_isNumber, cX6_kindBy, cX6_isHouseItem, cX6_isHogItem, cX6_isLane, cX6_read, cX6_lostOnes, cX6_owedBy, cX6_isWinter, cX6_count, cX6_note, cX6_nextOf, cX6_goesOn, cX6_turnIn, cX6_nightIn, cX6_nights, cX6_put, cX6_pay, cX6_drive, cX6_forgive, cX6_drift, cX6_undo, cX6_seed, cX6_begin, cX6_goOn, cX6_ahead, cX6_where, cX6_then, cX6_lost, cX6_free, cX6_keep, cX6_layParts, cX6_part, cX6_drives, cX6_visits, cX6_solvent, cX6_sleep, cX6_image, cX6_restore, cX6_isSheet, cX6_isPart, cX6_wrong, cX6_isLeft, cX6_dawns, cX6_cutTo, cX6_film, cX6_sheet, cX6_drop, cX6_item, cX6_copy, cJ6_bitCount_0f7a4]
def mm_xL : List Nat := [1, 3, 1, 2, 2, 5, 5, 2, 1, 3, 3, 4, 2, 3, 1, 3, 4, 5, 5, 7, 3, 1, 8, 8, 4, 2, 1, 2, 3, 2, 3, 1, 4, 3, 4, 4, 1, 2, 2, 2, 4, 2, 4, 1, 5, 1, 1, 2, 2, 2, 3, 4, 3, 3, 3, 2, 3, 2, 3, 4, 3, 4, 3, 3, 2, 3, 4, 3, 3, 3, 3, 4, 4, 11, 5, 4, 8, 1, 1, 14, 9, 4, 3, 8, 8, 3, 2, 4, 5, 3, 6, 6, 2, 3, 2, 3, 6, 2, 2, 4, 5, 3, 4, 3, 4, 2, 3, 3, 3, 2, 1, 2, 3, 4, 1, 4, 3, 2, 2, 3, 3, 1, 2, 1, 5, 6, 6, 6, 3, 4, 3, 4, 3, 3, 1, 3, 2, 3, 4, 3, 3, 3, 3, 4, 6, 10, 10, 5, 4, 9, 1, 1, 1, 3, 5, 7, 11, 3, 8, 5, 2, 7, 9, 1]
def mm_rL : List (Option FieldType) := [none, none, none, some .boolean, some .boolean, some .int, some .int, some .boolean, some .boolean, some .int, some .int, some .int, some .int, none, none, none, none, none, some .boolean, some .int, none, none, none, none, some .boolean, none, none, none, none, none, none, none, none, some .boolean, some .int, none, none, some .int, some .boolean, some .boolean, some .boolean, some .boolean, some .boolean, some .int, some .int, some .boolean, some .int, some .boolean, some .boolean, none, some .int, some .int, some .int, some .int, some .int, some .int, some .int, some .int, some .int, some .int, some .int, some .int, some .int, some .int, some .int, some .int, some .int, some .int, some .int, some .int, some .int, some .int, some .int, some .int, some .int, some .int, some .int, some .int, some .int, some .int, some .int, some .int, some .int, some .int, some .int, some .boolean, none, none, some .int, some .boolean, some .int, some .boolean, none, some .boolean, some .boolean, some .int, none, some .boolean, some .boolean, some .int, some .int, some .int, some .int, some .int, some .int, some .boolean, some .int, some .int, some .int, some .int, some .int, some .boolean, some .boolean, some .boolean, some .int, some .boolean, some .boolean, some .boolean, some .int, some .int, some .int, some .boolean, some .int, none, some .int, none, none, none, some .int, some .int, some .int, some .int, some .int, some .int, some .int, some .int, none, none, some .int, some .int, some .int, some .int, some .int, some .int, some .boolean, some .int, some .int, some .int, some .int, some .int, some .int, some .int, some .boolean, some .boolean, some .int, some .boolean, some .int, some .long, some .int, some .int, some .int, some .int, some .int, some .int]
def mm_oL : List Nat := [0, 0, 0, 0, 0, 0, 0, 0, 0, 0, 0, 0, 0, 0, 0, 0, 0, 0, 0, 0, 0, 1, 1, 1, 1, 2, 2, 2, 2, 2, 2, 3, 3, 3, 3, 3, 4, 4, 4, 4, 4, 4, 4, 4, 4, 4, 4, 4, 4, 5, 5, 5, 5, 5, 5, 5, 5, 5, 5, 5, 5, 5, 5, 5, 5, 5, 5, 5, 5, 5, 5, 5, 5, 5, 5, 5, 5, 5, 5, 5, 5, 5, 5, 5, 5, 5, 5, 5, 5, 5, 5, 5, 6, 6, 6, 6, 6, 6, 6, 6, 6, 6, 6, 6, 6, 6, 6, 6, 6, 6, 6, 6, 6, 6, 6, 6, 6, 6, 6, 6, 6, 6, 6, 6, 6, 6, 6, 6, 6, 6, 6, 6, 6, 6, 6, 6, 6, 6, 6, 6, 6, 6, 6, 6, 6, 6, 6, 6, 6, 6, 6, 6, 6, 6, 6, 6, 6, 6, 6, 6, 6, 6, 6, 7]
def mm_kL : List Nat := [2, 0, 0, 0, 0, 0, 0, 0, 0, 0, 0, 0, 0, 0, 0, 0, 0, 0, 0, 0, 0, 2, 0, 0, 0, 2, 0, 0, 0, 0, 0, 2, 0, 0, 0, 0, 2, 0, 0, 0, 0, 0, 0, 1, 0, 1, 0, 0, 0, 2, 0, 0, 0, 0, 0, 0, 0, 0, 0, 0, 0, 0, 0, 0, 0, 0, 0, 0, 0, 0, 0, 0, 0, 0, 0, 0, 0, 0, 0, 0, 0, 0, 0, 0, 0, 1, 0, 0, 0, 0, 1, 0, 2, 1, 1, 1, 1, 0, 0, 1, 1, 0, 0, 0, 1, 1, 0, 1, 0, 0, 0, 0, 0, 0, 1, 0, 0, 0, 0, 1, 1, 1, 0, 0, 1, 1, 0, 0, 0, 0, 0, 0, 0, 0, 0, 0, 0, 0, 0, 0, 0, 0, 0, 0, 0, 0, 0, 0, 0, 0, 0, 0, 1, 1, 0, 0, 0, 1, 0, 0, 0, 0, 0, 1]
def mm_hL : List Nat := [1, 0, 0, 0, 0, 0, 0, 0, 0, 1, 0, 0, 0, 0, 0, 4, 3, 2, 1, 1, 1, 1, 5, 4, 0, 2, 0, 1, 0, 1, 1, 1, 0, 0, 1, 1, 2, 0, 4, 3, 2, 3, 2, 0, 1, 0, 0, 1, 0, 3, 1, 1, 1, 1, 1, 1, 5, 2, 4, 2, 2, 2, 2, 4, 2, 0, 6, 6, 6, 4, 4, 5, 6, 6, 6, 5, 5, 2, 2, 5, 4, 1, 1, 2, 1, 0, 5, 5, 0, 4, 0, 4, 1, 0, 0, 0, 0, 1, 1, 0, 0, 1, 2, 1, 0, 0, 2, 0, 2, 1, 0, 1, 1, 2, 0, 3, 2, 4, 5, 1, 0, 0, 2, 1, 1, 2, 3, 4, 5, 2, 2, 2, 2, 5, 1, 0, 1, 5, 6, 6, 6, 5, 5, 6, 0, 6, 6, 6, 6, 5, 1, 1, 1, 0, 1, 5, 6, 0, 5, 2, 2, 2, 2, 0]
def mm_aL : List Nat := [0, 1, 0, 1, 1, 3, 3, 1, 0, 0, 0, 1, 1, 2, 0, 1, 1, 1, 2, 2, 0, 0, 4, 3, 1, 0, 0, 1, 0, 1, 1, 0, 2, 2, 3, 2, 0, 1, 0, 0, 0, 0, 0, 1, 1, 1, 0, 1, 1, 0, 2, 3, 1, 2, 2, 1, 0, 1, 1, 2, 2, 2, 1, 1, 0, 1, 3, 2, 2, 1, 1, 2, 3, 3, 2, 2, 3, 0, 0, 7, 5, 3, 1, 4, 5, 3, 1, 3, 2, 2, 2, 4, 0, 3, 2, 1, 5, 1, 1, 3, 4, 2, 3, 1, 2, 2, 2, 2, 2, 1, 0, 1, 2, 1, 1, 0, 0, 0, 0, 1, 1, 1, 1, 0, 3, 3, 2, 2, 1, 2, 2, 2, 1, 1, 0, 1, 0, 1, 3, 2, 2, 1, 1, 2, 2, 3, 3, 2, 2, 3, 0, 0, 1, 3, 4, 4, 7, 2, 5, 3, 1, 4, 5, 1]
def mm_y (j : Nat) : MethodName := mm_yL.getD j yX0_init
def mm_c (j : Nat) : ByteArray := mm_cL.getD j cX0_init
def mm_x (j : Nat) : Nat := mm_xL.getD j 1
def mm_r (j : Nat) : Option FieldType := mm_rL.getD j none
def mm_o (j : Nat) : Nat := mm_oL.getD j 0
def mm_k (j : Nat) : Nat := mm_kL.getD j 2
def mm_h (j : Nat) : Nat := mm_hL.getD j 1
def mm_a (j : Nat) : Nat := mm_aL.getD j 0
def mm_fT_0 : List (Nat × Nat × Nat × Nat) := [(5, 10, 5, 0), (5, 16, 5, 1), (5, 22, 5, 2), (5, 29, 5, 3), (5, 36, 5, 4), (5, 42, 5, 5), (5, 47, 5, 6), (5, 50, 5, 7), (5, 53, 5, 8), (0, 9, 0, 6), (0, 15, 0, 7), (0, 18, 0, 8), (0, 21, 0, 9), (0, 24, 0, 10), (0, 27, 0, 11), (0, 30, 0, 12)]
theorem mm_fT_0_ok : ∀ q ∈ mm_fT_0, Cond.fieldLink (mm_Rn q.1) q.2.1 (mm_Tn q.2.2.1 q.2.2.2).1 (mm_Tn q.2.2.1 q.2.2.2).2.1 (mm_Tn q.2.2.1 q.2.2.2).2.2.1 ∈ mm_U ∧ q.2.2.1 < 7 ∧ q.2.2.2 < mm_N q.2.2.1 := List.forall_mem_cons.mpr ⟨⟨mw_16, by decide, by decide⟩, List.forall_mem_cons.mpr ⟨⟨mw_17, by decide, by decide⟩, List.forall_mem_cons.mpr ⟨⟨mw_21, by decide, by decide⟩, List.forall_mem_cons.mpr ⟨⟨mw_25, by decide, by decide⟩, List.forall_mem_cons.mpr ⟨⟨mw_29, by decide, by decide⟩, List.forall_mem_cons.mpr ⟨⟨mw_31, by decide, by decide⟩, List.forall_mem_cons.mpr ⟨⟨mw_34, by decide, by decide⟩, List.forall_mem_cons.mpr ⟨⟨mw_35, by decide, by decide⟩, List.forall_mem_cons.mpr ⟨⟨mw_36, by decide, by decide⟩, List.forall_mem_cons.mpr ⟨⟨mw_42, by decide, by decide⟩, List.forall_mem_cons.mpr ⟨⟨mw_43, by decide, by decide⟩, List.forall_mem_cons.mpr ⟨⟨mw_44, by decide, by decide⟩, List.forall_mem_cons.mpr ⟨⟨mw_45, by decide, by decide⟩, List.forall_mem_cons.mpr ⟨⟨mw_46, by decide, by decide⟩, List.forall_mem_cons.mpr ⟨⟨mw_47, by decide, by decide⟩, List.forall_mem_cons.mpr ⟨⟨mw_48, by decide, by decide⟩, fun _ h => absurd h List.not_mem_nil⟩⟩⟩⟩⟩⟩⟩⟩⟩⟩⟩⟩⟩⟩⟩⟩
def mm_fT_1 : List (Nat × Nat × Nat × Nat) := [(0, 33, 0, 13), (0, 36, 0, 2), (0, 40, 0, 5), (2, 11, 2, 0), (1, 9, 1, 2), (1, 15, 1, 3), (4, 9, 4, 3), (4, 18, 4, 2), (3, 9, 3, 3), (6, 7, 6, 0), (6, 13, 6, 1), (6, 16, 6, 2), (6, 20, 6, 4), (6, 23, 6, 7), (6, 26, 6, 8), (6, 29, 6, 9)]
theorem mm_fT_1_ok : ∀ q ∈ mm_fT_1, Cond.fieldLink (mm_Rn q.1) q.2.1 (mm_Tn q.2.2.1 q.2.2.2).1 (mm_Tn q.2.2.1 q.2.2.2).2.1 (mm_Tn q.2.2.1 q.2.2.2).2.2.1 ∈ mm_U ∧ q.2.2.1 < 7 ∧ q.2.2.2 < mm_N q.2.2.1 := List.forall_mem_cons.mpr ⟨⟨mw_49, by decide, by decide⟩, List.forall_mem_cons.mpr ⟨⟨mw_50, by decide, by decide⟩, List.forall_mem_cons.mpr ⟨⟨mw_51, by decide, by decide⟩, List.forall_mem_cons.mpr ⟨⟨mw_57, by decide, by decide⟩, List.forall_mem_cons.mpr ⟨⟨mw_63, by decide, by decide⟩, List.forall_mem_cons.mpr ⟨⟨mw_64, by decide, by decide⟩, List.forall_mem_cons.mpr ⟨⟨mw_69, by decide, by decide⟩, List.forall_mem_cons.mpr ⟨⟨mw_71, by decide, by decide⟩, List.forall_mem_cons.mpr ⟨⟨mw_78, by decide, by decide⟩, List.forall_mem_cons.mpr ⟨⟨mw_83, by decide, by decide⟩, List.forall_mem_cons.mpr ⟨⟨mw_84, by decide, by decide⟩, List.forall_mem_cons.mpr ⟨⟨mw_85, by decide, by decide⟩, List.forall_mem_cons.mpr ⟨⟨mw_86, by decide, by decide⟩, List.forall_mem_cons.mpr ⟨⟨mw_87, by decide, by decide⟩, List.forall_mem_cons.mpr ⟨⟨mw_88, by decide, by decide⟩, List.forall_mem_cons.mpr ⟨⟨mw_89, by decide, by decide⟩, fun _ h => absurd h List.not_mem_nil⟩⟩⟩⟩⟩⟩⟩⟩⟩⟩⟩⟩⟩⟩⟩⟩
def mm_fT_2 : List (Nat × Nat × Nat × Nat) := [(6, 32, 6, 10), (6, 35, 6, 12), (6, 38, 6, 13), (6, 41, 6, 14), (6, 44, 6, 15), (5, 61, 0, 0), (2, 18, 2, 1), (0, 43, 0, 0), (5, 76, 0, 1), (0, 46, 0, 1), (5, 82, 0, 2), (5, 85, 0, 6), (5, 89, 0, 7), (5, 92, 0, 8), (5, 105, 0, 9), (5, 108, 0, 10)]
theorem mm_fT_2_ok : ∀ q ∈ mm_fT_2, Cond.fieldLink (mm_Rn q.1) q.2.1 (mm_Tn q.2.2.1 q.2.2.2).1 (mm_Tn q.2.2.1 q.2.2.2).2.1 (mm_Tn q.2.2.1 q.2.2.2).2.2.1 ∈ mm_U ∧ q.2.2.1 < 7 ∧ q.2.2.2 < mm_N q.2.2.1 := List.forall_mem_cons.mpr ⟨⟨mw_90, by decide, by decide⟩, List.forall_mem_cons.mpr ⟨⟨mw_91, by decide, by decide⟩, List.forall_mem_cons.mpr ⟨⟨mw_92, by decide, by decide⟩, List.forall_mem_cons.mpr ⟨⟨mw_93, by decide, by decide⟩, List.forall_mem_cons.mpr ⟨⟨mw_94, by decide, by decide⟩, List.forall_mem_cons.mpr ⟨⟨mw_99, by decide, by decide⟩, List.forall_mem_cons.mpr ⟨⟨mw_107, by decide, by decide⟩, List.forall_mem_cons.mpr ⟨⟨mw_112, by decide, by decide⟩, List.forall_mem_cons.mpr ⟨⟨mw_127, by decide, by decide⟩, List.forall_mem_cons.mpr ⟨⟨mw_136, by decide, by decide⟩, List.forall_mem_cons.mpr ⟨⟨mw_152, by decide, by decide⟩, List.forall_mem_cons.mpr ⟨⟨mw_161, by decide, by decide⟩, List.forall_mem_cons.mpr ⟨⟨mw_162, by decide, by decide⟩, List.forall_mem_cons.mpr ⟨⟨mw_163, by decide, by decide⟩, List.forall_mem_cons.mpr ⟨⟨mw_186, by decide, by decide⟩, List.forall_mem_cons.mpr ⟨⟨mw_187, by decide, by decide⟩, fun _ h => absurd h List.not_mem_nil⟩⟩⟩⟩⟩⟩⟩⟩⟩⟩⟩⟩⟩⟩⟩⟩
def mm_fT_3 : List (Nat × Nat × Nat × Nat) := [(5, 111, 0, 11), (5, 117, 4, 0), (4, 22, 4, 0), (6, 77, 6, 3), (5, 127, 4, 1), (5, 130, 0, 5), (5, 133, 4, 2), (4, 26, 4, 4), (4, 36, 0, 2), (0, 49, 0, 3), (0, 52, 0, 4), (4, 79, 4, 1), (6, 81, 6, 5), (6, 88, 6, 6), (5, 140, 0, 3), (5, 143, 0, 4)]
theorem mm_fT_3_ok : ∀ q ∈ mm_fT_3, Cond.fieldLink (mm_Rn q.1) q.2.1 (mm_Tn q.2.2.1 q.2.2.2).1 (mm_Tn q.2.2.1 q.2.2.2).2.1 (mm_Tn q.2.2.1 q.2.2.2).2.2.1 ∈ mm_U ∧ q.2.2.1 < 7 ∧ q.2.2.2 < mm_N q.2.2.1 := List.forall_mem_cons.mpr ⟨⟨mw_188, by decide, by decide⟩, List.forall_mem_cons.mpr ⟨⟨mw_212, by decide, by decide⟩, List.forall_mem_cons.mpr ⟨⟨mw_217, by decide, by decide⟩, List.forall_mem_cons.mpr ⟨⟨mw_222, by decide, by decide⟩, List.forall_mem_cons.mpr ⟨⟨mw_227, by decide, by decide⟩, List.forall_mem_cons.mpr ⟨⟨mw_228, by decide, by decide⟩, List.forall_mem_cons.mpr ⟨⟨mw_229, by decide, by decide⟩, List.forall_mem_cons.mpr ⟨⟨mw_234, by decide, by decide⟩, List.forall_mem_cons.mpr ⟨⟨mw_235, by decide, by decide⟩, List.forall_mem_cons.mpr ⟨⟨mw_240, by decide, by decide⟩, List.forall_mem_cons.mpr ⟨⟨mw_241, by decide, by decide⟩, List.forall_mem_cons.mpr ⟨⟨mw_257, by decide, by decide⟩, List.forall_mem_cons.mpr ⟨⟨mw_292, by decide, by decide⟩, List.forall_mem_cons.mpr ⟨⟨mw_297, by decide, by decide⟩, List.forall_mem_cons.mpr ⟨⟨mw_332, by decide, by decide⟩, List.forall_mem_cons.mpr ⟨⟨mw_333, by decide, by decide⟩, fun _ h => absurd h List.not_mem_nil⟩⟩⟩⟩⟩⟩⟩⟩⟩⟩⟩⟩⟩⟩⟩⟩
def mm_fT_4 : List (Nat × Nat × Nat × Nat) := [(5, 156, 2, 1), (5, 184, 1, 0), (5, 187, 1, 1), (5, 190, 1, 2), (1, 18, 0, 0), (1, 24, 1, 0), (1, 39, 0, 7), (1, 59, 1, 1), (5, 197, 0, 13), (6, 171, 6, 11), (3, 15, 3, 0), (3, 19, 3, 1), (3, 23, 3, 2), (5, 238, 3, 3), (5, 248, 0, 12), (5, 228, 3, 0)]
theorem mm_fT_4_ok : ∀ q ∈ mm_fT_4, Cond.fieldLink (mm_Rn q.1) q.2.1 (mm_Tn q.2.2.1 q.2.2.2).1 (mm_Tn q.2.2.1 q.2.2.2).2.1 (mm_Tn q.2.2.1 q.2.2.2).2.2.1 ∈ mm_U ∧ q.2.2.1 < 7 ∧ q.2.2.2 < mm_N q.2.2.1 := List.forall_mem_cons.mpr ⟨⟨mw_334, by decide, by decide⟩, List.forall_mem_cons.mpr ⟨⟨mw_569, by decide, by decide⟩, List.forall_mem_cons.mpr ⟨⟨mw_570, by decide, by decide⟩, List.forall_mem_cons.mpr ⟨⟨mw_571, by decide, by decide⟩, List.forall_mem_cons.mpr ⟨⟨mw_576, by decide, by decide⟩, List.forall_mem_cons.mpr ⟨⟨mw_577, by decide, by decide⟩, List.forall_mem_cons.mpr ⟨⟨mw_582, by decide, by decide⟩, List.forall_mem_cons.mpr ⟨⟨mw_583, by decide, by decide⟩, List.forall_mem_cons.mpr ⟨⟨mw_626, by decide, by decide⟩, List.forall_mem_cons.mpr ⟨⟨mw_670, by decide, by decide⟩, List.forall_mem_cons.mpr ⟨⟨mw_687, by decide, by decide⟩, List.forall_mem_cons.mpr ⟨⟨mw_688, by decide, by decide⟩, List.forall_mem_cons.mpr ⟨⟨mw_693, by decide, by decide⟩, List.forall_mem_cons.mpr ⟨⟨mw_698, by decide, by decide⟩, List.forall_mem_cons.mpr ⟨⟨mw_699, by decide, by decide⟩, List.forall_mem_cons.mpr ⟨⟨mw_749, by decide, by decide⟩, fun _ h => absurd h List.not_mem_nil⟩⟩⟩⟩⟩⟩⟩⟩⟩⟩⟩⟩⟩⟩⟩⟩
def mm_fT_5 : List (Nat × Nat × Nat × Nat) := [(5, 231, 3, 2), (5, 232, 3, 1)]
theorem mm_fT_5_ok : ∀ q ∈ mm_fT_5, Cond.fieldLink (mm_Rn q.1) q.2.1 (mm_Tn q.2.2.1 q.2.2.2).1 (mm_Tn q.2.2.1 q.2.2.2).2.1 (mm_Tn q.2.2.1 q.2.2.2).2.2.1 ∈ mm_U ∧ q.2.2.1 < 7 ∧ q.2.2.2 < mm_N q.2.2.1 := List.forall_mem_cons.mpr ⟨⟨mw_750, by decide, by decide⟩, List.forall_mem_cons.mpr ⟨⟨mw_767, by decide, by decide⟩, fun _ h => absurd h List.not_mem_nil⟩⟩
def mm_fT : List (Nat × Nat × Nat × Nat) := mm_fT_0 ++ (mm_fT_1 ++ (mm_fT_2 ++ (mm_fT_3 ++ (mm_fT_4 ++ (mm_fT_5)))))
theorem mm_fT_ok : ∀ q ∈ mm_fT, Cond.fieldLink (mm_Rn q.1) q.2.1 (mm_Tn q.2.2.1 q.2.2.2).1 (mm_Tn q.2.2.1 q.2.2.2).2.1 (mm_Tn q.2.2.1 q.2.2.2).2.2.1 ∈ mm_U ∧ q.2.2.1 < 7 ∧ q.2.2.2 < mm_N q.2.2.1 := List.forall_mem_append.mpr ⟨mm_fT_0_ok, List.forall_mem_append.mpr ⟨mm_fT_1_ok, List.forall_mem_append.mpr ⟨mm_fT_2_ok, List.forall_mem_append.mpr ⟨mm_fT_3_ok, List.forall_mem_append.mpr ⟨mm_fT_4_ok, mm_fT_5_ok⟩⟩⟩⟩⟩
def mm_f (o i : Nat) : Option (Nat × Nat) := (mm_fT.find? (fun q => q.1 == o && q.2.1 == i)).map (fun q => q.2.2)
def mm_mT_0 : List (Nat × Nat × Nat) := [(0, 55, 7), (0, 66, 16), (0, 70, 8), (0, 74, 17), (0, 77, 20), (0, 80, 3), (0, 83, 18), (0, 87, 19), (0, 91, 12), (0, 95, 13), (0, 99, 11), (1, 27, 23), (1, 31, 24), (1, 35, 1), (1, 42, 16), (1, 46, 9)]
theorem mm_mT_0_ok : ∀ q ∈ mm_mT_0, Cond.methodLink (mm_Rn q.1) q.2.1 (mm_y q.2.2) ∈ mm_U ∧ q.2.2 < 164 := List.forall_mem_cons.mpr ⟨⟨mw_339, by decide⟩, List.forall_mem_cons.mpr ⟨⟨mw_512, by decide⟩, List.forall_mem_cons.mpr ⟨⟨mw_378, by decide⟩, List.forall_mem_cons.mpr ⟨⟨mw_379, by decide⟩, List.forall_mem_cons.mpr ⟨⟨mw_398, by decide⟩, List.forall_mem_cons.mpr ⟨⟨mw_383, by decide⟩, List.forall_mem_cons.mpr ⟨⟨mw_384, by decide⟩, List.forall_mem_cons.mpr ⟨⟨mw_393, by decide⟩, List.forall_mem_cons.mpr ⟨⟨mw_388, by decide⟩, List.forall_mem_cons.mpr ⟨⟨mw_389, by decide⟩, List.forall_mem_cons.mpr ⟨⟨mw_397, by decide⟩, List.forall_mem_cons.mpr ⟨⟨mw_578, by decide⟩, List.forall_mem_cons.mpr ⟨⟨mw_595, by decide⟩, List.forall_mem_cons.mpr ⟨⟨mw_584, by decide⟩, List.forall_mem_cons.mpr ⟨⟨mw_585, by decide⟩, List.forall_mem_cons.mpr ⟨⟨mw_586, by decide⟩, fun _ h => absurd h List.not_mem_nil⟩⟩⟩⟩⟩⟩⟩⟩⟩⟩⟩⟩⟩⟩⟩⟩
def mm_mT_1 : List (Nat × Nat × Nat) := [(1, 50, 163), (1, 56, 10), (2, 17, 0), (2, 22, 28), (2, 25, 1), (3, 26, 33), (4, 17, 0), (4, 29, 2), (4, 32, 44), (4, 39, 47), (4, 43, 48), (4, 46, 39), (4, 50, 41), (4, 53, 46), (4, 57, 40), (4, 60, 5)]
theorem mm_mT_1_ok : ∀ q ∈ mm_mT_1, Cond.methodLink (mm_Rn q.1) q.2.1 (mm_y q.2.2) ∈ mm_U ∧ q.2.2 < 164 := List.forall_mem_cons.mpr ⟨⟨mw_587, by decide⟩, List.forall_mem_cons.mpr ⟨⟨mw_594, by decide⟩, List.forall_mem_cons.mpr ⟨⟨mw_58, by decide⟩, List.forall_mem_cons.mpr ⟨⟨mw_369, by decide⟩, List.forall_mem_cons.mpr ⟨⟨mw_373, by decide⟩, List.forall_mem_cons.mpr ⟨⟨mw_689, by decide⟩, List.forall_mem_cons.mpr ⟨⟨mw_72, by decide⟩, List.forall_mem_cons.mpr ⟨⟨mw_236, by decide⟩, List.forall_mem_cons.mpr ⟨⟨mw_242, by decide⟩, List.forall_mem_cons.mpr ⟨⟨mw_258, by decide⟩, List.forall_mem_cons.mpr ⟨⟨mw_253, by decide⟩, List.forall_mem_cons.mpr ⟨⟨mw_262, by decide⟩, List.forall_mem_cons.mpr ⟨⟨mw_271, by decide⟩, List.forall_mem_cons.mpr ⟨⟨mw_246, by decide⟩, List.forall_mem_cons.mpr ⟨⟨mw_266, by decide⟩, List.forall_mem_cons.mpr ⟨⟨mw_270, by decide⟩, fun _ h => absurd h List.not_mem_nil⟩⟩⟩⟩⟩⟩⟩⟩⟩⟩⟩⟩⟩⟩⟩⟩
def mm_mT_2 : List (Nat × Nat × Nat) := [(4, 64, 42), (4, 67, 43), (4, 70, 3), (4, 73, 6), (4, 76, 45), (5, 9, 0), (5, 21, 25), (5, 28, 21), (5, 35, 36), (5, 46, 31), (5, 57, 85), (5, 65, 26), (5, 68, 5), (5, 72, 3), (5, 79, 6), (5, 95, 7)]
theorem mm_mT_2_ok : ∀ q ∈ mm_mT_2, Cond.methodLink (mm_Rn q.1) q.2.1 (mm_y q.2.2) ∈ mm_U ∧ q.2.2 < 164 := List.forall_mem_cons.mpr ⟨⟨mw_275, by decide⟩, List.forall_mem_cons.mpr ⟨⟨mw_279, by decide⟩, List.forall_mem_cons.mpr ⟨⟨mw_282, by decide⟩, List.forall_mem_cons.mpr ⟨⟨mw_283, by decide⟩, List.forall_mem_cons.mpr ⟨⟨mw_250, by decide⟩, List.forall_mem_cons.mpr ⟨⟨mw_37, by decide⟩, List.forall_mem_cons.mpr ⟨⟨mw_52, by decide⟩, List.forall_mem_cons.mpr ⟨⟨mw_59, by decide⟩, List.forall_mem_cons.mpr ⟨⟨mw_65, by decide⟩, List.forall_mem_cons.mpr ⟨⟨mw_73, by decide⟩, List.forall_mem_cons.mpr ⟨⟨mw_100, by decide⟩, List.forall_mem_cons.mpr ⟨⟨mw_103, by decide⟩, List.forall_mem_cons.mpr ⟨⟨mw_108, by decide⟩, List.forall_mem_cons.mpr ⟨⟨mw_128, by decide⟩, List.forall_mem_cons.mpr ⟨⟨mw_132, by decide⟩, List.forall_mem_cons.mpr ⟨⟨mw_164, by decide⟩, fun _ h => absurd h List.not_mem_nil⟩⟩⟩⟩⟩⟩⟩⟩⟩⟩⟩⟩⟩⟩⟩⟩
def mm_mT_3 : List (Nat × Nat × Nat) := [(5, 98, 11), (5, 102, 4), (5, 114, 12), (5, 120, 37), (5, 123, 38), (5, 136, 1), (5, 146, 9), (5, 150, 10), (5, 153, 8), (5, 157, 27), (5, 160, 16), (5, 164, 13), (5, 168, 14), (5, 171, 29), (5, 174, 86), (5, 177, 15)]
theorem mm_mT_3_ok : ∀ q ∈ mm_mT_3, Cond.methodLink (mm_Rn q.1) q.2.1 (mm_y q.2.2) ∈ mm_U ∧ q.2.2 < 164 := List.forall_mem_cons.mpr ⟨⟨mw_168, by decide⟩, List.forall_mem_cons.mpr ⟨⟨mw_189, by decide⟩, List.forall_mem_cons.mpr ⟨⟨mw_193, by decide⟩, List.forall_mem_cons.mpr ⟨⟨mw_213, by decide⟩, List.forall_mem_cons.mpr ⟨⟨mw_230, by decide⟩, List.forall_mem_cons.mpr ⟨⟨mw_284, by decide⟩, List.forall_mem_cons.mpr ⟨⟨mw_335, by decide⟩, List.forall_mem_cons.mpr ⟨⟨mw_340, by decide⟩, List.forall_mem_cons.mpr ⟨⟨mw_344, by decide⟩, List.forall_mem_cons.mpr ⟨⟨mw_365, by decide⟩, List.forall_mem_cons.mpr ⟨⟨mw_374, by decide⟩, List.forall_mem_cons.mpr ⟨⟨mw_439, by decide⟩, List.forall_mem_cons.mpr ⟨⟨mw_464, by decide⟩, List.forall_mem_cons.mpr ⟨⟨mw_484, by decide⟩, List.forall_mem_cons.mpr ⟨⟨mw_504, by decide⟩, List.forall_mem_cons.mpr ⟨⟨mw_508, by decide⟩, fun _ h => absurd h List.not_mem_nil⟩⟩⟩⟩⟩⟩⟩⟩⟩⟩⟩⟩⟩⟩⟩⟩
def mm_mT_4 : List (Nat × Nat × Nat) := [(5, 180, 22), (5, 193, 87), (5, 200, 88), (5, 204, 89), (5, 208, 90), (5, 211, 30), (5, 214, 34), (5, 217, 91), (5, 221, 35), (5, 225, 32), (5, 235, 33), (6, 47, 93), (6, 51, 99), (6, 55, 97), (6, 59, 100), (6, 63, 105)]
theorem mm_mT_4_ok : ∀ q ∈ mm_mT_4, Cond.methodLink (mm_Rn q.1) q.2.1 (mm_y q.2.2) ∈ mm_U ∧ q.2.2 < 164 := List.forall_mem_cons.mpr ⟨⟨mw_572, by decide⟩, List.forall_mem_cons.mpr ⟨⟨mw_614, by decide⟩, List.forall_mem_cons.mpr ⟨⟨mw_643, by decide⟩, List.forall_mem_cons.mpr ⟨⟨mw_647, by decide⟩, List.forall_mem_cons.mpr ⟨⟨mw_651, by decide⟩, List.forall_mem_cons.mpr ⟨⟨mw_662, by decide⟩, List.forall_mem_cons.mpr ⟨⟨mw_683, by decide⟩, List.forall_mem_cons.mpr ⟨⟨mw_694, by decide⟩, List.forall_mem_cons.mpr ⟨⟨mw_722, by decide⟩, List.forall_mem_cons.mpr ⟨⟨mw_737, by decide⟩, List.forall_mem_cons.mpr ⟨⟨mw_772, by decide⟩, List.forall_mem_cons.mpr ⟨⟨mw_117, by decide⟩, List.forall_mem_cons.mpr ⟨⟨mw_120, by decide⟩, List.forall_mem_cons.mpr ⟨⟨mw_141, by decide⟩, List.forall_mem_cons.mpr ⟨⟨mw_145, by decide⟩, List.forall_mem_cons.mpr ⟨⟨mw_176, by decide⟩, fun _ h => absurd h List.not_mem_nil⟩⟩⟩⟩⟩⟩⟩⟩⟩⟩⟩⟩⟩⟩⟩⟩
def mm_mT_5 : List (Nat × Nat × Nat) := [(6, 67, 104), (6, 71, 98), (6, 74, 107), (6, 84, 110), (6, 91, 112), (6, 95, 113), (6, 98, 111), (6, 101, 114), (6, 105, 115), (6, 109, 116), (6, 112, 117), (6, 115, 96), (6, 119, 119), (6, 123, 120), (6, 126, 121), (6, 130, 124)]
theorem mm_mT_5_ok : ∀ q ∈ mm_mT_5, Cond.methodLink (mm_Rn q.1) q.2.1 (mm_y q.2.2) ∈ mm_U ∧ q.2.2 < 164 := List.forall_mem_cons.mpr ⟨⟨mw_179, by decide⟩, List.forall_mem_cons.mpr ⟨⟨mw_201, by decide⟩, List.forall_mem_cons.mpr ⟨⟨mw_205, by decide⟩, List.forall_mem_cons.mpr ⟨⟨mw_306, by decide⟩, List.forall_mem_cons.mpr ⟨⟨mw_302, by decide⟩, List.forall_mem_cons.mpr ⟨⟨mw_298, by decide⟩, List.forall_mem_cons.mpr ⟨⟨mw_310, by decide⟩, List.forall_mem_cons.mpr ⟨⟨mw_322, by decide⟩, List.forall_mem_cons.mpr ⟨⟨mw_314, by decide⟩, List.forall_mem_cons.mpr ⟨⟨mw_318, by decide⟩, List.forall_mem_cons.mpr ⟨⟨mw_293, by decide⟩, List.forall_mem_cons.mpr ⟨⟨mw_325, by decide⟩, List.forall_mem_cons.mpr ⟨⟨mw_352, by decide⟩, List.forall_mem_cons.mpr ⟨⟨mw_355, by decide⟩, List.forall_mem_cons.mpr ⟨⟨mw_358, by decide⟩, List.forall_mem_cons.mpr ⟨⟨mw_424, by decide⟩, fun _ h => absurd h List.not_mem_nil⟩⟩⟩⟩⟩⟩⟩⟩⟩⟩⟩⟩⟩⟩⟩⟩
def mm_mT_6 : List (Nat × Nat × Nat) := [(6, 134, 125), (6, 138, 94), (6, 141, 126), (6, 145, 123), (6, 148, 127), (6, 158, 136), (6, 161, 137), (6, 165, 144), (6, 168, 95), (6, 175, 153), (6, 178, 152), (6, 181, 154), (6, 185, 155), (6, 189, 157)]
theorem mm_mT_6_ok : ∀ q ∈ mm_mT_6, Cond.methodLink (mm_Rn q.1) q.2.1 (mm_y q.2.2) ∈ mm_U ∧ q.2.2 < 164 := List.forall_mem_cons.mpr ⟨⟨mw_421, by decide⟩, List.forall_mem_cons.mpr ⟨⟨mw_414, by decide⟩, List.forall_mem_cons.mpr ⟨⟨mw_417, by decide⟩, List.forall_mem_cons.mpr ⟨⟨mw_406, by decide⟩, List.forall_mem_cons.mpr ⟨⟨mw_410, by decide⟩, List.forall_mem_cons.mpr ⟨⟨mw_517, by decide⟩, List.forall_mem_cons.mpr ⟨⟨mw_521, by decide⟩, List.forall_mem_cons.mpr ⟨⟨mw_603, by decide⟩, List.forall_mem_cons.mpr ⟨⟨mw_607, by decide⟩, List.forall_mem_cons.mpr ⟨⟨mw_711, by decide⟩, List.forall_mem_cons.mpr ⟨⟨mw_704, by decide⟩, List.forall_mem_cons.mpr ⟨⟨mw_707, by decide⟩, List.forall_mem_cons.mpr ⟨⟨mw_714, by decide⟩, List.forall_mem_cons.mpr ⟨⟨mw_730, by decide⟩, fun _ h => absurd h List.not_mem_nil⟩⟩⟩⟩⟩⟩⟩⟩⟩⟩⟩⟩⟩⟩
def mm_mT : List (Nat × Nat × Nat) := mm_mT_0 ++ (mm_mT_1 ++ (mm_mT_2 ++ (mm_mT_3 ++ (mm_mT_4 ++ (mm_mT_5 ++ (mm_mT_6))))))
theorem mm_mT_ok : ∀ q ∈ mm_mT, Cond.methodLink (mm_Rn q.1) q.2.1 (mm_y q.2.2) ∈ mm_U ∧ q.2.2 < 164 := List.forall_mem_append.mpr ⟨mm_mT_0_ok, List.forall_mem_append.mpr ⟨mm_mT_1_ok, List.forall_mem_append.mpr ⟨mm_mT_2_ok, List.forall_mem_append.mpr ⟨mm_mT_3_ok, List.forall_mem_append.mpr ⟨mm_mT_4_ok, List.forall_mem_append.mpr ⟨mm_mT_5_ok, mm_mT_6_ok⟩⟩⟩⟩⟩⟩
def mm_m (o i : Nat) : Option Nat := (mm_mT.find? (fun q => q.1 == o && q.2.1 == i)).map (fun q => q.2.2)
def mm_oT_0 : List (Nat × Nat) := [(0, 3), (1, 3), (2, 3), (3, 3), (4, 3), (5, 1), (6, 1)]
theorem mm_oT_0_ok : ∀ q ∈ mm_oT_0, Cond.methodLink (mm_Rn q.1) q.2 objectInit ∈ mm_U := List.forall_mem_cons.mpr ⟨mw_40, List.forall_mem_cons.mpr ⟨mw_62, List.forall_mem_cons.mpr ⟨mw_55, List.forall_mem_cons.mpr ⟨mw_76, List.forall_mem_cons.mpr ⟨mw_68, List.forall_mem_cons.mpr ⟨mw_10, List.forall_mem_cons.mpr ⟨mw_82, fun _ h => absurd h List.not_mem_nil⟩⟩⟩⟩⟩⟩⟩
def mm_oT : List (Nat × Nat) := mm_oT_0
theorem mm_oT_ok : ∀ q ∈ mm_oT, Cond.methodLink (mm_Rn q.1) q.2 objectInit ∈ mm_U := mm_oT_0_ok
def mm_nT_0 : List (Nat × Nat) := [(5, 242)]
theorem mm_nT_0_ok : ∀ q ∈ mm_nT_0, Cond.methodLink (mm_Rn q.1) q.2 arraycopyName ∈ mm_U := List.forall_mem_cons.mpr ⟨mw_768, fun _ h => absurd h List.not_mem_nil⟩
def mm_nT : List (Nat × Nat) := mm_nT_0
theorem mm_nT_ok : ∀ q ∈ mm_nT, Cond.methodLink (mm_Rn q.1) q.2 arraycopyName ∈ mm_U := mm_nT_0_ok
def mm_kT_0 : List (Nat × Nat × Nat) := [(5, 7, 0), (5, 19, 2), (5, 26, 1), (5, 33, 4), (5, 40, 3), (2, 9, 0), (4, 15, 0)]
theorem mm_kT_0_ok : ∀ q ∈ mm_kT_0, Cond.classLink (mm_Rn q.1) q.2.1 (mm_Rn q.2.2) ∈ mm_U ∧ q.2.2 < 7 := List.forall_mem_cons.mpr ⟨⟨mw_13, by decide⟩, List.forall_mem_cons.mpr ⟨⟨mw_18, by decide⟩, List.forall_mem_cons.mpr ⟨⟨mw_22, by decide⟩, List.forall_mem_cons.mpr ⟨⟨mw_26, by decide⟩, List.forall_mem_cons.mpr ⟨⟨mw_30, by decide⟩, List.forall_mem_cons.mpr ⟨⟨mw_56, by decide⟩, List.forall_mem_cons.mpr ⟨⟨mw_70, by decide⟩, fun _ h => absurd h List.not_mem_nil⟩⟩⟩⟩⟩⟩⟩
def mm_kT : List (Nat × Nat × Nat) := mm_kT_0
theorem mm_kT_ok : ∀ q ∈ mm_kT, Cond.classLink (mm_Rn q.1) q.2.1 (mm_Rn q.2.2) ∈ mm_U ∧ q.2.2 < 7 := mm_kT_0_ok
def mm_kk (o i : Nat) : Option Nat := (mm_kT.find? (fun q => q.1 == o && q.2.1 == i)).map (fun q => q.2.2)
def mm_cT_0 : List (Nat × Nat × Int32) := [(0, 65, 65536), (6, 157, 65536), (7, 265, 1431655765), (7, 266, 858993459), (7, 267, 252645135)]
theorem mm_cT_0_ok : ∀ q ∈ mm_cT_0, Cond.constant (mm_Rn q.1) q.2.1 q.2.2 ∈ mm_U := List.forall_mem_cons.mpr ⟨mw_471, List.forall_mem_cons.mpr ⟨mw_479, List.forall_mem_cons.mpr ⟨mw_591, List.forall_mem_cons.mpr ⟨mw_592, List.forall_mem_cons.mpr ⟨mw_593, fun _ h => absurd h List.not_mem_nil⟩⟩⟩⟩⟩
def mm_cT : List (Nat × Nat × Int32) := mm_cT_0
theorem mm_cT_ok : ∀ q ∈ mm_cT, Cond.constant (mm_Rn q.1) q.2.1 q.2.2 ∈ mm_U := mm_cT_0_ok
def mm_lT_0 : List (Nat × Nat × Int64) := [(0, 59, 1103515245), (0, 61, 12345), (0, 63, 2147483647), (6, 151, 1103515245), (6, 153, 12345), (6, 155, 2147483648)]
theorem mm_lT_0_ok : ∀ q ∈ mm_lT_0, Cond.constantLong (mm_Rn q.1) q.2.1 q.2.2 ∈ mm_U := List.forall_mem_cons.mpr ⟨mw_468, List.forall_mem_cons.mpr ⟨mw_469, List.forall_mem_cons.mpr ⟨mw_470, List.forall_mem_cons.mpr ⟨mw_476, List.forall_mem_cons.mpr ⟨mw_477, List.forall_mem_cons.mpr ⟨mw_478, fun _ h => absurd h List.not_mem_nil⟩⟩⟩⟩⟩⟩
def mm_lT : List (Nat × Nat × Int64) := mm_lT_0
theorem mm_lT_ok : ∀ q ∈ mm_lT, Cond.constantLong (mm_Rn q.1) q.2.1 q.2.2 ∈ mm_U := mm_lT_0_ok
def mm_ci (o i : Nat) : Option Int32 := (mm_cT.find? (fun q => q.1 == o && q.2.1 == i)).map (fun q => q.2.2)
def mm_cl (o i : Nat) : Option Int64 := (mm_lT.find? (fun q => q.1 == o && q.2.1 == i)).map (fun q => q.2.2)
/-- what the tables say of a method -/
def mm_ok (j : Nat) : Prop := Cond.code (mm_y j) (mm_c j) (mm_x j) (mm_r j) ∈ mm_U ∧ Cond.initialized (mm_Rn (mm_o j)) ∈ mm_U ∧ ((mm_y j).cls = mm_Rn (mm_o j) ∧ plainName (mm_y j).cls = true ∧ (mm_y j).cls ≠ "java/lang/invoke/MethodHandle" ∧ (mm_y j).cls ≠ "java/lang/invoke/VarHandle" ∧ (parseMethodDescriptor (mm_y j).desc).map (fun d => d.parameters.length) = some (mm_a j)) ∧ (mm_k j = 0 → Cond.instanceMethod (mm_y j) ∈ mm_U ∧ Cond.selects (mm_Rn (mm_o j)) (mm_y j) (mm_y j) ∈ mm_U) ∧ (mm_k j = 1 → Cond.static (mm_y j) ∈ mm_U) ∧ (mm_k j = 2 → (mm_y j).name = "<init>" ∧ Cond.instanceMethod (mm_y j) ∈ mm_U ∧ mm_r j = none)
theorem mm_ok_0 : mm_ok 0 := ⟨mw_39, mw_15, by decide +kernel, fun h => absurd h (by decide), fun h => absurd h (by decide), fun _ => ⟨rfl, mw_38, rfl⟩⟩
theorem mm_ok_1 : mm_ok 1 := ⟨mw_287, mw_15, by decide +kernel, fun _ => ⟨mw_285, mw_286⟩, fun h => absurd h (by decide), fun h => absurd h (by decide)⟩
theorem mm_ok_2 : mm_ok 2 := ⟨mw_239, mw_15, by decide +kernel, fun _ => ⟨mw_237, mw_238⟩, fun h => absurd h (by decide), fun h => absurd h (by decide)⟩
theorem mm_ok_3 : mm_ok 3 := ⟨mw_131, mw_15, by decide +kernel, fun _ => ⟨mw_129, mw_130⟩, fun h => absurd h (by decide), fun h => absurd h (by decide)⟩
theorem mm_ok_4 : mm_ok 4 := ⟨mw_192, mw_15, by decide +kernel, fun _ => ⟨mw_190, mw_191⟩, fun h => absurd h (by decide), fun h => absurd h (by decide)⟩
theorem mm_ok_5 : mm_ok 5 := ⟨mw_111, mw_15, by decide +kernel, fun _ => ⟨mw_109, mw_110⟩, fun h => absurd h (by decide), fun h => absurd h (by decide)⟩
theorem mm_ok_6 : mm_ok 6 := ⟨mw_135, mw_15, by decide +kernel, fun _ => ⟨mw_133, mw_134⟩, fun h => absurd h (by decide), fun h => absurd h (by decide)⟩
theorem mm_ok_7 : mm_ok 7 := ⟨mw_167, mw_15, by decide +kernel, fun _ => ⟨mw_165, mw_166⟩, fun h => absurd h (by decide), fun h => absurd h (by decide)⟩
theorem mm_ok_8 : mm_ok 8 := ⟨mw_347, mw_15, by decide +kernel, fun _ => ⟨mw_345, mw_346⟩, fun h => absurd h (by decide), fun h => absurd h (by decide)⟩
theorem mm_ok_9 : mm_ok 9 := ⟨mw_338, mw_15, by decide +kernel, fun _ => ⟨mw_336, mw_337⟩, fun h => absurd h (by decide), fun h => absurd h (by decide)⟩
theorem mm_ok_10 : mm_ok 10 := ⟨mw_343, mw_15, by decide +kernel, fun _ => ⟨mw_341, mw_342⟩, fun h => absurd h (by decide), fun h => absurd h (by decide)⟩
theorem mm_ok_11 : mm_ok 11 := ⟨mw_171, mw_15, by decide +kernel, fun _ => ⟨mw_169, mw_170⟩, fun h => absurd h (by decide), fun h => absurd h (by decide)⟩
theorem mm_ok_12 : mm_ok 12 := ⟨mw_196, mw_15, by decide +kernel, fun _ => ⟨mw_194, mw_195⟩, fun h => absurd h (by decide), fun h => absurd h (by decide)⟩
theorem mm_ok_13 : mm_ok 13 := ⟨mw_392, mw_15, by decide +kernel, fun _ => ⟨mw_390, mw_391⟩, fun h => absurd h (by decide), fun h => absurd h (by decide)⟩
theorem mm_ok_14 : mm_ok 14 := ⟨mw_467, mw_15, by decide +kernel, fun _ => ⟨mw_465, mw_466⟩, fun h => absurd h (by decide), fun h => absurd h (by decide)⟩
theorem mm_ok_15 : mm_ok 15 := ⟨mw_511, mw_15, by decide +kernel, fun _ => ⟨mw_509, mw_510⟩, fun h => absurd h (by decide), fun h => absurd h (by decide)⟩
theorem mm_ok_16 : mm_ok 16 := ⟨mw_377, mw_15, by decide +kernel, fun _ => ⟨mw_375, mw_376⟩, fun h => absurd h (by decide), fun h => absurd h (by decide)⟩
theorem mm_ok_17 : mm_ok 17 := ⟨mw_382, mw_15, by decide +kernel, fun _ => ⟨mw_380, mw_381⟩, fun h => absurd h (by decide), fun h => absurd h (by decide)⟩
theorem mm_ok_18 : mm_ok 18 := ⟨mw_387, mw_15, by decide +kernel, fun _ => ⟨mw_385, mw_386⟩, fun h => absurd h (by decide), fun h => absurd h (by decide)⟩
theorem mm_ok_19 : mm_ok 19 := ⟨mw_396, mw_15, by decide +kernel, fun _ => ⟨mw_394, mw_395⟩, fun h => absurd h (by decide), fun h => absurd h (by decide)⟩
theorem mm_ok_20 : mm_ok 20 := ⟨mw_401, mw_15, by decide +kernel, fun _ => ⟨mw_399, mw_400⟩, fun h => absurd h (by decide), fun h => absurd h (by decide)⟩
theorem mm_ok_21 : mm_ok 21 := ⟨mw_61, mw_24, by decide +kernel, fun h => absurd h (by decide), fun h => absurd h (by decide), fun _ => ⟨rfl, mw_60, rfl⟩⟩
theorem mm_ok_22 : mm_ok 22 := ⟨mw_575, mw_24, by decide +kernel, fun _ => ⟨mw_573, mw_574⟩, fun h => absurd h (by decide), fun h => absurd h (by decide)⟩
theorem mm_ok_23 : mm_ok 23 := ⟨mw_581, mw_24, by decide +kernel, fun _ => ⟨mw_579, mw_580⟩, fun h => absurd h (by decide), fun h => absurd h (by decide)⟩
theorem mm_ok_24 : mm_ok 24 := ⟨mw_598, mw_24, by decide +kernel, fun _ => ⟨mw_596, mw_597⟩, fun h => absurd h (by decide), fun h => absurd h (by decide)⟩
theorem mm_ok_25 : mm_ok 25 := ⟨mw_54, mw_20, by decide +kernel, fun h => absurd h (by decide), fun h => absurd h (by decide), fun _ => ⟨rfl, mw_53, rfl⟩⟩
theorem mm_ok_26 : mm_ok 26 := ⟨mw_106, mw_20, by decide +kernel, fun _ => ⟨mw_104, mw_105⟩, fun h => absurd h (by decide), fun h => absurd h (by decide)⟩
theorem mm_ok_27 : mm_ok 27 := ⟨mw_368, mw_20, by decide +kernel, fun _ => ⟨mw_366, mw_367⟩, fun h => absurd h (by decide), fun h => absurd h (by decide)⟩
theorem mm_ok_28 : mm_ok 28 := ⟨mw_372, mw_20, by decide +kernel, fun _ => ⟨mw_370, mw_371⟩, fun h => absurd h (by decide), fun h => absurd h (by decide)⟩
theorem mm_ok_29 : mm_ok 29 := ⟨mw_487, mw_20, by decide +kernel, fun _ => ⟨mw_485, mw_486⟩, fun h => absurd h (by decide), fun h => absurd h (by decide)⟩
theorem mm_ok_30 : mm_ok 30 := ⟨mw_665, mw_20, by decide +kernel, fun _ => ⟨mw_663, mw_664⟩, fun h => absurd h (by decide), fun h => absurd h (by decide)⟩
theorem mm_ok_31 : mm_ok 31 := ⟨mw_75, mw_33, by decide +kernel, fun h => absurd h (by decide), fun h => absurd h (by decide), fun _ => ⟨rfl, mw_74, rfl⟩⟩
theorem mm_ok_32 : mm_ok 32 := ⟨mw_740, mw_33, by decide +kernel, fun _ => ⟨mw_738, mw_739⟩, fun h => absurd h (by decide), fun h => absurd h (by decide)⟩
theorem mm_ok_33 : mm_ok 33 := ⟨mw_692, mw_33, by decide +kernel, fun _ => ⟨mw_690, mw_691⟩, fun h => absurd h (by decide), fun h => absurd h (by decide)⟩
theorem mm_ok_34 : mm_ok 34 := ⟨mw_686, mw_33, by decide +kernel, fun _ => ⟨mw_684, mw_685⟩, fun h => absurd h (by decide), fun h => absurd h (by decide)⟩
theorem mm_ok_35 : mm_ok 35 := ⟨mw_725, mw_33, by decide +kernel, fun _ => ⟨mw_723, mw_724⟩, fun h => absurd h (by decide), fun h => absurd h (by decide)⟩
theorem mm_ok_36 : mm_ok 36 := ⟨mw_67, mw_28, by decide +kernel, fun h => absurd h (by decide), fun h => absurd h (by decide), fun _ => ⟨rfl, mw_66, rfl⟩⟩
theorem mm_ok_37 : mm_ok 37 := ⟨mw_216, mw_28, by decide +kernel, fun _ => ⟨mw_214, mw_215⟩, fun h => absurd h (by decide), fun h => absurd h (by decide)⟩
theorem mm_ok_38 : mm_ok 38 := ⟨mw_233, mw_28, by decide +kernel, fun _ => ⟨mw_231, mw_232⟩, fun h => absurd h (by decide), fun h => absurd h (by decide)⟩
theorem mm_ok_39 : mm_ok 39 := ⟨mw_265, mw_28, by decide +kernel, fun _ => ⟨mw_263, mw_264⟩, fun h => absurd h (by decide), fun h => absurd h (by decide)⟩
theorem mm_ok_40 : mm_ok 40 := ⟨mw_269, mw_28, by decide +kernel, fun _ => ⟨mw_267, mw_268⟩, fun h => absurd h (by decide), fun h => absurd h (by decide)⟩
theorem mm_ok_41 : mm_ok 41 := ⟨mw_274, mw_28, by decide +kernel, fun _ => ⟨mw_272, mw_273⟩, fun h => absurd h (by decide), fun h => absurd h (by decide)⟩
theorem mm_ok_42 : mm_ok 42 := ⟨mw_278, mw_28, by decide +kernel, fun _ => ⟨mw_276, mw_277⟩, fun h => absurd h (by decide), fun h => absurd h (by decide)⟩
theorem mm_ok_43 : mm_ok 43 := ⟨mw_281, mw_28, by decide +kernel, fun h => absurd h (by decide), fun _ => mw_280, fun h => absurd h (by decide)⟩
theorem mm_ok_44 : mm_ok 44 := ⟨mw_245, mw_28, by decide +kernel, fun _ => ⟨mw_243, mw_244⟩, fun h => absurd h (by decide), fun h => absurd h (by decide)⟩
theorem mm_ok_45 : mm_ok 45 := ⟨mw_252, mw_28, by decide +kernel, fun h => absurd h (by decide), fun _ => mw_251, fun h => absurd h (by decide)⟩
theorem mm_ok_46 : mm_ok 46 := ⟨mw_249, mw_28, by decide +kernel, fun _ => ⟨mw_247, mw_248⟩, fun h => absurd h (by decide), fun h => absurd h (by decide)⟩
theorem mm_ok_47 : mm_ok 47 := ⟨mw_261, mw_28, by decide +kernel, fun _ => ⟨mw_259, mw_260⟩, fun h => absurd h (by decide), fun h => absurd h (by decide)⟩
theorem mm_ok_48 : mm_ok 48 := ⟨mw_256, mw_28, by decide +kernel, fun _ => ⟨mw_254, mw_255⟩, fun h => absurd h (by decide), fun h => absurd h (by decide)⟩
theorem mm_ok_49 : mm_ok 49 := ⟨mw_9, mw_2, by decide +kernel, fun h => absurd h (by decide), fun h => absurd h (by decide), fun _ => ⟨rfl, mw_8, rfl⟩⟩
theorem mm_ok_50 : mm_ok 50 := ⟨mw_98, mw_2, by decide +kernel, fun _ => ⟨mw_96, mw_97⟩, fun h => absurd h (by decide), fun h => absurd h (by decide)⟩
theorem mm_ok_51 : mm_ok 51 := ⟨mw_126, mw_2, by decide +kernel, fun _ => ⟨mw_124, mw_125⟩, fun h => absurd h (by decide), fun h => absurd h (by decide)⟩
theorem mm_ok_52 : mm_ok 52 := ⟨mw_151, mw_2, by decide +kernel, fun _ => ⟨mw_149, mw_150⟩, fun h => absurd h (by decide), fun h => absurd h (by decide)⟩
theorem mm_ok_53 : mm_ok 53 := ⟨mw_160, mw_2, by decide +kernel, fun _ => ⟨mw_158, mw_159⟩, fun h => absurd h (by decide), fun h => absurd h (by decide)⟩
theorem mm_ok_54 : mm_ok 54 := ⟨mw_185, mw_2, by decide +kernel, fun _ => ⟨mw_183, mw_184⟩, fun h => absurd h (by decide), fun h => absurd h (by decide)⟩
theorem mm_ok_55 : mm_ok 55 := ⟨mw_211, mw_2, by decide +kernel, fun _ => ⟨mw_209, mw_210⟩, fun h => absurd h (by decide), fun h => absurd h (by decide)⟩
theorem mm_ok_56 : mm_ok 56 := ⟨mw_226, mw_2, by decide +kernel, fun _ => ⟨mw_224, mw_225⟩, fun h => absurd h (by decide), fun h => absurd h (by decide)⟩
theorem mm_ok_57 : mm_ok 57 := ⟨mw_331, mw_2, by decide +kernel, fun _ => ⟨mw_329, mw_330⟩, fun h => absurd h (by decide), fun h => absurd h (by decide)⟩
theorem mm_ok_58 : mm_ok 58 := ⟨mw_364, mw_2, by decide +kernel, fun _ => ⟨mw_362, mw_363⟩, fun h => absurd h (by decide), fun h => absurd h (by decide)⟩
theorem mm_ok_59 : mm_ok 59 := ⟨mw_430, mw_2, by decide +kernel, fun _ => ⟨mw_428, mw_429⟩, fun h => absurd h (by decide), fun h => absurd h (by decide)⟩
theorem mm_ok_60 : mm_ok 60 := ⟨mw_438, mw_2, by decide +kernel, fun _ => ⟨mw_436, mw_437⟩, fun h => absurd h (by decide), fun h => absurd h (by decide)⟩
theorem mm_ok_61 : mm_ok 61 := ⟨mw_447, mw_2, by decide +kernel, fun _ => ⟨mw_445, mw_446⟩, fun h => absurd h (by decide), fun h => absurd h (by decide)⟩
theorem mm_ok_62 : mm_ok 62 := ⟨mw_455, mw_2, by decide +kernel, fun _ => ⟨mw_453, mw_454⟩, fun h => absurd h (by decide), fun h => absurd h (by decide)⟩
theorem mm_ok_63 : mm_ok 63 := ⟨mw_463, mw_2, by decide +kernel, fun _ => ⟨mw_461, mw_462⟩, fun h => absurd h (by decide), fun h => absurd h (by decide)⟩
theorem mm_ok_64 : mm_ok 64 := ⟨mw_483, mw_2, by decide +kernel, fun _ => ⟨mw_481, mw_482⟩, fun h => absurd h (by decide), fun h => absurd h (by decide)⟩
theorem mm_ok_65 : mm_ok 65 := ⟨mw_495, mw_2, by decide +kernel, fun _ => ⟨mw_493, mw_494⟩, fun h => absurd h (by decide), fun h => absurd h (by decide)⟩
theorem mm_ok_66 : mm_ok 66 := ⟨mw_503, mw_2, by decide +kernel, fun _ => ⟨mw_501, mw_502⟩, fun h => absurd h (by decide), fun h => absurd h (by decide)⟩
theorem mm_ok_67 : mm_ok 67 := ⟨mw_528, mw_2, by decide +kernel, fun _ => ⟨mw_526, mw_527⟩, fun h => absurd h (by decide), fun h => absurd h (by decide)⟩
theorem mm_ok_68 : mm_ok 68 := ⟨mw_536, mw_2, by decide +kernel, fun _ => ⟨mw_534, mw_535⟩, fun h => absurd h (by decide), fun h => absurd h (by decide)⟩
theorem mm_ok_69 : mm_ok 69 := ⟨mw_544, mw_2, by decide +kernel, fun _ => ⟨mw_542, mw_543⟩, fun h => absurd h (by decide), fun h => absurd h (by decide)⟩
theorem mm_ok_70 : mm_ok 70 := ⟨mw_552, mw_2, by decide +kernel, fun _ => ⟨mw_550, mw_551⟩, fun h => absurd h (by decide), fun h => absurd h (by decide)⟩
theorem mm_ok_71 : mm_ok 71 := ⟨mw_560, mw_2, by decide +kernel, fun _ => ⟨mw_558, mw_559⟩, fun h => absurd h (by decide), fun h => absurd h (by decide)⟩
theorem mm_ok_72 : mm_ok 72 := ⟨mw_568, mw_2, by decide +kernel, fun _ => ⟨mw_566, mw_567⟩, fun h => absurd h (by decide), fun h => absurd h (by decide)⟩
theorem mm_ok_73 : mm_ok 73 := ⟨mw_613, mw_2, by decide +kernel, fun _ => ⟨mw_611, mw_612⟩, fun h => absurd h (by decide), fun h => absurd h (by decide)⟩
theorem mm_ok_74 : mm_ok 74 := ⟨mw_625, mw_2, by decide +kernel, fun _ => ⟨mw_623, mw_624⟩, fun h => absurd h (by decide), fun h => absurd h (by decide)⟩
theorem mm_ok_75 : mm_ok 75 := ⟨mw_634, mw_2, by decide +kernel, fun _ => ⟨mw_632, mw_633⟩, fun h => absurd h (by decide), fun h => absurd h (by decide)⟩
theorem mm_ok_76 : mm_ok 76 := ⟨mw_642, mw_2, by decide +kernel, fun _ => ⟨mw_640, mw_641⟩, fun h => absurd h (by decide), fun h => absurd h (by decide)⟩
theorem mm_ok_77 : mm_ok 77 := ⟨mw_661, mw_2, by decide +kernel, fun _ => ⟨mw_659, mw_660⟩, fun h => absurd h (by decide), fun h => absurd h (by decide)⟩
theorem mm_ok_78 : mm_ok 78 := ⟨mw_674, mw_2, by decide +kernel, fun _ => ⟨mw_672, mw_673⟩, fun h => absurd h (by decide), fun h => absurd h (by decide)⟩
theorem mm_ok_79 : mm_ok 79 := ⟨mw_682, mw_2, by decide +kernel, fun _ => ⟨mw_680, mw_681⟩, fun h => absurd h (by decide), fun h => absurd h (by decide)⟩
theorem mm_ok_80 : mm_ok 80 := ⟨mw_721, mw_2, by decide +kernel, fun _ => ⟨mw_719, mw_720⟩, fun h => absurd h (by decide), fun h => absurd h (by decide)⟩
theorem mm_ok_81 : mm_ok 81 := ⟨mw_736, mw_2, by decide +kernel, fun _ => ⟨mw_734, mw_735⟩, fun h => absurd h (by decide), fun h => absurd h (by decide)⟩
theorem mm_ok_82 : mm_ok 82 := ⟨mw_748, mw_2, by decide +kernel, fun _ => ⟨mw_746, mw_747⟩, fun h => absurd h (by decide), fun h => absurd h (by decide)⟩
theorem mm_ok_83 : mm_ok 83 := ⟨mw_758, mw_2, by decide +kernel, fun _ => ⟨mw_756, mw_757⟩, fun h => absurd h (by decide), fun h => absurd h (by decide)⟩
theorem mm_ok_84 : mm_ok 84 := ⟨mw_766, mw_2, by decide +kernel, fun _ => ⟨mw_764, mw_765⟩, fun h => absurd h (by decide), fun h => absurd h (by decide)⟩
theorem mm_ok_85 : mm_ok 85 := ⟨mw_102, mw_2, by decide +kernel, fun h => absurd h (by decide), fun _ => mw_101, fun h => absurd h (by decide)⟩
theorem mm_ok_86 : mm_ok 86 := ⟨mw_507, mw_2, by decide +kernel, fun _ => ⟨mw_505, mw_506⟩, fun h => absurd h (by decide), fun h => absurd h (by decide)⟩
theorem mm_ok_87 : mm_ok 87 := ⟨mw_617, mw_2, by decide +kernel, fun _ => ⟨mw_615, mw_616⟩, fun h => absurd h (by decide), fun h => absurd h (by decide)⟩
theorem mm_ok_88 : mm_ok 88 := ⟨mw_646, mw_2, by decide +kernel, fun _ => ⟨mw_644, mw_645⟩, fun h => absurd h (by decide), fun h => absurd h (by decide)⟩
theorem mm_ok_89 : mm_ok 89 := ⟨mw_650, mw_2, by decide +kernel, fun _ => ⟨mw_648, mw_649⟩, fun h => absurd h (by decide), fun h => absurd h (by decide)⟩
theorem mm_ok_90 : mm_ok 90 := ⟨mw_653, mw_2, by decide +kernel, fun h => absurd h (by decide), fun _ => mw_652, fun h => absurd h (by decide)⟩
theorem mm_ok_91 : mm_ok 91 := ⟨mw_697, mw_2, by decide +kernel, fun _ => ⟨mw_695, mw_696⟩, fun h => absurd h (by decide), fun h => absurd h (by decide)⟩
theorem mm_ok_92 : mm_ok 92 := ⟨mw_81, mw_5, by decide +kernel, fun h => absurd h (by decide), fun h => absurd h (by decide), fun _ => ⟨rfl, mw_80, rfl⟩⟩
theorem mm_ok_93 : mm_ok 93 := ⟨mw_119, mw_5, by decide +kernel, fun h => absurd h (by decide), fun _ => mw_118, fun h => absurd h (by decide)⟩
theorem mm_ok_94 : mm_ok 94 := ⟨mw_416, mw_5, by decide +kernel, fun h => absurd h (by decide), fun _ => mw_415, fun h => absurd h (by decide)⟩
theorem mm_ok_95 : mm_ok 95 := ⟨mw_609, mw_5, by decide +kernel, fun h => absurd h (by decide), fun _ => mw_608, fun h => absurd h (by decide)⟩
theorem mm_ok_96 : mm_ok 96 := ⟨mw_327, mw_5, by decide +kernel, fun h => absurd h (by decide), fun _ => mw_326, fun h => absurd h (by decide)⟩
theorem mm_ok_97 : mm_ok 97 := ⟨mw_144, mw_5, by decide +kernel, fun _ => ⟨mw_142, mw_143⟩, fun h => absurd h (by decide), fun h => absurd h (by decide)⟩
theorem mm_ok_98 : mm_ok 98 := ⟨mw_204, mw_5, by decide +kernel, fun _ => ⟨mw_202, mw_203⟩, fun h => absurd h (by decide), fun h => absurd h (by decide)⟩
theorem mm_ok_99 : mm_ok 99 := ⟨mw_122, mw_5, by decide +kernel, fun h => absurd h (by decide), fun _ => mw_121, fun h => absurd h (by decide)⟩
theorem mm_ok_100 : mm_ok 100 := ⟨mw_147, mw_5, by decide +kernel, fun h => absurd h (by decide), fun _ => mw_146, fun h => absurd h (by decide)⟩
theorem mm_ok_101 : mm_ok 101 := ⟨mw_116, mw_5, by decide +kernel, fun _ => ⟨mw_114, mw_115⟩, fun h => absurd h (by decide), fun h => absurd h (by decide)⟩
theorem mm_ok_102 : mm_ok 102 := ⟨mw_140, mw_5, by decide +kernel, fun _ => ⟨mw_138, mw_139⟩, fun h => absurd h (by decide), fun h => absurd h (by decide)⟩
theorem mm_ok_103 : mm_ok 103 := ⟨mw_156, mw_5, by decide +kernel, fun _ => ⟨mw_154, mw_155⟩, fun h => absurd h (by decide), fun h => absurd h (by decide)⟩
theorem mm_ok_104 : mm_ok 104 := ⟨mw_181, mw_5, by decide +kernel, fun h => absurd h (by decide), fun _ => mw_180, fun h => absurd h (by decide)⟩
theorem mm_ok_105 : mm_ok 105 := ⟨mw_178, mw_5, by decide +kernel, fun h => absurd h (by decide), fun _ => mw_177, fun h => absurd h (by decide)⟩
theorem mm_ok_106 : mm_ok 106 := ⟨mw_175, mw_5, by decide +kernel, fun _ => ⟨mw_173, mw_174⟩, fun h => absurd h (by decide), fun h => absurd h (by decide)⟩
theorem mm_ok_107 : mm_ok 107 := ⟨mw_207, mw_5, by decide +kernel, fun h => absurd h (by decide), fun _ => mw_206, fun h => absurd h (by decide)⟩
theorem mm_ok_108 : mm_ok 108 := ⟨mw_200, mw_5, by decide +kernel, fun _ => ⟨mw_198, mw_199⟩, fun h => absurd h (by decide), fun h => absurd h (by decide)⟩
theorem mm_ok_109 : mm_ok 109 := ⟨mw_221, mw_5, by decide +kernel, fun _ => ⟨mw_219, mw_220⟩, fun h => absurd h (by decide), fun h => absurd h (by decide)⟩
theorem mm_ok_110 : mm_ok 110 := ⟨mw_309, mw_5, by decide +kernel, fun _ => ⟨mw_307, mw_308⟩, fun h => absurd h (by decide), fun h => absurd h (by decide)⟩
theorem mm_ok_111 : mm_ok 111 := ⟨mw_313, mw_5, by decide +kernel, fun _ => ⟨mw_311, mw_312⟩, fun h => absurd h (by decide), fun h => absurd h (by decide)⟩
theorem mm_ok_112 : mm_ok 112 := ⟨mw_305, mw_5, by decide +kernel, fun _ => ⟨mw_303, mw_304⟩, fun h => absurd h (by decide), fun h => absurd h (by decide)⟩
theorem mm_ok_113 : mm_ok 113 := ⟨mw_301, mw_5, by decide +kernel, fun _ => ⟨mw_299, mw_300⟩, fun h => absurd h (by decide), fun h => absurd h (by decide)⟩
theorem mm_ok_114 : mm_ok 114 := ⟨mw_324, mw_5, by decide +kernel, fun h => absurd h (by decide), fun _ => mw_323, fun h => absurd h (by decide)⟩
theorem mm_ok_115 : mm_ok 115 := ⟨mw_317, mw_5, by decide +kernel, fun _ => ⟨mw_315, mw_316⟩, fun h => absurd h (by decide), fun h => absurd h (by decide)⟩
theorem mm_ok_116 : mm_ok 116 := ⟨mw_321, mw_5, by decide +kernel, fun _ => ⟨mw_319, mw_320⟩, fun h => absurd h (by decide), fun h => absurd h (by decide)⟩
theorem mm_ok_117 : mm_ok 117 := ⟨mw_296, mw_5, by decide +kernel, fun _ => ⟨mw_294, mw_295⟩, fun h => absurd h (by decide), fun h => absurd h (by decide)⟩
theorem mm_ok_118 : mm_ok 118 := ⟨mw_291, mw_5, by decide +kernel, fun _ => ⟨mw_289, mw_290⟩, fun h => absurd h (by decide), fun h => absurd h (by decide)⟩
theorem mm_ok_119 : mm_ok 119 := ⟨mw_354, mw_5, by decide +kernel, fun h => absurd h (by decide), fun _ => mw_353, fun h => absurd h (by decide)⟩
theorem mm_ok_120 : mm_ok 120 := ⟨mw_357, mw_5, by decide +kernel, fun h => absurd h (by decide), fun _ => mw_356, fun h => absurd h (by decide)⟩
theorem mm_ok_121 : mm_ok 121 := ⟨mw_360, mw_5, by decide +kernel, fun h => absurd h (by decide), fun _ => mw_359, fun h => absurd h (by decide)⟩
theorem mm_ok_122 : mm_ok 122 := ⟨mw_351, mw_5, by decide +kernel, fun _ => ⟨mw_349, mw_350⟩, fun h => absurd h (by decide), fun h => absurd h (by decide)⟩
theorem mm_ok_123 : mm_ok 123 := ⟨mw_409, mw_5, by decide +kernel, fun _ => ⟨mw_407, mw_408⟩, fun h => absurd h (by decide), fun h => absurd h (by decide)⟩
theorem mm_ok_124 : mm_ok 124 := ⟨mw_426, mw_5, by decide +kernel, fun h => absurd h (by decide), fun _ => mw_425, fun h => absurd h (by decide)⟩
theorem mm_ok_125 : mm_ok 125 := ⟨mw_423, mw_5, by decide +kernel, fun h => absurd h (by decide), fun _ => mw_422, fun h => absurd h (by decide)⟩
theorem mm_ok_126 : mm_ok 126 := ⟨mw_420, mw_5, by decide +kernel, fun _ => ⟨mw_418, mw_419⟩, fun h => absurd h (by decide), fun h => absurd h (by decide)⟩
theorem mm_ok_127 : mm_ok 127 := ⟨mw_413, mw_5, by decide +kernel, fun _ => ⟨mw_411, mw_412⟩, fun h => absurd h (by decide), fun h => absurd h (by decide)⟩
theorem mm_ok_128 : mm_ok 128 := ⟨mw_405, mw_5, by decide +kernel, fun _ => ⟨mw_403, mw_404⟩, fun h => absurd h (by decide), fun h => absurd h (by decide)⟩
theorem mm_ok_129 : mm_ok 129 := ⟨mw_434, mw_5, by decide +kernel, fun _ => ⟨mw_432, mw_433⟩, fun h => absurd h (by decide), fun h => absurd h (by decide)⟩
theorem mm_ok_130 : mm_ok 130 := ⟨mw_443, mw_5, by decide +kernel, fun _ => ⟨mw_441, mw_442⟩, fun h => absurd h (by decide), fun h => absurd h (by decide)⟩
theorem mm_ok_131 : mm_ok 131 := ⟨mw_451, mw_5, by decide +kernel, fun _ => ⟨mw_449, mw_450⟩, fun h => absurd h (by decide), fun h => absurd h (by decide)⟩
theorem mm_ok_132 : mm_ok 132 := ⟨mw_459, mw_5, by decide +kernel, fun _ => ⟨mw_457, mw_458⟩, fun h => absurd h (by decide), fun h => absurd h (by decide)⟩
theorem mm_ok_133 : mm_ok 133 := ⟨mw_475, mw_5, by decide +kernel, fun _ => ⟨mw_473, mw_474⟩, fun h => absurd h (by decide), fun h => absurd h (by decide)⟩
theorem mm_ok_134 : mm_ok 134 := ⟨mw_491, mw_5, by decide +kernel, fun _ => ⟨mw_489, mw_490⟩, fun h => absurd h (by decide), fun h => absurd h (by decide)⟩
theorem mm_ok_135 : mm_ok 135 := ⟨mw_499, mw_5, by decide +kernel, fun _ => ⟨mw_497, mw_498⟩, fun h => absurd h (by decide), fun h => absurd h (by decide)⟩
theorem mm_ok_136 : mm_ok 136 := ⟨mw_520, mw_5, by decide +kernel, fun _ => ⟨mw_518, mw_519⟩, fun h => absurd h (by decide), fun h => absurd h (by decide)⟩
theorem mm_ok_137 : mm_ok 137 := ⟨mw_524, mw_5, by decide +kernel, fun _ => ⟨mw_522, mw_523⟩, fun h => absurd h (by decide), fun h => absurd h (by decide)⟩
theorem mm_ok_138 : mm_ok 138 := ⟨mw_516, mw_5, by decide +kernel, fun _ => ⟨mw_514, mw_515⟩, fun h => absurd h (by decide), fun h => absurd h (by decide)⟩
theorem mm_ok_139 : mm_ok 139 := ⟨mw_532, mw_5, by decide +kernel, fun _ => ⟨mw_530, mw_531⟩, fun h => absurd h (by decide), fun h => absurd h (by decide)⟩
theorem mm_ok_140 : mm_ok 140 := ⟨mw_540, mw_5, by decide +kernel, fun _ => ⟨mw_538, mw_539⟩, fun h => absurd h (by decide), fun h => absurd h (by decide)⟩
theorem mm_ok_141 : mm_ok 141 := ⟨mw_548, mw_5, by decide +kernel, fun _ => ⟨mw_546, mw_547⟩, fun h => absurd h (by decide), fun h => absurd h (by decide)⟩
theorem mm_ok_142 : mm_ok 142 := ⟨mw_556, mw_5, by decide +kernel, fun _ => ⟨mw_554, mw_555⟩, fun h => absurd h (by decide), fun h => absurd h (by decide)⟩
theorem mm_ok_143 : mm_ok 143 := ⟨mw_564, mw_5, by decide +kernel, fun _ => ⟨mw_562, mw_563⟩, fun h => absurd h (by decide), fun h => absurd h (by decide)⟩
theorem mm_ok_144 : mm_ok 144 := ⟨mw_606, mw_5, by decide +kernel, fun _ => ⟨mw_604, mw_605⟩, fun h => absurd h (by decide), fun h => absurd h (by decide)⟩
theorem mm_ok_145 : mm_ok 145 := ⟨mw_602, mw_5, by decide +kernel, fun _ => ⟨mw_600, mw_601⟩, fun h => absurd h (by decide), fun h => absurd h (by decide)⟩
theorem mm_ok_146 : mm_ok 146 := ⟨mw_621, mw_5, by decide +kernel, fun _ => ⟨mw_619, mw_620⟩, fun h => absurd h (by decide), fun h => absurd h (by decide)⟩
theorem mm_ok_147 : mm_ok 147 := ⟨mw_630, mw_5, by decide +kernel, fun _ => ⟨mw_628, mw_629⟩, fun h => absurd h (by decide), fun h => absurd h (by decide)⟩
theorem mm_ok_148 : mm_ok 148 := ⟨mw_638, mw_5, by decide +kernel, fun _ => ⟨mw_636, mw_637⟩, fun h => absurd h (by decide), fun h => absurd h (by decide)⟩
theorem mm_ok_149 : mm_ok 149 := ⟨mw_657, mw_5, by decide +kernel, fun _ => ⟨mw_655, mw_656⟩, fun h => absurd h (by decide), fun h => absurd h (by decide)⟩
theorem mm_ok_150 : mm_ok 150 := ⟨mw_669, mw_5, by decide +kernel, fun _ => ⟨mw_667, mw_668⟩, fun h => absurd h (by decide), fun h => absurd h (by decide)⟩
theorem mm_ok_151 : mm_ok 151 := ⟨mw_678, mw_5, by decide +kernel, fun _ => ⟨mw_676, mw_677⟩, fun h => absurd h (by decide), fun h => absurd h (by decide)⟩
theorem mm_ok_152 : mm_ok 152 := ⟨mw_706, mw_5, by decide +kernel, fun h => absurd h (by decide), fun _ => mw_705, fun h => absurd h (by decide)⟩
theorem mm_ok_153 : mm_ok 153 := ⟨mw_713, mw_5, by decide +kernel, fun h => absurd h (by decide), fun _ => mw_712, fun h => absurd h (by decide)⟩
theorem mm_ok_154 : mm_ok 154 := ⟨mw_710, mw_5, by decide +kernel, fun _ => ⟨mw_708, mw_709⟩, fun h => absurd h (by decide), fun h => absurd h (by decide)⟩
theorem mm_ok_155 : mm_ok 155 := ⟨mw_717, mw_5, by decide +kernel, fun _ => ⟨mw_715, mw_716⟩, fun h => absurd h (by decide), fun h => absurd h (by decide)⟩
theorem mm_ok_156 : mm_ok 156 := ⟨mw_703, mw_5, by decide +kernel, fun _ => ⟨mw_701, mw_702⟩, fun h => absurd h (by decide), fun h => absurd h (by decide)⟩
theorem mm_ok_157 : mm_ok 157 := ⟨mw_732, mw_5, by decide +kernel, fun h => absurd h (by decide), fun _ => mw_731, fun h => absurd h (by decide)⟩
theorem mm_ok_158 : mm_ok 158 := ⟨mw_729, mw_5, by decide +kernel, fun _ => ⟨mw_727, mw_728⟩, fun h => absurd h (by decide), fun h => absurd h (by decide)⟩
theorem mm_ok_159 : mm_ok 159 := ⟨mw_744, mw_5, by decide +kernel, fun _ => ⟨mw_742, mw_743⟩, fun h => absurd h (by decide), fun h => absurd h (by decide)⟩
theorem mm_ok_160 : mm_ok 160 := ⟨mw_754, mw_5, by decide +kernel, fun _ => ⟨mw_752, mw_753⟩, fun h => absurd h (by decide), fun h => absurd h (by decide)⟩
theorem mm_ok_161 : mm_ok 161 := ⟨mw_762, mw_5, by decide +kernel, fun _ => ⟨mw_760, mw_761⟩, fun h => absurd h (by decide), fun h => absurd h (by decide)⟩
theorem mm_ok_162 : mm_ok 162 := ⟨mw_776, mw_5, by decide +kernel, fun _ => ⟨mw_774, mw_775⟩, fun h => absurd h (by decide), fun h => absurd h (by decide)⟩
theorem mm_ok_163 : mm_ok 163 := ⟨mw_590, mw_589, by decide +kernel, fun h => absurd h (by decide), fun _ => mw_588, fun h => absurd h (by decide)⟩
theorem mm_ok_all : ∀ j, j < 164 → mm_ok j := fun j h => match j, h with
  | 0, _ => mm_ok_0
  | 1, _ => mm_ok_1
  | 2, _ => mm_ok_2
  | 3, _ => mm_ok_3
  | 4, _ => mm_ok_4
  | 5, _ => mm_ok_5
  | 6, _ => mm_ok_6
  | 7, _ => mm_ok_7
  | 8, _ => mm_ok_8
  | 9, _ => mm_ok_9
  | 10, _ => mm_ok_10
  | 11, _ => mm_ok_11
  | 12, _ => mm_ok_12
  | 13, _ => mm_ok_13
  | 14, _ => mm_ok_14
  | 15, _ => mm_ok_15
  | 16, _ => mm_ok_16
  | 17, _ => mm_ok_17
  | 18, _ => mm_ok_18
  | 19, _ => mm_ok_19
  | 20, _ => mm_ok_20
  | 21, _ => mm_ok_21
  | 22, _ => mm_ok_22
  | 23, _ => mm_ok_23
  | 24, _ => mm_ok_24
  | 25, _ => mm_ok_25
  | 26, _ => mm_ok_26
  | 27, _ => mm_ok_27
  | 28, _ => mm_ok_28
  | 29, _ => mm_ok_29
  | 30, _ => mm_ok_30
  | 31, _ => mm_ok_31
  | 32, _ => mm_ok_32
  | 33, _ => mm_ok_33
  | 34, _ => mm_ok_34
  | 35, _ => mm_ok_35
  | 36, _ => mm_ok_36
  | 37, _ => mm_ok_37
  | 38, _ => mm_ok_38
  | 39, _ => mm_ok_39
  | 40, _ => mm_ok_40
  | 41, _ => mm_ok_41
  | 42, _ => mm_ok_42
  | 43, _ => mm_ok_43
  | 44, _ => mm_ok_44
  | 45, _ => mm_ok_45
  | 46, _ => mm_ok_46
  | 47, _ => mm_ok_47
  | 48, _ => mm_ok_48
  | 49, _ => mm_ok_49
  | 50, _ => mm_ok_50
  | 51, _ => mm_ok_51
  | 52, _ => mm_ok_52
  | 53, _ => mm_ok_53
  | 54, _ => mm_ok_54
  | 55, _ => mm_ok_55
  | 56, _ => mm_ok_56
  | 57, _ => mm_ok_57
  | 58, _ => mm_ok_58
  | 59, _ => mm_ok_59
  | 60, _ => mm_ok_60
  | 61, _ => mm_ok_61
  | 62, _ => mm_ok_62
  | 63, _ => mm_ok_63
  | 64, _ => mm_ok_64
  | 65, _ => mm_ok_65
  | 66, _ => mm_ok_66
  | 67, _ => mm_ok_67
  | 68, _ => mm_ok_68
  | 69, _ => mm_ok_69
  | 70, _ => mm_ok_70
  | 71, _ => mm_ok_71
  | 72, _ => mm_ok_72
  | 73, _ => mm_ok_73
  | 74, _ => mm_ok_74
  | 75, _ => mm_ok_75
  | 76, _ => mm_ok_76
  | 77, _ => mm_ok_77
  | 78, _ => mm_ok_78
  | 79, _ => mm_ok_79
  | 80, _ => mm_ok_80
  | 81, _ => mm_ok_81
  | 82, _ => mm_ok_82
  | 83, _ => mm_ok_83
  | 84, _ => mm_ok_84
  | 85, _ => mm_ok_85
  | 86, _ => mm_ok_86
  | 87, _ => mm_ok_87
  | 88, _ => mm_ok_88
  | 89, _ => mm_ok_89
  | 90, _ => mm_ok_90
  | 91, _ => mm_ok_91
  | 92, _ => mm_ok_92
  | 93, _ => mm_ok_93
  | 94, _ => mm_ok_94
  | 95, _ => mm_ok_95
  | 96, _ => mm_ok_96
  | 97, _ => mm_ok_97
  | 98, _ => mm_ok_98
  | 99, _ => mm_ok_99
  | 100, _ => mm_ok_100
  | 101, _ => mm_ok_101
  | 102, _ => mm_ok_102
  | 103, _ => mm_ok_103
  | 104, _ => mm_ok_104
  | 105, _ => mm_ok_105
  | 106, _ => mm_ok_106
  | 107, _ => mm_ok_107
  | 108, _ => mm_ok_108
  | 109, _ => mm_ok_109
  | 110, _ => mm_ok_110
  | 111, _ => mm_ok_111
  | 112, _ => mm_ok_112
  | 113, _ => mm_ok_113
  | 114, _ => mm_ok_114
  | 115, _ => mm_ok_115
  | 116, _ => mm_ok_116
  | 117, _ => mm_ok_117
  | 118, _ => mm_ok_118
  | 119, _ => mm_ok_119
  | 120, _ => mm_ok_120
  | 121, _ => mm_ok_121
  | 122, _ => mm_ok_122
  | 123, _ => mm_ok_123
  | 124, _ => mm_ok_124
  | 125, _ => mm_ok_125
  | 126, _ => mm_ok_126
  | 127, _ => mm_ok_127
  | 128, _ => mm_ok_128
  | 129, _ => mm_ok_129
  | 130, _ => mm_ok_130
  | 131, _ => mm_ok_131
  | 132, _ => mm_ok_132
  | 133, _ => mm_ok_133
  | 134, _ => mm_ok_134
  | 135, _ => mm_ok_135
  | 136, _ => mm_ok_136
  | 137, _ => mm_ok_137
  | 138, _ => mm_ok_138
  | 139, _ => mm_ok_139
  | 140, _ => mm_ok_140
  | 141, _ => mm_ok_141
  | 142, _ => mm_ok_142
  | 143, _ => mm_ok_143
  | 144, _ => mm_ok_144
  | 145, _ => mm_ok_145
  | 146, _ => mm_ok_146
  | 147, _ => mm_ok_147
  | 148, _ => mm_ok_148
  | 149, _ => mm_ok_149
  | 150, _ => mm_ok_150
  | 151, _ => mm_ok_151
  | 152, _ => mm_ok_152
  | 153, _ => mm_ok_153
  | 154, _ => mm_ok_154
  | 155, _ => mm_ok_155
  | 156, _ => mm_ok_156
  | 157, _ => mm_ok_157
  | 158, _ => mm_ok_158
  | 159, _ => mm_ok_159
  | 160, _ => mm_ok_160
  | 161, _ => mm_ok_161
  | 162, _ => mm_ok_162
  | 163, _ => mm_ok_163
  | k + 164, h => absurd h (by omega)
theorem mm_u0 : ∀ w ∈ u_ws RX0 TX0 14, w ∈ mm_U := fun w h => by
  have h1 : w ∈ [92, 94, 96, 98, 100, 102, 104, 106, 108, 110, 112, 114, 116, 118].filterMap (fun i => lw_tbl[i]?) := by
    have e : u_ws RX0 TX0 14 = [92, 94, 96, 98, 100, 102, 104, 106, 108, 110, 112, 114, 116, 118].filterMap (fun i => lw_tbl[i]?) := by decide +kernel
    rw [← e]; exact h
  obtain ⟨i, -, hi⟩ := List.mem_filterMap.mp h1
  exact mm_in i hi (List.all_eq_true.mp (show (u_ws RX0 TX0 14).all goodWord = true by decide +kernel) w h)
theorem mm_u1 : ∀ w ∈ u_ws RX1 TX1 4, w ∈ mm_U := fun w h => by
  have h1 : w ∈ [152, 154, 156, 158].filterMap (fun i => lw_tbl[i]?) := by
    have e : u_ws RX1 TX1 4 = [152, 154, 156, 158].filterMap (fun i => lw_tbl[i]?) := by decide +kernel
    rw [← e]; exact h
  obtain ⟨i, -, hi⟩ := List.mem_filterMap.mp h1
  exact mm_in i hi (List.all_eq_true.mp (show (u_ws RX1 TX1 4).all goodWord = true by decide +kernel) w h)
theorem mm_u2 : ∀ w ∈ u_ws RX2 TX2 2, w ∈ mm_U := fun w h => by
  have h1 : w ∈ [134, 136].filterMap (fun i => lw_tbl[i]?) := by
    have e : u_ws RX2 TX2 2 = [134, 136].filterMap (fun i => lw_tbl[i]?) := by decide +kernel
    rw [← e]; exact h
  obtain ⟨i, -, hi⟩ := List.mem_filterMap.mp h1
  exact mm_in i hi (List.all_eq_true.mp (show (u_ws RX2 TX2 2).all goodWord = true by decide +kernel) w h)
theorem mm_u3 : ∀ w ∈ u_ws RX3 TX3 4, w ∈ mm_U := fun w h => by
  have h1 : w ∈ [203, 205, 207, 209].filterMap (fun i => lw_tbl[i]?) := by
    have e : u_ws RX3 TX3 4 = [203, 205, 207, 209].filterMap (fun i => lw_tbl[i]?) := by decide +kernel
    rw [← e]; exact h
  obtain ⟨i, -, hi⟩ := List.mem_filterMap.mp h1
  exact mm_in i hi (List.all_eq_true.mp (show (u_ws RX3 TX3 4).all goodWord = true by decide +kernel) w h)
theorem mm_u4 : ∀ w ∈ u_ws RX4 TX4 5, w ∈ mm_U := fun w h => by
  have h1 : w ∈ [177, 179, 181, 183, 185].filterMap (fun i => lw_tbl[i]?) := by
    have e : u_ws RX4 TX4 5 = [177, 179, 181, 183, 185].filterMap (fun i => lw_tbl[i]?) := by decide +kernel
    rw [← e]; exact h
  obtain ⟨i, -, hi⟩ := List.mem_filterMap.mp h1
  exact mm_in i hi (List.all_eq_true.mp (show (u_ws RX4 TX4 5).all goodWord = true by decide +kernel) w h)
theorem mm_u5 : ∀ w ∈ u_ws RX5 TX5 9, w ∈ mm_U := fun w h => by
  have h1 : w ∈ [222, 224, 226, 228, 230, 232, 234, 236, 238].filterMap (fun i => lw_tbl[i]?) := by
    have e : u_ws RX5 TX5 9 = [222, 224, 226, 228, 230, 232, 234, 236, 238].filterMap (fun i => lw_tbl[i]?) := by decide +kernel
    rw [← e]; exact h
  obtain ⟨i, -, hi⟩ := List.mem_filterMap.mp h1
  exact mm_in i hi (List.all_eq_true.mp (show (u_ws RX5 TX5 9).all goodWord = true by decide +kernel) w h)
theorem mm_u6 : ∀ w ∈ u_ws RX6 TX6 16, w ∈ mm_U := fun w h => by
  have h1 : w ∈ [632, 634, 636, 638, 640, 642, 644, 646, 648, 650, 652, 654, 656, 658, 660, 662].filterMap (fun i => lw_tbl[i]?) := by
    have e : u_ws RX6 TX6 16 = [632, 634, 636, 638, 640, 642, 644, 646, 648, 650, 652, 654, 656, 658, 660, 662].filterMap (fun i => lw_tbl[i]?) := by decide +kernel
    rw [← e]; exact h
  obtain ⟨i, -, hi⟩ := List.mem_filterMap.mp h1
  exact mm_in i hi (List.all_eq_true.mp (show (u_ws RX6 TX6 16).all goodWord = true by decide +kernel) w h)
end
section
/-! THE SMALL MACHINE: what the methods do, as a function. Ints of fields and of int rows lie in I (cell, place); longs, references and the cells' shapes in r. -/
abbrev mm_I : Type := Nat → Nat → Int32
abbrev mm_L : Type := List (Option Value)
abbrev mm_R : Type := (Nat → Nat → Int64) × (Nat → Nat → Option Nat) × (Nat → Nat × Nat) × Nat × Nat
def mm_G (r : mm_R) : Nat → Nat → Int64 := r.1
def mm_P (r : mm_R) : Nat → Nat → Option Nat := r.2.1
/-- (1, ci): an object; (2, n): ints; (3, n): longs; (4, n): LANES; (5, n): SHEETS; (0, _): no cell -/
def mm_S (r : mm_R) : Nat → Nat × Nat := r.2.2.1
def mm_t (r : mm_R) : Nat := r.2.2.2.1
def mm_n (r : mm_R) : Nat := r.2.2.2.2
def mm_uI (I : mm_I) (a k : Nat) (x : Int32) : mm_I := fun b => if b = a then upd (I a) k x else I b
def mm_uG (r : mm_R) (a k : Nat) (x : Int64) : mm_R := (fun b => if b = a then vp_updL (r.1 a) k x else r.1 b, r.2)
def mm_uP (r : mm_R) (a k : Nat) (x : Option Nat) : mm_R := (r.1, fun b => if b = a then va_up (r.2.1 a) k x else r.2.1 b, r.2.2)
def mm_cG (r : mm_R) (a b sp dp n : Nat) : mm_R := (fun q => if q = a then va_cpy (r.1 b) (r.1 a) sp dp n else r.1 q, r.2)
def mm_nI (I : mm_I) (r : mm_R) : mm_I := fun q => if q = mm_t r then (fun _ => 0) else I q
def mm_nR (r : mm_R) (sh : Nat × Nat) (w : Nat) : mm_R := (fun q => if q = mm_t r then (fun _ => 0) else r.1 q, fun q => if q = mm_t r then (fun _ => none) else r.2.1 q, fun q => if q = mm_t r then sh else r.2.2.1 q, mm_t r + 1, mm_n r + w)
def mm_ik (ci k : Nat) : Bool := match mm_tyn ci k with
  | .int => true
  | .boolean => true
  | _ => false
def mm_bo (ci k : Nat) : Bool := match mm_tyn ci k with
  | .boolean => true
  | _ => false
abbrev mm_C : Type := Nat × mm_L × List Value × mm_I × mm_R
abbrev mm_O : Type := mm_C ⊕ (Option Value ⊕ (Nat × List Value × Nat × List Value))
def mm_nx (pc : Nat) (ls : mm_L) (st : List Value) (I : mm_I) (r : mm_R) : Option mm_O := some (.inl (pc, ls, st, I, r))
def mm_ld (ls : mm_L) (i : Nat) : Option Value := (ls[i]?).join
def mm_li (v : Option Value) (f : Int32 → Option mm_O) : Option mm_O := match v with
  | some (.int x) => f x
  | _ => none
def mm_ll (v : Option Value) (f : Int64 → Option mm_O) : Option mm_O := match v with
  | some (.long x) => f x
  | _ => none
def mm_la (v : Option Value) (f : Nat → Option mm_O) : Option mm_O := match v with
  | some (.ref x) => f x
  | _ => none
/-- storing a value of one slot: the slot before must hold no long -/
def mm_s1 (ls : mm_L) (i : Nat) (v : Value) (f : mm_L → Option mm_O) : Option mm_O :=
  if i < ls.length ∧ (i = 0 ∨ ((mm_ld ls (i - 1)).map Value.category).getD 1 = 1) then f (ls.set i (some v)) else none
def mm_i1 (st : List Value) (f : Int32 → List Value → Option mm_O) : Option mm_O := match st with
  | .int x :: s => f x s
  | _ => none
def mm_i2 (st : List Value) (f : Int32 → Int32 → List Value → Option mm_O) : Option mm_O := match st with
  | .int y :: .int x :: s => f x y s
  | _ => none
def mm_l1 (st : List Value) (f : Int64 → List Value → Option mm_O) : Option mm_O := match st with
  | .long x :: s => f x s
  | _ => none
def mm_l2 (st : List Value) (f : Int64 → Int64 → List Value → Option mm_O) : Option mm_O := match st with
  | .long y :: .long x :: s => f x y s
  | _ => none
def mm_a1 (st : List Value) (f : Nat → List Value → Option mm_O) : Option mm_O := match st with
  | .ref a :: s => f a s
  | _ => none
def mm_ia (st : List Value) (f : Nat → Int32 → List Value → Option mm_O) : Option mm_O := match st with
  | .int i :: .ref a :: s => f a i s
  | _ => none
def mm_iia (st : List Value) (f : Nat → Int32 → Int32 → List Value → Option mm_O) : Option mm_O := match st with
  | .int x :: .int i :: .ref a :: s => f a i x s
  | _ => none
def mm_lia (st : List Value) (f : Nat → Int32 → Int64 → List Value → Option mm_O) : Option mm_O := match st with
  | .long x :: .int i :: .ref a :: s => f a i x s
  | _ => none
def mm_aia (st : List Value) (f : Nat → Int32 → Nat → List Value → Option mm_O) : Option mm_O := match st with
  | .ref x :: .int i :: .ref a :: s => f a i x s
  | _ => none
def mm_v1 (st : List Value) (f : Value → List Value → Option mm_O) : Option mm_O := match st with
  | x :: s => f x s
  | _ => none
def mm_v2 (st : List Value) (f : Value → Value → List Value → Option mm_O) : Option mm_O := match st with
  | y :: x :: s => f x y s
  | _ => none
def mm_pt (st : List Value) (f : Nat → Int32 → List Value → Option mm_O) (g : Nat → Nat → List Value → Option mm_O) : Option mm_O := match st with
  | .int x :: .ref a :: s => f a x s
  | .ref q :: .ref a :: s => g a q s
  | _ => none
def mm_cp (st : List Value) (f : Nat → Int32 → Nat → Int32 → Int32 → List Value → Option mm_O) : Option mm_O := match st with
  | .int n :: .int dp :: .ref a :: .int sp :: .ref b :: s => f b sp a dp n s
  | _ => none
def mm_cmp (c : Jvm.ClassFile.Cond) (x y : Int32) : Bool := match c with
  | .eq => decide (x = y)
  | .ne => decide (¬ x = y)
  | .lt => decide (x < y)
  | .ge => decide (y ≤ x)
  | .gt => decide (y < x)
  | .le => decide (x ≤ y)
def mm_jp (pc : Nat) (off : Int) (ls : mm_L) (st : List Value) (I : mm_I) (r : mm_R) : Option mm_O := if 0 ≤ (pc : Int) + off then mm_nx ((pc : Int) + off).toNat ls st I r else none
def mm_go (b : Bool) (pc : Nat) (off : Int) (ls : mm_L) (st : List Value) (I : mm_I) (r : mm_R) : Option mm_O := if 0 ≤ (pc : Int) + off then (if b = true then mm_nx ((pc : Int) + off).toNat ls st I r else mm_nx (pc + 3) ls st I r) else none
def mm_w8 (s : List Value) : Bool := decide ((s.map fun v => v.category).sum ≤ 8)
def mm_sl (av : List Value) : mm_L := av.flatMap (fun v => if v.category = 2 then [some v, none] else [some v])
def mm_vc (j j2 pc : Nat) (st : List Value) (r : mm_R) : Option mm_O := match st.drop (mm_a j2) with
  | .ref b :: s => if (st.take (mm_a j2)).length = mm_a j2 ∧ mm_k j2 = 0 ∧ mm_h j2 < mm_h j ∧ mm_w8 s = true ∧ mm_S r b = (1, mm_o j2) ∧ mm_x j2 ≤ 15 ∧ (mm_sl (.ref b :: (st.take (mm_a j2)).reverse)).length ≤ mm_x j2 then some (.inr (.inr (j2, .ref b :: (st.take (mm_a j2)).reverse, pc + 3, s))) else none
  | _ => none
def mm_xc (j j2 pc : Nat) (st : List Value) (r : mm_R) : Option mm_O := match st.drop (mm_a j2) with
  | .ref b :: s => if (st.take (mm_a j2)).length = mm_a j2 ∧ mm_k j2 = 2 ∧ mm_h j2 < mm_h j ∧ mm_w8 s = true ∧ mm_x j2 ≤ 15 ∧ (mm_sl (.ref b :: (st.take (mm_a j2)).reverse)).length ≤ mm_x j2 then some (.inr (.inr (j2, .ref b :: (st.take (mm_a j2)).reverse, pc + 3, s))) else none
  | _ => none
def mm_sc (j j2 pc : Nat) (st : List Value) : Option mm_O :=
  if (st.take (mm_a j2)).length = mm_a j2 ∧ mm_k j2 = 1 ∧ mm_h j2 < mm_h j ∧ mm_w8 (st.drop (mm_a j2)) = true ∧ mm_x j2 ≤ 15 ∧ (mm_sl (st.take (mm_a j2)).reverse).length ≤ mm_x j2 then some (.inr (.inr (j2, (st.take (mm_a j2)).reverse, pc + 3, st.drop (mm_a j2)))) else none
def mm_ocp (j pc : Nat) (ls : mm_L) (st : List Value) (I : mm_I) (r : mm_R) : Option mm_O := mm_cp st (fun b sp a dp n s =>
  if (1 ≤ mm_h j ∧ mm_w8 s = true) ∧ (mm_S r b).1 = 3 ∧ (mm_S r a).1 = 3 ∧ ¬ sp < 0 ∧ ¬ dp < 0 ∧ ¬ n < 0 ∧ sp.toNatClampNeg + n.toNatClampNeg ≤ (mm_S r b).2 ∧ dp.toNatClampNeg + n.toNatClampNeg ≤ (mm_S r a).2 then mm_nx (pc + 3) ls s I (mm_cG r a b sp.toNatClampNeg dp.toNatClampNeg n.toNatClampNeg) else none)
def mm_rti (j : Nat) (st : List Value) : Option mm_O := mm_i1 st (fun x s => if s = [] ∧ (mm_r j = some .int ∨ (mm_r j = some .boolean ∧ (x = 0 ∨ x = 1))) then some (.inr (.inl (some (.int x)))) else none)
def mm_rtl (j : Nat) (st : List Value) : Option mm_O := mm_l1 st (fun x s => if s = [] ∧ mm_r j = some .long then some (.inr (.inl (some (.long x)))) else none)
def mm_gf (q : Option (Nat × Nat)) (pc : Nat) (ls : mm_L) (st : List Value) (I : mm_I) (r : mm_R) : Option mm_O := match q with
  | some (ci, k) => mm_a1 st (fun a s => if mm_S r a = (1, ci) then mm_nx (pc + 3) ls ((if mm_ik ci k = true then .int (I a k) else va_rf (mm_P r a k)) :: s) I r else none)
  | none => none
def mm_pf (q : Option (Nat × Nat)) (j pc : Nat) (ls : mm_L) (st : List Value) (I : mm_I) (r : mm_R) : Option mm_O := match q with
  | some (ci, k) => mm_pt st (fun a x s => if mm_S r a = (1, ci) ∧ mm_ik ci k = true ∧ (mm_Tn ci k).2.2.2 = false ∧ (mm_bo ci k = false ∨ x = 0 ∨ x = 1) then mm_nx (pc + 3) ls s (mm_uI I a k x) r else none)
      (fun a v s => if mm_S r a = (1, ci) ∧ mm_ik ci k = false ∧ (mm_Tn ci k).2.2.2 = true ∧ mm_k j = 2 ∧ mm_o j = ci then mm_nx (pc + 3) ls s I (mm_uP r a k (some v)) else none)
  | none => none
def mm_ts (pc : Nat) (dflt lo hi : Int) (offs : Array Int) (x : Int32) (ls : mm_L) (s : List Value) (I : mm_I) (r : mm_R) : Option mm_O :=
  if x.toInt < lo ∨ hi < x.toInt then mm_jp pc dflt ls s I r else match offs[(x.toInt - lo).toNat]? with
  | some off => mm_jp pc off ls s I r
  | none => none
def mm_act (j pc : Nat) (i : Instr) (ls : mm_L) (st : List Value) (I : mm_I) (r : mm_R) : Option mm_O := match i with
  | .iload_n k => mm_li (mm_ld ls k) (fun x => mm_nx (pc + 1) ls (.int x :: st) I r)
  | .iload k => mm_li (mm_ld ls k) (fun x => mm_nx (pc + 2) ls (.int x :: st) I r)
  | .aload_n k => mm_la (mm_ld ls k) (fun x => mm_nx (pc + 1) ls (.ref x :: st) I r)
  | .aload k => mm_la (mm_ld ls k) (fun x => mm_nx (pc + 2) ls (.ref x :: st) I r)
  | .lload_n k => mm_ll (mm_ld ls k) (fun x => mm_nx (pc + 1) ls (.long x :: st) I r)
  | .lload k => mm_ll (mm_ld ls k) (fun x => mm_nx (pc + 2) ls (.long x :: st) I r)
  | .iconst n => mm_nx (pc + 1) ls (.int (Int32.ofInt n) :: st) I r
  | .bipush n => mm_nx (pc + 2) ls (.int (Int8.ofInt n).toInt32 :: st) I r
  | .sipush n => mm_nx (pc + 3) ls (.int (Int16.ofInt n).toInt32 :: st) I r
  | .lconst n => mm_nx (pc + 1) ls (.long (Int64.ofNat n) :: st) I r
  | .ldc k => match mm_ci (mm_o j) k with
    | some x => mm_nx (pc + 2) ls (.int x :: st) I r
    | none => none
  | .ldc_w k => match mm_ci (mm_o j) k with
    | some x => mm_nx (pc + 3) ls (.int x :: st) I r
    | none => none
  | .ldc2_w k => match mm_cl (mm_o j) k with
    | some x => mm_nx (pc + 3) ls (.long x :: st) I r
    | none => none
  | .istore_n k => mm_i1 st (fun x s => mm_s1 ls k (.int x) (fun ls2 => mm_nx (pc + 1) ls2 s I r))
  | .istore k => mm_i1 st (fun x s => mm_s1 ls k (.int x) (fun ls2 => mm_nx (pc + 2) ls2 s I r))
  | .astore_n k => mm_a1 st (fun x s => mm_s1 ls k (.ref x) (fun ls2 => mm_nx (pc + 1) ls2 s I r))
  | .astore k => mm_a1 st (fun x s => mm_s1 ls k (.ref x) (fun ls2 => mm_nx (pc + 2) ls2 s I r))
  | .iinc k n => mm_li (mm_ld ls k) (fun x => mm_s1 ls k (.int (x + Int32.ofInt n)) (fun ls2 => mm_nx (pc + 3) ls2 st I r))
  | .iadd => mm_i2 st (fun x y s => mm_nx (pc + 1) ls (.int (x + y) :: s) I r)
  | .isub => mm_i2 st (fun x y s => mm_nx (pc + 1) ls (.int (x - y) :: s) I r)
  | .imul => mm_i2 st (fun x y s => mm_nx (pc + 1) ls (.int (x * y) :: s) I r)
  | .iand => mm_i2 st (fun x y s => mm_nx (pc + 1) ls (.int (x &&& y) :: s) I r)
  | .ior => mm_i2 st (fun x y s => mm_nx (pc + 1) ls (.int (x ||| y) :: s) I r)
  | .ishl => mm_i2 st (fun x y s => mm_nx (pc + 1) ls (.int (x <<< (y &&& 31)) :: s) I r)
  | .ishr => mm_i2 st (fun x y s => mm_nx (pc + 1) ls (.int (x >>> (y &&& 31)) :: s) I r)
  | .iushr => mm_i2 st (fun x y s => mm_nx (pc + 1) ls (.int (x.toUInt32 >>> (y.toUInt32 &&& Int32.toUInt32 31)).toInt32 :: s) I r)
  | .idiv => mm_i2 st (fun x y s => if y = 0 then none else mm_nx (pc + 1) ls (.int (x / y) :: s) I r)
  | .irem => mm_i2 st (fun x y s => if y = 0 then none else mm_nx (pc + 1) ls (.int (x - x / y * y) :: s) I r)
  | .i2l => mm_i1 st (fun x s => mm_nx (pc + 1) ls (.long x.toInt64 :: s) I r)
  | .i2b => mm_i1 st (fun x s => mm_nx (pc + 1) ls (.int x.toInt8.toInt32 :: s) I r)
  | .i2s => mm_i1 st (fun x s => mm_nx (pc + 1) ls (.int x.toInt16.toInt32 :: s) I r)
  | .l2i => mm_l1 st (fun x s => mm_nx (pc + 1) ls (.int x.toInt32 :: s) I r)
  | .ladd => mm_l2 st (fun x y s => mm_nx (pc + 1) ls (.long (x + y) :: s) I r)
  | .lmul => mm_l2 st (fun x y s => mm_nx (pc + 1) ls (.long (x * y) :: s) I r)
  | .land => mm_l2 st (fun x y s => mm_nx (pc + 1) ls (.long (x &&& y) :: s) I r)
  | .lrem => mm_l2 st (fun x y s => if y = 0 then none else mm_nx (pc + 1) ls (.long (x - x / y * y) :: s) I r)
  | .lcmp => mm_l2 st (fun x y s => mm_nx (pc + 1) ls (.int (lg_cmp x y) :: s) I r)
  | .dup => mm_v1 st (fun x s => if x.category = 1 then mm_nx (pc + 1) ls (x :: x :: s) I r else none)
  | .dup2 => mm_v2 st (fun x y s => if x.category = 1 ∧ y.category = 1 then mm_nx (pc + 1) ls (y :: x :: y :: x :: s) I r else none)
  | .pop => mm_v1 st (fun x s => if x.category = 1 then mm_nx (pc + 1) ls s I r else none)
  | .goto off => mm_jp pc off ls st I r
  | .if_icmp c off => mm_i2 st (fun x y s => mm_go (mm_cmp c x y) pc off ls s I r)
  | .ifCond c off => mm_i1 st (fun x s => mm_go (mm_cmp c x 0) pc off ls s I r)
  | .tableswitch d lo hi offs => mm_i1 st (fun x s => mm_ts pc d lo hi offs x ls s I r)
  | .lookupswitch d ps => mm_i1 st (fun x s => if (ps.toList.zip (ps.toList.drop 1)).all (fun (a, next) => a.1 < next.1) = true then mm_jp pc (Op.lookupswitch.offset ps.toList d x.toInt) ls s I r else none)
  | .getfield k => mm_gf (mm_f (mm_o j) k) pc ls st I r
  | .putfield k => mm_pf (mm_f (mm_o j) k) j pc ls st I r
  | .iaload => mm_ia st (fun a i s => if (mm_S r a).1 = 2 ∧ ¬ (i < 0 ∨ (mm_S r a).2 ≤ i.toNatClampNeg) then mm_nx (pc + 1) ls (.int (I a i.toNatClampNeg) :: s) I r else none)
  | .iastore => mm_iia st (fun a i x s => if (mm_S r a).1 = 2 ∧ ¬ (i < 0 ∨ (mm_S r a).2 ≤ i.toNatClampNeg) then mm_nx (pc + 1) ls s (mm_uI I a i.toNatClampNeg x) r else none)
  | .laload => mm_ia st (fun a i s => if (mm_S r a).1 = 3 ∧ ¬ (i < 0 ∨ (mm_S r a).2 ≤ i.toNatClampNeg) then mm_nx (pc + 1) ls (.long (mm_G r a i.toNatClampNeg) :: s) I r else none)
  | .lastore => mm_lia st (fun a i x s => if (mm_S r a).1 = 3 ∧ ¬ (i < 0 ∨ (mm_S r a).2 ≤ i.toNatClampNeg) then mm_nx (pc + 1) ls s I (mm_uG r a i.toNatClampNeg x) else none)
  | .aaload => mm_ia st (fun a i s => if ((mm_S r a).1 = 4 ∨ (mm_S r a).1 = 5) ∧ ¬ (i < 0 ∨ (mm_S r a).2 ≤ i.toNatClampNeg) then mm_nx (pc + 1) ls (va_rf (mm_P r a i.toNatClampNeg) :: s) I r else none)
  | .aastore => mm_aia st (fun a i x s => if ((mm_S r a).1 = 4 ∧ mm_S r x = (1, 0) ∨ (mm_S r a).1 = 5 ∧ mm_S r x = (1, 3)) ∧ ¬ (i < 0 ∨ (mm_S r a).2 ≤ i.toNatClampNeg) then mm_nx (pc + 1) ls s I (mm_uP r a i.toNatClampNeg (some x)) else none)
  | .newarray .int => mm_i1 st (fun x s => if ¬ x < 0 ∧ x.toNatClampNeg ≤ 1000 then mm_nx (pc + 2) ls (.ref (mm_t r) :: s) (mm_nI I r) (mm_nR r (2, x.toNatClampNeg) x.toNatClampNeg) else none)
  | .newarray .long => mm_i1 st (fun x s => if ¬ x < 0 ∧ x.toNatClampNeg ≤ 1000 then mm_nx (pc + 2) ls (.ref (mm_t r) :: s) (mm_nI I r) (mm_nR r (3, x.toNatClampNeg) x.toNatClampNeg) else none)
  | .anewarray k => match mm_kk (mm_o j) k with
    | some 0 => mm_i1 st (fun x s => if ¬ x < 0 ∧ x.toNatClampNeg ≤ 1000 then mm_nx (pc + 3) ls (.ref (mm_t r) :: s) (mm_nI I r) (mm_nR r (4, x.toNatClampNeg) x.toNatClampNeg) else none)
    | some 3 => mm_i1 st (fun x s => if ¬ x < 0 ∧ x.toNatClampNeg ≤ 1000 then mm_nx (pc + 3) ls (.ref (mm_t r) :: s) (mm_nI I r) (mm_nR r (5, x.toNatClampNeg) x.toNatClampNeg) else none)
    | _ => none
  | .new k => match mm_kk (mm_o j) k with
    | some ci => mm_nx (pc + 3) ls (.ref (mm_t r) :: st) (mm_nI I r) (mm_nR r (1, ci) (mm_N ci))
    | none => none
  | .invokevirtual k => match mm_m (mm_o j) k with
    | some j2 => mm_vc j j2 pc st r
    | none => none
  | .invokestatic k => match mm_m (mm_o j) k with
    | some j2 => mm_sc j j2 pc st
    | none => if (mm_nT.contains (mm_o j, k)) = true then mm_ocp j pc ls st I r else none
  | .invokespecial k => match mm_m (mm_o j) k with
    | some j2 => mm_xc j j2 pc st r
    | none => if (mm_oT.contains (mm_o j, k)) = true then mm_a1 st (fun a s => if 1 ≤ mm_h j ∧ mm_w8 s = true then mm_nx (pc + 3) ls s I r else none) else none
  | .ireturn => mm_rti j st
  | .lreturn => mm_rtl j st
  | .return_ => if st = [] ∧ mm_r j = none then some (.inr (.inl none)) else none
  | _ => none
def mm_len (i : Instr) : Option Nat := match i with
  | .tableswitch _ _ _ _ => none
  | .lookupswitch _ _ => none
  | .iload _ => some 2
  | .aload _ => some 2
  | .lload _ => some 2
  | .istore _ => some 2
  | .astore _ => some 2
  | .bipush _ => some 2
  | .newarray _ => some 2
  | .ldc _ => some 2
  | .sipush _ => some 3
  | .ldc_w _ => some 3
  | .ldc2_w _ => some 3
  | .iinc _ _ => some 3
  | .goto _ => some 3
  | .if_icmp _ _ => some 3
  | .ifCond _ _ => some 3
  | .getfield _ => some 3
  | .putfield _ => some 3
  | .anewarray _ => some 3
  | .new _ => some 3
  | .invokevirtual _ => some 3
  | .invokestatic _ => some 3
  | .invokespecial _ => some 3
  | _ => some 1
def mm_iR (i : Instr) : Bool := match i with
  | .ireturn => true
  | .lreturn => true
  | .return_ => true
  | _ => false
def mm_iC (i : Instr) : Bool := match i with
  | .invokevirtual _ => true
  | .invokestatic _ => true
  | .invokespecial _ => true
  | _ => false
def mm_flt (i : Instr) (o : Option mm_O) : Option mm_O := match o with
  | some (.inl c) => some (.inl c)
  | some (.inr (.inl v)) => if mm_iR i = true then some (.inr (.inl v)) else none
  | some (.inr (.inr q)) => if mm_iC i = true then some (.inr (.inr q)) else none
  | none => none
def mm_stp (j pc : Nat) (ls : mm_L) (st : List Value) (I : mm_I) (r : mm_R) : Option mm_O := match decode (mm_c j) pc with
  | .ok q => if (mm_len q.1).getD q.2 = q.2 then mm_flt q.1 (mm_act j pc q.1 ls st I r) else none
  | .error _ => none
def mm_en (j : Nat) (av : List Value) : mm_L := mm_sl av ++ List.replicate (mm_x j - (mm_sl av).length) none
def mm_run : Nat → Nat → Nat → mm_L → List Value → mm_I → mm_R → Option (Option Value × mm_I × mm_R)
  | 0, _, _, _, _, _, _ => none
  | n + 1, j, pc, ls, st, I, r => match mm_stp j pc ls st I r with
    | none => none
    | some (.inl q) => mm_run n j q.1 q.2.1 q.2.2.1 q.2.2.2.1 q.2.2.2.2
    | some (.inr (.inl v)) => some (v, I, r)
    | some (.inr (.inr q)) => match mm_run n q.1 0 (mm_en q.1 q.2.1) [] I r with
      | none => none
      | some u => mm_run n j q.2.2.1 ls (u.1.toList ++ q.2.2.2) u.2.1 u.2.2
def mm_E (j pc : Nat) (ls : mm_L) (st : List Value) (I : mm_I) (r : mm_R) (Q : Option Value → mm_I → mm_R → Prop) : Prop := ∃ n u, mm_run n j pc ls st I r = some u ∧ Q u.1 u.2.1 u.2.2
theorem mm_mono1 : ∀ (n j pc : Nat) (ls : mm_L) (st : List Value) (I : mm_I) (r : mm_R) (u : Option Value × mm_I × mm_R), mm_run n j pc ls st I r = some u → mm_run (n + 1) j pc ls st I r = some u := by
  intro n
  induction n with
  | zero => intro j pc ls st I r u h; simp [mm_run] at h
  | succ n ih =>
    intro j pc ls st I r u h
    rw [mm_run] at h ⊢
    cases hs : mm_stp j pc ls st I r with
    | none => rw [hs] at h; exact h
    | some o =>
      rw [hs] at h
      rcases o with q | v | q
      · exact ih _ _ _ _ _ _ _ h
      · exact h
      · dsimp only at h ⊢
        cases hr : mm_run n q.1 0 (mm_en q.1 q.2.1) [] I r with
        | none => rw [hr] at h; cases h
        | some w =>
          rw [hr] at h
          rw [ih _ _ _ _ _ _ _ hr]
          exact ih _ _ _ _ _ _ _ h
theorem mm_mono {n n' j pc : Nat} {ls : mm_L} {st : List Value} {I : mm_I} {r : mm_R} {u : Option Value × mm_I × mm_R} (h : mm_run n j pc ls st I r = some u) (hn : n ≤ n') : mm_run n' j pc ls st I r = some u := by
  induction hn with
  | refl => exact h
  | step _ ih => exact mm_mono1 _ _ _ _ _ _ _ _ ih
section
variable {j pc : Nat} {ls : mm_L} {st : List Value} {I : mm_I} {r : mm_R} {Q : Option Value → mm_I → mm_R → Prop}
theorem mm_E_nx {pc' : Nat} {ls' : mm_L} {st' : List Value} {I' : mm_I} {r' : mm_R} (h : mm_stp j pc ls st I r = mm_nx pc' ls' st' I' r') : mm_E j pc ls st I r Q ↔ mm_E j pc' ls' st' I' r' Q := by
  constructor
  · rintro ⟨n, u, hn, hq⟩
    cases n with
    | zero => simp [mm_run] at hn
    | succ n => rw [mm_run, h] at hn; exact ⟨n, u, hn, hq⟩
  · rintro ⟨n, u, hn, hq⟩
    exact ⟨n + 1, u, by rw [mm_run, h]; exact hn, hq⟩
theorem mm_E_no (h : mm_stp j pc ls st I r = none) : mm_E j pc ls st I r Q ↔ False := by
  constructor
  · rintro ⟨n, u, hn, hq⟩
    cases n with
    | zero => simp [mm_run] at hn
    | succ n => rw [mm_run, h] at hn; cases hn
  · exact False.elim
theorem mm_E_rt {v : Option Value} (h : mm_stp j pc ls st I r = some (.inr (.inl v))) : mm_E j pc ls st I r Q ↔ Q v I r := by
  constructor
  · rintro ⟨n, u, hn, hq⟩
    cases n with
    | zero => simp [mm_run] at hn
    | succ n => rw [mm_run, h] at hn; cases hn; exact hq
  · intro hq
    exact ⟨1, (v, I, r), by rw [mm_run, h], hq⟩
theorem mm_E_cl {j2 pc' : Nat} {av st' : List Value} (h : mm_stp j pc ls st I r = some (.inr (.inr (j2, av, pc', st')))) : mm_E j pc ls st I r Q ↔ mm_E j2 0 (mm_en j2 av) [] I r (fun v I' r' => mm_E j pc' ls (v.toList ++ st') I' r' Q) := by
  constructor
  · rintro ⟨n, u, hn, hq⟩
    cases n with
    | zero => simp [mm_run] at hn
    | succ n =>
      rw [mm_run, h] at hn
      dsimp only at hn
      cases hr : mm_run n j2 0 (mm_en j2 av) [] I r with
      | none => rw [hr] at hn; cases hn
      | some w => rw [hr] at hn; exact ⟨n, w, hr, n, u, hn, hq⟩
  · rintro ⟨n, w, hw, n', u, hn, hq⟩
    refine ⟨max n n' + 1, u, ?_, hq⟩
    rw [mm_run, h]
    dsimp only
    rw [mm_mono hw (Nat.le_max_left n n')]
    exact mm_mono hn (Nat.le_max_right n n')
theorem mm_E_mono {Q' : Option Value → mm_I → mm_R → Prop} (h : mm_E j pc ls st I r Q) (hq : ∀ v I' r', Q v I' r' → Q' v I' r') : mm_E j pc ls st I r Q' := by
  obtain ⟨n, u, hn, h⟩ := h
  exact ⟨n, u, hn, hq _ _ _ h⟩
end
end
section
/-! the small machine's memory as the heap's cells -/
def mm_fs (ci : Nat) (I : mm_I) (r : mm_R) (a : Nat) : List Value := (List.range (mm_N ci)).map (fun k => if mm_ik ci k = true then .int (I a k) else va_rf (mm_P r a k))
def mm_cell (cA : Nat → ClassId) (I : mm_I) (r : mm_R) (a : Nat) : va_E :=
  if (mm_S r a).1 = 1 then .inr ((mm_S r a).2, mm_fs (mm_S r a).2 I r a)
  else if (mm_S r a).1 = 2 then .inl (cA 0, (mm_S r a).2, .inl (I a))
  else if (mm_S r a).1 = 3 then .inl (cA 1, (mm_S r a).2, .inr (.inl (mm_G r a)))
  else if (mm_S r a).1 = 4 then .inl (cA 2, (mm_S r a).2, .inr (.inr (.inr (.inr (mm_P r a)))))
  else .inl (cA 3, (mm_S r a).2, .inr (.inr (.inr (.inr (mm_P r a)))))
def mm_ws (cA : Nat → ClassId) (b : Nat) (I : mm_I) (r : mm_R) : va_W := (List.range (mm_t r - b)).map (fun k => (b + k, mm_cell cA I r (b + k)))
def mm_tys (cA : Nat → ClassId) : List (ClassId × FieldType) := [(cA 0, .int), (cA 1, .long), (cA 2, .object RX0), (cA 3, .object RX3)]
def mm_Wd (D : va_G) (cA : Nat → ClassId) (b : Nat) (I : mm_I) (r : mm_R) (H : Heap) : Prop := b ≤ mm_t r ∧ va_P D vwCl (mm_ws cA b I r) H ∧ ∀ a, (mm_S r a).1 ≠ 0 → b ≤ a ∧ a < mm_t r
abbrev mm_A (b : Nat) : Nat → Prop := fun q => b ≤ q
theorem mm_ws_get {cA : Nat → ClassId} {b k : Nat} {I : mm_I} {r : mm_R} {q : Nat × va_E} (h : (mm_ws cA b I r)[k]? = some q) : k < mm_t r - b ∧ q = (b + k, mm_cell cA I r (b + k)) := by
  unfold mm_ws at h
  rw [List.getElem?_map] at h
  by_cases hk : k < mm_t r - b
  · rw [List.getElem?_range hk] at h
    exact ⟨hk, (Option.some.inj h).symm⟩
  · rw [List.getElem?_eq_none (by simpa using Nat.le_of_not_lt hk)] at h
    cases h
theorem mm_at (cA : Nat → ClassId) {b a : Nat} (I : mm_I) {r : mm_R} (h1 : b ≤ a) (h2 : a < mm_t r) : (mm_ws cA b I r)[a - b]? = some (a, mm_cell cA I r a) := by
  unfold mm_ws
  rw [List.getElem?_map, List.getElem?_range (by omega)]
  have : b + (a - b) = a := by omega
  simp [this]
theorem mm_D (cA : Nat → ClassId) (b : Nat) (I : mm_I) (r : mm_R) : va_D (mm_A b) (mm_ws cA b I r) := by
  refine ⟨fun i j p q hi hj hpq => ?_, fun k q hk => ?_⟩
  · obtain ⟨-, rfl⟩ := mm_ws_get hi
    obtain ⟨-, rfl⟩ := mm_ws_get hj
    have : b + i = b + j := hpq
    omega
  · obtain ⟨-, rfl⟩ := mm_ws_get hk
    exact Nat.le_add_right b k
theorem mm_wset {cA : Nat → ClassId} {b a : Nat} {I I' : mm_I} {r r' : mm_R} {e : va_E} (ht : mm_t r' = mm_t r) (h1 : b ≤ a) (h2 : a < mm_t r) (he : mm_cell cA I' r' a = e) (ho : ∀ q, q ≠ a → mm_cell cA I' r' q = mm_cell cA I r q) : (mm_ws cA b I r).set (a - b) (a, e) = mm_ws cA b I' r' := by
  apply List.ext_getElem?
  intro k
  by_cases hk : k = a - b
  · subst hk
    rw [mm_at cA I' h1 (by rw [ht]; exact h2), he, List.getElem?_set_self]
    unfold mm_ws; simp; omega
  · rw [List.getElem?_set_ne (Ne.symm hk)]
    unfold mm_ws
    rw [List.getElem?_map, List.getElem?_map, ht]
    by_cases hl : k < mm_t r - b
    · rw [List.getElem?_range hl]
      have : b + k ≠ a := by omega
      simp [ho _ this]
    · rw [List.getElem?_eq_none (by simpa using Nat.le_of_not_lt hl)]
      rfl
theorem mm_wpush {cA : Nat → ClassId} {b : Nat} {I I' : mm_I} {r r' : mm_R} {e : va_E} (ht : mm_t r' = mm_t r + 1) (h1 : b ≤ mm_t r) (he : mm_cell cA I' r' (mm_t r) = e) (ho : ∀ q, q ≠ mm_t r → mm_cell cA I' r' q = mm_cell cA I r q) : mm_ws cA b I r ++ [(mm_t r, e)] = mm_ws cA b I' r' := by
  unfold mm_ws
  rw [ht, show mm_t r + 1 - b = (mm_t r - b) + 1 by omega, List.range_succ, List.map_append]
  congr 1
  · apply List.map_congr_left
    intro k hk
    have : b + k ≠ mm_t r := by have := List.mem_range.mp hk; omega
    simp [ho _ this]
  · have : b + (mm_t r - b) = mm_t r := by omega
    simp [this, he]
section
variable {D : va_G} {cA : Nat → ClassId} {b : Nat} {I : mm_I} {r : mm_R} {H : Heap}
theorem mm_Wd.lt (h : mm_Wd D cA b I r H) {a : Nat} (ha : (mm_S r a).1 ≠ 0) : b ≤ a ∧ a < mm_t r := h.2.2 a ha
theorem mm_Wd.cell (h : mm_Wd D cA b I r H) {a : Nat} (ha : (mm_S r a).1 ≠ 0) : (mm_ws cA b I r)[a - b]? = some (a, mm_cell cA I r a) := mm_at cA I (h.lt ha).1 (h.lt ha).2
theorem mm_Wd.ob (h : mm_Wd D cA b I r H) {a ci : Nat} (ha : mm_S r a = (1, ci)) : (mm_ws cA b I r)[a - b]? = some (a, .inr (ci, mm_fs ci I r a)) := by
  rw [h.cell (by rw [ha]; simp)]
  simp [mm_cell, ha]
theorem mm_Wd.iw (h : mm_Wd D cA b I r H) {a : Nat} (ha : (mm_S r a).1 = 2) : (mm_ws cA b I r)[a - b]? = some (a, .inl (cA 0, (mm_S r a).2, .inl (I a))) := by
  rw [h.cell (by rw [ha]; simp)]
  simp [mm_cell, ha]
theorem mm_Wd.lw (h : mm_Wd D cA b I r H) {a : Nat} (ha : (mm_S r a).1 = 3) : (mm_ws cA b I r)[a - b]? = some (a, .inl (cA 1, (mm_S r a).2, .inr (.inl (mm_G r a)))) := by
  rw [h.cell (by rw [ha]; simp)]
  simp [mm_cell, ha]
theorem mm_Wd.r4 (h : mm_Wd D cA b I r H) {a : Nat} (ha : (mm_S r a).1 = 4) : (mm_ws cA b I r)[a - b]? = some (a, .inl (cA 2, (mm_S r a).2, .inr (.inr (.inr (.inr (mm_P r a)))))) := by
  rw [h.cell (by rw [ha]; simp)]
  simp [mm_cell, ha]
theorem mm_Wd.r5 (h : mm_Wd D cA b I r H) {a : Nat} (ha : (mm_S r a).1 = 5) : (mm_ws cA b I r)[a - b]? = some (a, .inl (cA 3, (mm_S r a).2, .inr (.inr (.inr (.inr (mm_P r a)))))) := by
  rw [h.cell (by rw [ha]; simp)]
  simp [mm_cell, ha]
end
theorem mm_fs_at {ci k : Nat} (I : mm_I) (r : mm_R) (a : Nat) (hk : k < mm_N ci) : (mm_fs ci I r a)[k]? = some (if mm_ik ci k = true then .int (I a k) else va_rf (mm_P r a k)) := by
  unfold mm_fs
  rw [List.getElem?_map, List.getElem?_range hk]
  rfl
theorem mm_fs_len (ci : Nat) (I : mm_I) (r : mm_R) (a : Nat) : (mm_fs ci I r a).length = mm_N ci := by simp [mm_fs]
theorem mm_fs_setI {ci k : Nat} (I : mm_I) (r : mm_R) (a : Nat) (x : Int32) (hk : mm_ik ci k = true) (hl : k < mm_N ci) : (mm_fs ci I r a).set k (.int x) = mm_fs ci (mm_uI I a k x) r a := by
  apply List.ext_getElem?
  intro i
  by_cases hi : i = k
  · subst hi
    rw [List.getElem?_set_self (by rw [mm_fs_len]; exact hl), mm_fs_at _ _ _ hl]
    simp [hk, mm_uI, upd]
  · rw [List.getElem?_set_ne (Ne.symm hi)]
    unfold mm_fs
    rw [List.getElem?_map, List.getElem?_map]
    by_cases hz : i < mm_N ci
    · rw [List.getElem?_range hz]
      simp [mm_uI, upd, hi]
    · rw [List.getElem?_eq_none (by simpa using Nat.le_of_not_lt hz)]
      rfl
theorem mm_fs_setP {ci k : Nat} (I : mm_I) (r : mm_R) (a v : Nat) (hk : mm_ik ci k = false) (hl : k < mm_N ci) : (mm_fs ci I r a).set k (.ref v) = mm_fs ci I (mm_uP r a k (some v)) a := by
  apply List.ext_getElem?
  intro i
  by_cases hi : i = k
  · subst hi
    rw [List.getElem?_set_self (by rw [mm_fs_len]; exact hl), mm_fs_at _ _ _ hl]
    simp [hk, mm_uP, mm_P, va_up, va_rf]
  · rw [List.getElem?_set_ne (Ne.symm hi)]
    unfold mm_fs
    rw [List.getElem?_map, List.getElem?_map]
    by_cases hz : i < mm_N ci
    · rw [List.getElem?_range hz]
      simp [mm_uP, mm_P, va_up, hi]
    · rw [List.getElem?_eq_none (by simpa using Nat.le_of_not_lt hz)]
      rfl
theorem mm_fs_oI {ci a k q : Nat} (I : mm_I) (r : mm_R) (x : Int32) (h : q ≠ a) : mm_fs ci (mm_uI I a k x) r q = mm_fs ci I r q := by simp [mm_fs, mm_uI, h]
theorem mm_fs_oP {ci a k q : Nat} (I : mm_I) (r : mm_R) (x : Option Nat) (h : q ≠ a) : mm_fs ci I (mm_uP r a k x) q = mm_fs ci I r q := by simp [mm_fs, mm_uP, mm_P, h]
theorem mm_cell_oI {cA : Nat → ClassId} {a k q : Nat} (I : mm_I) (r : mm_R) (x : Int32) (h : q ≠ a) : mm_cell cA (mm_uI I a k x) r q = mm_cell cA I r q := by
  unfold mm_cell
  rw [mm_fs_oI I r x h]
  simp [mm_uI, h]
theorem mm_cell_oP {cA : Nat → ClassId} {a k q : Nat} (I : mm_I) (r : mm_R) (x : Option Nat) (h : q ≠ a) : mm_cell cA I (mm_uP r a k x) q = mm_cell cA I r q := by
  unfold mm_cell
  rw [show mm_S (mm_uP r a k x) q = mm_S r q from rfl, mm_fs_oP I r x h]
  simp [mm_uP, mm_P, mm_G, h]
theorem mm_cell_oG {cA : Nat → ClassId} {a k q : Nat} (I : mm_I) (r : mm_R) (x : Int64) (h : q ≠ a) : mm_cell cA I (mm_uG r a k x) q = mm_cell cA I r q := by
  unfold mm_cell
  rw [show mm_S (mm_uG r a k x) q = mm_S r q from rfl]
  simp [mm_uG, mm_G, mm_P, mm_fs, h]
theorem mm_cell_oC {cA : Nat → ClassId} {a b sp dp n q : Nat} (I : mm_I) (r : mm_R) (h : q ≠ a) : mm_cell cA I (mm_cG r a b sp dp n) q = mm_cell cA I r q := by
  unfold mm_cell
  rw [show mm_S (mm_cG r a b sp dp n) q = mm_S r q from rfl]
  simp [mm_cG, mm_G, mm_P, mm_fs, h]
theorem mm_cell_oN {cA : Nat → ClassId} {q w : Nat} {sh : Nat × Nat} (I : mm_I) (r : mm_R) (h : q ≠ mm_t r) : mm_cell cA (mm_nI I r) (mm_nR r sh w) q = mm_cell cA I r q := by
  unfold mm_cell
  rw [show mm_S (mm_nR r sh w) q = mm_S r q by simp [mm_nR, mm_S, h]]
  simp [mm_nR, mm_nI, mm_G, mm_P, mm_fs, h]
theorem mm_Wd.putI {D : va_G} {cA : Nat → ClassId} {b a k : Nat} {I : mm_I} {r : mm_R} {H H1 : Heap} {x : Int32} {e : va_E} (h : mm_Wd D cA b I r H) (ha : (mm_S r a).1 ≠ 0) (he : mm_cell cA (mm_uI I a k x) r a = e) (hP : va_P D vwCl ((mm_ws cA b I r).set (a - b) (a, e)) H1) : mm_Wd D cA b (mm_uI I a k x) r H1 := by
  refine ⟨h.1, ?_, h.2.2⟩
  rw [← mm_wset (I := I) (r := r) (I' := mm_uI I a k x) (r' := r) rfl (h.lt ha).1 (h.lt ha).2 he (fun q hq => mm_cell_oI I r x hq)]
  exact hP
theorem mm_Wd.putP {D : va_G} {cA : Nat → ClassId} {b a k : Nat} {I : mm_I} {r : mm_R} {H H1 : Heap} {x : Option Nat} {e : va_E} (h : mm_Wd D cA b I r H) (ha : (mm_S r a).1 ≠ 0) (he : mm_cell cA I (mm_uP r a k x) a = e) (hP : va_P D vwCl ((mm_ws cA b I r).set (a - b) (a, e)) H1) : mm_Wd D cA b I (mm_uP r a k x) H1 := by
  refine ⟨h.1, ?_, h.2.2⟩
  rw [← mm_wset (I := I) (r := r) (I' := I) (r' := mm_uP r a k x) rfl (h.lt ha).1 (h.lt ha).2 he (fun q hq => mm_cell_oP I r x hq)]
  exact hP
theorem mm_Wd.putG {D : va_G} {cA : Nat → ClassId} {b a k : Nat} {I : mm_I} {r : mm_R} {H H1 : Heap} {x : Int64} {e : va_E} (h : mm_Wd D cA b I r H) (ha : (mm_S r a).1 ≠ 0) (he : mm_cell cA I (mm_uG r a k x) a = e) (hP : va_P D vwCl ((mm_ws cA b I r).set (a - b) (a, e)) H1) : mm_Wd D cA b I (mm_uG r a k x) H1 := by
  refine ⟨h.1, ?_, h.2.2⟩
  rw [← mm_wset (I := I) (r := r) (I' := I) (r' := mm_uG r a k x) rfl (h.lt ha).1 (h.lt ha).2 he (fun q hq => mm_cell_oG I r x hq)]
  exact hP
theorem mm_Wd.putC {D : va_G} {cA : Nat → ClassId} {b a c sp dp n : Nat} {I : mm_I} {r : mm_R} {H H1 : Heap} {e : va_E} (h : mm_Wd D cA b I r H) (ha : (mm_S r a).1 ≠ 0) (he : mm_cell cA I (mm_cG r a c sp dp n) a = e) (hP : va_P D vwCl ((mm_ws cA b I r).set (a - b) (a, e)) H1) : mm_Wd D cA b I (mm_cG r a c sp dp n) H1 := by
  refine ⟨h.1, ?_, h.2.2⟩
  rw [← mm_wset (I := I) (r := r) (I' := I) (r' := mm_cG r a c sp dp n) rfl (h.lt ha).1 (h.lt ha).2 he (fun q hq => mm_cell_oC I r hq)]
  exact hP
theorem mm_Wd.new {D : va_G} {cA : Nat → ClassId} {b w : Nat} {sh : Nat × Nat} {I : mm_I} {r : mm_R} {H H1 : Heap} {e : va_E} (h : mm_Wd D cA b I r H) (he : mm_cell cA (mm_nI I r) (mm_nR r sh w) (mm_t r) = e) (hP : va_P D vwCl (mm_ws cA b I r ++ [(mm_t r, e)]) H1) : mm_Wd D cA b (mm_nI I r) (mm_nR r sh w) H1 := by
  refine ⟨Nat.le_succ_of_le h.1, ?_, fun a ha => ?_⟩
  · rw [← mm_wpush (I' := mm_nI I r) (r' := mm_nR r sh w) rfl h.1 he (fun q hq => mm_cell_oN I r hq)]
    exact hP
  · by_cases hq : a = mm_t r
    · subst hq
      exact ⟨h.1, Nat.lt_succ_self _⟩
    · have : mm_S (mm_nR r sh w) a = mm_S r a := by simp [mm_nR, mm_S, hq]
      rw [this] at ha
      exact ⟨(h.lt ha).1, Nat.lt_succ_of_lt (h.lt ha).2⟩
end
section
/-! what the tables say, by the small machine's numbers -/
theorem mm_vw {ci : Nat} (h : ci < 7) : vwCl[ci]? = some (mm_Rn ci, mm_Tn ci, mm_N ci) := match ci, h with
  | 0, _ => rfl
  | 1, _ => rfl
  | 2, _ => rfl
  | 3, _ => rfl
  | 4, _ => rfl
  | 5, _ => rfl
  | 6, _ => rfl
  | k + 7, h => absurd h (by omega)
theorem mm_uw {ci : Nat} (h : ci < 7) : ∀ w ∈ u_ws (mm_Rn ci) (mm_Tn ci) (mm_N ci), w ∈ mm_U := match ci, h with
  | 0, _ => mm_u0
  | 1, _ => mm_u1
  | 2, _ => mm_u2
  | 3, _ => mm_u3
  | 4, _ => mm_u4
  | 5, _ => mm_u5
  | 6, _ => mm_u6
  | k + 7, h => absurd h (by omega)
theorem mm_tyok {ci : Nat} (h : ci < 7) : ∀ k, k < mm_N ci → parseFieldDescriptor (mm_Tn ci k).2.2.1 = some (mm_tyn ci k) := match ci, h with
  | 0, _ => tyX0_ok
  | 1, _ => tyX1_ok
  | 2, _ => tyX2_ok
  | 3, _ => tyX3_ok
  | 4, _ => tyX4_ok
  | 5, _ => tyX5_ok
  | 6, _ => tyX6_ok
  | k + 7, h => absurd h (by omega)
theorem mm_nmok {ci : Nat} (h : ci < 7) : ∀ a, a < mm_N ci → ∀ b, b < mm_N ci → a ≠ b → (mm_Tn ci a).2.1 ≠ (mm_Tn ci b).2.1 := match ci, h with
  | 0, _ => nmX0
  | 1, _ => nmX1
  | 2, _ => nmX2
  | 3, _ => nmX3
  | 4, _ => nmX4
  | 5, _ => nmX5
  | 6, _ => nmX6
  | k + 7, h => absurd h (by omega)
theorem mm_dcl {ci : Nat} (h : ci < 7) : ∀ k, k < mm_N ci → (mm_Tn ci k).1 = mm_Rn ci := match ci, h with
  | 0, _ => by decide +kernel
  | 1, _ => by decide +kernel
  | 2, _ => by decide +kernel
  | 3, _ => by decide +kernel
  | 4, _ => by decide +kernel
  | 5, _ => by decide +kernel
  | 6, _ => by decide +kernel
  | k + 7, h => absurd h (by omega)
theorem mm_kin {ci : Nat} (h : ci < 7) : ∀ k, k < mm_N ci → mm_tyn ci k = .int ∨ mm_tyn ci k = .boolean ∨ (∃ C, mm_tyn ci k = .object C) ∨ (∃ C, mm_tyn ci k = .array C) := by
  have key : ∀ ci, ci < 7 → ∀ k, k < 16 → k < mm_N ci → (match mm_tyn ci k with
    | .int => true
    | .boolean => true
    | .object _ => true
    | .array _ => true
    | _ => false) = true := by decide +kernel
  have hN : ∀ ci, ci < 7 → mm_N ci ≤ 16 := by decide
  intro k hk
  have h1 := key ci h k (Nat.lt_of_lt_of_le hk (hN ci h)) hk
  cases hq : mm_tyn ci k <;> rw [hq] at h1 <;> simp_all
theorem mm_inst {ci : Nat} (h : ci < 7) : Cond.instantiable (mm_Rn ci) (mm_N ci) ∈ mm_U ∧ Cond.initialized (mm_Rn ci) ∈ mm_U := match ci, h with
  | 0, _ => ⟨mw_14, mw_15⟩
  | 1, _ => ⟨mw_23, mw_24⟩
  | 2, _ => ⟨mw_19, mw_20⟩
  | 3, _ => ⟨mw_32, mw_33⟩
  | 4, _ => ⟨mw_27, mw_28⟩
  | 5, _ => ⟨mw_1, mw_2⟩
  | 6, _ => ⟨mw_4, mw_5⟩
  | k + 7, h => absurd h (by omega)
theorem mm_find {α β : Type} {T : List α} {f : α → Bool} {g : α → β} {x : β} (h : (T.find? f).map g = some x) : ∃ q ∈ T, f q = true ∧ g q = x := by
  cases hq : T.find? f with
  | none => rw [hq] at h; cases h
  | some q => rw [hq] at h; exact ⟨q, List.mem_of_find?_eq_some hq, List.find?_some hq, Option.some.inj h⟩
theorem mm_f_ok {o i ci k : Nat} (h : mm_f o i = some (ci, k)) : Cond.fieldLink (mm_Rn o) i (mm_Tn ci k).1 (mm_Tn ci k).2.1 (mm_Tn ci k).2.2.1 ∈ mm_U ∧ ci < 7 ∧ k < mm_N ci := by
  obtain ⟨⟨o', i', ci', k'⟩, hm, hf, hg⟩ := mm_find h
  simp only [Bool.and_eq_true, beq_iff_eq] at hf
  obtain ⟨rfl, rfl⟩ := hf
  cases hg
  exact mm_fT_ok _ hm
theorem mm_m_ok {o i j : Nat} (h : mm_m o i = some j) : Cond.methodLink (mm_Rn o) i (mm_y j) ∈ mm_U ∧ j < 164 := by
  obtain ⟨⟨o', i', j'⟩, hm, hf, hg⟩ := mm_find h
  simp only [Bool.and_eq_true, beq_iff_eq] at hf
  obtain ⟨rfl, rfl⟩ := hf
  cases hg
  exact mm_mT_ok _ hm
theorem mm_kk_ok {o i ci : Nat} (h : mm_kk o i = some ci) : Cond.classLink (mm_Rn o) i (mm_Rn ci) ∈ mm_U ∧ ci < 7 := by
  obtain ⟨⟨o', i', j'⟩, hm, hf, hg⟩ := mm_find h
  simp only [Bool.and_eq_true, beq_iff_eq] at hf
  obtain ⟨rfl, rfl⟩ := hf
  cases hg
  exact mm_kT_ok _ hm
theorem mm_ci_ok {o i : Nat} {x : Int32} (h : mm_ci o i = some x) : Cond.constant (mm_Rn o) i x ∈ mm_U := by
  obtain ⟨⟨o', i', j'⟩, hm, hf, hg⟩ := mm_find h
  simp only [Bool.and_eq_true, beq_iff_eq] at hf
  obtain ⟨rfl, rfl⟩ := hf
  cases hg
  exact mm_cT_ok _ hm
theorem mm_cl_ok {o i : Nat} {x : Int64} (h : mm_cl o i = some x) : Cond.constantLong (mm_Rn o) i x ∈ mm_U := by
  obtain ⟨⟨o', i', j'⟩, hm, hf, hg⟩ := mm_find h
  simp only [Bool.and_eq_true, beq_iff_eq] at hf
  obtain ⟨rfl, rfl⟩ := hf
  cases hg
  exact mm_lT_ok _ hm
/-! what an answer of the step says of the stack -/
section
variable {st : List Value} {o : mm_O} {v : Option Value}
theorem mm_li_inv {f : Int32 → Option mm_O} (h : mm_li v f = some o) : ∃ x, v = some (.int x) ∧ f x = some o := by
  unfold mm_li at h; split at h
  · exact ⟨_, rfl, h⟩
  · cases h
theorem mm_ll_inv {f : Int64 → Option mm_O} (h : mm_ll v f = some o) : ∃ x, v = some (.long x) ∧ f x = some o := by
  unfold mm_ll at h; split at h
  · exact ⟨_, rfl, h⟩
  · cases h
theorem mm_la_inv {f : Nat → Option mm_O} (h : mm_la v f = some o) : ∃ x, v = some (.ref x) ∧ f x = some o := by
  unfold mm_la at h; split at h
  · exact ⟨_, rfl, h⟩
  · cases h
theorem mm_i1_inv {f : Int32 → List Value → Option mm_O} (h : mm_i1 st f = some o) : ∃ x tl, st = .int x :: tl ∧ f x tl = some o := by
  unfold mm_i1 at h; split at h
  · exact ⟨_, _, rfl, h⟩
  · cases h
theorem mm_i2_inv {f : Int32 → Int32 → List Value → Option mm_O} (h : mm_i2 st f = some o) : ∃ x y tl, st = .int y :: .int x :: tl ∧ f x y tl = some o := by
  unfold mm_i2 at h; split at h
  · exact ⟨_, _, _, rfl, h⟩
  · cases h
theorem mm_l1_inv {f : Int64 → List Value → Option mm_O} (h : mm_l1 st f = some o) : ∃ x tl, st = .long x :: tl ∧ f x tl = some o := by
  unfold mm_l1 at h; split at h
  · exact ⟨_, _, rfl, h⟩
  · cases h
theorem mm_l2_inv {f : Int64 → Int64 → List Value → Option mm_O} (h : mm_l2 st f = some o) : ∃ x y tl, st = .long y :: .long x :: tl ∧ f x y tl = some o := by
  unfold mm_l2 at h; split at h
  · exact ⟨_, _, _, rfl, h⟩
  · cases h
theorem mm_a1_inv {f : Nat → List Value → Option mm_O} (h : mm_a1 st f = some o) : ∃ x tl, st = .ref x :: tl ∧ f x tl = some o := by
  unfold mm_a1 at h; split at h
  · exact ⟨_, _, rfl, h⟩
  · cases h
theorem mm_ia_inv {f : Nat → Int32 → List Value → Option mm_O} (h : mm_ia st f = some o) : ∃ a x tl, st = .int x :: .ref a :: tl ∧ f a x tl = some o := by
  unfold mm_ia at h; split at h
  · exact ⟨_, _, _, rfl, h⟩
  · cases h
theorem mm_iia_inv {f : Nat → Int32 → Int32 → List Value → Option mm_O} (h : mm_iia st f = some o) : ∃ a i x tl, st = .int x :: .int i :: .ref a :: tl ∧ f a i x tl = some o := by
  unfold mm_iia at h; split at h
  · exact ⟨_, _, _, _, rfl, h⟩
  · cases h
theorem mm_lia_inv {f : Nat → Int32 → Int64 → List Value → Option mm_O} (h : mm_lia st f = some o) : ∃ a i x tl, st = .long x :: .int i :: .ref a :: tl ∧ f a i x tl = some o := by
  unfold mm_lia at h; split at h
  · exact ⟨_, _, _, _, rfl, h⟩
  · cases h
theorem mm_aia_inv {f : Nat → Int32 → Nat → List Value → Option mm_O} (h : mm_aia st f = some o) : ∃ a i x tl, st = .ref x :: .int i :: .ref a :: tl ∧ f a i x tl = some o := by
  unfold mm_aia at h; split at h
  · exact ⟨_, _, _, _, rfl, h⟩
  · cases h
theorem mm_v1_inv {f : Value → List Value → Option mm_O} (h : mm_v1 st f = some o) : ∃ x tl, st = x :: tl ∧ f x tl = some o := by
  unfold mm_v1 at h; split at h
  · exact ⟨_, _, rfl, h⟩
  · cases h
theorem mm_v2_inv {f : Value → Value → List Value → Option mm_O} (h : mm_v2 st f = some o) : ∃ x y tl, st = y :: x :: tl ∧ f x y tl = some o := by
  unfold mm_v2 at h; split at h
  · exact ⟨_, _, _, rfl, h⟩
  · cases h
theorem mm_pt_inv {f : Nat → Int32 → List Value → Option mm_O} {g : Nat → Nat → List Value → Option mm_O} (h : mm_pt st f g = some o) : (∃ a x tl, st = .int x :: .ref a :: tl ∧ f a x tl = some o) ∨ ∃ a x tl, st = .ref x :: .ref a :: tl ∧ g a x tl = some o := by
  unfold mm_pt at h; split at h
  · exact Or.inl ⟨_, _, _, rfl, h⟩
  · exact Or.inr ⟨_, _, _, rfl, h⟩
  · cases h
theorem mm_cp_inv {f : Nat → Int32 → Nat → Int32 → Int32 → List Value → Option mm_O} (h : mm_cp st f = some o) : ∃ b sp a dp n tl, st = .int n :: .int dp :: .ref a :: .int sp :: .ref b :: tl ∧ f b sp a dp n tl = some o := by
  unfold mm_cp at h; split at h
  · exact ⟨_, _, _, _, _, _, rfl, h⟩
  · cases h
theorem mm_if_inv {c : Prop} [Decidable c] {x : Option mm_O} (h : (if c then x else none) = some o) : c ∧ x = some o := by
  by_cases hc : c
  · rw [if_pos hc] at h; exact ⟨hc, h⟩
  · rw [if_neg hc] at h; cases h
theorem mm_ifn_inv {c : Prop} [Decidable c] {x : Option mm_O} (h : (if c then none else x) = some o) : ¬ c ∧ x = some o := by
  by_cases hc : c
  · rw [if_pos hc] at h; cases h
  · rw [if_neg hc] at h; exact ⟨hc, h⟩
theorem mm_nx_inv {pc pc' : Nat} {ls ls' : mm_L} {st st' : List Value} {I I' : mm_I} {r r' : mm_R} (h : mm_nx pc ls st I r = some (.inl (pc', ls', st', I', r'))) : pc = pc' ∧ ls = ls' ∧ st = st' ∧ I = I' ∧ r = r' := by
  unfold mm_nx at h
  cases h
  exact ⟨rfl, rfl, rfl, rfl, rfl⟩
theorem mm_jp_inv {pc pc' : Nat} {off : Int} {ls ls' : mm_L} {st st' : List Value} {I I' : mm_I} {r r' : mm_R} (h : mm_jp pc off ls st I r = some (.inl (pc', ls', st', I', r'))) : (pc : Int) + off = (pc' : Int) ∧ ls = ls' ∧ st = st' ∧ I = I' ∧ r = r' := by
  unfold mm_jp at h
  obtain ⟨hc, h⟩ := mm_if_inv h
  obtain ⟨rfl, h2⟩ := mm_nx_inv h
  exact ⟨(Int.toNat_of_nonneg hc).symm, h2⟩
end
/-! locals -/
def mm_lv (arr : Array Slot) (ls : mm_L) : Prop := arr.size = ls.length ∧ lv_wf arr ∧ ∀ i v, mm_ld ls i = some v → arr[i]? = some (.val v)
def mm_al (ls : mm_L) : List (Nat × Value) := (List.range ls.length).filterMap (fun i => (mm_ld ls i).map (fun v => (i, v)))
theorem mm_ld_lt {ls : mm_L} {i : Nat} {v : Value} (h : mm_ld ls i = some v) : i < ls.length := by
  unfold mm_ld at h
  rcases Nat.lt_or_ge i ls.length with q | q
  · exact q
  · rw [List.getElem?_eq_none q] at h; cases h
theorem mm_al_mem {ls : mm_L} {i : Nat} {v : Value} (h : mm_ld ls i = some v) : (i, v) ∈ mm_al ls := List.mem_filterMap.mpr ⟨i, List.mem_range.mpr (mm_ld_lt h), by rw [h]; rfl⟩
theorem mm_lv.has {arr : Array Slot} {ls : mm_L} (h : mm_lv arr ls) : lv_has arr ls.length (mm_al ls) := by
  refine ⟨h.1, h.2.1, fun q hq => ?_⟩
  obtain ⟨i, -, hi⟩ := List.mem_filterMap.mp hq
  cases hv : mm_ld ls i with
  | none => rw [hv] at hi; cases hi
  | some v => rw [hv] at hi; cases hi; exact h.2.2 i v hv
theorem mm_s1_inv {ls : mm_L} {i : Nat} {v : Value} {f : mm_L → Option mm_O} {o : mm_O} (h : mm_s1 ls i v f = some o) : (i < ls.length ∧ (i = 0 ∨ ((mm_ld ls (i - 1)).map Value.category).getD 1 = 1)) ∧ f (ls.set i (some v)) = some o := mm_if_inv h
theorem mm_ld_set {ls : mm_L} {i k : Nat} {v w : Value} (h : mm_ld (ls.set i (some v)) k = some w) : (k = i ∧ w = v) ∨ (k ≠ i ∧ mm_ld ls k = some w) := by
  unfold mm_ld at h ⊢
  by_cases hk : k = i
  · subst hk
    left
    by_cases hl : k < ls.length
    · rw [List.getElem?_set_self hl] at h
      exact ⟨rfl, (Option.some.inj h).symm⟩
    · rw [List.getElem?_eq_none (by simpa using Nat.le_of_not_lt hl)] at h
      cases h
  · right
    rw [List.getElem?_set_ne (Ne.symm hk)] at h
    exact ⟨hk, h⟩
theorem mm_lv.set {arr : Array Slot} {ls : mm_L} {i : Nat} {v : Value} (hi : i < ls.length ∧ (i = 0 ∨ ((mm_ld ls (i - 1)).map Value.category).getD 1 = 1)) (h : lv_has arr ls.length ((i, v) :: (mm_al ls).filter (fun q => !(q.1 == i) && !(q.1 + 1 == i && q.2.category == 2)))) : mm_lv arr (ls.set i (some v)) := by
  refine ⟨by rw [h.1, List.length_set], h.2.1, fun k w hk => ?_⟩
  rcases mm_ld_set hk with ⟨rfl, rfl⟩ | ⟨hne, hw⟩
  · exact h.2.2 (k, w) List.mem_cons_self
  · refine h.2.2 (k, w) (List.mem_cons_of_mem _ (List.mem_filter.mpr ⟨mm_al_mem hw, ?_⟩))
    have h1 : (k == i) = false := by simpa using hne
    rw [h1]
    simp only [Bool.not_false, Bool.true_and, Bool.not_eq_true', Bool.and_eq_false_iff, beq_eq_false_iff_ne, ne_eq]
    by_cases hz : k + 1 = i
    · right
      rcases hi.2 with h0 | h0
      · omega
      · rw [show i - 1 = k by omega, hw] at h0
        simp at h0
        omega
    · exact Or.inl hz
end
section
theorem mm_nf {ci k : Nat} {x : Int32} (h : mm_ik ci k = true) (hb : mm_bo ci k = false ∨ x = 0 ∨ x = 1) : narrow (mm_tyn ci k) (.int x) = .int x ∧ fits (mm_tyn ci k) (.int x) = true := by
  unfold mm_ik at h
  unfold mm_bo at hb
  cases hq : mm_tyn ci k <;> rw [hq] at h hb <;> simp at h hb
  all_goals first | exact ⟨rfl, rfl⟩ | (rcases hb with rfl | rfl <;> exact ⟨rfl, rfl⟩)
theorem mm_nr {ci k x : Nat} (h : mm_tyn ci k = .int ∨ mm_tyn ci k = .boolean ∨ (∃ C, mm_tyn ci k = .object C) ∨ (∃ C, mm_tyn ci k = .array C)) (hik : mm_ik ci k = false) : narrow (mm_tyn ci k) (.ref x) = .ref x ∧ fits (mm_tyn ci k) (.ref x) = true := by
  unfold mm_ik at hik
  rcases h with h | h | ⟨C, h⟩ | ⟨C, h⟩ <;> rw [h] at hik ⊢
  · cases hik
  · cases hik
  · exact ⟨rfl, rfl⟩
  · exact ⟨rfl, rfl⟩
theorem mm_dflt {ci w : Nat} (h : ci < 7) : ∀ k, k < mm_N ci → ∀ (I : mm_I) (r : mm_R), defaultValue (mm_tyn ci k) = vp_V (mm_fs ci (mm_nI I r) (mm_nR r (1, ci) w) (mm_t r)) k := by
  intro k hk I r
  unfold vp_V
  rw [List.getD_eq_getElem?_getD, mm_fs_at _ _ _ hk]
  rcases mm_kin h k hk with q | q | ⟨C, q⟩ | ⟨C, q⟩ <;> rw [q] <;> simp [mm_ik, q, mm_nI, mm_nR, mm_P, va_rf, defaultValue]
theorem mm_fresh {D : va_G} {cA : Nat → ClassId} {b q : Nat} {I : mm_I} {r : mm_R} {H H1 : Heap} {e : va_E} (hW : mm_Wd D cA b I r H) (hD : va_D (mm_A b) (mm_ws cA b I r ++ [(q, e)])) (hP : va_P D vwCl (mm_ws cA b I r ++ [(q, e)]) H1) (hz : H1.size ≤ mm_t r + 1) : q = mm_t r := by
  have hl : (mm_ws cA b I r).length = mm_t r - b := by simp [mm_ws]
  have hlast : (mm_ws cA b I r ++ [(q, e)])[mm_t r - b]? = some (q, e) := by rw [← hl]; simp
  have h1 : b ≤ q := hD.2 _ _ hlast
  have h2 : q < H1.size := (hP _ _ hlast).lt
  rcases Nat.lt_or_ge q (mm_t r) with h3 | h3
  · have h4 : (mm_ws cA b I r ++ [(q, e)])[q - b]? = some (q, mm_cell cA I r q) := by rw [List.getElem?_append_left (by rw [hl]; omega)]; exact mm_at cA I h1 h3
    have h5 := hD.1 _ _ _ _ h4 hlast rfl
    omega
  · omega
theorem mm_sameA {D : va_G} {cA : Nat → ClassId} {s : State} {cN : ClassId} {ty : FieldType} (h : va_K D vwCl (mm_tys cA) s) (h1 : va_K D vwCl (mm_tys cA ++ [(cN, ty)]) s) (k : Nat) {cK : ClassId} (hk : (mm_tys cA)[k]? = some (cK, ty)) (hl : (mm_tys cA ++ [(cN, ty)])[4]? = some (cN, ty)) (hp : va_RA s cK ty = (s.vm.findClass ("[" ++ ty.toString) = some cK)) : cN = cK := by
  have a1 := (h.2 k _ hk).2
  have a2 := (h1.2 4 _ hl).2
  dsimp only at a1 a2
  cases ty with
  | object C =>
    obtain ⟨_, _, _, _, _, a3⟩ := a1
    obtain ⟨_, _, _, _, _, a4⟩ := a2
    exact Option.some.inj (a4.symm.trans a3)
  | _ => exact Option.some.inj (a2.symm.trans a1)
theorem mm_sameR {D : va_G} {cA : Nat → ClassId} {s : State} {cN : ClassId} {C : String} (h : va_K D vwCl (mm_tys cA) s) (h1 : va_K D vwCl (mm_tys cA ++ [(cN, .object C)]) s) (k : Nat) {cK : ClassId} (hk : (mm_tys cA)[k]? = some (cK, .object C)) (hl : (mm_tys cA ++ [(cN, .object C)])[4]? = some (cN, .object C)) : cN = cK := by
  have a1 := (h.2 k _ hk).2
  have a2 := (h1.2 4 _ hl).2
  obtain ⟨_, _, _, _, _, a3⟩ := a1
  obtain ⟨_, _, _, _, _, a4⟩ := a2
  exact Option.some.inj (a4.symm.trans a3)
abbrev mm_Cx (D : va_G) (cA : Nat → ClassId) (b j : Nat) (p : Program) (R : Room) (s : State) (m : MethodId) (args : Array Value) (meth : Method) (c : Code) : Prop :=
  p.tables.exec = Jvm.exec ∧ c.code = mm_c j ∧ c.maxLocals = mm_x j ∧ meth.sig.returnType = mm_r j ∧ meth.locks = false ∧ (mm_k j = 2 → meth.name = "<init>") ∧ s.vm.findClass (mm_Rn (mm_o j)) = some m.cls ∧ (∀ w ∈ mm_U, w.before args s = true) ∧ va_K D vwCl (mm_tys cA) s ∧ va_AO RX0 s ∧ va_AO RX3 s ∧ b ≤ s.heap.size ∧ mm_h j ≤ R.frames ∧ 34 * mm_h j ≤ R.locals
section
variable {p : Program} {l : Launch} {e : Env} {R : Room} {s : State} {m : MethodId} {args : Array Value} {below : List Frame} {meth : Method} {c : Code} {H : Heap} {locs : List Loc} {cells slots : Nat} {Q : State → Prop}
variable {D : va_G} {cA : Nat → ClassId} {b j : Nat} {I : mm_I} {r : mm_R}
theorem mm_sz {g : JFrame} (h : H.size ≤ s.heap.size + cells → W p l e R s m args below meth c H locs cells slots Q g) : W p l e R s m args below meth c H locs cells slots Q g := fun T hT X => h (by rw [← hT]; exact X.heapSize) T hT X
theorem mm_Wd.ge (h : mm_Wd D cA b I r H) (hS : va_S (mm_A b) s.heap H locs) (hb : b ≤ s.heap.size) : mm_t r ≤ H.size := by
  rcases Nat.lt_or_ge b (mm_t r) with q | q
  · have h1 := h.2.1 _ _ (mm_at cA I (a := mm_t r - 1) (by omega) (by omega))
    have h2 : mm_t r - 1 < H.size := h1.lt
    omega
  · have := hS.1
    omega
def mm_KK (p : Program) (l : Launch) (e : Env) (R : Room) (s : State) (m : MethodId) (args : Array Value) (below : List Frame) (meth : Method) (c : Code) (Q : State → Prop) (D : va_G) (cA : Nat → ClassId) (b j cells slots pc : Nat) (ls : mm_L) (st : List Value) (I : mm_I) (r : mm_R) : Prop :=
  ∀ (H : Heap) (locs : List Loc) (arr : Array Slot), mm_Wd D cA b I r H → va_S (mm_A b) s.heap H locs → mm_lv arr ls → ls.length = mm_x j → W p l e R s m args below meth c H locs cells slots Q (F0 m pc arr st)
theorem mm_one (X : mm_Cx D cA b j p R s m args meth c) {pc len : Nat} {i : Instr} (hd : decode (mm_c j) pc = .ok (i, len)) (hlen : (mm_len i).getD len = len) {ls : mm_L} {st : List Value} {pc' : Nat} {ls' : mm_L} {st' : List Value} {I' : mm_I} {r' : mm_R} (ha : mm_act j pc i ls st I r = some (.inl (pc', ls', st', I', r')))
    {arr : Array Slot} (hW : mm_Wd D cA b I r H) (hS : va_S (mm_A b) s.heap H locs) (hl : mm_lv arr ls) (hn : ls.length = mm_x j) (hz : s.heap.size + cells = mm_t r) (hc : cells + (mm_t r' - mm_t r) ≤ R.cells) (hs : slots + (mm_n r' - mm_n r) ≤ R.slots)
    (kk : mm_KK p l e R s m args below meth c Q D cA b j (cells + (mm_t r' - mm_t r)) (slots + (mm_n r' - mm_n r)) pc' ls' st' I' r') : W p l e R s m args below meth c H locs cells slots Q (F0 m pc arr st) := by
  obtain ⟨hx, hb, hml, hr, hlk, hin, hown, hts, hK, hA0, hA3, hbs, hfr, hlo⟩ := X
  cases i with
  | iload_n k =>
    have hlen : 1 = len := hlen
    subst hlen
    obtain ⟨x, hv, ha⟩ := mm_li_inv ha
    obtain ⟨rfl, rfl, rfl, rfl, rfl⟩ := mm_nx_inv ha
    simp only [Nat.sub_self, Nat.add_zero] at kk
    exact lv_iload_n hx hb hd rfl (hl.2.2 _ _ hv) (kk H locs arr hW hS hl hn)
  | iload k =>
    have hlen : 2 = len := hlen
    subst hlen
    obtain ⟨x, hv, ha⟩ := mm_li_inv ha
    obtain ⟨rfl, rfl, rfl, rfl, rfl⟩ := mm_nx_inv ha
    simp only [Nat.sub_self, Nat.add_zero] at kk
    exact lv_iload hx hb hd (hl.2.2 _ _ hv) (kk H locs arr hW hS hl hn)
  | aload_n k =>
    have hlen : 1 = len := hlen
    subst hlen
    obtain ⟨x, hv, ha⟩ := mm_la_inv ha
    obtain ⟨rfl, rfl, rfl, rfl, rfl⟩ := mm_nx_inv ha
    simp only [Nat.sub_self, Nat.add_zero] at kk
    exact lv_aload_n hx hb hd rfl (hl.2.2 _ _ hv) (kk H locs arr hW hS hl hn)
  | aload k =>
    have hlen : 2 = len := hlen
    subst hlen
    obtain ⟨x, hv, ha⟩ := mm_la_inv ha
    obtain ⟨rfl, rfl, rfl, rfl, rfl⟩ := mm_nx_inv ha
    simp only [Nat.sub_self, Nat.add_zero] at kk
    exact lv_aload hx hb hd (hl.2.2 _ _ hv) (kk H locs arr hW hS hl hn)
  | lload_n k =>
    have hlen : 1 = len := hlen
    subst hlen
    obtain ⟨x, hv, ha⟩ := mm_ll_inv ha
    obtain ⟨rfl, rfl, rfl, rfl, rfl⟩ := mm_nx_inv ha
    simp only [Nat.sub_self, Nat.add_zero] at kk
    exact lv_lload_n hx hb hd rfl (hl.2.2 _ _ hv) (kk H locs arr hW hS hl hn)
  | lload k =>
    have hlen : 2 = len := hlen
    subst hlen
    obtain ⟨x, hv, ha⟩ := mm_ll_inv ha
    obtain ⟨rfl, rfl, rfl, rfl, rfl⟩ := mm_nx_inv ha
    simp only [Nat.sub_self, Nat.add_zero] at kk
    exact lv_lload hx hb hd (hl.2.2 _ _ hv) (kk H locs arr hW hS hl hn)
  | iconst n =>
    have hlen : 1 = len := hlen
    subst hlen
    obtain ⟨rfl, rfl, rfl, rfl, rfl⟩ := mm_nx_inv ha
    simp only [Nat.sub_self, Nat.add_zero] at kk
    exact lv_iconst hx hb hd rfl (kk H locs arr hW hS hl hn)
  | bipush n =>
    have hlen : 2 = len := hlen
    subst hlen
    obtain ⟨rfl, rfl, rfl, rfl, rfl⟩ := mm_nx_inv ha
    simp only [Nat.sub_self, Nat.add_zero] at kk
    exact lv_bipush hx hb hd rfl (kk H locs arr hW hS hl hn)
  | sipush n =>
    have hlen : 3 = len := hlen
    subst hlen
    obtain ⟨rfl, rfl, rfl, rfl, rfl⟩ := mm_nx_inv ha
    simp only [Nat.sub_self, Nat.add_zero] at kk
    exact lv_sipush hx hb hd rfl (kk H locs arr hW hS hl hn)
  | lconst n =>
    have hlen : 1 = len := hlen
    subst hlen
    obtain ⟨rfl, rfl, rfl, rfl, rfl⟩ := mm_nx_inv ha
    simp only [Nat.sub_self, Nat.add_zero] at kk
    exact lv_lconst hx hb hd rfl (kk H locs arr hW hS hl hn)
  | ldc k =>
    have hlen : 2 = len := hlen
    subst hlen
    simp only [mm_act] at ha
    cases hv : mm_ci (mm_o j) k with
    | none => rw [hv] at ha; cases ha
    | some x =>
      rw [hv] at ha
      obtain ⟨rfl, rfl, rfl, rfl, rfl⟩ := mm_nx_inv ha
      simp only [Nat.sub_self, Nat.add_zero] at kk
      exact lv_ldc hx hb hown (hts _ (mm_ci_ok hv)) hd (kk H locs arr hW hS hl hn)
  | ldc_w k =>
    have hlen : 3 = len := hlen
    subst hlen
    simp only [mm_act] at ha
    cases hv : mm_ci (mm_o j) k with
    | none => rw [hv] at ha; cases ha
    | some x =>
      rw [hv] at ha
      obtain ⟨rfl, rfl, rfl, rfl, rfl⟩ := mm_nx_inv ha
      simp only [Nat.sub_self, Nat.add_zero] at kk
      exact lv_ldcw hx hb hown (hts _ (mm_ci_ok hv)) hd (kk H locs arr hW hS hl hn)
  | ldc2_w k =>
    have hlen : 3 = len := hlen
    subst hlen
    simp only [mm_act] at ha
    cases hv : mm_cl (mm_o j) k with
    | none => rw [hv] at ha; cases ha
    | some x =>
      rw [hv] at ha
      obtain ⟨rfl, rfl, rfl, rfl, rfl⟩ := mm_nx_inv ha
      simp only [Nat.sub_self, Nat.add_zero] at kk
      exact lv_ldc2 hx hb hown (hts _ (mm_cl_ok hv)) hd (kk H locs arr hW hS hl hn)
  | istore_n k =>
    have hlen : 1 = len := hlen
    subst hlen
    obtain ⟨x, tl, hst, hq9⟩ := mm_i1_inv ha
    clear ha
    subst hst
    have ha := hq9
    obtain ⟨hi, ha⟩ := mm_s1_inv ha
    obtain ⟨rfl, rfl, rfl, rfl, rfl⟩ := mm_nx_inv ha
    simp only [Nat.sub_self, Nat.add_zero] at kk
    exact lv_istore_n hx hb hd rfl hl.has hi.1 rfl (fun ls2 h2 => kk H locs ls2 hW hS (mm_lv.set hi h2) (by rw [List.length_set]; exact hn))
  | istore k =>
    have hlen : 2 = len := hlen
    subst hlen
    obtain ⟨x, tl, hst, hq9⟩ := mm_i1_inv ha
    clear ha
    subst hst
    have ha := hq9
    obtain ⟨hi, ha⟩ := mm_s1_inv ha
    obtain ⟨rfl, rfl, rfl, rfl, rfl⟩ := mm_nx_inv ha
    simp only [Nat.sub_self, Nat.add_zero] at kk
    exact lv_istore hx hb hd hl.has hi.1 rfl (fun ls2 h2 => kk H locs ls2 hW hS (mm_lv.set hi h2) (by rw [List.length_set]; exact hn))
  | astore_n k =>
    have hlen : 1 = len := hlen
    subst hlen
    obtain ⟨x, tl, hst, hq9⟩ := mm_a1_inv ha
    clear ha
    subst hst
    have ha := hq9
    obtain ⟨hi, ha⟩ := mm_s1_inv ha
    obtain ⟨rfl, rfl, rfl, rfl, rfl⟩ := mm_nx_inv ha
    simp only [Nat.sub_self, Nat.add_zero] at kk
    exact lv_astore_n hx hb hd rfl hl.has hi.1 rfl (fun ls2 h2 => kk H locs ls2 hW hS (mm_lv.set hi h2) (by rw [List.length_set]; exact hn))
  | astore k =>
    have hlen : 2 = len := hlen
    subst hlen
    obtain ⟨x, tl, hst, hq9⟩ := mm_a1_inv ha
    clear ha
    subst hst
    have ha := hq9
    obtain ⟨hi, ha⟩ := mm_s1_inv ha
    obtain ⟨rfl, rfl, rfl, rfl, rfl⟩ := mm_nx_inv ha
    simp only [Nat.sub_self, Nat.add_zero] at kk
    exact lv_astore hx hb hd hl.has hi.1 rfl (fun ls2 h2 => kk H locs ls2 hW hS (mm_lv.set hi h2) (by rw [List.length_set]; exact hn))
  | iinc k n =>
    have hlen : 3 = len := hlen
    subst hlen
    obtain ⟨x, hv, ha⟩ := mm_li_inv ha
    obtain ⟨hi, ha⟩ := mm_s1_inv ha
    obtain ⟨rfl, rfl, rfl, rfl, rfl⟩ := mm_nx_inv ha
    simp only [Nat.sub_self, Nat.add_zero] at kk
    obtain ⟨q, hq⟩ := List.getElem?_of_mem (mm_al_mem hv)
    exact lv_iinc hx hb hd hl.has hq rfl hi.1 rfl (fun ls2 h2 => kk H locs ls2 hW hS (mm_lv.set hi h2) (by rw [List.length_set]; exact hn))
  | iadd =>
    have hlen : 1 = len := hlen
    subst hlen
    obtain ⟨x, y, tl, hst, hq9⟩ := mm_i2_inv ha
    clear ha
    subst hst
    have ha := hq9
    obtain ⟨rfl, rfl, rfl, rfl, rfl⟩ := mm_nx_inv ha
    simp only [Nat.sub_self, Nat.add_zero] at kk
    exact lv_iadd hx hb hd (kk H locs arr hW hS hl hn)
  | isub =>
    have hlen : 1 = len := hlen
    subst hlen
    obtain ⟨x, y, tl, hst, hq9⟩ := mm_i2_inv ha
    clear ha
    subst hst
    have ha := hq9
    obtain ⟨rfl, rfl, rfl, rfl, rfl⟩ := mm_nx_inv ha
    simp only [Nat.sub_self, Nat.add_zero] at kk
    exact lv_isub hx hb hd (kk H locs arr hW hS hl hn)
  | imul =>
    have hlen : 1 = len := hlen
    subst hlen
    obtain ⟨x, y, tl, hst, hq9⟩ := mm_i2_inv ha
    clear ha
    subst hst
    have ha := hq9
    obtain ⟨rfl, rfl, rfl, rfl, rfl⟩ := mm_nx_inv ha
    simp only [Nat.sub_self, Nat.add_zero] at kk
    exact lv_imul hx hb hd (kk H locs arr hW hS hl hn)
  | iand =>
    have hlen : 1 = len := hlen
    subst hlen
    obtain ⟨x, y, tl, hst, hq9⟩ := mm_i2_inv ha
    clear ha
    subst hst
    have ha := hq9
    obtain ⟨rfl, rfl, rfl, rfl, rfl⟩ := mm_nx_inv ha
    simp only [Nat.sub_self, Nat.add_zero] at kk
    exact lv_iand hx hb hd (kk H locs arr hW hS hl hn)
  | ior =>
    have hlen : 1 = len := hlen
    subst hlen
    obtain ⟨x, y, tl, hst, hq9⟩ := mm_i2_inv ha
    clear ha
    subst hst
    have ha := hq9
    obtain ⟨rfl, rfl, rfl, rfl, rfl⟩ := mm_nx_inv ha
    simp only [Nat.sub_self, Nat.add_zero] at kk
    exact lv_ior hx hb hd (kk H locs arr hW hS hl hn)
  | ishl =>
    have hlen : 1 = len := hlen
    subst hlen
    obtain ⟨x, y, tl, hst, hq9⟩ := mm_i2_inv ha
    clear ha
    subst hst
    have ha := hq9
    obtain ⟨rfl, rfl, rfl, rfl, rfl⟩ := mm_nx_inv ha
    simp only [Nat.sub_self, Nat.add_zero] at kk
    exact lv_ishl hx hb hd (kk H locs arr hW hS hl hn)
  | ishr =>
    have hlen : 1 = len := hlen
    subst hlen
    obtain ⟨x, y, tl, hst, hq9⟩ := mm_i2_inv ha
    clear ha
    subst hst
    have ha := hq9
    obtain ⟨rfl, rfl, rfl, rfl, rfl⟩ := mm_nx_inv ha
    simp only [Nat.sub_self, Nat.add_zero] at kk
    exact lv_ishr hx hb hd (kk H locs arr hW hS hl hn)
  | iushr =>
    have hlen : 1 = len := hlen
    subst hlen
    obtain ⟨x, y, tl, hst, hq9⟩ := mm_i2_inv ha
    clear ha
    subst hst
    have ha := hq9
    obtain ⟨rfl, rfl, rfl, rfl, rfl⟩ := mm_nx_inv ha
    simp only [Nat.sub_self, Nat.add_zero] at kk
    exact lv_iushr hx hb hd rfl (kk H locs arr hW hS hl hn)
  | idiv =>
    have hlen : 1 = len := hlen
    subst hlen
    obtain ⟨x, y, tl, hst, hq9⟩ := mm_i2_inv ha
    clear ha
    subst hst
    have ha := hq9
    obtain ⟨hne, ha⟩ := mm_ifn_inv ha
    obtain ⟨rfl, rfl, rfl, rfl, rfl⟩ := mm_nx_inv ha
    simp only [Nat.sub_self, Nat.add_zero] at kk
    exact lv_idiv hx hb hd hne (kk H locs arr hW hS hl hn)
  | irem =>
    have hlen : 1 = len := hlen
    subst hlen
    obtain ⟨x, y, tl, hst, hq9⟩ := mm_i2_inv ha
    clear ha
    subst hst
    have ha := hq9
    obtain ⟨hne, ha⟩ := mm_ifn_inv ha
    obtain ⟨rfl, rfl, rfl, rfl, rfl⟩ := mm_nx_inv ha
    simp only [Nat.sub_self, Nat.add_zero] at kk
    exact lv_irem hx hb hd hne (kk H locs arr hW hS hl hn)
  | i2l =>
    have hlen : 1 = len := hlen
    subst hlen
    obtain ⟨x, tl, hst, hq9⟩ := mm_i1_inv ha
    clear ha
    subst hst
    have ha := hq9
    obtain ⟨rfl, rfl, rfl, rfl, rfl⟩ := mm_nx_inv ha
    simp only [Nat.sub_self, Nat.add_zero] at kk
    exact lv_i2l hx hb hd rfl (kk H locs arr hW hS hl hn)
  | i2b =>
    have hlen : 1 = len := hlen
    subst hlen
    obtain ⟨x, tl, hst, hq9⟩ := mm_i1_inv ha
    clear ha
    subst hst
    have ha := hq9
    obtain ⟨rfl, rfl, rfl, rfl, rfl⟩ := mm_nx_inv ha
    simp only [Nat.sub_self, Nat.add_zero] at kk
    exact lv_i2b hx hb hd rfl (kk H locs arr hW hS hl hn)
  | i2s =>
    have hlen : 1 = len := hlen
    subst hlen
    obtain ⟨x, tl, hst, hq9⟩ := mm_i1_inv ha
    clear ha
    subst hst
    have ha := hq9
    obtain ⟨rfl, rfl, rfl, rfl, rfl⟩ := mm_nx_inv ha
    simp only [Nat.sub_self, Nat.add_zero] at kk
    exact lv_i2s hx hb hd rfl (kk H locs arr hW hS hl hn)
  | l2i =>
    have hlen : 1 = len := hlen
    subst hlen
    obtain ⟨x, tl, hst, hq9⟩ := mm_l1_inv ha
    clear ha
    subst hst
    have ha := hq9
    obtain ⟨rfl, rfl, rfl, rfl, rfl⟩ := mm_nx_inv ha
    simp only [Nat.sub_self, Nat.add_zero] at kk
    exact lv_l2i hx hb hd rfl (kk H locs arr hW hS hl hn)
  | ladd =>
    have hlen : 1 = len := hlen
    subst hlen
    obtain ⟨x, y, tl, hst, hq9⟩ := mm_l2_inv ha
    clear ha
    subst hst
    have ha := hq9
    obtain ⟨rfl, rfl, rfl, rfl, rfl⟩ := mm_nx_inv ha
    simp only [Nat.sub_self, Nat.add_zero] at kk
    exact lv_ladd hx hb hd (kk H locs arr hW hS hl hn)
  | lmul =>
    have hlen : 1 = len := hlen
    subst hlen
    obtain ⟨x, y, tl, hst, hq9⟩ := mm_l2_inv ha
    clear ha
    subst hst
    have ha := hq9
    obtain ⟨rfl, rfl, rfl, rfl, rfl⟩ := mm_nx_inv ha
    simp only [Nat.sub_self, Nat.add_zero] at kk
    exact lv_lmul hx hb hd (kk H locs arr hW hS hl hn)
  | land =>
    have hlen : 1 = len := hlen
    subst hlen
    obtain ⟨x, y, tl, hst, hq9⟩ := mm_l2_inv ha
    clear ha
    subst hst
    have ha := hq9
    obtain ⟨rfl, rfl, rfl, rfl, rfl⟩ := mm_nx_inv ha
    simp only [Nat.sub_self, Nat.add_zero] at kk
    exact lv_land hx hb hd (kk H locs arr hW hS hl hn)
  | lrem =>
    have hlen : 1 = len := hlen
    subst hlen
    obtain ⟨x, y, tl, hst, hq9⟩ := mm_l2_inv ha
    clear ha
    subst hst
    have ha := hq9
    obtain ⟨hne, ha⟩ := mm_ifn_inv ha
    obtain ⟨rfl, rfl, rfl, rfl, rfl⟩ := mm_nx_inv ha
    simp only [Nat.sub_self, Nat.add_zero] at kk
    exact lv_lrem hx hb hd hne (kk H locs arr hW hS hl hn)
  | lcmp =>
    have hlen : 1 = len := hlen
    subst hlen
    obtain ⟨x, y, tl, hst, hq9⟩ := mm_l2_inv ha
    clear ha
    subst hst
    have ha := hq9
    obtain ⟨rfl, rfl, rfl, rfl, rfl⟩ := mm_nx_inv ha
    simp only [Nat.sub_self, Nat.add_zero] at kk
    exact W.lcmp hx hb hd (kk H locs arr hW hS hl hn)
  | dup =>
    have hlen : 1 = len := hlen
    subst hlen
    obtain ⟨x, tl, hst, hq9⟩ := mm_v1_inv ha
    clear ha
    subst hst
    have ha := hq9
    obtain ⟨hv, ha⟩ := mm_if_inv ha
    obtain ⟨rfl, rfl, rfl, rfl, rfl⟩ := mm_nx_inv ha
    simp only [Nat.sub_self, Nat.add_zero] at kk
    exact lv_dup hx hb hd hv (kk H locs arr hW hS hl hn)
  | pop =>
    have hlen : 1 = len := hlen
    subst hlen
    obtain ⟨x, tl, hst, hq9⟩ := mm_v1_inv ha
    clear ha
    subst hst
    have ha := hq9
    obtain ⟨hv, ha⟩ := mm_if_inv ha
    obtain ⟨rfl, rfl, rfl, rfl, rfl⟩ := mm_nx_inv ha
    simp only [Nat.sub_self, Nat.add_zero] at kk
    exact lv_pop hx hb hd hv (kk H locs arr hW hS hl hn)
  | dup2 =>
    have hlen : 1 = len := hlen
    subst hlen
    obtain ⟨x, y, tl, hst, hq9⟩ := mm_v2_inv ha
    clear ha
    subst hst
    have ha := hq9
    obtain ⟨hv, ha⟩ := mm_if_inv ha
    obtain ⟨rfl, rfl, rfl, rfl, rfl⟩ := mm_nx_inv ha
    simp only [Nat.sub_self, Nat.add_zero] at kk
    exact lv_dup2_11 hx hb hd hv.2 hv.1 (kk H locs arr hW hS hl hn)
  | goto off =>
    have hlen : 3 = len := hlen
    subst hlen
    obtain ⟨ht, rfl, rfl, rfl, rfl⟩ := mm_jp_inv ha
    simp only [Nat.sub_self, Nat.add_zero] at kk
    exact lv_goto hx hb hd ht (kk H locs arr hW hS hl hn)
  | if_icmp cd off =>
    have hlen : 3 = len := hlen
    subst hlen
    obtain ⟨x, y, tl, hst, hq9⟩ := mm_i2_inv ha
    clear ha
    subst hst
    have ha := hq9
    obtain ⟨hge, ha⟩ := mm_if_inv ha
    have ht : (pc : Int) + off = ((((pc : Int) + off).toNat : Nat) : Int) := (Int.toNat_of_nonneg hge).symm
    cases hq : mm_cmp cd x y with
    | true =>
      rw [hq, if_pos rfl] at ha
      obtain ⟨rfl, rfl, rfl, rfl, rfl⟩ := mm_nx_inv ha
      simp only [Nat.sub_self, Nat.add_zero] at kk
      cases cd with
      | eq => exact lv_icmp_eq hx hb hd ht (fun _ => kk H locs arr hW hS hl hn) (fun hf => absurd (of_decide_eq_true hq) hf)
      | ne => exact lv_icmp_ne hx hb hd ht (fun _ => kk H locs arr hW hS hl hn) (fun hf => absurd (of_decide_eq_true hq) (fun h => h hf))
      | lt => exact lv_icmp_lt hx hb hd ht (fun _ => kk H locs arr hW hS hl hn) (fun hf => absurd (of_decide_eq_true hq) hf)
      | ge => exact lv_icmp_ge hx hb hd ht (fun _ => kk H locs arr hW hS hl hn) (fun hf => absurd (of_decide_eq_true hq) hf)
      | gt => exact lv_icmp_gt hx hb hd ht (fun _ => kk H locs arr hW hS hl hn) (fun hf => absurd (of_decide_eq_true hq) hf)
      | le => exact lv_icmp_le hx hb hd ht (fun _ => kk H locs arr hW hS hl hn) (fun hf => absurd (of_decide_eq_true hq) hf)
    | false =>
      rw [hq, if_neg (by decide)] at ha
      obtain ⟨rfl, rfl, rfl, rfl, rfl⟩ := mm_nx_inv ha
      simp only [Nat.sub_self, Nat.add_zero] at kk
      cases cd with
      | eq => exact lv_icmp_eq hx hb hd ht (fun hf => absurd hf (of_decide_eq_false hq)) (fun _ => kk H locs arr hW hS hl hn)
      | ne => exact lv_icmp_ne hx hb hd ht (fun hf => absurd hf (of_decide_eq_false hq)) (fun _ => kk H locs arr hW hS hl hn)
      | lt => exact lv_icmp_lt hx hb hd ht (fun hf => absurd hf (of_decide_eq_false hq)) (fun _ => kk H locs arr hW hS hl hn)
      | ge => exact lv_icmp_ge hx hb hd ht (fun hf => absurd hf (of_decide_eq_false hq)) (fun _ => kk H locs arr hW hS hl hn)
      | gt => exact lv_icmp_gt hx hb hd ht (fun hf => absurd hf (of_decide_eq_false hq)) (fun _ => kk H locs arr hW hS hl hn)
      | le => exact lv_icmp_le hx hb hd ht (fun hf => absurd hf (of_decide_eq_false hq)) (fun _ => kk H locs arr hW hS hl hn)
  | ifCond cd off =>
    have hlen : 3 = len := hlen
    subst hlen
    obtain ⟨x, tl, hst, hq9⟩ := mm_i1_inv ha
    clear ha
    subst hst
    have ha := hq9
    obtain ⟨hge, ha⟩ := mm_if_inv ha
    have ht : (pc : Int) + off = ((((pc : Int) + off).toNat : Nat) : Int) := (Int.toNat_of_nonneg hge).symm
    cases hq : mm_cmp cd x 0 with
    | true =>
      rw [hq, if_pos rfl] at ha
      obtain ⟨rfl, rfl, rfl, rfl, rfl⟩ := mm_nx_inv ha
      simp only [Nat.sub_self, Nat.add_zero] at kk
      cases cd with
      | eq => exact lv_if_eq hx hb hd ht (fun _ => kk H locs arr hW hS hl hn) (fun hf => absurd (of_decide_eq_true hq) hf)
      | ne => exact lv_if_ne hx hb hd ht (fun _ => kk H locs arr hW hS hl hn) (fun hf => absurd (of_decide_eq_true hq) (fun h => h hf))
      | lt => exact lv_if_lt hx hb hd ht (fun _ => kk H locs arr hW hS hl hn) (fun hf => absurd (of_decide_eq_true hq) hf)
      | ge => exact lv_if_ge hx hb hd ht (fun _ => kk H locs arr hW hS hl hn) (fun hf => absurd (of_decide_eq_true hq) hf)
      | gt => exact lv_if_gt hx hb hd ht (fun _ => kk H locs arr hW hS hl hn) (fun hf => absurd (of_decide_eq_true hq) hf)
      | le => exact lv_if_le hx hb hd ht (fun _ => kk H locs arr hW hS hl hn) (fun hf => absurd (of_decide_eq_true hq) hf)
    | false =>
      rw [hq, if_neg (by decide)] at ha
      obtain ⟨rfl, rfl, rfl, rfl, rfl⟩ := mm_nx_inv ha
      simp only [Nat.sub_self, Nat.add_zero] at kk
      cases cd with
      | eq => exact lv_if_eq hx hb hd ht (fun hf => absurd hf (of_decide_eq_false hq)) (fun _ => kk H locs arr hW hS hl hn)
      | ne => exact lv_if_ne hx hb hd ht (fun hf => absurd hf (of_decide_eq_false hq)) (fun _ => kk H locs arr hW hS hl hn)
      | lt => exact lv_if_lt hx hb hd ht (fun hf => absurd hf (of_decide_eq_false hq)) (fun _ => kk H locs arr hW hS hl hn)
      | ge => exact lv_if_ge hx hb hd ht (fun hf => absurd hf (of_decide_eq_false hq)) (fun _ => kk H locs arr hW hS hl hn)
      | gt => exact lv_if_gt hx hb hd ht (fun hf => absurd hf (of_decide_eq_false hq)) (fun _ => kk H locs arr hW hS hl hn)
      | le => exact lv_if_le hx hb hd ht (fun hf => absurd hf (of_decide_eq_false hq)) (fun _ => kk H locs arr hW hS hl hn)
  | tableswitch d lo hi offs =>
    obtain ⟨x, tl, hst, hq9⟩ := mm_i1_inv ha
    clear ha
    subst hst
    have ha := hq9
    unfold mm_ts at ha
    by_cases hq : x.toInt < lo ∨ hi < x.toInt
    · rw [if_pos hq] at ha
      obtain ⟨ht, rfl, rfl, rfl, rfl⟩ := mm_jp_inv ha
      simp only [Nat.sub_self, Nat.add_zero] at kk
      exact lv_tableOut hx hb hd hq ht (kk H locs arr hW hS hl hn)
    · rw [if_neg hq] at ha
      cases ho : offs[(x.toInt - lo).toNat]? with
      | none => rw [ho] at ha; cases ha
      | some off =>
        rw [ho] at ha
        obtain ⟨ht, rfl, rfl, rfl, rfl⟩ := mm_jp_inv ha
        simp only [Nat.sub_self, Nat.add_zero] at kk
        exact lv_tableIn hx hb hd (fun h => hq (Or.inl h)) (fun h => hq (Or.inr h)) ho ht (kk H locs arr hW hS hl hn)
  | lookupswitch d ps =>
    obtain ⟨x, tl, hst, hq9⟩ := mm_i1_inv ha
    clear ha
    subst hst
    have ha := hq9
    obtain ⟨hp, ha⟩ := mm_if_inv ha
    obtain ⟨ht, rfl, rfl, rfl, rfl⟩ := mm_jp_inv ha
    simp only [Nat.sub_self, Nat.add_zero] at kk
    exact lv_lookup hx hb hd hp rfl ht (kk H locs arr hW hS hl hn)
  | getfield k =>
    have hlen : 3 = len := hlen
    subst hlen
    simp only [mm_act, mm_gf] at ha
    cases hf : mm_f (mm_o j) k with
    | none => rw [hf] at ha; cases ha
    | some q =>
      obtain ⟨ci, k2⟩ := q
      rw [hf] at ha
      obtain ⟨a, tl, hst, hq9⟩ := mm_a1_inv ha
      clear ha
      subst hst
      have ha := hq9
      obtain ⟨hsh, ha⟩ := mm_if_inv ha
      obtain ⟨rfl, rfl, rfl, rfl, rfl⟩ := mm_nx_inv ha
      simp only [Nat.sub_self, Nat.add_zero] at kk
      obtain ⟨f1, f2, f3⟩ := mm_f_ok hf
      exact va_get (D := D) (ci := ci) (C := mm_Rn ci) (T := mm_Tn ci) (N := mm_N ci) hx hb hts (mm_uw f2) hown hK hW.2.1 (a - b) (hW.ob hsh) (mm_vw f2) k2 f3 (hts _ f1) (fun _ h9 => h9) (mm_fs_at I r a f3) hd (kk H locs arr hW hS hl hn)
  | putfield k =>
    have hlen : 3 = len := hlen
    subst hlen
    simp only [mm_act, mm_pf] at ha
    cases hf : mm_f (mm_o j) k with
    | none => rw [hf] at ha; cases ha
    | some q =>
      obtain ⟨ci, k2⟩ := q
      rw [hf] at ha
      obtain ⟨f1, f2, f3⟩ := mm_f_ok hf
      rcases mm_pt_inv ha with ⟨a, x, tl, hst, hq9⟩ | ⟨a, x, tl, hst, hq9⟩
      · clear ha
        subst hst
        have ha := hq9
        obtain ⟨⟨hsh, hik, hfin, hbo⟩, ha⟩ := mm_if_inv ha
        obtain ⟨rfl, rfl, rfl, rfl, rfl⟩ := mm_nx_inv ha
        simp only [Nat.sub_self, Nat.add_zero] at kk
        have hne : (mm_S r a).1 ≠ 0 := by rw [hsh]; simp
        have hty : narrow (mm_tyn ci k2) (.int x) = .int x ∧ fits (mm_tyn ci k2) (.int x) = true := mm_nf hik hbo
        refine va_put (D := D) (ci := ci) (v := .int x) (ty := mm_tyn ci k2) (C := mm_Rn ci) (T := mm_Tn ci) (N := mm_N ci) hx hb hts (mm_uw f2) (mm_tyn ci) (mm_tyok f2) (mm_nmok f2) hown hK hW.2.1 (mm_D cA b I r) hS (a - b) (hW.ob hsh) (mm_vw f2) k2 f3 (hts _ f1) (fun _ h9 => h9) hfin (mm_tyok f2 k2 f3) hty.1 hty.2 (by rw [mm_fs_len]; exact f3) hd (fun H1 locs1 hP1 hD1 hS1 => ?_)
        refine kk H1 locs1 arr (hW.putI hne ?_ hP1) hS1 hl hn
        rw [mm_fs_setI I r a x hik f3]
        simp [mm_cell, hsh]
      · clear ha
        subst hst
        have ha := hq9
        obtain ⟨⟨hsh, hik, hfin, hk2, hoc⟩, ha⟩ := mm_if_inv ha
        obtain ⟨rfl, rfl, rfl, rfl, rfl⟩ := mm_nx_inv ha
        have e1 : mm_t (mm_uP r a k2 (some x)) - mm_t r = 0 := Nat.sub_self _
        have e2 : mm_n (mm_uP r a k2 (some x)) - mm_n r = 0 := Nat.sub_self _
        rw [e1, e2, Nat.add_zero, Nat.add_zero] at kk
        have hne : (mm_S r a).1 ≠ 0 := by rw [hsh]; simp
        have hty : narrow (mm_tyn ci k2) (.ref x) = .ref x ∧ fits (mm_tyn ci k2) (.ref x) = true := mm_nr (mm_kin f2 k2 f3) hik
        refine va_putF (D := D) (ci := ci) (v := .ref x) (ty := mm_tyn ci k2) (C := mm_Rn ci) (T := mm_Tn ci) (N := mm_N ci) hx hb hts (mm_uw f2) (mm_tyn ci) (mm_tyok f2) (mm_nmok f2) hown hK hW.2.1 (mm_D cA b I r) hS (a - b) (hW.ob hsh) (mm_vw f2) k2 f3 (hts _ f1) (fun _ h9 => h9) hfin (hin hk2) (by rw [hoc]; exact mm_dcl f2 k2 f3) (mm_tyok f2 k2 f3) hty.1 hty.2 (by rw [mm_fs_len]; exact f3) hd (fun H1 locs1 hP1 hD1 hS1 => ?_)
        refine kk H1 locs1 arr (hW.putP hne ?_ hP1) hS1 hl hn
        rw [mm_fs_setP I r a x hik f3]
        have hsh2 : mm_S (mm_uP r a k2 (some x)) a = (1, ci) := hsh
        simp [mm_cell, hsh2]
  | iaload =>
    have hlen : 1 = len := hlen
    subst hlen
    obtain ⟨a, x, tl, hst, hq9⟩ := mm_ia_inv ha
    clear ha
    subst hst
    have ha := hq9
    obtain ⟨⟨hsh, hv⟩, ha⟩ := mm_if_inv ha
    obtain ⟨rfl, rfl, rfl, rfl, rfl⟩ := mm_nx_inv ha
    simp only [Nat.sub_self, Nat.add_zero] at kk
    exact va_iald (D := D) hx hb hK hW.2.1 (a - b) 0 (hW.iw hsh) rfl hv hd (kk H locs arr hW hS hl hn)
  | laload =>
    have hlen : 1 = len := hlen
    subst hlen
    obtain ⟨a, x, tl, hst, hq9⟩ := mm_ia_inv ha
    clear ha
    subst hst
    have ha := hq9
    obtain ⟨⟨hsh, hv⟩, ha⟩ := mm_if_inv ha
    obtain ⟨rfl, rfl, rfl, rfl, rfl⟩ := mm_nx_inv ha
    simp only [Nat.sub_self, Nat.add_zero] at kk
    exact va_lald (D := D) hx hb hK hW.2.1 (a - b) 1 (hW.lw hsh) rfl hv hd (kk H locs arr hW hS hl hn)
  | iastore =>
    have hlen : 1 = len := hlen
    subst hlen
    obtain ⟨a, i, x, tl, hst, hq9⟩ := mm_iia_inv ha
    clear ha
    subst hst
    have ha := hq9
    obtain ⟨⟨hsh, hv⟩, ha⟩ := mm_if_inv ha
    obtain ⟨rfl, rfl, rfl, rfl, rfl⟩ := mm_nx_inv ha
    simp only [Nat.sub_self, Nat.add_zero] at kk
    have hne : (mm_S r a).1 ≠ 0 := by rw [hsh]; simp
    refine va_iast (D := D) hx hb hK hW.2.1 (mm_D cA b I r) hS (a - b) 0 (hW.iw hsh) rfl hv hd (fun H1 locs1 hP1 hD1 hS1 => ?_)
    refine kk H1 locs1 arr (hW.putI hne ?_ hP1) hS1 hl hn
    simp [mm_cell, hsh, mm_uI]
  | lastore =>
    have hlen : 1 = len := hlen
    subst hlen
    obtain ⟨a, i, x, tl, hst, hq9⟩ := mm_lia_inv ha
    clear ha
    subst hst
    have ha := hq9
    obtain ⟨⟨hsh, hv⟩, ha⟩ := mm_if_inv ha
    obtain ⟨rfl, rfl, rfl, rfl, rfl⟩ := mm_nx_inv ha
    have e1 : mm_t (mm_uG r a i.toNatClampNeg x) - mm_t r = 0 := Nat.sub_self _
    have e2 : mm_n (mm_uG r a i.toNatClampNeg x) - mm_n r = 0 := Nat.sub_self _
    rw [e1, e2, Nat.add_zero, Nat.add_zero] at kk
    have hne : (mm_S r a).1 ≠ 0 := by rw [hsh]; simp
    refine va_last (D := D) hx hb hK hW.2.1 (mm_D cA b I r) hS (a - b) 1 (hW.lw hsh) rfl hv hd (fun H1 locs1 hP1 hD1 hS1 => ?_)
    refine kk H1 locs1 arr (hW.putG hne ?_ hP1) hS1 hl hn
    have hsh2 : (mm_S (mm_uG r a i.toNatClampNeg x) a).1 = 3 := hsh
    simp only [mm_cell, hsh2]
    simp [mm_uG, mm_G, mm_S]
  | aaload =>
    have hlen : 1 = len := hlen
    subst hlen
    obtain ⟨a, x, tl, hst, hq9⟩ := mm_ia_inv ha
    clear ha
    subst hst
    have ha := hq9
    obtain ⟨⟨hsh, hv⟩, ha⟩ := mm_if_inv ha
    obtain ⟨rfl, rfl, rfl, rfl, rfl⟩ := mm_nx_inv ha
    simp only [Nat.sub_self, Nat.add_zero] at kk
    rcases hsh with hsh | hsh
    · exact va_aldq (D := D) hx hb hK hW.2.1 (a - b) 2 (hW.r4 hsh) rfl hv hd (kk H locs arr hW hS hl hn)
    · exact va_aldq (D := D) hx hb hK hW.2.1 (a - b) 3 (hW.r5 hsh) rfl hv hd (kk H locs arr hW hS hl hn)
  | aastore =>
    have hlen : 1 = len := hlen
    subst hlen
    obtain ⟨a, i, x, tl, hst, hq9⟩ := mm_aia_inv ha
    clear ha
    subst hst
    have ha := hq9
    obtain ⟨⟨hsh, hv⟩, ha⟩ := mm_if_inv ha
    obtain ⟨rfl, rfl, rfl, rfl, rfl⟩ := mm_nx_inv ha
    have e1 : mm_t (mm_uP r a i.toNatClampNeg (some x)) - mm_t r = 0 := Nat.sub_self _
    have e2 : mm_n (mm_uP r a i.toNatClampNeg (some x)) - mm_n r = 0 := Nat.sub_self _
    rw [e1, e2, Nat.add_zero, Nat.add_zero] at kk
    rcases hsh with hsh | hsh
    · have hne : (mm_S r a).1 ≠ 0 := by rw [hsh.1]; simp
      refine va_astq (D := D) hx hb hK hW.2.1 (mm_D cA b I r) hS (a - b) 2 (x - b) 0 (hW.r4 hsh.1) rfl (hW.ob hsh.2) (mm_vw (by decide)) hv hd (fun H1 locs1 hP1 hD1 hS1 => ?_)
      refine kk H1 locs1 arr (hW.putP hne ?_ hP1) hS1 hl hn
      have hsh2 : (mm_S (mm_uP r a i.toNatClampNeg (some x)) a).1 = 4 := hsh.1
      simp only [mm_cell, hsh2]
      simp [mm_uP, mm_P, mm_S]
    · have hne : (mm_S r a).1 ≠ 0 := by rw [hsh.1]; simp
      refine va_astq (D := D) hx hb hK hW.2.1 (mm_D cA b I r) hS (a - b) 3 (x - b) 3 (hW.r5 hsh.1) rfl (hW.ob hsh.2) (mm_vw (by decide)) hv hd (fun H1 locs1 hP1 hD1 hS1 => ?_)
      refine kk H1 locs1 arr (hW.putP hne ?_ hP1) hS1 hl hn
      have hsh2 : (mm_S (mm_uP r a i.toNatClampNeg (some x)) a).1 = 5 := hsh.1
      simp only [mm_cell, hsh2]
      simp [mm_uP, mm_P, mm_S]
  | newarray at2 =>
    have hlen : 2 = len := hlen
    subst hlen
    cases at2 with
    | int =>
      obtain ⟨x, tl, hst, hq9⟩ := mm_i1_inv ha
      clear ha
      subst hst
      have ha := hq9
      obtain ⟨⟨hx0, hx1⟩, ha⟩ := mm_if_inv ha
      obtain ⟨rfl, rfl, rfl, rfl, rfl⟩ := mm_nx_inv ha
      have e1 : mm_t (mm_nR r (2, x.toNatClampNeg) x.toNatClampNeg) - mm_t r = 1 := by show mm_t r + 1 - mm_t r = 1; omega
      have e2 : mm_n (mm_nR r (2, x.toNatClampNeg) x.toNatClampNeg) - mm_n r = x.toNatClampNeg := by show mm_n r + x.toNatClampNeg - mm_n r = x.toNatClampNeg; omega
      rw [e1] at kk hc
      rw [e2] at kk hs
      refine va_newa (D := D) (atype := .int) (ty := .int) (N' := x.toNatClampNeg) (a0 := (x.toNatClampNeg, .inl (fun _ => 0))) hx hb (hts _ mw_41) rfl hK hW.2.1 (mm_D cA b I r) hS (fun q h => Nat.le_trans hbs h) (fun cA2 => rfl) hx0 rfl (by show x.toNatClampNeg * 4 ≤ 536870912; omega) hc hs hd (fun q cN H1 hK1 hP1 hD1 hS1 => ?_)
      have hcN : cN = cA 0 := mm_sameA hK hK1 0 rfl rfl rfl
      subst hcN
      refine mm_sz (fun hsz => ?_)
      have hq : q = mm_t r := mm_fresh hW hD1 hP1 (by omega)
      subst hq
      exact kk H1 locs arr (hW.new (by simp [mm_cell, mm_nR, mm_nI, mm_S, mm_G, mm_P]) hP1) hS1 hl hn
    | long =>
      obtain ⟨x, tl, hst, hq9⟩ := mm_i1_inv ha
      clear ha
      subst hst
      have ha := hq9
      obtain ⟨⟨hx0, hx1⟩, ha⟩ := mm_if_inv ha
      obtain ⟨rfl, rfl, rfl, rfl, rfl⟩ := mm_nx_inv ha
      have e1 : mm_t (mm_nR r (3, x.toNatClampNeg) x.toNatClampNeg) - mm_t r = 1 := by show mm_t r + 1 - mm_t r = 1; omega
      have e2 : mm_n (mm_nR r (3, x.toNatClampNeg) x.toNatClampNeg) - mm_n r = x.toNatClampNeg := by show mm_n r + x.toNatClampNeg - mm_n r = x.toNatClampNeg; omega
      rw [e1] at kk hc
      rw [e2] at kk hs
      refine va_newa (D := D) (atype := .long) (ty := .long) (N' := x.toNatClampNeg) (a0 := (x.toNatClampNeg, .inr (.inl (fun _ => 0)))) hx hb (hts _ mw_77) rfl hK hW.2.1 (mm_D cA b I r) hS (fun q h => Nat.le_trans hbs h) (fun cA2 => rfl) hx0 rfl (by show x.toNatClampNeg * 8 ≤ 536870912; omega) hc hs hd (fun q cN H1 hK1 hP1 hD1 hS1 => ?_)
      have hcN : cN = cA 1 := mm_sameA hK hK1 1 rfl rfl rfl
      subst hcN
      refine mm_sz (fun hsz => ?_)
      have hq : q = mm_t r := mm_fresh hW hD1 hP1 (by omega)
      subst hq
      exact kk H1 locs arr (hW.new (by simp [mm_cell, mm_nR, mm_nI, mm_S, mm_G, mm_P]) hP1) hS1 hl hn
    | _ => exact absurd (show (none : Option mm_O) = some _ from ha) (fun h => by cases h)
  | anewarray k =>
    have hlen : 3 = len := hlen
    subst hlen
    simp only [mm_act] at ha
    split at ha
    case h_1 hf =>
      · obtain ⟨x, tl, hst, hq9⟩ := mm_i1_inv ha
        clear ha
        subst hst
        have ha := hq9
        obtain ⟨⟨hx0, hx1⟩, ha⟩ := mm_if_inv ha
        obtain ⟨rfl, rfl, rfl, rfl, rfl⟩ := mm_nx_inv ha
        have e1 : mm_t (mm_nR r (4, x.toNatClampNeg) x.toNatClampNeg) - mm_t r = 1 := by show mm_t r + 1 - mm_t r = 1; omega
        have e2 : mm_n (mm_nR r (4, x.toNatClampNeg) x.toNatClampNeg) - mm_n r = x.toNatClampNeg := by show mm_n r + x.toNatClampNeg - mm_n r = x.toNatClampNeg; omega
        rw [e1] at kk hc
        rw [e2] at kk hs
        refine va_newq (D := D) (N' := x.toNatClampNeg) hx hb hown (hts _ (mm_kk_ok hf).1) hA0 hK hW.2.1 (mm_D cA b I r) hS (fun q h => Nat.le_trans hbs h) hx0 rfl (by omega) hc hs hd (fun q cN H1 hK1 hP1 hD1 hS1 => ?_)
        have hcN : cN = cA 2 := mm_sameR hK hK1 2 rfl rfl
        subst hcN
        refine mm_sz (fun hsz => ?_)
        have hq : q = mm_t r := mm_fresh hW hD1 hP1 (by omega)
        subst hq
        exact kk H1 locs arr (hW.new (by simp [mm_cell, mm_nR, mm_nI, mm_S, mm_G, mm_P]) hP1) hS1 hl hn
    case h_2 hf =>
      · obtain ⟨x, tl, hst, hq9⟩ := mm_i1_inv ha
        clear ha
        subst hst
        have ha := hq9
        obtain ⟨⟨hx0, hx1⟩, ha⟩ := mm_if_inv ha
        obtain ⟨rfl, rfl, rfl, rfl, rfl⟩ := mm_nx_inv ha
        have e1 : mm_t (mm_nR r (5, x.toNatClampNeg) x.toNatClampNeg) - mm_t r = 1 := by show mm_t r + 1 - mm_t r = 1; omega
        have e2 : mm_n (mm_nR r (5, x.toNatClampNeg) x.toNatClampNeg) - mm_n r = x.toNatClampNeg := by show mm_n r + x.toNatClampNeg - mm_n r = x.toNatClampNeg; omega
        rw [e1] at kk hc
        rw [e2] at kk hs
        refine va_newq (D := D) (N' := x.toNatClampNeg) hx hb hown (hts _ (mm_kk_ok hf).1) hA3 hK hW.2.1 (mm_D cA b I r) hS (fun q h => Nat.le_trans hbs h) hx0 rfl (by omega) hc hs hd (fun q cN H1 hK1 hP1 hD1 hS1 => ?_)
        have hcN : cN = cA 3 := mm_sameR hK hK1 3 rfl rfl
        subst hcN
        refine mm_sz (fun hsz => ?_)
        have hq : q = mm_t r := mm_fresh hW hD1 hP1 (by omega)
        subst hq
        exact kk H1 locs arr (hW.new (by simp [mm_cell, mm_nR, mm_nI, mm_S, mm_G, mm_P]) hP1) hS1 hl hn
    case h_3 => cases ha
  | new k =>
    have hlen : 3 = len := hlen
    subst hlen
    simp only [mm_act] at ha
    cases hf : mm_kk (mm_o j) k with
    | none => rw [hf] at ha; cases ha
    | some ci =>
      rw [hf] at ha
      obtain ⟨rfl, rfl, rfl, rfl, rfl⟩ := mm_nx_inv ha
      have e1 : mm_t (mm_nR r (1, ci) (mm_N ci)) - mm_t r = 1 := by show mm_t r + 1 - mm_t r = 1; omega
      have e2 : mm_n (mm_nR r (1, ci) (mm_N ci)) - mm_n r = (mm_N ci) := by show mm_n r + (mm_N ci) - mm_n r = (mm_N ci); omega
      rw [e1] at kk hc
      rw [e2] at kk hs
      obtain ⟨f1, f2⟩ := mm_kk_ok hf
      refine va_new (D := D) (ci := ci) (fs := mm_fs ci (mm_nI I r) (mm_nR r (1, ci) (mm_N ci)) (mm_t r)) (C := mm_Rn ci) (T := mm_Tn ci) (N := mm_N ci) hx hb hts (mm_uw f2) (mm_tyn ci) (mm_tyok f2) hown (hts _ f1) (hts _ (mm_inst f2).1) (hts _ (mm_inst f2).2) hK hW.2.1 (mm_D cA b I r) hS (fun q h => Nat.le_trans hbs h) (mm_vw f2) (fun i hi => mm_dflt f2 i hi I r) hc hs hd (fun q H1 hP1 hD1 hS1 => ?_)
      refine mm_sz (fun hsz => ?_)
      have hq : q = mm_t r := mm_fresh hW hD1 hP1 (by omega)
      subst hq
      exact kk H1 locs arr (hW.new (by simp [mm_cell, mm_nR, mm_S]) hP1) hS1 hl hn
  | invokevirtual k =>
    simp only [mm_act] at ha
    split at ha
    · unfold mm_vc at ha
      split at ha
      · have := (mm_if_inv ha).2; cases this
      · cases ha
    · cases ha
  | invokestatic k =>
    have hlen : 3 = len := hlen
    subst hlen
    simp only [mm_act] at ha
    split at ha
    · unfold mm_sc at ha
      have := (mm_if_inv ha).2; cases this
    · obtain ⟨hcn, ha⟩ := mm_if_inv ha
      obtain ⟨b2, sp, a, dp, n, tl, hst, hq9⟩ := mm_cp_inv ha
      clear ha
      subst hst
      have ha := hq9
      obtain ⟨⟨⟨h0, hw8⟩, hs1, hs2, h1, h2, h3, h4, h5⟩, ha⟩ := mm_if_inv ha
      obtain ⟨rfl, rfl, rfl, rfl, rfl⟩ := mm_nx_inv ha
      have e1 : mm_t (mm_cG r a b2 sp.toNatClampNeg dp.toNatClampNeg n.toNatClampNeg) - mm_t r = 0 := Nat.sub_self _
      have e2 : mm_n (mm_cG r a b2 sp.toNatClampNeg dp.toNatClampNeg n.toNatClampNeg) - mm_n r = 0 := Nat.sub_self _
      rw [e1, e2, Nat.add_zero, Nat.add_zero] at kk
      have hlk2 := mm_nT_ok _ (List.contains_iff_mem.mp hcn)
      have hw : (tl.map fun v => v.category).sum ≤ 8 := of_decide_eq_true hw8
      have hne : (mm_S r a).1 ≠ 0 := by rw [hs2]; simp
      refine va_copyl (D := D) (ty := .long) hx hb (by rw [hml, ← hn, hl.1]) hown (hts _ hlk2) (hts _ mw_769) (hts _ mw_770) (hts _ mw_771) hK hW.2.1 (mm_D cA b I r) hS (b2 - b) (a - b) 1 1 (hW.lw hs1) (hW.lw hs2) rfl rfl rfl h1 h2 h3 h4 h5 (fun _ _ => rfl) (by omega) (by show _ + (7 + 11) ≤ _; omega) hd (fun H1 locs1 hP1 hD1 hS1 => ?_)
      refine kk H1 locs1 arr (hW.putC hne ?_ hP1) hS1 hl hn
      have hsh2 : (mm_S (mm_cG r a b2 sp.toNatClampNeg dp.toNatClampNeg n.toNatClampNeg) a).1 = 3 := hs2
      simp only [mm_cell, hsh2]
      simp [mm_cG, mm_G, mm_S]
  | invokespecial k =>
    have hlen : 3 = len := hlen
    subst hlen
    simp only [mm_act] at ha
    split at ha
    · unfold mm_xc at ha
      split at ha
      · have := (mm_if_inv ha).2; cases this
      · cases ha
    · obtain ⟨hcn, ha⟩ := mm_if_inv ha
      obtain ⟨a, tl, hst, hq9⟩ := mm_a1_inv ha
      clear ha
      subst hst
      have ha := hq9
      obtain ⟨⟨h0, hw8⟩, ha⟩ := mm_if_inv ha
      obtain ⟨rfl, rfl, rfl, rfl, rfl⟩ := mm_nx_inv ha
      simp only [Nat.sub_self, Nat.add_zero] at kk
      have hlk2 := mm_oT_ok _ (List.contains_iff_mem.mp hcn)
      have hw : (tl.map fun v => v.category).sum ≤ 8 := of_decide_eq_true hw8
      exact W.objInit hx hb hown (hts _ hlk2) (hts _ mw_11) (hts _ mw_12) rfl (by rw [hml, ← hn]; exact hl.1) rfl hd (by omega) (by show 2 * 0 + _ + 12 ≤ _; omega) (kk H locs arr hW hS hl hn)
  | ireturn =>
    obtain ⟨x, tl, hst, hq9⟩ := mm_i1_inv ha
    clear ha
    subst hst
    have ha := hq9
    have := (mm_if_inv ha).2; cases this
  | lreturn =>
    obtain ⟨x, tl, hst, hq9⟩ := mm_l1_inv ha
    clear ha
    subst hst
    have ha := hq9
    have := (mm_if_inv ha).2; cases this
  | return_ =>
    have := (mm_if_inv ha).2; cases this
  | _ =>
    exact absurd (show (none : Option mm_O) = some _ from ha) (fun h => by cases h)
end
end
section
set_option maxHeartbeats 4000000 in
theorem mm_mt {j pc : Nat} {i : Instr} {ls : mm_L} {st : List Value} {I : mm_I} {r : mm_R} {pc' : Nat} {ls' : mm_L} {st' : List Value} {I' : mm_I} {r' : mm_R} (ha : mm_act j pc i ls st I r = some (.inl (pc', ls', st', I', r'))) : mm_t r ≤ mm_t r' ∧ mm_n r ≤ mm_n r' := by
  cases i <;> simp only [mm_act, mm_li, mm_ll, mm_la, mm_s1, mm_i1, mm_i2, mm_l1, mm_l2, mm_a1, mm_ia, mm_iia, mm_lia, mm_aia, mm_v1, mm_v2, mm_pt, mm_cp, mm_jp, mm_go, mm_ts, mm_gf, mm_pf, mm_vc, mm_xc, mm_sc, mm_ocp, mm_rti, mm_rtl, mm_nx] at ha <;> (repeat' split at ha) <;> (cases ha <;> first | exact ⟨Nat.le_refl _, Nat.le_refl _⟩ | exact ⟨Nat.le_succ _, Nat.le_add_right _ _⟩)
theorem mm_flt_l {i : Instr} {o : Option mm_O} {q : mm_C} (h : mm_flt i o = some (.inl q)) : o = some (.inl q) := by
  unfold mm_flt at h
  split at h
  · cases h; rfl
  · have := (mm_if_inv h).2; cases this
  · have := (mm_if_inv h).2; cases this
  · cases h
theorem mm_flt_r {i : Instr} {o : Option mm_O} {v : Option Value} (h : mm_flt i o = some (.inr (.inl v))) : mm_iR i = true ∧ o = some (.inr (.inl v)) := by
  unfold mm_flt at h
  split at h
  · cases h
  · obtain ⟨h1, h2⟩ := mm_if_inv h
    cases h2
    exact ⟨h1, rfl⟩
  · have := (mm_if_inv h).2; cases this
  · cases h
theorem mm_flt_c {i : Instr} {o : Option mm_O} {q : Nat × List Value × Nat × List Value} (h : mm_flt i o = some (.inr (.inr q))) : mm_iC i = true ∧ o = some (.inr (.inr q)) := by
  unfold mm_flt at h
  split at h
  · cases h
  · have := (mm_if_inv h).2; cases this
  · obtain ⟨h1, h2⟩ := mm_if_inv h
    cases h2
    exact ⟨h1, rfl⟩
  · cases h
theorem mm_stp_inv {j pc : Nat} {ls : mm_L} {st : List Value} {I : mm_I} {r : mm_R} {o : mm_O} (h : mm_stp j pc ls st I r = some o) : ∃ i len, decode (mm_c j) pc = .ok (i, len) ∧ (mm_len i).getD len = len ∧ mm_flt i (mm_act j pc i ls st I r) = some o := by
  unfold mm_stp at h
  split at h
  · rename_i q hq
    obtain ⟨h1, h2⟩ := mm_if_inv h
    exact ⟨q.1, q.2, hq, h1, h2⟩
  · cases h
theorem mm_run_mt : ∀ (n j pc : Nat) (ls : mm_L) (st : List Value) (I : mm_I) (r : mm_R) (u : Option Value × mm_I × mm_R), mm_run n j pc ls st I r = some u → mm_t r ≤ mm_t u.2.2 ∧ mm_n r ≤ mm_n u.2.2 := by
  intro n
  induction n with
  | zero => intro j pc ls st I r u h; simp [mm_run] at h
  | succ n ih =>
    intro j pc ls st I r u h
    rw [mm_run] at h
    cases hs : mm_stp j pc ls st I r with
    | none => rw [hs] at h; cases h
    | some o =>
      rw [hs] at h
      obtain ⟨i, len, hd, hlen, hf⟩ := mm_stp_inv hs
      rcases o with q | v | q
      · obtain ⟨pc', ls', st', I', r'⟩ := q
        have h1 := mm_mt (mm_flt_l hf)
        have h2 := ih _ _ _ _ _ _ _ h
        exact ⟨Nat.le_trans h1.1 h2.1, Nat.le_trans h1.2 h2.2⟩
      · cases h
        exact ⟨Nat.le_refl _, Nat.le_refl _⟩
      · dsimp only at h
        cases hr : mm_run n q.1 0 (mm_en q.1 q.2.1) [] I r with
        | none => rw [hr] at h; cases h
        | some w =>
          rw [hr] at h
          have h1 := ih _ _ _ _ _ _ _ hr
          have h2 := ih _ _ _ _ _ _ _ h
          exact ⟨Nat.le_trans h1.1 h2.1, Nat.le_trans h1.2 h2.2⟩
def mm_Q (D : va_G) (cA : Nat → ClassId) (b : Nat) (v : Option Value) (I : mm_I) (r : mm_R) : Array Value → State → Outcome → State → Prop := fun _ st oc t => oc = .returned v ∧ mm_Wd D cA b I r t.heap ∧ t.heap.size = mm_t r ∧ va_F (mm_A b) st t
def mm_w (j : Nat) : List Cond := Cond.code (mm_y j) (mm_c j) (mm_x j) (mm_r j) :: mm_U
def mm_B (D : va_G) (cA : Nat → ClassId) (b : Nat) (I : mm_I) (r : mm_R) (U : State) : Prop := b ≤ U.heap.size ∧ U.heap.size = mm_t r ∧ mm_Wd D cA b I r U.heap ∧ va_K D vwCl (mm_tys cA) U ∧ va_AO RX0 U ∧ va_AO RX3 U
def mm_Met (l : Launch) (D : va_G) (cA : Nat → ClassId) (b j : Nat) (av : List Value) (I : mm_I) (r : mm_R) (v : Option Value) (I1 : mm_I) (r1 : mm_R) : Prop := Met l (mm_y j) (mm_w j) { frames := mm_h j, cells := mm_t r1 - mm_t r, slots := mm_n r1 - mm_n r, locals := 34 * mm_h j } (va_Pc av (mm_B D cA b I r)) (mm_Q D cA b v I1 r1) (mm_t r1 - mm_t r) (mm_n r1 - mm_n r) (mm_A b)
theorem mm_B.moved {D : va_G} {cA : Nat → ClassId} {b : Nat} {I : mm_I} {r : mm_R} {u U : State} (hvm : u.vm.Alike U.vm) (hh : U.heap = u.heap) (h : mm_B D cA b I r u) : mm_B D cA b I r U := ⟨by rw [hh]; exact h.1, by rw [hh]; exact h.2.1, by rw [hh]; exact h.2.2.1, va_K.moved hvm h.2.2.2.1, va_AO.moved hvm h.2.2.2.2.1, va_AO.moved hvm h.2.2.2.2.2⟩
theorem mm_blind {D : va_G} {cA : Nat → ClassId} {b : Nat} {I : mm_I} {r : mm_R} {av : List Value} : FrameBlind (va_Pc av (mm_B D cA b I r)) := fun a U g mk h => ⟨h.1, mm_B.moved (u := U) (U := U.calling g mk a) (Vm.Alike.refl U.vm) rfl h.2⟩
theorem mm_good (j : Nat) {j2 : Nat} (h : mm_ok j2) : GoodIn (mm_w j) (mm_w j2) := by
  intro w hw
  rcases List.mem_cons.mp hw with rfl | hw
  · exact ⟨List.mem_cons_of_mem _ h.1, mm_U_good _ h.1⟩
  · exact ⟨List.mem_cons_of_mem _ hw, mm_U_good _ hw⟩
section
variable {p : Program} {l : Launch} {e : Env} {R : Room} {s : State} {m : MethodId} {args : Array Value} {below : List Frame} {meth : Method} {c : Code} {H : Heap} {locs : List Loc} {cells slots : Nat} {Q : State → Prop}
variable {D : va_G} {cA : Nat → ClassId} {b j : Nat} {I : mm_I} {r : mm_R}
theorem mm_ret (X : mm_Cx D cA b j p R s m args meth c) {pc len : Nat} {i : Instr} (hd : decode (mm_c j) pc = .ok (i, len)) (hlen : (mm_len i).getD len = len) {ls : mm_L} {st : List Value} {v : Option Value} (hi : mm_iR i = true) (ha : mm_act j pc i ls st I r = some (.inr (.inl v)))
    {arr : Array Slot} (hW : mm_Wd D cA b I r H) (hS : va_S (mm_A b) s.heap H locs) (hz : s.heap.size + cells = mm_t r) : W p l e R s m args below meth c H locs cells slots (MQ below (mm_Q D cA b v I r) args s cells slots (mm_A b)) (F0 m pc arr st) := by
  obtain ⟨hx, hb, hml, hr, hlk, hin, hown, hts, hK, hA0, hA3, hbs, hfr, hlo⟩ := X
  refine mm_sz (fun hsz => ?_)
  have hge := hW.ge hS hbs
  have heq : H.size = mm_t r := by omega
  cases i with
  | ireturn =>
    have hlen : 1 = len := hlen
    subst hlen
    obtain ⟨x, tl, hst, ha1⟩ := mm_i1_inv ha
    clear ha
    subst hst
    obtain ⟨⟨htl, ht⟩, ha2⟩ := mm_if_inv ha1
    subst htl
    cases ha2
    rcases ht with ht | ⟨ht, hx01⟩
    · exact W.iret hx hb (hr.trans ht) (fun t ht2 hW2 => ⟨rfl, by rw [ht2]; exact hW, by rw [ht2]; exact heq, hS.F ht2⟩) hS.2.2 hd hlk
    · exact W.zret hx hb (hr.trans ht) (by rcases hx01 with rfl | rfl <;> rfl) (fun t ht2 hW2 => ⟨rfl, by rw [ht2]; exact hW, by rw [ht2]; exact heq, hS.F ht2⟩) hS.2.2 hd hlk
  | lreturn =>
    have hlen : 1 = len := hlen
    subst hlen
    obtain ⟨x, tl, hst, ha1⟩ := mm_l1_inv ha
    clear ha
    subst hst
    obtain ⟨⟨htl, ht⟩, ha2⟩ := mm_if_inv ha1
    subst htl
    cases ha2
    exact W.lret hx hb (hr.trans ht) (fun t ht2 hW2 => ⟨rfl, by rw [ht2]; exact hW, by rw [ht2]; exact heq, hS.F ht2⟩) hS.2.2 hd hlk
  | return_ =>
    have hlen : 1 = len := hlen
    subst hlen
    obtain ⟨⟨htl, ht⟩, ha2⟩ := mm_if_inv ha
    clear ha
    subst htl
    cases ha2
    exact W.vret hx hb (hr.trans ht) (fun t ht2 hW2 => ⟨rfl, by rw [ht2]; exact hW, by rw [ht2]; exact heq, hS.F ht2⟩) hS.2.2 hd hlk
  | _ => cases hi
theorem mm_goon {pc : Nat} {ls : Array Slot} {rest st0 : List Value} {a : Array Value} {mc ms : Nat} {v : Option Value} {I1 : mm_I} {r1 : mm_R} (hr : va_Run p l e R s m args below meth c H locs cells slots mc ms (F0 m pc ls st0) rest (mm_Q D cA b v I1 r1 a) (mm_A b)) (hS : va_S (mm_A b) s.heap H locs)
    (kk : ∀ (H1 : Heap) (locs1 : List Loc), mm_Wd D cA b I1 r1 H1 → va_S (mm_A b) s.heap H1 locs1 → W p l e R s m args below meth c H1 locs1 (cells + mc) (slots + ms) Q (F0 m (pc + 3) ls (v.toList ++ rest))) : W p l e R s m args below meth c H locs cells slots Q (F0 m pc ls st0) := by
  intro T hT X
  obtain ⟨v2, st₀, t, T', L, h0, X', hL, e1, e2, ⟨hv, hW1, hz1, hz, hk⟩, st⟩ := hr T hT X
  cases hv
  rw [h0] at hz hk
  obtain ⟨t2, a1, b1⟩ := kk T'.heap (locs ++ L) (by rw [e1]; exact hW1)
    ⟨Nat.le_trans hS.1 (by rw [e1]; exact hz), fun q h1 h2 => by rw [e1, hk q (Nat.lt_of_lt_of_le h1 hS.1) h2]; exact hS.2.1 q h1 h2, fun q hq => by
      rcases List.mem_append.mp hq with h | h
      · exact hS.2.2 q h
      · exact hL q h⟩ T' rfl X'
  exact ⟨t2, st t2 a1, b1⟩
end
end
section
theorem mm_sl_lg (av : List Value) : mm_sl av = (lg_sl av).map (fun x => match x with
  | .val v => some v
  | _ => none) := by
  induction av with
  | nil => rfl
  | cons v t ih =>
    unfold mm_sl lg_sl at ih ⊢
    rw [List.flatMap_cons, List.flatMap_cons, List.map_append, ← ih]
    congr 1
    by_cases h : v.category = 2
    · rw [if_pos h, if_pos h]; rfl
    · rw [if_neg h, if_neg h]; rfl
theorem mm_en_lv {av : List Value} {j : Nat} (h : (mm_sl av).length ≤ mm_x j) : mm_lv ((lg_sl av ++ List.replicate (mm_x j - (lg_sl av).length) Slot.unset).toArray) (mm_en j av) ∧ (mm_en j av).length = mm_x j := by
  have hlen : (mm_sl av).length = (lg_sl av).length := by rw [mm_sl_lg, List.length_map]
  have h1 := lv_entry av (n := mm_x j) (by rw [← hlen]; exact h)
  have h2 : (mm_en j av).length = mm_x j := by unfold mm_en; simp; omega
  refine ⟨⟨by rw [h2]; exact h1.1, h1.2.1, fun i v hv => ?_⟩, h2⟩
  unfold mm_ld mm_en at hv
  rw [List.getElem?_toArray]
  by_cases hi : i < (mm_sl av).length
  · rw [List.getElem?_append_left hi] at hv
    rw [List.getElem?_append_left (by rw [← hlen]; exact hi)]
    rw [mm_sl_lg, List.getElem?_map] at hv
    cases hq : (lg_sl av)[i]? with
    | none => rw [hq] at hv; cases hv
    | some x =>
      rw [hq] at hv
      cases x with
      | val w => cases hv; rfl
      | _ => cases hv
  · rw [List.getElem?_append_right (by omega)] at hv
    rw [List.getElem?_replicate] at hv
    split at hv
    · cases hv
    · cases hv
theorem mm_goodU {j2 : Nat} (h : mm_ok j2) : GoodIn mm_U (mm_w j2) := by
  intro w hw
  rcases List.mem_cons.mp hw with rfl | hw
  · exact ⟨h.1, mm_U_good _ h.1⟩
  · exact ⟨hw, mm_U_good _ hw⟩
section
variable {p : Program} {l : Launch} {e : Env} {R : Room} {s : State} {m : MethodId} {args : Array Value} {below : List Frame} {meth : Method} {c : Code} {H : Heap} {locs : List Loc} {cells slots : Nat} {Q : State → Prop}
variable {D : va_G} {cA : Nat → ClassId} {b j : Nat} {I : mm_I} {r : mm_R}
theorem mm_act_c {j pc : Nat} {i : Instr} {ls : mm_L} {st : List Value} {I : mm_I} {r : mm_R} {j2 pc' : Nat} {av st' : List Value} (hi : mm_iC i = true) (ha : mm_act j pc i ls st I r = some (.inr (.inr (j2, av, pc', st')))) : (j2 < 164 ∧ (mm_sl av).length ≤ mm_x j2 ∧ mm_x j2 ≤ 15 ∧ mm_h j2 < mm_h j ∧ mm_w8 st' = true ∧ pc' = pc + 3) ∧
    ((∃ k a As, i = .invokevirtual k ∧ Cond.methodLink (mm_Rn (mm_o j)) k (mm_y j2) ∈ mm_U ∧ av = .ref a :: As ∧ As.length = mm_a j2 ∧ st = As.reverse ++ .ref a :: st' ∧ mm_k j2 = 0 ∧ mm_S r a = (1, mm_o j2)) ∨
     (∃ k, i = .invokestatic k ∧ Cond.methodLink (mm_Rn (mm_o j)) k (mm_y j2) ∈ mm_U ∧ av.length = mm_a j2 ∧ st = av.reverse ++ st' ∧ mm_k j2 = 1) ∨
     (∃ k a As, i = .invokespecial k ∧ Cond.methodLink (mm_Rn (mm_o j)) k (mm_y j2) ∈ mm_U ∧ av = .ref a :: As ∧ As.length = mm_a j2 ∧ st = As.reverse ++ .ref a :: st' ∧ mm_k j2 = 2)) := by
  cases i with
  | invokevirtual k =>
    simp only [mm_act] at ha
    cases hf : mm_m (mm_o j) k with
    | none => rw [hf] at ha; cases ha
    | some j3 =>
      rw [hf] at ha
      dsimp only at ha
      unfold mm_vc at ha
      split at ha
      · rename_i a tl hdrop
        obtain ⟨⟨c1, c2, c3, c4, c5, c6, c7⟩, h⟩ := mm_if_inv ha
        cases h
        obtain ⟨f1, f2⟩ := mm_m_ok hf
        refine ⟨⟨f2, c7, c6, c3, c4, rfl⟩, Or.inl ⟨k, a, _, rfl, f1, rfl, by rw [List.length_reverse]; exact c1, ?_, c2, c5⟩⟩
        rw [List.reverse_reverse, ← hdrop, List.take_append_drop]
      · cases ha
  | invokestatic k =>
    simp only [mm_act] at ha
    cases hf : mm_m (mm_o j) k with
    | none =>
      rw [hf] at ha
      dsimp only at ha
      obtain ⟨-, ha⟩ := mm_if_inv ha
      obtain ⟨_, _, _, _, _, _, -, ha⟩ := mm_cp_inv ha
      have := (mm_if_inv ha).2
      cases this
    | some j3 =>
      rw [hf] at ha
      dsimp only at ha
      unfold mm_sc at ha
      obtain ⟨⟨c1, c2, c3, c4, c6, c7⟩, h⟩ := mm_if_inv ha
      cases h
      obtain ⟨f1, f2⟩ := mm_m_ok hf
      refine ⟨⟨f2, c7, c6, c3, c4, rfl⟩, Or.inr (Or.inl ⟨k, rfl, f1, by rw [List.length_reverse]; exact c1, ?_, c2⟩)⟩
      rw [List.reverse_reverse, List.take_append_drop]
  | invokespecial k =>
    simp only [mm_act] at ha
    cases hf : mm_m (mm_o j) k with
    | none =>
      rw [hf] at ha
      dsimp only at ha
      obtain ⟨-, ha⟩ := mm_if_inv ha
      obtain ⟨_, _, -, ha⟩ := mm_a1_inv ha
      have := (mm_if_inv ha).2
      cases this
    | some j3 =>
      rw [hf] at ha
      dsimp only at ha
      unfold mm_xc at ha
      split at ha
      · rename_i a tl hdrop
        obtain ⟨⟨c1, c2, c3, c4, c6, c7⟩, h⟩ := mm_if_inv ha
        cases h
        obtain ⟨f1, f2⟩ := mm_m_ok hf
        refine ⟨⟨f2, c7, c6, c3, c4, rfl⟩, Or.inr (Or.inr ⟨k, a, _, rfl, f1, rfl, by rw [List.length_reverse]; exact c1, ?_, c2⟩)⟩
        rw [List.reverse_reverse, ← hdrop, List.take_append_drop]
      · cases ha
  | _ => cases hi
theorem mm_cal (X : mm_Cx D cA b j p R s m args meth c) {pc len : Nat} {i : Instr} (hd : decode (mm_c j) pc = .ok (i, len)) (hlen : (mm_len i).getD len = len) {ls : mm_L} {st : List Value} {j2 pc' : Nat} {av st' : List Value} (hi : mm_iC i = true) (ha : mm_act j pc i ls st I r = some (.inr (.inr (j2, av, pc', st'))))
    {v : Option Value} {I1 : mm_I} {r1 : mm_R} (hM : mm_Met l D cA b j2 av I r v I1 r1)
    {arr : Array Slot} (hW : mm_Wd D cA b I r H) (hS : va_S (mm_A b) s.heap H locs) (hl : mm_lv arr ls) (hn : ls.length = mm_x j) (hz : s.heap.size + cells = mm_t r) (hc : cells + (mm_t r1 - mm_t r) ≤ R.cells) (hs : slots + (mm_n r1 - mm_n r) ≤ R.slots)
    (kk : mm_KK p l e R s m args below meth c Q D cA b j (cells + (mm_t r1 - mm_t r)) (slots + (mm_n r1 - mm_n r)) pc' ls (v.toList ++ st') I1 r1) : W p l e R s m args below meth c H locs cells slots Q (F0 m pc arr st) := by
  obtain ⟨⟨f2, hsl, hx15, hh, hw8, rfl⟩, hcase⟩ := mm_act_c hi ha
  clear ha
  obtain ⟨hx, hb, hml, hr, hlk, hin, hown, hts, hK, hA0, hA3, hbs, hfr, hlo⟩ := X
  refine mm_sz (fun hsz => ?_)
  have hge := hW.ge hS hbs
  have heq : H.size = mm_t r := by omega
  obtain ⟨o1, o2, ⟨o3, o4, o5, o6, o7⟩, o8, o9, o10⟩ := mm_ok_all j2 f2
  have hok : mm_ok j2 := ⟨o1, o2, ⟨o3, o4, o5, o6, o7⟩, o8, o9, o10⟩
  have hw : (st'.map fun v => v.category).sum ≤ 8 := of_decide_eq_true hw8
  have hB : ∀ U : State, U.heap = H → s.WarmedH U.vm → mm_B D cA b I r U := fun U hU hW2 => ⟨by rw [hU]; omega, by rw [hU]; exact heq, by rw [hU]; exact hW, va_K.moved hW2.alike hK, va_AO.moved hW2.alike hA0, va_AO.moved hW2.alike hA3⟩
  have hR : ({ frames := mm_h j2, cells := mm_t r1 - mm_t r, slots := mm_n r1 - mm_n r, locals := 34 * mm_h j2 } : Room).frames + 1 ≤ R.frames ∧ 8 + (mm_x j2 + 11) + ({ frames := mm_h j2, cells := mm_t r1 - mm_t r, slots := mm_n r1 - mm_n r, locals := 34 * mm_h j2 } : Room).locals ≤ R.locals := by
    show mm_h j2 + 1 ≤ R.frames ∧ 8 + (mm_x j2 + 11) + 34 * mm_h j2 ≤ R.locals
    omega
  have hini : (Cond.initialized (mm_y j2).cls).before args s = true := by rw [o3]; exact hts _ o2
  rcases hcase with ⟨k, a, As, rfl, hlink, rfl, hAs, hst, hk, hsh⟩ | ⟨k, rfl, hlink, hAs, hst, hk⟩ | ⟨k, a, As, rfl, hlink, rfl, hAs, hst, hk⟩
  · have hlen : 3 = len := hlen
    subst hlen
    obtain ⟨q1, q2⟩ := o8 hk
    have hG : GoodIn mm_U (wsV (mm_Rn (mm_o j)) k (mm_Rn (mm_o j2)) (mm_y j2) (mm_w j2)) := by
      intro w hw
      rcases List.mem_append.mp hw with hw | hw
      · have : w ∈ mm_U := by
          simp only [List.mem_cons, List.not_mem_nil, or_false] at hw
          rcases hw with rfl | rfl | rfl | rfl
          · exact hlink
          · exact q1
          · exact q2
          · exact o2
        exact ⟨this, mm_U_good _ this⟩
      · exact mm_goodU hok w hw
    have ho7 : mm_o j2 < 7 := by
      rcases Nat.lt_or_ge (mm_o j2) 7 with q | q
      · exact q
      · obtain ⟨rq, h1, -⟩ := hW.2.1 _ _ (hW.ob hsh)
        have h2 := (List.getElem?_eq_some_iff.mp h1).1
        have h3 : mm_o j2 < 7 := h2
        exact h3
    refine mm_goon (va_runV (g := F0 m pc arr st) (As := As) (rest := st') (b := a) ⟨hx, hb, hml, hown, hts⟩ hM (cwV (mm_a j2) hts hG rfl rfl rfl ⟨o3, o5, o6, o7⟩ hR) ⟨mm_blind, va_recv hK hW.2.1 (mm_vw ho7) (hW.ob hsh), fun U hU hW2 => ⟨rfl, hB U hU hW2⟩⟩ rfl hAs (hl.1.trans hn) hst (lv_room hw) hd ⟨hc, hs⟩) hS (fun H1 locs1 hW1 hS1 => ?_)
    exact kk H1 locs1 arr hW1 hS1 hl hn
  · have hlen : 3 = len := hlen
    subst hlen
    have q1 := o9 hk
    refine mm_goon (va_runS (g := F0 m pc arr st) (As := av) (rest := st') ⟨hx, hb, hml, hown, hts⟩ hM ⟨callB_of (mm_a j2) hts (mm_goodU hok) rfl rfl rfl hini (hts _ hlink) ⟨o5, o6, o7⟩ hR, hts _ q1⟩ ⟨mm_blind, fun U hU hW2 => ⟨rfl, hB U hU hW2⟩⟩ rfl hAs (hl.1.trans hn) hst (lv_room hw) hd ⟨hc, hs⟩) hS (fun H1 locs1 hW1 hS1 => ?_)
    exact kk H1 locs1 arr hW1 hS1 hl hn
  · have hlen : 3 = len := hlen
    subst hlen
    obtain ⟨q1, q2, q3⟩ := o10 hk
    have hw0 : mm_w j2 = Cond.code (mm_y j2) (mm_c j2) (mm_x j2) none :: mm_U := by unfold mm_w; rw [q3]
    refine mm_goon (va_runI (g := F0 m pc arr st) (As := As) (rest := st') (b := a) ⟨hx, hb, hml, hown, hts⟩ hM ⟨callB_of (mm_a j2) hts (mm_goodU hok) hw0 rfl rfl hini (hts _ hlink) ⟨o5, o6, o7⟩ hR, q1, hts _ q2⟩ ⟨mm_blind, fun U hU hW2 => ⟨rfl, hB U hU hW2⟩⟩ rfl hAs (hl.1.trans hn) hst (lv_room hw) hd ⟨hc, hs⟩) hS (fun H1 locs1 hW1 hS1 => ?_)
    exact kk H1 locs1 arr hW1 hS1 hl hn
end
def mm_AD (l : Launch) (D : va_G) (cA : Nat → ClassId) (b n : Nat) : Prop := ∀ (j pc : Nat) (ls : mm_L) (st : List Value) (I : mm_I) (r : mm_R) (u : Option Value × mm_I × mm_R), j < 164 → mm_run n j pc ls st I r = some u →
  ∀ (p : Program) (e : Env) (R : Room) (s : State) (m : MethodId) (args : Array Value) (below : List Frame) (meth : Method) (c : Code) (H : Heap) (locs : List Loc) (cells slots : Nat) (arr : Array Slot), mm_Cx D cA b j p R s m args meth c → mm_Wd D cA b I r H → va_S (mm_A b) s.heap H locs → mm_lv arr ls → ls.length = mm_x j → s.heap.size + cells = mm_t r → cells + (mm_t u.2.2 - mm_t r) ≤ R.cells → slots + (mm_n u.2.2 - mm_n r) ≤ R.slots →
    W p l e R s m args below meth c H locs cells slots (MQ below (mm_Q D cA b u.1 u.2.1 u.2.2) args s (cells + (mm_t u.2.2 - mm_t r)) (slots + (mm_n u.2.2 - mm_n r)) (mm_A b)) (F0 m pc arr st)
theorem mm_AD.met {l : Launch} {D : va_G} {cA : Nat → ClassId} {b n : Nat} (h : mm_AD l D cA b n) {j : Nat} {av : List Value} {I : mm_I} {r : mm_R} {u : Option Value × mm_I × mm_R} (hj : j < 164) (hsl : (mm_sl av).length ≤ mm_x j) (hr : mm_run n j 0 (mm_en j av) [] I r = some u) : mm_Met l D cA b j av I r u.1 u.2.1 u.2.2 := by
  obtain ⟨o1, o2, ⟨o3, o4, o5, o6, o7⟩, o8, o9, o10⟩ := mm_ok_all j hj
  refine Met.ofW (cc := mm_c j) (maxL := mm_x j) (ret := mm_r j) o4 rfl ?_
  intro p e s m args below meth c s₁ B hml hv
  obtain ⟨rfl, hb0, hsz, hW, hK, hA0, hA3⟩ := hv
  have hts := atoms_spec (ws := mm_w j) B.pre
  have hown : s.vm.findClass (mm_y j).cls = some m.cls := findClass_of_methodNamed B.named
  rw [o3] at hown
  have hin : mm_k j = 2 → meth.name = "<init>" := fun hk => (name_of_methodNamed B.named B.method).1.trans (o10 hk).1
  obtain ⟨hlv, hen⟩ := mm_en_lv hsl
  rw [lg_entry_eq]
  have key := h j 0 (mm_en j av) [] I r u hj hr p e (headSpec (mm_w j) { frames := mm_h j, cells := mm_t u.2.2 - mm_t r, slots := mm_n u.2.2 - mm_n r, locals := 34 * mm_h j }).room s m av.toArray below meth c s.heap [] 0 0 _ ⟨B.exec, B.bytes, hml, B.returns, B.notSynchronized, hin, hown, fun w hw => hts w (List.mem_cons_of_mem _ hw), hK, hA0, hA3, hb0, Nat.le_refl _, Nat.le_refl _⟩ hW va_S.rf hlv hen (by rw [Nat.add_zero]; exact hsz) (by rw [Nat.zero_add]; exact Nat.le_refl _) (by rw [Nat.zero_add]; exact Nat.le_refl _)
  rw [Nat.zero_add, Nat.zero_add] at key
  exact key
theorem mm_ad (l : Launch) (D : va_G) (cA : Nat → ClassId) (b : Nat) : ∀ n, mm_AD l D cA b n := by
  intro n
  induction n with
  | zero => intro j pc ls st I r u hj h; simp [mm_run] at h
  | succ n ih =>
    intro j pc ls st I r u hj h p e R s m args below meth c H locs cells slots arr X hW hS hl hn hz hc hs
    rw [mm_run] at h
    cases hsp : mm_stp j pc ls st I r with
    | none => rw [hsp] at h; cases h
    | some o =>
      rw [hsp] at h
      obtain ⟨i, len, hd, hlen, hf⟩ := mm_stp_inv hsp
      rcases o with q | v | q
      · obtain ⟨pc', ls', st', I', r'⟩ := q
        dsimp only at h
        have h1 := mm_mt (mm_flt_l hf)
        have h2 := mm_run_mt _ _ _ _ _ _ _ _ h
        refine mm_one X hd hlen (mm_flt_l hf) hW hS hl hn hz (by omega) (by omega) ?_
        intro H1 locs1 arr1 hW1 hS1 hl1 hn1
        have key := ih _ _ _ _ _ _ _ hj h p e R s m args below meth c H1 locs1 (cells + (mm_t r' - mm_t r)) (slots + (mm_n r' - mm_n r)) arr1 X hW1 hS1 hl1 hn1 (by omega) (by omega) (by omega)
        rw [show cells + (mm_t r' - mm_t r) + (mm_t u.2.2 - mm_t r') = cells + (mm_t u.2.2 - mm_t r) by omega, show slots + (mm_n r' - mm_n r) + (mm_n u.2.2 - mm_n r') = slots + (mm_n u.2.2 - mm_n r) by omega] at key
        exact key
      · cases h
        obtain ⟨hi, ha⟩ := mm_flt_r hf
        have key := mm_ret (l := l) (e := e) (below := below) (slots := slots) (arr := arr) X hd hlen hi ha hW hS hz
        simp only [Nat.sub_self, Nat.add_zero]
        exact key
      · obtain ⟨j2, av, pc', st'⟩ := q
        dsimp only at h
        obtain ⟨hi, ha⟩ := mm_flt_c hf
        obtain ⟨⟨f2, hsl, -⟩, -⟩ := mm_act_c hi ha
        cases hr : mm_run n j2 0 (mm_en j2 av) [] I r with
        | none => rw [hr] at h; cases h
        | some w =>
          rw [hr] at h
          have h1 := mm_run_mt _ _ _ _ _ _ _ _ hr
          have h2 := mm_run_mt _ _ _ _ _ _ _ _ h
          refine mm_cal X hd hlen hi ha (ih.met f2 hsl hr) hW hS hl hn hz (by omega) (by omega) ?_
          intro H1 locs1 arr1 hW1 hS1 hl1 hn1
          have key := ih _ _ _ _ _ _ _ hj h p e R s m args below meth c H1 locs1 (cells + (mm_t w.2.2 - mm_t r)) (slots + (mm_n w.2.2 - mm_n r)) arr1 X hW1 hS1 hl1 hn1 (by omega) (by omega) (by omega)
          rw [show cells + (mm_t w.2.2 - mm_t r) + (mm_t u.2.2 - mm_t w.2.2) = cells + (mm_t u.2.2 - mm_t r) by omega, show slots + (mm_n w.2.2 - mm_n r) + (mm_n u.2.2 - mm_n w.2.2) = slots + (mm_n u.2.2 - mm_n r) by omega] at key
          exact key
/-- THE ROW THAT COUNTS: what the small machine answers, the method answers -/
theorem mm_met (l : Launch) (D : va_G) (cA : Nat → ClassId) (b : Nat) {j : Nat} {av : List Value} {I : mm_I} {r : mm_R} {Q : Option Value → mm_I → mm_R → Prop} (hj : j < 164) (hsl : (mm_sl av).length ≤ mm_x j) (h : mm_E j 0 (mm_en j av) [] I r Q) : ∃ v I1 r1, Q v I1 r1 ∧ mm_t r ≤ mm_t r1 ∧ mm_n r ≤ mm_n r1 ∧ mm_Met l D cA b j av I r v I1 r1 := by
  obtain ⟨n, u, hn, hq⟩ := h
  have h2 := mm_run_mt _ _ _ _ _ _ _ _ hn
  exact ⟨u.1, u.2.1, u.2.2, hq, h2.1, h2.2, (mm_ad l D cA b n).met hj hsl hn⟩
end
section
/-! one instruction of the small machine, as a rule of its answers -/
def mm_c1 (v : Option Value) : Prop := (v.map Value.category).getD 1 = 1
theorem mm_c1_n : mm_c1 none := rfl
theorem mm_c1_i (x : Int32) : mm_c1 (some (.int x)) := rfl
theorem mm_c1_a (x : Nat) : mm_c1 (some (.ref x)) := rfl
def mm_pu (v : Option Value) (st : List Value) : List Value := v.toList ++ st
theorem mm_pu_n (st : List Value) : mm_pu none st = st := rfl
theorem mm_pu_s (v : Value) (st : List Value) : mm_pu (some v) st = v :: st := rfl
def mm_ix (r : mm_R) (a c : Nat) (i : Int32) : Prop := (mm_S r a).1 = c ∧ vp_in i (mm_S r a).2
theorem mm_w8_0 : mm_w8 [] = true := rfl
theorem mm_w8_1 (x : Value) : mm_w8 [x] = true := by cases x <;> rfl
theorem mm_w8_2 (x y : Value) : mm_w8 [x, y] = true := by cases x <;> cases y <;> rfl
theorem mm_w8_3 (x y z : Value) : mm_w8 [x, y, z] = true := by cases x <;> cases y <;> cases z <;> rfl
theorem mm_w8_4 (x y z w : Value) : mm_w8 [x, y, z, w] = true := by cases x <;> cases y <;> cases z <;> cases w <;> rfl
theorem va_rf_s (a : Nat) : va_rf (some a) = .ref a := rfl
section
variable {j pc : Nat} {cc : ByteArray} {ls : mm_L} {st : List Value} {I : mm_I} {r : mm_R} {Q : Option Value → mm_I → mm_R → Prop}
theorem mm_stp_of {i : Instr} {len : Nat} (hc : mm_c j = cc) (hd : decode cc pc = .ok (i, len)) (hlen : (mm_len i).getD len = len) : mm_stp j pc ls st I r = mm_flt i (mm_act j pc i ls st I r) := by
  unfold mm_stp
  rw [hc, hd]
  exact if_pos hlen
theorem mm_E_if {c : Prop} [Decidable c] {pc' : Nat} {ls' : mm_L} {st' : List Value} {I' : mm_I} {r' : mm_R} {i : Instr} (h : mm_stp j pc ls st I r = mm_flt i (if c then mm_nx pc' ls' st' I' r' else none)) : mm_E j pc ls st I r Q ↔ c ∧ mm_E j pc' ls' st' I' r' Q := by
  by_cases hc : c
  · rw [if_pos hc] at h
    rw [mm_E_nx h]
    exact ⟨fun q => ⟨hc, q⟩, fun q => q.2⟩
  · rw [if_neg hc] at h
    rw [mm_E_no h]
    exact ⟨False.elim, fun q => absurd q.1 hc⟩
theorem me_il {k : Fin 4} {x : Int32} (hc : mm_c j = cc) (hd : decode cc pc = .ok (.iload_n k, 1)) (hl : mm_ld ls k = some (.int x)) : mm_E j pc ls st I r Q ↔ mm_E j (pc + 1) ls (.int x :: st) I r Q := mm_E_nx ((mm_stp_of hc hd rfl).trans (by simp only [mm_act, hl]; rfl))
theorem me_il2 {k : Nat} {x : Int32} (hc : mm_c j = cc) (hd : decode cc pc = .ok (.iload k, 2)) (hl : mm_ld ls k = some (.int x)) : mm_E j pc ls st I r Q ↔ mm_E j (pc + 2) ls (.int x :: st) I r Q := mm_E_nx ((mm_stp_of hc hd rfl).trans (by simp only [mm_act, hl]; rfl))
theorem me_al {k : Fin 4} {x : Nat} (hc : mm_c j = cc) (hd : decode cc pc = .ok (.aload_n k, 1)) (hl : mm_ld ls k = some (.ref x)) : mm_E j pc ls st I r Q ↔ mm_E j (pc + 1) ls (.ref x :: st) I r Q := mm_E_nx ((mm_stp_of hc hd rfl).trans (by simp only [mm_act, hl]; rfl))
theorem me_al2 {k : Nat} {x : Nat} (hc : mm_c j = cc) (hd : decode cc pc = .ok (.aload k, 2)) (hl : mm_ld ls k = some (.ref x)) : mm_E j pc ls st I r Q ↔ mm_E j (pc + 2) ls (.ref x :: st) I r Q := mm_E_nx ((mm_stp_of hc hd rfl).trans (by simp only [mm_act, hl]; rfl))
theorem me_ll {k : Fin 4} {x : Int64} (hc : mm_c j = cc) (hd : decode cc pc = .ok (.lload_n k, 1)) (hl : mm_ld ls k = some (.long x)) : mm_E j pc ls st I r Q ↔ mm_E j (pc + 1) ls (.long x :: st) I r Q := mm_E_nx ((mm_stp_of hc hd rfl).trans (by simp only [mm_act, hl]; rfl))
theorem me_ll2 {k : Nat} {x : Int64} (hc : mm_c j = cc) (hd : decode cc pc = .ok (.lload k, 2)) (hl : mm_ld ls k = some (.long x)) : mm_E j pc ls st I r Q ↔ mm_E j (pc + 2) ls (.long x :: st) I r Q := mm_E_nx ((mm_stp_of hc hd rfl).trans (by simp only [mm_act, hl]; rfl))
theorem me_ic {n : Int} {v : Int32} (hc : mm_c j = cc) (hd : decode cc pc = .ok (.iconst n, 1)) (hv : Int32.ofInt n = v) : mm_E j pc ls st I r Q ↔ mm_E j (pc + 1) ls (.int v :: st) I r Q := by subst hv; exact mm_E_nx ((mm_stp_of hc hd rfl).trans rfl)
theorem me_bi {n : Int} {v : Int32} (hc : mm_c j = cc) (hd : decode cc pc = .ok (.bipush n, 2)) (hv : (Int8.ofInt n).toInt32 = v) : mm_E j pc ls st I r Q ↔ mm_E j (pc + 2) ls (.int v :: st) I r Q := by subst hv; exact mm_E_nx ((mm_stp_of hc hd rfl).trans rfl)
theorem me_si {n : Int} {v : Int32} (hc : mm_c j = cc) (hd : decode cc pc = .ok (.sipush n, 3)) (hv : (Int16.ofInt n).toInt32 = v) : mm_E j pc ls st I r Q ↔ mm_E j (pc + 3) ls (.int v :: st) I r Q := by subst hv; exact mm_E_nx ((mm_stp_of hc hd rfl).trans rfl)
theorem me_lc {n : Fin 2} {v : Int64} (hc : mm_c j = cc) (hd : decode cc pc = .ok (.lconst n, 1)) (hv : Int64.ofNat (n : Nat) = v) : mm_E j pc ls st I r Q ↔ mm_E j (pc + 1) ls (.long v :: st) I r Q := by subst hv; exact mm_E_nx ((mm_stp_of hc hd rfl).trans rfl)
theorem me_ldc {k : Nat} {v : Int32} (hc : mm_c j = cc) (hd : decode cc pc = .ok (.ldc k, 2)) (hv : mm_ci (mm_o j) k = some v) : mm_E j pc ls st I r Q ↔ mm_E j (pc + 2) ls (.int v :: st) I r Q := mm_E_nx ((mm_stp_of hc hd rfl).trans (by simp only [mm_act, hv]; rfl))
theorem me_ldcw {k : Nat} {v : Int32} (hc : mm_c j = cc) (hd : decode cc pc = .ok (.ldc_w k, 3)) (hv : mm_ci (mm_o j) k = some v) : mm_E j pc ls st I r Q ↔ mm_E j (pc + 3) ls (.int v :: st) I r Q := mm_E_nx ((mm_stp_of hc hd rfl).trans (by simp only [mm_act, hv]; rfl))
theorem me_ldc2 {k : Nat} {v : Int64} (hc : mm_c j = cc) (hd : decode cc pc = .ok (.ldc2_w k, 3)) (hv : mm_cl (mm_o j) k = some v) : mm_E j pc ls st I r Q ↔ mm_E j (pc + 3) ls (.long v :: st) I r Q := mm_E_nx ((mm_stp_of hc hd rfl).trans (by simp only [mm_act, hv]; rfl))
theorem mm_s1_c {k : Nat} {v : Value} {ls' : mm_L} {g : mm_L → Option mm_O} (hn : k < ls.length) (h0 : k = 0 ∨ mm_c1 (mm_ld ls (k - 1))) (hs : ls.set k (some v) = ls') : mm_s1 ls k v g = g ls' := by
  unfold mm_s1
  rw [if_pos ⟨hn, h0⟩, hs]
theorem mm_s1_x {k : Nat} {v : Value} {g : mm_L → Option mm_O} (h0 : ¬ (k = 0 ∨ mm_c1 (mm_ld ls (k - 1)))) : mm_s1 ls k v g = none := by
  unfold mm_s1
  rw [if_neg (fun h => h0 h.2)]
theorem me_st {k pc' : Nat} {v : Value} {i : Instr} {len : Nat} {ls' : mm_L} {st' : List Value} {c : Prop} (hc : mm_c j = cc) (hd : decode cc pc = .ok (i, len)) (hlen : (mm_len i).getD len = len) (ha : mm_act j pc i ls st I r = mm_s1 ls k v (fun ls2 => mm_nx pc' ls2 st' I r)) (hn : k < ls.length) (hs : ls.set k (some v) = ls') (h0 : c ↔ (k = 0 ∨ mm_c1 (mm_ld ls (k - 1)))) : mm_E j pc ls st I r Q ↔ c ∧ mm_E j pc' ls' st' I r Q := by
  by_cases hq : c
  · rw [mm_E_nx (pc' := pc') (ls' := ls') (st' := st') (I' := I) (r' := r) (by rw [mm_stp_of hc hd hlen, ha, mm_s1_c hn (h0.mp hq) hs]; rfl)]
    exact ⟨fun q => ⟨hq, q⟩, fun q => q.2⟩
  · rw [mm_E_no (by rw [mm_stp_of hc hd hlen, ha, mm_s1_x (fun h => hq (h0.mpr h))]; rfl)]
    exact ⟨False.elim, fun q => absurd q.1 hq⟩
theorem me_gi {k ci f a : Nat} (hc : mm_c j = cc) (hd : decode cc pc = .ok (.getfield k, 3)) (hf : mm_f (mm_o j) k = some (ci, f)) (hi : mm_ik ci f = true) : mm_E j pc ls (.ref a :: st) I r Q ↔ mm_S r a = (1, ci) ∧ mm_E j (pc + 3) ls (.int (I a f) :: st) I r Q := mm_E_if ((mm_stp_of hc hd rfl).trans (by simp only [mm_act, hf, mm_gf, mm_a1, hi]; rfl))
theorem me_gr {k ci f a : Nat} (hc : mm_c j = cc) (hd : decode cc pc = .ok (.getfield k, 3)) (hf : mm_f (mm_o j) k = some (ci, f)) (hi : mm_ik ci f = false) : mm_E j pc ls (.ref a :: st) I r Q ↔ mm_S r a = (1, ci) ∧ mm_E j (pc + 3) ls (va_rf (mm_P r a f) :: st) I r Q := mm_E_if ((mm_stp_of hc hd rfl).trans (by simp only [mm_act, hf, mm_gf, mm_a1, hi]; rfl))
theorem me_pi {k ci f a : Nat} {x : Int32} (hc : mm_c j = cc) (hd : decode cc pc = .ok (.putfield k, 3)) (hf : mm_f (mm_o j) k = some (ci, f)) (hi : mm_ik ci f = true ∧ (mm_Tn ci f).2.2.2 = false ∧ mm_bo ci f = false) : mm_E j pc ls (.int x :: .ref a :: st) I r Q ↔ mm_S r a = (1, ci) ∧ mm_E j (pc + 3) ls st (mm_uI I a f x) r Q := by
  rw [mm_E_if (i := .putfield k) (j := j) (pc := pc) (c := mm_S r a = (1, ci) ∧ mm_ik ci f = true ∧ (mm_Tn ci f).2.2.2 = false ∧ (mm_bo ci f = false ∨ x = 0 ∨ x = 1)) (pc' := pc + 3) (ls' := ls) (st' := st) (I' := mm_uI I a f x) (r' := r) ((mm_stp_of hc hd rfl).trans (by simp only [mm_act, hf, mm_pf, mm_pt]))]
  exact ⟨fun h => ⟨h.1.1, h.2⟩, fun h => ⟨⟨h.1, hi.1, hi.2.1, Or.inl hi.2.2⟩, h.2⟩⟩
theorem me_pb {k ci f a : Nat} {x : Int32} (hc : mm_c j = cc) (hd : decode cc pc = .ok (.putfield k, 3)) (hf : mm_f (mm_o j) k = some (ci, f)) (hi : mm_ik ci f = true ∧ (mm_Tn ci f).2.2.2 = false ∧ mm_bo ci f = true) : mm_E j pc ls (.int x :: .ref a :: st) I r Q ↔ (mm_S r a = (1, ci) ∧ (x = 0 ∨ x = 1)) ∧ mm_E j (pc + 3) ls st (mm_uI I a f x) r Q := by
  rw [mm_E_if (i := .putfield k) (j := j) (pc := pc) (c := mm_S r a = (1, ci) ∧ mm_ik ci f = true ∧ (mm_Tn ci f).2.2.2 = false ∧ (mm_bo ci f = false ∨ x = 0 ∨ x = 1)) (pc' := pc + 3) (ls' := ls) (st' := st) (I' := mm_uI I a f x) (r' := r) ((mm_stp_of hc hd rfl).trans (by simp only [mm_act, hf, mm_pf, mm_pt]))]
  exact ⟨fun h => ⟨⟨h.1.1, by rcases h.1.2.2.2 with q | q; (rw [hi.2.2] at q; cases q); exact q⟩, h.2⟩, fun h => ⟨⟨h.1.1, hi.1, hi.2.1, Or.inr h.1.2⟩, h.2⟩⟩
theorem me_pr {k ci f a x : Nat} (hc : mm_c j = cc) (hd : decode cc pc = .ok (.putfield k, 3)) (hf : mm_f (mm_o j) k = some (ci, f)) (hi : mm_ik ci f = false ∧ (mm_Tn ci f).2.2.2 = true ∧ mm_k j = 2 ∧ mm_o j = ci) : mm_E j pc ls (.ref x :: .ref a :: st) I r Q ↔ mm_S r a = (1, ci) ∧ mm_E j (pc + 3) ls st I (mm_uP r a f (some x)) Q := by
  rw [mm_E_if (i := .putfield k) (j := j) (pc := pc) (c := mm_S r a = (1, ci) ∧ mm_ik ci f = false ∧ (mm_Tn ci f).2.2.2 = true ∧ mm_k j = 2 ∧ mm_o j = ci) (pc' := pc + 3) (ls' := ls) (st' := st) (I' := I) (r' := mm_uP r a f (some x)) ((mm_stp_of hc hd rfl).trans (by simp only [mm_act, hf, mm_pf, mm_pt]))]
  exact ⟨fun h => ⟨h.1.1, h.2⟩, fun h => ⟨⟨h.1, hi⟩, h.2⟩⟩
theorem me_ia {a : Nat} {i : Int32} (hc : mm_c j = cc) (hd : decode cc pc = .ok (.iaload, 1)) : mm_E j pc ls (.int i :: .ref a :: st) I r Q ↔ mm_ix r a 2 i ∧ mm_E j (pc + 1) ls (.int (I a i.toNatClampNeg) :: st) I r Q := mm_E_if (i := .iaload) (c := (mm_S r a).1 = 2 ∧ ¬ (i < 0 ∨ (mm_S r a).2 ≤ i.toNatClampNeg)) ((mm_stp_of hc hd rfl).trans rfl)
theorem me_is {a : Nat} {i x : Int32} (hc : mm_c j = cc) (hd : decode cc pc = .ok (.iastore, 1)) : mm_E j pc ls (.int x :: .int i :: .ref a :: st) I r Q ↔ mm_ix r a 2 i ∧ mm_E j (pc + 1) ls st (mm_uI I a i.toNatClampNeg x) r Q := mm_E_if (i := .iastore) (c := (mm_S r a).1 = 2 ∧ ¬ (i < 0 ∨ (mm_S r a).2 ≤ i.toNatClampNeg)) ((mm_stp_of hc hd rfl).trans rfl)
theorem me_la {a : Nat} {i : Int32} (hc : mm_c j = cc) (hd : decode cc pc = .ok (.laload, 1)) : mm_E j pc ls (.int i :: .ref a :: st) I r Q ↔ mm_ix r a 3 i ∧ mm_E j (pc + 1) ls (.long (mm_G r a i.toNatClampNeg) :: st) I r Q := mm_E_if (i := .laload) (c := (mm_S r a).1 = 3 ∧ ¬ (i < 0 ∨ (mm_S r a).2 ≤ i.toNatClampNeg)) ((mm_stp_of hc hd rfl).trans rfl)
theorem me_ls {a : Nat} {i : Int32} {x : Int64} (hc : mm_c j = cc) (hd : decode cc pc = .ok (.lastore, 1)) : mm_E j pc ls (.long x :: .int i :: .ref a :: st) I r Q ↔ mm_ix r a 3 i ∧ mm_E j (pc + 1) ls st I (mm_uG r a i.toNatClampNeg x) Q := mm_E_if (i := .lastore) (c := (mm_S r a).1 = 3 ∧ ¬ (i < 0 ∨ (mm_S r a).2 ≤ i.toNatClampNeg)) ((mm_stp_of hc hd rfl).trans rfl)
theorem me_aa {a : Nat} {i : Int32} (hc : mm_c j = cc) (hd : decode cc pc = .ok (.aaload, 1)) : mm_E j pc ls (.int i :: .ref a :: st) I r Q ↔ (((mm_S r a).1 = 4 ∨ (mm_S r a).1 = 5) ∧ vp_in i (mm_S r a).2) ∧ mm_E j (pc + 1) ls (va_rf (mm_P r a i.toNatClampNeg) :: st) I r Q := mm_E_if (i := .aaload) (c := ((mm_S r a).1 = 4 ∨ (mm_S r a).1 = 5) ∧ ¬ (i < 0 ∨ (mm_S r a).2 ≤ i.toNatClampNeg)) ((mm_stp_of hc hd rfl).trans rfl)
theorem me_as {a x : Nat} {i : Int32} (hc : mm_c j = cc) (hd : decode cc pc = .ok (.aastore, 1)) : mm_E j pc ls (.ref x :: .int i :: .ref a :: st) I r Q ↔ (((mm_S r a).1 = 4 ∧ mm_S r x = (1, 0) ∨ (mm_S r a).1 = 5 ∧ mm_S r x = (1, 3)) ∧ vp_in i (mm_S r a).2) ∧ mm_E j (pc + 1) ls st I (mm_uP r a i.toNatClampNeg (some x)) Q := mm_E_if (i := .aastore) (c := ((mm_S r a).1 = 4 ∧ mm_S r x = (1, 0) ∨ (mm_S r a).1 = 5 ∧ mm_S r x = (1, 3)) ∧ ¬ (i < 0 ∨ (mm_S r a).2 ≤ i.toNatClampNeg)) ((mm_stp_of hc hd rfl).trans rfl)
theorem me_nai {x : Int32} (hc : mm_c j = cc) (hd : decode cc pc = .ok (.newarray .int, 2)) : mm_E j pc ls (.int x :: st) I r Q ↔ (¬ x < 0 ∧ x.toNatClampNeg ≤ 1000) ∧ mm_E j (pc + 2) ls (.ref (mm_t r) :: st) (mm_nI I r) (mm_nR r (2, x.toNatClampNeg) x.toNatClampNeg) Q := mm_E_if ((mm_stp_of hc hd rfl).trans rfl)
theorem me_nal {x : Int32} (hc : mm_c j = cc) (hd : decode cc pc = .ok (.newarray .long, 2)) : mm_E j pc ls (.int x :: st) I r Q ↔ (¬ x < 0 ∧ x.toNatClampNeg ≤ 1000) ∧ mm_E j (pc + 2) ls (.ref (mm_t r) :: st) (mm_nI I r) (mm_nR r (3, x.toNatClampNeg) x.toNatClampNeg) Q := mm_E_if ((mm_stp_of hc hd rfl).trans rfl)
theorem me_na0 {k : Nat} {x : Int32} (hc : mm_c j = cc) (hd : decode cc pc = .ok (.anewarray k, 3)) (hk : mm_kk (mm_o j) k = some 0) : mm_E j pc ls (.int x :: st) I r Q ↔ (¬ x < 0 ∧ x.toNatClampNeg ≤ 1000) ∧ mm_E j (pc + 3) ls (.ref (mm_t r) :: st) (mm_nI I r) (mm_nR r (4, x.toNatClampNeg) x.toNatClampNeg) Q := mm_E_if ((mm_stp_of hc hd rfl).trans (by simp only [mm_act, hk]; rfl))
theorem me_na3 {k : Nat} {x : Int32} (hc : mm_c j = cc) (hd : decode cc pc = .ok (.anewarray k, 3)) (hk : mm_kk (mm_o j) k = some 3) : mm_E j pc ls (.int x :: st) I r Q ↔ (¬ x < 0 ∧ x.toNatClampNeg ≤ 1000) ∧ mm_E j (pc + 3) ls (.ref (mm_t r) :: st) (mm_nI I r) (mm_nR r (5, x.toNatClampNeg) x.toNatClampNeg) Q := mm_E_if ((mm_stp_of hc hd rfl).trans (by simp only [mm_act, hk]; rfl))
theorem me_new {k ci : Nat} (hc : mm_c j = cc) (hd : decode cc pc = .ok (.new k, 3)) (hk : mm_kk (mm_o j) k = some ci) : mm_E j pc ls st I r Q ↔ mm_E j (pc + 3) ls (.ref (mm_t r) :: st) (mm_nI I r) (mm_nR r (1, ci) (mm_N ci)) Q := mm_E_nx ((mm_stp_of hc hd rfl).trans (by simp only [mm_act, hk]; rfl))
theorem me_dup {v : Value} (hc : mm_c j = cc) (hd : decode cc pc = .ok (.dup, 1)) : mm_E j pc ls (v :: st) I r Q ↔ v.category = 1 ∧ mm_E j (pc + 1) ls (v :: v :: st) I r Q := mm_E_if ((mm_stp_of hc hd rfl).trans rfl)
theorem me_dup2 {v w : Value} (hc : mm_c j = cc) (hd : decode cc pc = .ok (.dup2, 1)) : mm_E j pc ls (w :: v :: st) I r Q ↔ (v.category = 1 ∧ w.category = 1) ∧ mm_E j (pc + 1) ls (w :: v :: w :: v :: st) I r Q := mm_E_if ((mm_stp_of hc hd rfl).trans rfl)
theorem me_pop {v : Value} (hc : mm_c j = cc) (hd : decode cc pc = .ok (.pop, 1)) : mm_E j pc ls (v :: st) I r Q ↔ v.category = 1 ∧ mm_E j (pc + 1) ls st I r Q := mm_E_if ((mm_stp_of hc hd rfl).trans rfl)
theorem me_iadd {x y : Int32} (hc : mm_c j = cc) (hd : decode cc pc = .ok (.iadd, 1)) : mm_E j pc ls (.int y :: .int x :: st) I r Q ↔ mm_E j (pc + 1) ls (.int (x + y) :: st) I r Q := mm_E_nx ((mm_stp_of hc hd rfl).trans rfl)
theorem me_isub {x y : Int32} (hc : mm_c j = cc) (hd : decode cc pc = .ok (.isub, 1)) : mm_E j pc ls (.int y :: .int x :: st) I r Q ↔ mm_E j (pc + 1) ls (.int (x - y) :: st) I r Q := mm_E_nx ((mm_stp_of hc hd rfl).trans rfl)
theorem me_imul {x y : Int32} (hc : mm_c j = cc) (hd : decode cc pc = .ok (.imul, 1)) : mm_E j pc ls (.int y :: .int x :: st) I r Q ↔ mm_E j (pc + 1) ls (.int (x * y) :: st) I r Q := mm_E_nx ((mm_stp_of hc hd rfl).trans rfl)
theorem me_iand {x y : Int32} (hc : mm_c j = cc) (hd : decode cc pc = .ok (.iand, 1)) : mm_E j pc ls (.int y :: .int x :: st) I r Q ↔ mm_E j (pc + 1) ls (.int (x &&& y) :: st) I r Q := mm_E_nx ((mm_stp_of hc hd rfl).trans rfl)
theorem me_ior {x y : Int32} (hc : mm_c j = cc) (hd : decode cc pc = .ok (.ior, 1)) : mm_E j pc ls (.int y :: .int x :: st) I r Q ↔ mm_E j (pc + 1) ls (.int (x ||| y) :: st) I r Q := mm_E_nx ((mm_stp_of hc hd rfl).trans rfl)
theorem me_ishl {x y : Int32} (hc : mm_c j = cc) (hd : decode cc pc = .ok (.ishl, 1)) : mm_E j pc ls (.int y :: .int x :: st) I r Q ↔ mm_E j (pc + 1) ls (.int (x <<< (y &&& 31)) :: st) I r Q := mm_E_nx ((mm_stp_of hc hd rfl).trans rfl)
theorem me_ishr {x y : Int32} (hc : mm_c j = cc) (hd : decode cc pc = .ok (.ishr, 1)) : mm_E j pc ls (.int y :: .int x :: st) I r Q ↔ mm_E j (pc + 1) ls (.int (x >>> (y &&& 31)) :: st) I r Q := mm_E_nx ((mm_stp_of hc hd rfl).trans rfl)
theorem me_iushr {x y : Int32} (hc : mm_c j = cc) (hd : decode cc pc = .ok (.iushr, 1)) : mm_E j pc ls (.int y :: .int x :: st) I r Q ↔ mm_E j (pc + 1) ls (.int ((x.toUInt32 >>> (y.toUInt32 &&& Int32.toUInt32 31)).toInt32) :: st) I r Q := mm_E_nx ((mm_stp_of hc hd rfl).trans rfl)
theorem me_idiv {x y : Int32} (hc : mm_c j = cc) (hd : decode cc pc = .ok (.idiv, 1)) : mm_E j pc ls (.int y :: .int x :: st) I r Q ↔ ¬ y = 0 ∧ mm_E j (pc + 1) ls (.int (x / y) :: st) I r Q := by
  by_cases hy : y = 0
  · rw [mm_E_no ((mm_stp_of hc hd rfl).trans (by simp only [mm_act, mm_i2]; rw [if_pos hy]; rfl))]
    exact ⟨False.elim, fun q => q.1 hy⟩
  · rw [mm_E_nx (pc' := pc + 1) (ls' := ls) (st' := .int (x / y) :: st) (I' := I) (r' := r) ((mm_stp_of hc hd rfl).trans (by simp only [mm_act, mm_i2]; rw [if_neg hy]; rfl))]
    exact ⟨fun q => ⟨hy, q⟩, fun q => q.2⟩
theorem me_irem {x y : Int32} (hc : mm_c j = cc) (hd : decode cc pc = .ok (.irem, 1)) : mm_E j pc ls (.int y :: .int x :: st) I r Q ↔ ¬ y = 0 ∧ mm_E j (pc + 1) ls (.int (x - x / y * y) :: st) I r Q := by
  by_cases hy : y = 0
  · rw [mm_E_no ((mm_stp_of hc hd rfl).trans (by simp only [mm_act, mm_i2]; rw [if_pos hy]; rfl))]
    exact ⟨False.elim, fun q => q.1 hy⟩
  · rw [mm_E_nx (pc' := pc + 1) (ls' := ls) (st' := .int (x - x / y * y) :: st) (I' := I) (r' := r) ((mm_stp_of hc hd rfl).trans (by simp only [mm_act, mm_i2]; rw [if_neg hy]; rfl))]
    exact ⟨fun q => ⟨hy, q⟩, fun q => q.2⟩
theorem me_i2l {x : Int32} (hc : mm_c j = cc) (hd : decode cc pc = .ok (.i2l, 1)) : mm_E j pc ls (.int x :: st) I r Q ↔ mm_E j (pc + 1) ls (.long x.toInt64 :: st) I r Q := mm_E_nx ((mm_stp_of hc hd rfl).trans rfl)
theorem me_i2b {x : Int32} (hc : mm_c j = cc) (hd : decode cc pc = .ok (.i2b, 1)) : mm_E j pc ls (.int x :: st) I r Q ↔ mm_E j (pc + 1) ls (.int x.toInt8.toInt32 :: st) I r Q := mm_E_nx ((mm_stp_of hc hd rfl).trans rfl)
theorem me_i2s {x : Int32} (hc : mm_c j = cc) (hd : decode cc pc = .ok (.i2s, 1)) : mm_E j pc ls (.int x :: st) I r Q ↔ mm_E j (pc + 1) ls (.int x.toInt16.toInt32 :: st) I r Q := mm_E_nx ((mm_stp_of hc hd rfl).trans rfl)
theorem me_l2i {x : Int64} (hc : mm_c j = cc) (hd : decode cc pc = .ok (.l2i, 1)) : mm_E j pc ls (.long x :: st) I r Q ↔ mm_E j (pc + 1) ls (.int x.toInt32 :: st) I r Q := mm_E_nx ((mm_stp_of hc hd rfl).trans rfl)
theorem me_ladd {x y : Int64} (hc : mm_c j = cc) (hd : decode cc pc = .ok (.ladd, 1)) : mm_E j pc ls (.long y :: .long x :: st) I r Q ↔ mm_E j (pc + 1) ls (.long (x + y) :: st) I r Q := mm_E_nx ((mm_stp_of hc hd rfl).trans rfl)
theorem me_lmul {x y : Int64} (hc : mm_c j = cc) (hd : decode cc pc = .ok (.lmul, 1)) : mm_E j pc ls (.long y :: .long x :: st) I r Q ↔ mm_E j (pc + 1) ls (.long (x * y) :: st) I r Q := mm_E_nx ((mm_stp_of hc hd rfl).trans rfl)
theorem me_land {x y : Int64} (hc : mm_c j = cc) (hd : decode cc pc = .ok (.land, 1)) : mm_E j pc ls (.long y :: .long x :: st) I r Q ↔ mm_E j (pc + 1) ls (.long (x &&& y) :: st) I r Q := mm_E_nx ((mm_stp_of hc hd rfl).trans rfl)
theorem me_lcmp {x y : Int64} (hc : mm_c j = cc) (hd : decode cc pc = .ok (.lcmp, 1)) : mm_E j pc ls (.long y :: .long x :: st) I r Q ↔ mm_E j (pc + 1) ls (.int (lg_cmp x y) :: st) I r Q := mm_E_nx ((mm_stp_of hc hd rfl).trans rfl)
theorem me_lrem {x y : Int64} (hc : mm_c j = cc) (hd : decode cc pc = .ok (.lrem, 1)) : mm_E j pc ls (.long y :: .long x :: st) I r Q ↔ ¬ y = 0 ∧ mm_E j (pc + 1) ls (.long (x - x / y * y) :: st) I r Q := by
  by_cases hy : y = 0
  · rw [mm_E_no ((mm_stp_of hc hd rfl).trans (by simp only [mm_act, mm_l2]; rw [if_pos hy]; rfl))]
    exact ⟨False.elim, fun q => q.1 hy⟩
  · rw [mm_E_nx (pc' := pc + 1) (ls' := ls) (st' := .long (x - x / y * y) :: st) (I' := I) (r' := r) ((mm_stp_of hc hd rfl).trans (by simp only [mm_act, mm_l2]; rw [if_neg hy]; rfl))]
    exact ⟨fun q => ⟨hy, q⟩, fun q => q.2⟩
theorem me_goto {off : Int} {tgt : Nat} (hc : mm_c j = cc) (hd : decode cc pc = .ok (.goto off, 3)) (ht : (pc : Int) + off = (tgt : Int)) : mm_E j pc ls st I r Q ↔ mm_E j tgt ls st I r Q := mm_E_nx ((mm_stp_of hc hd rfl).trans (by simp only [mm_act, mm_jp, ht]; rw [if_pos (Int.natCast_nonneg tgt)]; rfl))
theorem mm_E_go {i : Instr} {P : Prop} [Decidable P] {off : Int} {tgt : Nat} (ht : (pc : Int) + off = (tgt : Int)) {st' : List Value} (h : mm_stp j pc ls st I r = mm_flt i (mm_go (decide P) pc off ls st' I r)) : mm_E j pc ls st I r Q ↔ if P then mm_E j tgt ls st' I r Q else mm_E j (pc + 3) ls st' I r Q := by
  unfold mm_go at h
  rw [ht, if_pos (Int.natCast_nonneg tgt)] at h
  by_cases hP : P
  · rw [if_pos hP]
    rw [decide_eq_true hP, if_pos rfl] at h
    exact mm_E_nx h
  · rw [if_neg hP]
    rw [decide_eq_false hP, if_neg (by decide)] at h
    exact mm_E_nx h
theorem me_ceq {x y : Int32} {off : Int} {tgt : Nat} (hc : mm_c j = cc) (hd : decode cc pc = .ok (.if_icmp .eq off, 3)) (ht : (pc : Int) + off = (tgt : Int)) : mm_E j pc ls (.int y :: .int x :: st) I r Q ↔ if x = y then mm_E j tgt ls st I r Q else mm_E j (pc + 3) ls st I r Q := mm_E_go ht ((mm_stp_of hc hd rfl).trans rfl)
theorem me_zeq {x : Int32} {off : Int} {tgt : Nat} (hc : mm_c j = cc) (hd : decode cc pc = .ok (.ifCond .eq off, 3)) (ht : (pc : Int) + off = (tgt : Int)) : mm_E j pc ls (.int x :: st) I r Q ↔ if x = 0 then mm_E j tgt ls st I r Q else mm_E j (pc + 3) ls st I r Q := mm_E_go ht ((mm_stp_of hc hd rfl).trans rfl)
theorem me_cne {x y : Int32} {off : Int} {tgt : Nat} (hc : mm_c j = cc) (hd : decode cc pc = .ok (.if_icmp .ne off, 3)) (ht : (pc : Int) + off = (tgt : Int)) : mm_E j pc ls (.int y :: .int x :: st) I r Q ↔ if ¬ x = y then mm_E j tgt ls st I r Q else mm_E j (pc + 3) ls st I r Q := mm_E_go ht ((mm_stp_of hc hd rfl).trans rfl)
theorem me_zne {x : Int32} {off : Int} {tgt : Nat} (hc : mm_c j = cc) (hd : decode cc pc = .ok (.ifCond .ne off, 3)) (ht : (pc : Int) + off = (tgt : Int)) : mm_E j pc ls (.int x :: st) I r Q ↔ if ¬ x = 0 then mm_E j tgt ls st I r Q else mm_E j (pc + 3) ls st I r Q := mm_E_go ht ((mm_stp_of hc hd rfl).trans rfl)
theorem me_clt {x y : Int32} {off : Int} {tgt : Nat} (hc : mm_c j = cc) (hd : decode cc pc = .ok (.if_icmp .lt off, 3)) (ht : (pc : Int) + off = (tgt : Int)) : mm_E j pc ls (.int y :: .int x :: st) I r Q ↔ if x < y then mm_E j tgt ls st I r Q else mm_E j (pc + 3) ls st I r Q := mm_E_go ht ((mm_stp_of hc hd rfl).trans rfl)
theorem me_zlt {x : Int32} {off : Int} {tgt : Nat} (hc : mm_c j = cc) (hd : decode cc pc = .ok (.ifCond .lt off, 3)) (ht : (pc : Int) + off = (tgt : Int)) : mm_E j pc ls (.int x :: st) I r Q ↔ if x < 0 then mm_E j tgt ls st I r Q else mm_E j (pc + 3) ls st I r Q := mm_E_go ht ((mm_stp_of hc hd rfl).trans rfl)
theorem me_cge {x y : Int32} {off : Int} {tgt : Nat} (hc : mm_c j = cc) (hd : decode cc pc = .ok (.if_icmp .ge off, 3)) (ht : (pc : Int) + off = (tgt : Int)) : mm_E j pc ls (.int y :: .int x :: st) I r Q ↔ if y ≤ x then mm_E j tgt ls st I r Q else mm_E j (pc + 3) ls st I r Q := mm_E_go ht ((mm_stp_of hc hd rfl).trans rfl)
theorem me_zge {x : Int32} {off : Int} {tgt : Nat} (hc : mm_c j = cc) (hd : decode cc pc = .ok (.ifCond .ge off, 3)) (ht : (pc : Int) + off = (tgt : Int)) : mm_E j pc ls (.int x :: st) I r Q ↔ if 0 ≤ x then mm_E j tgt ls st I r Q else mm_E j (pc + 3) ls st I r Q := mm_E_go ht ((mm_stp_of hc hd rfl).trans rfl)
theorem me_cgt {x y : Int32} {off : Int} {tgt : Nat} (hc : mm_c j = cc) (hd : decode cc pc = .ok (.if_icmp .gt off, 3)) (ht : (pc : Int) + off = (tgt : Int)) : mm_E j pc ls (.int y :: .int x :: st) I r Q ↔ if y < x then mm_E j tgt ls st I r Q else mm_E j (pc + 3) ls st I r Q := mm_E_go ht ((mm_stp_of hc hd rfl).trans rfl)
theorem me_zgt {x : Int32} {off : Int} {tgt : Nat} (hc : mm_c j = cc) (hd : decode cc pc = .ok (.ifCond .gt off, 3)) (ht : (pc : Int) + off = (tgt : Int)) : mm_E j pc ls (.int x :: st) I r Q ↔ if 0 < x then mm_E j tgt ls st I r Q else mm_E j (pc + 3) ls st I r Q := mm_E_go ht ((mm_stp_of hc hd rfl).trans rfl)
theorem me_cle {x y : Int32} {off : Int} {tgt : Nat} (hc : mm_c j = cc) (hd : decode cc pc = .ok (.if_icmp .le off, 3)) (ht : (pc : Int) + off = (tgt : Int)) : mm_E j pc ls (.int y :: .int x :: st) I r Q ↔ if x ≤ y then mm_E j tgt ls st I r Q else mm_E j (pc + 3) ls st I r Q := mm_E_go ht ((mm_stp_of hc hd rfl).trans rfl)
theorem me_zle {x : Int32} {off : Int} {tgt : Nat} (hc : mm_c j = cc) (hd : decode cc pc = .ok (.ifCond .le off, 3)) (ht : (pc : Int) + off = (tgt : Int)) : mm_E j pc ls (.int x :: st) I r Q ↔ if x ≤ 0 then mm_E j tgt ls st I r Q else mm_E j (pc + 3) ls st I r Q := mm_E_go ht ((mm_stp_of hc hd rfl).trans rfl)
theorem me_ri {x : Int32} (hc : mm_c j = cc) (hd : decode cc pc = .ok (.ireturn, 1)) (hr : mm_r j = some .int) : mm_E j pc ls [.int x] I r Q ↔ Q (some (.int x)) I r := mm_E_rt ((mm_stp_of hc hd rfl).trans (by simp only [mm_act, mm_rti, mm_i1]; rw [if_pos ⟨trivial, Or.inl hr⟩]; rfl))
theorem me_rz {x : Int32} (hc : mm_c j = cc) (hd : decode cc pc = .ok (.ireturn, 1)) (hr : mm_r j = some .boolean) : mm_E j pc ls [.int x] I r Q ↔ (x = 0 ∨ x = 1) ∧ Q (some (.int x)) I r := by
  by_cases hx : x = 0 ∨ x = 1
  · rw [mm_E_rt (v := some (.int x)) ((mm_stp_of hc hd rfl).trans (by simp only [mm_act, mm_rti, mm_i1]; rw [if_pos ⟨trivial, Or.inr ⟨hr, hx⟩⟩]; rfl))]
    exact ⟨fun q => ⟨hx, q⟩, fun q => q.2⟩
  · rw [mm_E_no ((mm_stp_of hc hd rfl).trans (by simp only [mm_act, mm_rti, mm_i1]; rw [if_neg (by rintro ⟨-, q | q⟩; (rw [hr] at q; cases q); exact hx q.2)]; rfl))]
    exact ⟨False.elim, fun q => absurd q.1 hx⟩
theorem me_rl {x : Int64} (hc : mm_c j = cc) (hd : decode cc pc = .ok (.lreturn, 1)) (hr : mm_r j = some .long) : mm_E j pc ls [.long x] I r Q ↔ Q (some (.long x)) I r := mm_E_rt ((mm_stp_of hc hd rfl).trans (by simp only [mm_act, mm_rtl, mm_l1]; rw [if_pos ⟨trivial, hr⟩]; rfl))
theorem me_rv (hc : mm_c j = cc) (hd : decode cc pc = .ok (.return_, 1)) (hr : mm_r j = none) : mm_E j pc ls [] I r Q ↔ Q none I r := mm_E_rt ((mm_stp_of hc hd rfl).trans (by simp only [mm_act]; rw [if_pos ⟨trivial, hr⟩]; rfl))
theorem me_oi {k a : Nat} (hc : mm_c j = cc) (hd : decode cc pc = .ok (.invokespecial k, 3)) (hk : mm_m (mm_o j) k = none ∧ mm_oT.contains (mm_o j, k) = true ∧ 1 ≤ mm_h j) : mm_E j pc ls (.ref a :: st) I r Q ↔ mm_w8 st = true ∧ mm_E j (pc + 3) ls st I r Q := by
  rw [mm_E_if (i := .invokespecial k) (j := j) (pc := pc) (c := 1 ≤ mm_h j ∧ mm_w8 st = true) (pc' := pc + 3) (ls' := ls) (st' := st) (I' := I) (r' := r) ((mm_stp_of hc hd rfl).trans (by simp only [mm_act, hk.1]; rw [if_pos hk.2.1]; rfl))]
  exact ⟨fun h => ⟨h.1.2, h.2⟩, fun h => ⟨⟨hk.2.2, h.1⟩, h.2⟩⟩
theorem me_cp {k a b : Nat} {sp dp n : Int32} (hc : mm_c j = cc) (hd : decode cc pc = .ok (.invokestatic k, 3)) (hk : mm_m (mm_o j) k = none ∧ mm_nT.contains (mm_o j, k) = true ∧ 1 ≤ mm_h j) : mm_E j pc ls (.int n :: .int dp :: .ref a :: .int sp :: .ref b :: st) I r Q ↔ (mm_w8 st = true ∧ (mm_S r b).1 = 3 ∧ (mm_S r a).1 = 3 ∧ ¬ sp < 0 ∧ ¬ dp < 0 ∧ ¬ n < 0 ∧ sp.toNatClampNeg + n.toNatClampNeg ≤ (mm_S r b).2 ∧ dp.toNatClampNeg + n.toNatClampNeg ≤ (mm_S r a).2) ∧ mm_E j (pc + 3) ls st I (mm_cG r a b sp.toNatClampNeg dp.toNatClampNeg n.toNatClampNeg) Q := by
  rw [mm_E_if (i := .invokestatic k) (j := j) (pc := pc) (c := (1 ≤ mm_h j ∧ mm_w8 st = true) ∧ (mm_S r b).1 = 3 ∧ (mm_S r a).1 = 3 ∧ ¬ sp < 0 ∧ ¬ dp < 0 ∧ ¬ n < 0 ∧ sp.toNatClampNeg + n.toNatClampNeg ≤ (mm_S r b).2 ∧ dp.toNatClampNeg + n.toNatClampNeg ≤ (mm_S r a).2) (pc' := pc + 3) (ls' := ls) (st' := st) (I' := I) (r' := mm_cG r a b sp.toNatClampNeg dp.toNatClampNeg n.toNatClampNeg) ((mm_stp_of hc hd rfl).trans (by simp only [mm_act, hk.1]; rw [if_pos hk.2.1]; rfl))]
  exact ⟨fun h => ⟨⟨h.1.1.2, h.1.2⟩, h.2⟩, fun h => ⟨⟨⟨hk.2.2, h.1.1⟩, h.1.2⟩, h.2⟩⟩
/-- a call: P is what is asked of the stack below and of the receiver -/
theorem mm_E_call {i : Instr} {j2 : Nat} {av st' : List Value} {P : Prop} [Decidable P] {en : mm_L} (hi : mm_iC i = true) (he : mm_en j2 av = en) (h : mm_stp j pc ls st I r = mm_flt i (if P then some (.inr (.inr (j2, av, pc + 3, st'))) else none)) : mm_E j pc ls st I r Q ↔ P ∧ mm_E j2 0 en [] I r (fun v I' r' => mm_E j (pc + 3) ls (mm_pu v st') I' r' Q) := by
  subst he
  by_cases hP : P
  · rw [if_pos hP] at h
    have h2 : mm_stp j pc ls st I r = some (.inr (.inr (j2, av, pc + 3, st'))) := by rw [h]; unfold mm_flt; exact if_pos hi
    rw [mm_E_cl h2]
    exact ⟨fun q => ⟨hP, q⟩, fun q => q.2⟩
  · rw [if_neg hP] at h
    rw [mm_E_no h]
    exact ⟨False.elim, fun q => absurd q.1 hP⟩
theorem me_vc {k j2 a n o : Nat} {As xs : List Value} {en : mm_L} (hc : mm_c j = cc) (hd : decode cc pc = .ok (.invokevirtual k, 3)) (hm : mm_m (mm_o j) k = some j2) (hs : mm_a j2 = n ∧ mm_k j2 = 0 ∧ mm_h j2 < mm_h j ∧ mm_x j2 ≤ 15 ∧ mm_o j2 = o) (hl : As.length = n) (hx : xs = As.reverse) (hsl : (mm_sl (.ref a :: As)).length ≤ mm_x j2) (he : mm_en j2 (.ref a :: As) = en) : mm_E j pc ls (xs ++ .ref a :: st) I r Q ↔ (mm_w8 st = true ∧ mm_S r a = (1, o)) ∧ mm_E j2 0 en [] I r (fun v I' r' => mm_E j (pc + 3) ls (mm_pu v st) I' r' Q) := by
  subst hx
  have ht : (As.reverse ++ .ref a :: st).take (mm_a j2) = As.reverse := by rw [hs.1, ← hl, ← List.length_reverse]; exact List.take_left
  have hdp : (As.reverse ++ .ref a :: st).drop (mm_a j2) = .ref a :: st := by rw [hs.1, ← hl, ← List.length_reverse]; exact List.drop_left
  rw [mm_E_call (i := .invokevirtual k) (j := j) (pc := pc) (P := As.reverse.length = mm_a j2 ∧ mm_k j2 = 0 ∧ mm_h j2 < mm_h j ∧ mm_w8 st = true ∧ mm_S r a = (1, mm_o j2) ∧ mm_x j2 ≤ 15 ∧ (mm_sl (.ref a :: As)).length ≤ mm_x j2) (st' := st) rfl he ((mm_stp_of hc hd rfl).trans (by simp only [mm_act, hm, mm_vc, hdp, ht, List.reverse_reverse]))]
  rw [hs.2.2.2.2]
  exact ⟨fun h => ⟨⟨h.1.2.2.2.1, h.1.2.2.2.2.1⟩, h.2⟩, fun h => ⟨⟨by rw [List.length_reverse, hl, hs.1], hs.2.1, hs.2.2.1, h.1.1, h.1.2, hs.2.2.2.1, hsl⟩, h.2⟩⟩
theorem me_xc {k j2 a n : Nat} {As xs : List Value} {en : mm_L} (hc : mm_c j = cc) (hd : decode cc pc = .ok (.invokespecial k, 3)) (hm : mm_m (mm_o j) k = some j2) (hs : mm_a j2 = n ∧ mm_k j2 = 2 ∧ mm_h j2 < mm_h j ∧ mm_x j2 ≤ 15) (hl : As.length = n) (hx : xs = As.reverse) (hsl : (mm_sl (.ref a :: As)).length ≤ mm_x j2) (he : mm_en j2 (.ref a :: As) = en) : mm_E j pc ls (xs ++ .ref a :: st) I r Q ↔ mm_w8 st = true ∧ mm_E j2 0 en [] I r (fun v I' r' => mm_E j (pc + 3) ls (mm_pu v st) I' r' Q) := by
  subst hx
  have ht : (As.reverse ++ .ref a :: st).take (mm_a j2) = As.reverse := by rw [hs.1, ← hl, ← List.length_reverse]; exact List.take_left
  have hdp : (As.reverse ++ .ref a :: st).drop (mm_a j2) = .ref a :: st := by rw [hs.1, ← hl, ← List.length_reverse]; exact List.drop_left
  rw [mm_E_call (i := .invokespecial k) (j := j) (pc := pc) (P := As.reverse.length = mm_a j2 ∧ mm_k j2 = 2 ∧ mm_h j2 < mm_h j ∧ mm_w8 st = true ∧ mm_x j2 ≤ 15 ∧ (mm_sl (.ref a :: As)).length ≤ mm_x j2) (st' := st) rfl he ((mm_stp_of hc hd rfl).trans (by simp only [mm_act, hm, mm_xc, hdp, ht, List.reverse_reverse]))]
  exact ⟨fun h => ⟨h.1.2.2.2.1, h.2⟩, fun h => ⟨⟨by rw [List.length_reverse, hl, hs.1], hs.2.1, hs.2.2.1, h.1, hs.2.2.2, hsl⟩, h.2⟩⟩
theorem me_sc {k j2 n : Nat} {As xs : List Value} {en : mm_L} (hc : mm_c j = cc) (hd : decode cc pc = .ok (.invokestatic k, 3)) (hm : mm_m (mm_o j) k = some j2) (hs : mm_a j2 = n ∧ mm_k j2 = 1 ∧ mm_h j2 < mm_h j ∧ mm_x j2 ≤ 15) (hl : As.length = n) (hx : xs = As.reverse) (hsl : (mm_sl As).length ≤ mm_x j2) (he : mm_en j2 As = en) : mm_E j pc ls (xs ++ st) I r Q ↔ mm_w8 st = true ∧ mm_E j2 0 en [] I r (fun v I' r' => mm_E j (pc + 3) ls (mm_pu v st) I' r' Q) := by
  subst hx
  have ht : (As.reverse ++ st).take (mm_a j2) = As.reverse := by rw [hs.1, ← hl, ← List.length_reverse]; exact List.take_left
  have hdp : (As.reverse ++ st).drop (mm_a j2) = st := by rw [hs.1, ← hl, ← List.length_reverse]; exact List.drop_left
  rw [mm_E_call (i := .invokestatic k) (j := j) (pc := pc) (P := As.reverse.length = mm_a j2 ∧ mm_k j2 = 1 ∧ mm_h j2 < mm_h j ∧ mm_w8 st = true ∧ mm_x j2 ≤ 15 ∧ (mm_sl As).length ≤ mm_x j2) (st' := st) rfl he ((mm_stp_of hc hd rfl).trans (by simp only [mm_act, hm, mm_sc, hdp, ht, List.reverse_reverse]))]
  exact ⟨fun h => ⟨h.1.2.2.2.1, h.2⟩, fun h => ⟨⟨by rw [List.length_reverse, hl, hs.1], hs.2.1, hs.2.2.1, h.1, hs.2.2.2, hsl⟩, h.2⟩⟩
theorem me_sw {i : Instr} {len tgt : Nat} {off : Int} {x : Int32} (hc : mm_c j = cc) (hd : decode cc pc = .ok (i, len)) (hlen : (mm_len i).getD len = len) (ha : mm_act j pc i ls (.int x :: st) I r = mm_jp pc off ls st I r) (ht : (pc : Int) + off = (tgt : Int)) : mm_E j pc ls (.int x :: st) I r Q ↔ mm_E j tgt ls st I r Q := mm_E_nx ((mm_stp_of hc hd hlen).trans (by rw [ha]; simp only [mm_jp, ht]; rw [if_pos (Int.natCast_nonneg tgt)]; rfl))
end
end
