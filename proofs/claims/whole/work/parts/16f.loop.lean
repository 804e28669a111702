theorem lw_gt {i L : Nat} (hL : L ≤ 512) (hi : i ≤ L) (c : ¬ Int32.ofNat L - 8 < nI i) : i + 8 ≤ L := by
  rcases Nat.lt_or_ge L (i + 8) with q | q
  · refine absurd ?_ c
    rw [Int32.lt_iff_toInt_lt, Int32.toInt_sub, show (Int32.ofNat L).toInt = (L : Int) from nI_toInt (by omega), nI_toInt (by omega), show (8 : Int32).toInt = 8 from rfl, Int.bmod_eq_of_le (by omega) (by omega)]
    omega
  · exact q
theorem HX_e {x T : Nat} {I J : mm_I} {r s : mm_R} (h : ef 0 T I J r s) (hT : x + 199 ≤ T) (hx : HX r x) : HX s x := by
  obtain ⟨y1, ⟨l1, l2, l3, l4⟩, p1, p2, y5, y6, y7⟩ := hx
  have k : ∀ a, a < 199 → mm_P s (x + a) = mm_P r (x + a) ∧ mm_S s (x + a) = mm_S r (x + a) := fun a ha => (h (x + a) (Nat.zero_le _) (by omega)).2.2
  refine ⟨?_, ⟨ln_S_e h (Nat.zero_le _) (by omega) l1, ln_S_e h (Nat.zero_le _) (by omega) l2, ln_S_e h (Nat.zero_le _) (by omega) l3, ln_S_e h (Nat.zero_le _) (by omega) l4⟩, pa_S_e h (Nat.zero_le _) (by omega) p1, pa_S_e h (Nat.zero_le _) (by omega) p2, ?_, ?_, ?_, fun i hi => ?_⟩
  · have k0 := k 0 (by decide)
    rw [Nat.add_zero] at k0
    unfold hs_0
    rw [k0.1, k0.2]
    exact y1
  · unfold hs_p
    rw [(k 93 (by decide)).1, (k 93 (by decide)).2, (k 94 (by decide)).2, (k 95 (by decide)).2]
    exact y5
  · unfold hs_t
    rw [(k 96 (by decide)).1, (k 96 (by decide)).2, (k 97 (by decide)).2]
    exact y6
  · rw [(k 107 (by decide)).2]
    exact y7.1
  · have k1 := h (x + 108 + 2 * i) (Nat.zero_le _) (by omega)
    have k2 := h (x + 109 + 2 * i) (Nat.zero_le _) (by omega)
    rw [(k 107 (by decide)).1, k1.2.2.1, k1.2.2.2, k2.2.2.2]
    exact y7.2 i hi
theorem HI_e {x T : Nat} {I J : mm_I} {r s : mm_R} (h : ef 0 T I J r s) (hT : x + 199 ≤ T) (hx : HI I r x) : HI J s x := by
  obtain ⟨y1, y2, y3, y4, y5⟩ := hx
  refine ⟨?_, ?_, ?_, ?_, fun i hi => ?_⟩
  · unfold LI
    rw [(h (x + 1) (Nat.zero_le _) (by omega)).1]
    exact y1
  · rw [(h (x + 19) (Nat.zero_le _) (by omega)).1]
    exact y2
  · rw [(h (x + 96) (Nat.zero_le _) (by omega)).1]
    exact y3
  · rw [(h x (Nat.zero_le _) (by omega)).1]
    exact y4
  · have k1 := h (x + 108 + 2 * i) (Nat.zero_le _) (by omega)
    have k2 := h (x + 109 + 2 * i) (Nat.zero_le _) (by omega)
    rw [k1.1, k2.2.1]
    exact y5 i hi
set_option maxHeartbeats 4000000 in
theorem law_loop {p : Program} {l : Launch} {e : Env} {s : State} {m : MethodId} {below : List Frame} {meth : Method} {c : Code} {D : va_G} {cA : Nat → ClassId} {b L x y cells slots : Nat} {xs : Nat → Int32} (hL : L ≤ 512) (C0 : lw_At p s m meth c b L xs) (X : lw_Cx D cA p s m #[Value.ref b] c) (hc : cells ≤ 600000) (hs : slots ≤ 7302250) :
    ∀ (n i : Nat), i ≤ L → L + 1 ≤ i + n → ∀ (I : mm_I) (r : mm_R) (H : Heap) (locs : List Loc), ALL I r x y → s.heap.size + cells = mm_t r → mm_Wd D cA s.heap.size I r H → va_S (mm_A s.heap.size) s.heap H locs → ∀ (ls : Array Slot), lv_has ls 4 [(0, .ref b), (1, .ref x), (2, .ref y), (3, .int (nI i))] → W p l e room_1 s m #[Value.ref b] below meth c H locs cells slots (lw_Z below #[Value.ref b] s) (F0 m 18 ls []) := by
  obtain ⟨hx, hb, hr, hml, hown, hts, hX, hbl, hlocks, hgv⟩ := C0
  have hbA : ¬ mm_A s.heap.size b := Nat.not_le.mpr hbl
  intro n
  induction n with
  | zero =>
    intro i h1 h2
    exact absurd h2 (by omega)
  | succ n ih =>
    intro i hi hin I r H locs hA hz hW hS ls hl
    refine lv_iload_n hx hb dL_law_18 rfl (lv_at hl 3 rfl) ?_
    refine lv_aload_n hx hb dL_law_19 rfl (lv_at hl 0 rfl) ?_
    refine va_slen hx hb hX hbl hbA hS dL_law_20 ?_
    refine lv_bipush (v := 8) hx hb dL_law_21 (by decide) ?_
    refine lv_isub hx hb dL_law_23 ?_
    refine lv_icmp_gt (tgt := 1393) hx hb dL_law_24 (by decide) (fun c1 => ?_) (fun c1 => ?_)
    · refine lv_iconst (v := 1) hx hb dL_law_1393 (by decide) ?_
      refine va_forget (fun q hq => hS.2.2 q hq) ?_
      refine W.widen (k := 600000) (n := 7302250) hc hs ?_
      exact lw_ret hx hb hr hlocks dL_law_1394
    · have h8 : i + 8 ≤ L := lw_gt hL hi c1
      refine lv_aload_n hx hb dL_law_27 rfl (lv_at hl 0 rfl) ?_
      refine lv_iload_n hx hb dL_law_28 rfl (lv_at hl 3 rfl) ?_
      refine va_sld hx hb hX hbl hbA hS (vp_in_nI (by omega) (by omega)) dL_law_29 ?_
      refine lv_bipush (v := 63) hx hb dL_law_30 (by decide) ?_
      refine lv_iand hx hb dL_law_32 ?_
      refine lv_topi (fun v ev => ?_)
      have kk : lw_KK p l e s m #[Value.ref b] below meth c (lw_Z below #[Value.ref b] s) D cA x y ls cells slots := by
        intro I1 r1 H1 locs1 hA1 hz1 hW1 hS1
        refine lv_iinc (v := nI (i + 8)) (lv' := [(3, .int (nI (i + 8))), (0, .ref b), (1, .ref x), (2, .ref y)]) hx hb dL_law_1387 hl (k := 3) rfl (by rw [← nI_add]; rfl) (by decide) rfl (fun ls hl => ?_)
        refine lv_goto (tgt := 18) hx hb dL_law_1390 (by decide) ?_
        exact ih (i + 8) h8 (by omega) I1 r1 H1 locs1 hA1 hz1 hW1 hS1 ls (lv_sub hl [1, 2, 3, 0] rfl)
      by_cases o : v.toInt < 0 ∨ 34 < v.toInt
      · exact lv_tableOut (tgt := 1387) hx hb dL_law_33 o (by decide) (kk I r H locs hA hz hW hS)
      · have h1 : ¬ v.toInt < 0 := fun q => o (Or.inl q)
        have h2 : ¬ 34 < v.toInt := fun q => o (Or.inr q)
        have hv : v.toInt = 0 ∨ v.toInt = 1 ∨ v.toInt = 2 ∨ v.toInt = 3 ∨ v.toInt = 4 ∨ v.toInt = 5 ∨ v.toInt = 6 ∨ v.toInt = 7 ∨ v.toInt = 8 ∨ v.toInt = 9 ∨ v.toInt = 10 ∨ v.toInt = 11 ∨ v.toInt = 12 ∨ v.toInt = 13 ∨ v.toInt = 14 ∨ v.toInt = 15 ∨ v.toInt = 16 ∨ v.toInt = 17 ∨ v.toInt = 18 ∨ v.toInt = 19 ∨ v.toInt = 20 ∨ v.toInt = 21 ∨ v.toInt = 22 ∨ v.toInt = 23 ∨ v.toInt = 24 ∨ v.toInt = 25 ∨ v.toInt = 26 ∨ v.toInt = 27 ∨ v.toInt = 28 ∨ v.toInt = 29 ∨ v.toInt = 30 ∨ v.toInt = 31 ∨ v.toInt = 32 ∨ v.toInt = 33 ∨ v.toInt = 34 := by omega
        rcases hv with q | q | q | q | q | q | q | q | q | q | q | q | q | q | q | q | q | q | q | q | q | q | q | q | q | q | q | q | q | q | q | q | q | q | q
        · exact lv_tableIn (off := 155) (tgt := 188) hx hb dL_law_33 h1 h2 (by rw [q]; rfl) (by decide) (lc_house X hX hbl h8 hL hA hl hW hS hz hc hs kk)
        · exact lv_tableIn (off := 188) (tgt := 221) hx hb dL_law_33 h1 h2 (by rw [q]; rfl) (by decide) (lc_hog X hX hbl h8 hL hA hl hW hS hz hc hs kk)
        · exact lv_tableIn (off := 231) (tgt := 264) hx hb dL_law_33 h1 h2 (by rw [q]; rfl) (by decide) (lc_interest X hX hbl h8 hL hA hl hW hS hz hc hs kk)
        · exact lv_tableIn (off := 254) (tgt := 287) hx hb dL_law_33 h1 h2 (by rw [q]; rfl) (by decide) (lc_of X hX hbl h8 hL hA hl hW hS hz hc hs kk)
        · exact lv_tableIn (off := 287) (tgt := 320) hx hb dL_law_33 h1 h2 (by rw [q]; rfl) (by decide) (lc_at X hX hbl h8 hL hA hl hW hS hz hc hs kk)
        · exact lv_tableIn (off := 320) (tgt := 353) hx hb dL_law_33 h1 h2 (by rw [q]; rfl) (by decide) (lc_type X hX hbl h8 hL hA hl hW hS hz hc hs kk)
        · exact lv_tableIn (off := 343) (tgt := 376) hx hb dL_law_33 h1 h2 (by rw [q]; rfl) (by decide) (lc_read X hX hbl h8 hL hA hl hW hS hz hc hs kk)
        · exact lv_tableIn (off := 356) (tgt := 389) hx hb dL_law_33 h1 h2 (by rw [q]; rfl) (by decide) (lc_count X hX hbl h8 hL hA hl hW hS hz hc hs kk)
        · exact lv_tableIn (off := 379) (tgt := 412) hx hb dL_law_33 h1 h2 (by rw [q]; rfl) (by decide) (lc_nights X hX hbl h8 hL hA hl hW hS hz hc hs kk)
        · exact lv_tableIn (off := 402) (tgt := 435) hx hb dL_law_33 h1 h2 (by rw [q]; rfl) (by decide) (lc_put X hX hbl h8 hL hA hl hW hS hz hc hs kk)
        · exact lv_tableIn (off := 435) (tgt := 468) hx hb dL_law_33 h1 h2 (by rw [q]; rfl) (by decide) (lc_pay X hX hbl h8 hL hA hl hW hS hz hc hs kk)
        · exact lv_tableIn (off := 468) (tgt := 501) hx hb dL_law_33 h1 h2 (by rw [q]; rfl) (by decide) (lc_drive X hX hbl h8 hL hA hl hW hS hz hc hs kk)
        · exact lv_tableIn (off := 501) (tgt := 534) hx hb dL_law_33 h1 h2 (by rw [q]; rfl) (by decide) (lc_forgive X hX hbl h8 hL hA hl hW hS hz hc hs kk)
        · exact lv_tableIn (off := 524) (tgt := 557) hx hb dL_law_33 h1 h2 (by rw [q]; rfl) (by decide) (lc_drift X hX hbl h8 hL hA hl hW hS hz hc hs kk)
        · exact lv_tableIn (off := 547) (tgt := 580) hx hb dL_law_33 h1 h2 (by rw [q]; rfl) (by decide) (lc_undo X hX hbl h8 hL hA hl hW hS hz hc hs kk)
        · exact lv_tableIn (off := 560) (tgt := 593) hx hb dL_law_33 h1 h2 (by rw [q]; rfl) (by decide) (lc_seed X hX hbl h8 hL hA hl hW hS hz hc hs kk)
        · exact lv_tableIn (off := 583) (tgt := 616) hx hb dL_law_33 h1 h2 (by rw [q]; rfl) (by decide) (lc_ahead X hX hbl h8 hL hA hl hW hS hz hc hs kk)
        · exact lv_tableIn (off := 626) (tgt := 659) hx hb dL_law_33 h1 h2 (by rw [q]; rfl) (by decide) (lc_where X hX hbl h8 hL hA hl hW hS hz hc hs kk)
        · exact lv_tableIn (off := 659) (tgt := 692) hx hb dL_law_33 h1 h2 (by rw [q]; rfl) (by decide) (lc_then X hX hbl h8 hL hA hl hW hS hz hc hs kk)
        · exact lv_tableIn (off := 692) (tgt := 725) hx hb dL_law_33 h1 h2 (by rw [q]; rfl) (by decide) (lc_lost X hX hbl h8 hL hA hl hW hS hz hc hs kk)
        · exact lv_tableIn (off := 715) (tgt := 748) hx hb dL_law_33 h1 h2 (by rw [q]; rfl) (by decide) (lc_free X hX hbl h8 hL hA hl hW hS hz hc hs kk)
        · exact lv_tableIn (off := 738) (tgt := 771) hx hb dL_law_33 h1 h2 (by rw [q]; rfl) (by decide) (lc_keep X hX hbl h8 hL hA hl hW hS hz hc hs kk)
        · exact lv_tableIn (off := 771) (tgt := 804) hx hb dL_law_33 h1 h2 (by rw [q]; rfl) (by decide) (lc_part X hX hbl h8 hL hA hl hW hS hz hc hs kk)
        · exact lv_tableIn (off := 814) (tgt := 847) hx hb dL_law_33 h1 h2 (by rw [q]; rfl) (by decide) (lc_drives X hX hbl h8 hL hA hl hW hS hz hc hs kk)
        · exact lv_tableIn (off := 857) (tgt := 890) hx hb dL_law_33 h1 h2 (by rw [q]; rfl) (by decide) (lc_visits X hX hbl h8 hL hA hl hW hS hz hc hs kk)
        · exact lv_tableIn (off := 890) (tgt := 923) hx hb dL_law_33 h1 h2 (by rw [q]; rfl) (by decide) (lc_solvent X hX hbl h8 hL hA hl hW hS hz hc hs kk)
        · exact lv_tableIn (off := 923) (tgt := 956) hx hb dL_law_33 h1 h2 (by rw [q]; rfl) (by decide) (lc_sleep X hX hbl h8 hL hA hl hW hS hz hc hs kk)
        · exact lv_tableIn (off := 966) (tgt := 999) hx hb dL_law_33 h1 h2 (by rw [q]; rfl) (by decide) (lc_image X hX hbl h8 hL hA hl hW hS hz hc hs kk)
        · exact lv_tableIn (off := 979) (tgt := 1012) hx hb dL_law_33 h1 h2 (by rw [q]; rfl) (by decide) (lc_restore X hX hbl h8 hL hA hl hW hS hz hc hs kk)
        · exact lv_tableIn (off := 992) (tgt := 1025) hx hb dL_law_33 h1 h2 (by rw [q]; rfl) (by decide) (lc_dawns X hX hbl h8 hL hA hl hW hS hz hc hs kk)
        · exact lv_tableIn (off := 1079) (tgt := 1112) hx hb dL_law_33 h1 h2 (by rw [q]; rfl) (by decide) (lc_film X hX hbl h8 hL hA hl hW hS hz hc hs kk)
        · exact lv_tableIn (off := 1142) (tgt := 1175) hx hb dL_law_33 h1 h2 (by rw [q]; rfl) (by decide) (lc_sheet X hX hbl h8 hL hA hl hW hS hz hc hs kk)
        · exact lv_tableIn (off := 1185) (tgt := 1218) hx hb dL_law_33 h1 h2 (by rw [q]; rfl) (by decide) (lc_drop X hX hbl h8 hL hA hl hW hS hz hc hs kk)
        · exact lv_tableIn (off := 1208) (tgt := 1241) hx hb dL_law_33 h1 h2 (by rw [q]; rfl) (by decide) (lc_item X hX hbl h8 hL hA hl hW hS hz hc hs kk)
        · exact lv_tableIn (off := 1291) (tgt := 1324) hx hb dL_law_33 h1 h2 (by rw [q]; rfl) (by decide) (lc_copy X hX hbl h8 hL hA hl hW hS hz hc hs kk)
