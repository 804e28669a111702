/-! what the tables say, by the small machine's numbers -/
theorem mm_vw {ci : Nat} (h : ci < 7) : vwCl[ci]? = some (mm_Rn ci, mm_Tn ci, mm_N ci) := match ci, h with
  | 0, _ => rfl
  | 1, _ => rfl
  | 2, _ => rfl
  | 3, _ => rfl
  | 4, _ => rfl
  | 5, _ => rfl
  | 6, _ => rfl
  | k + 7, h => absurd h (by omega)
theorem mm_uw {ci : Nat} (h : ci < 7) : ∀ w ∈ u_ws (mm_Rn ci) (mm_Tn ci) (mm_N ci), w ∈ mm_U := match ci, h with
  | 0, _ => mm_u0
  | 1, _ => mm_u1
  | 2, _ => mm_u2
  | 3, _ => mm_u3
  | 4, _ => mm_u4
  | 5, _ => mm_u5
  | 6, _ => mm_u6
  | k + 7, h => absurd h (by omega)
theorem mm_tyok {ci : Nat} (h : ci < 7) : ∀ k, k < mm_N ci → parseFieldDescriptor (mm_Tn ci k).2.2.1 = some (mm_tyn ci k) := match ci, h with
  | 0, _ => tyX0_ok
  | 1, _ => tyX1_ok
  | 2, _ => tyX2_ok
  | 3, _ => tyX3_ok
  | 4, _ => tyX4_ok
  | 5, _ => tyX5_ok
  | 6, _ => tyX6_ok
  | k + 7, h => absurd h (by omega)
theorem mm_nmok {ci : Nat} (h : ci < 7) : ∀ a, a < mm_N ci → ∀ b, b < mm_N ci → a ≠ b → (mm_Tn ci a).2.1 ≠ (mm_Tn ci b).2.1 := match ci, h with
  | 0, _ => nmX0
  | 1, _ => nmX1
  | 2, _ => nmX2
  | 3, _ => nmX3
  | 4, _ => nmX4
  | 5, _ => nmX5
  | 6, _ => nmX6
  | k + 7, h => absurd h (by omega)
theorem mm_dcl {ci : Nat} (h : ci < 7) : ∀ k, k < mm_N ci → (mm_Tn ci k).1 = mm_Rn ci := match ci, h with
  | 0, _ => by decide +kernel
  | 1, _ => by decide +kernel
  | 2, _ => by decide +kernel
  | 3, _ => by decide +kernel
  | 4, _ => by decide +kernel
  | 5, _ => by decide +kernel
  | 6, _ => by decide +kernel
  | k + 7, h => absurd h (by omega)
theorem mm_kin {ci : Nat} (h : ci < 7) : ∀ k, k < mm_N ci → mm_tyn ci k = .int ∨ mm_tyn ci k = .boolean ∨ (∃ C, mm_tyn ci k = .object C) ∨ (∃ C, mm_tyn ci k = .array C) := by
  have key : ∀ ci, ci < 7 → ∀ k, k < 16 → k < mm_N ci → (match mm_tyn ci k with
    | .int => true
    | .boolean => true
    | .object _ => true
    | .array _ => true
    | _ => false) = true := by decide +kernel
  have hN : ∀ ci, ci < 7 → mm_N ci ≤ 16 := by decide
  intro k hk
  have h1 := key ci h k (Nat.lt_of_lt_of_le hk (hN ci h)) hk
  cases hq : mm_tyn ci k <;> rw [hq] at h1 <;> simp_all
theorem mm_inst {ci : Nat} (h : ci < 7) : Cond.instantiable (mm_Rn ci) (mm_N ci) ∈ mm_U ∧ Cond.initialized (mm_Rn ci) ∈ mm_U := match ci, h with
  | 0, _ => ⟨mw_14, mw_15⟩
  | 1, _ => ⟨mw_23, mw_24⟩
  | 2, _ => ⟨mw_19, mw_20⟩
  | 3, _ => ⟨mw_32, mw_33⟩
  | 4, _ => ⟨mw_27, mw_28⟩
  | 5, _ => ⟨mw_1, mw_2⟩
  | 6, _ => ⟨mw_4, mw_5⟩
  | k + 7, h => absurd h (by omega)
theorem mm_find {α β : Type} {T : List α} {f : α → Bool} {g : α → β} {x : β} (h : (T.find? f).map g = some x) : ∃ q ∈ T, f q = true ∧ g q = x := by
  cases hq : T.find? f with
  | none => rw [hq] at h; cases h
  | some q => rw [hq] at h; exact ⟨q, List.mem_of_find?_eq_some hq, List.find?_some hq, Option.some.inj h⟩
theorem mm_f_ok {o i ci k : Nat} (h : mm_f o i = some (ci, k)) : Cond.fieldLink (mm_Rn o) i (mm_Tn ci k).1 (mm_Tn ci k).2.1 (mm_Tn ci k).2.2.1 ∈ mm_U ∧ ci < 7 ∧ k < mm_N ci := by
  obtain ⟨⟨o', i', ci', k'⟩, hm, hf, hg⟩ := mm_find h
  simp only [Bool.and_eq_true, beq_iff_eq] at hf
  obtain ⟨rfl, rfl⟩ := hf
  cases hg
  exact mm_fT_ok _ hm
theorem mm_m_ok {o i j : Nat} (h : mm_m o i = some j) : Cond.methodLink (mm_Rn o) i (mm_y j) ∈ mm_U ∧ j < 164 := by
  obtain ⟨⟨o', i', j'⟩, hm, hf, hg⟩ := mm_find h
  simp only [Bool.and_eq_true, beq_iff_eq] at hf
  obtain ⟨rfl, rfl⟩ := hf
  cases hg
  exact mm_mT_ok _ hm
theorem mm_kk_ok {o i ci : Nat} (h : mm_kk o i = some ci) : Cond.classLink (mm_Rn o) i (mm_Rn ci) ∈ mm_U ∧ ci < 7 := by
  obtain ⟨⟨o', i', j'⟩, hm, hf, hg⟩ := mm_find h
  simp only [Bool.and_eq_true, beq_iff_eq] at hf
  obtain ⟨rfl, rfl⟩ := hf
  cases hg
  exact mm_kT_ok _ hm
theorem mm_ci_ok {o i : Nat} {x : Int32} (h : mm_ci o i = some x) : Cond.constant (mm_Rn o) i x ∈ mm_U := by
  obtain ⟨⟨o', i', j'⟩, hm, hf, hg⟩ := mm_find h
  simp only [Bool.and_eq_true, beq_iff_eq] at hf
  obtain ⟨rfl, rfl⟩ := hf
  cases hg
  exact mm_cT_ok _ hm
theorem mm_cl_ok {o i : Nat} {x : Int64} (h : mm_cl o i = some x) : Cond.constantLong (mm_Rn o) i x ∈ mm_U := by
  obtain ⟨⟨o', i', j'⟩, hm, hf, hg⟩ := mm_find h
  simp only [Bool.and_eq_true, beq_iff_eq] at hf
  obtain ⟨rfl, rfl⟩ := hf
  cases hg
  exact mm_lT_ok _ hm
/-! what an answer of the step says of the stack -/
section
variable {st : List Value} {o : mm_O} {v : Option Value}
theorem mm_li_inv {f : Int32 → Option mm_O} (h : mm_li v f = some o) : ∃ x, v = some (.int x) ∧ f x = some o := by
  unfold mm_li at h; split at h
  · exact ⟨_, rfl, h⟩
  · cases h
theorem mm_ll_inv {f : Int64 → Option mm_O} (h : mm_ll v f = some o) : ∃ x, v = some (.long x) ∧ f x = some o := by
  unfold mm_ll at h; split at h
  · exact ⟨_, rfl, h⟩
  · cases h
theorem mm_la_inv {f : Nat → Option mm_O} (h : mm_la v f = some o) : ∃ x, v = some (.ref x) ∧ f x = some o := by
  unfold mm_la at h; split at h
  · exact ⟨_, rfl, h⟩
  · cases h
theorem mm_i1_inv {f : Int32 → List Value → Option mm_O} (h : mm_i1 st f = some o) : ∃ x tl, st = .int x :: tl ∧ f x tl = some o := by
  unfold mm_i1 at h; split at h
  · exact ⟨_, _, rfl, h⟩
  · cases h
theorem mm_i2_inv {f : Int32 → Int32 → List Value → Option mm_O} (h : mm_i2 st f = some o) : ∃ x y tl, st = .int y :: .int x :: tl ∧ f x y tl = some o := by
  unfold mm_i2 at h; split at h
  · exact ⟨_, _, _, rfl, h⟩
  · cases h
theorem mm_l1_inv {f : Int64 → List Value → Option mm_O} (h : mm_l1 st f = some o) : ∃ x tl, st = .long x :: tl ∧ f x tl = some o := by
  unfold mm_l1 at h; split at h
  · exact ⟨_, _, rfl, h⟩
  · cases h
theorem mm_l2_inv {f : Int64 → Int64 → List Value → Option mm_O} (h : mm_l2 st f = some o) : ∃ x y tl, st = .long y :: .long x :: tl ∧ f x y tl = some o := by
  unfold mm_l2 at h; split at h
  · exact ⟨_, _, _, rfl, h⟩
  · cases h
theorem mm_a1_inv {f : Nat → List Value → Option mm_O} (h : mm_a1 st f = some o) : ∃ x tl, st = .ref x :: tl ∧ f x tl = some o := by
  unfold mm_a1 at h; split at h
  · exact ⟨_, _, rfl, h⟩
  · cases h
theorem mm_ia_inv {f : Nat → Int32 → List Value → Option mm_O} (h : mm_ia st f = some o) : ∃ a x tl, st = .int x :: .ref a :: tl ∧ f a x tl = some o := by
  unfold mm_ia at h; split at h
  · exact ⟨_, _, _, rfl, h⟩
  · cases h
theorem mm_iia_inv {f : Nat → Int32 → Int32 → List Value → Option mm_O} (h : mm_iia st f = some o) : ∃ a i x tl, st = .int x :: .int i :: .ref a :: tl ∧ f a i x tl = some o := by
  unfold mm_iia at h; split at h
  · exact ⟨_, _, _, _, rfl, h⟩
  · cases h
theorem mm_lia_inv {f : Nat → Int32 → Int64 → List Value → Option mm_O} (h : mm_lia st f = some o) : ∃ a i x tl, st = .long x :: .int i :: .ref a :: tl ∧ f a i x tl = some o := by
  unfold mm_lia at h; split at h
  · exact ⟨_, _, _, _, rfl, h⟩
  · cases h
theorem mm_aia_inv {f : Nat → Int32 → Nat → List Value → Option mm_O} (h : mm_aia st f = some o) : ∃ a i x tl, st = .ref x :: .int i :: .ref a :: tl ∧ f a i x tl = some o := by
  unfold mm_aia at h; split at h
  · exact ⟨_, _, _, _, rfl, h⟩
  · cases h
theorem mm_v1_inv {f : Value → List Value → Option mm_O} (h : mm_v1 st f = some o) : ∃ x tl, st = x :: tl ∧ f x tl = some o := by
  unfold mm_v1 at h; split at h
  · exact ⟨_, _, rfl, h⟩
  · cases h
theorem mm_v2_inv {f : Value → Value → List Value → Option mm_O} (h : mm_v2 st f = some o) : ∃ x y tl, st = y :: x :: tl ∧ f x y tl = some o := by
  unfold mm_v2 at h; split at h
  · exact ⟨_, _, _, rfl, h⟩
  · cases h
theorem mm_pt_inv {f : Nat → Int32 → List Value → Option mm_O} {g : Nat → Nat → List Value → Option mm_O} (h : mm_pt st f g = some o) : (∃ a x tl, st = .int x :: .ref a :: tl ∧ f a x tl = some o) ∨ ∃ a x tl, st = .ref x :: .ref a :: tl ∧ g a x tl = some o := by
  unfold mm_pt at h; split at h
  · exact Or.inl ⟨_, _, _, rfl, h⟩
  · exact Or.inr ⟨_, _, _, rfl, h⟩
  · cases h
theorem mm_cp_inv {f : Nat → Int32 → Nat → Int32 → Int32 → List Value → Option mm_O} (h : mm_cp st f = some o) : ∃ b sp a dp n tl, st = .int n :: .int dp :: .ref a :: .int sp :: .ref b :: tl ∧ f b sp a dp n tl = some o := by
  unfold mm_cp at h; split at h
  · exact ⟨_, _, _, _, _, _, rfl, h⟩
  · cases h
theorem mm_if_inv {c : Prop} [Decidable c] {x : Option mm_O} (h : (if c then x else none) = some o) : c ∧ x = some o := by
  by_cases hc : c
  · rw [if_pos hc] at h; exact ⟨hc, h⟩
  · rw [if_neg hc] at h; cases h
theorem mm_ifn_inv {c : Prop} [Decidable c] {x : Option mm_O} (h : (if c then none else x) = some o) : ¬ c ∧ x = some o := by
  by_cases hc : c
  · rw [if_pos hc] at h; cases h
  · rw [if_neg hc] at h; exact ⟨hc, h⟩
theorem mm_nx_inv {pc pc' : Nat} {ls ls' : mm_L} {st st' : List Value} {I I' : mm_I} {r r' : mm_R} (h : mm_nx pc ls st I r = some (.inl (pc', ls', st', I', r'))) : pc = pc' ∧ ls = ls' ∧ st = st' ∧ I = I' ∧ r = r' := by
  unfold mm_nx at h
  cases h
  exact ⟨rfl, rfl, rfl, rfl, rfl⟩
theorem mm_jp_inv {pc pc' : Nat} {off : Int} {ls ls' : mm_L} {st st' : List Value} {I I' : mm_I} {r r' : mm_R} (h : mm_jp pc off ls st I r = some (.inl (pc', ls', st', I', r'))) : (pc : Int) + off = (pc' : Int) ∧ ls = ls' ∧ st = st' ∧ I = I' ∧ r = r' := by
  unfold mm_jp at h
  obtain ⟨hc, h⟩ := mm_if_inv h
  obtain ⟨rfl, h2⟩ := mm_nx_inv h
  exact ⟨(Int.toNat_of_nonneg hc).symm, h2⟩
end
/-! locals -/
def mm_lv (arr : Array Slot) (ls : mm_L) : Prop := arr.size = ls.length ∧ lv_wf arr ∧ ∀ i v, mm_ld ls i = some v → arr[i]? = some (.val v)
def mm_al (ls : mm_L) : List (Nat × Value) := (List.range ls.length).filterMap (fun i => (mm_ld ls i).map (fun v => (i, v)))
theorem mm_ld_lt {ls : mm_L} {i : Nat} {v : Value} (h : mm_ld ls i = some v) : i < ls.length := by
  unfold mm_ld at h
  rcases Nat.lt_or_ge i ls.length with q | q
  · exact q
  · rw [List.getElem?_eq_none q] at h; cases h
theorem mm_al_mem {ls : mm_L} {i : Nat} {v : Value} (h : mm_ld ls i = some v) : (i, v) ∈ mm_al ls := List.mem_filterMap.mpr ⟨i, List.mem_range.mpr (mm_ld_lt h), by rw [h]; rfl⟩
theorem mm_lv.has {arr : Array Slot} {ls : mm_L} (h : mm_lv arr ls) : lv_has arr ls.length (mm_al ls) := by
  refine ⟨h.1, h.2.1, fun q hq => ?_⟩
  obtain ⟨i, -, hi⟩ := List.mem_filterMap.mp hq
  cases hv : mm_ld ls i with
  | none => rw [hv] at hi; cases hi
  | some v => rw [hv] at hi; cases hi; exact h.2.2 i v hv
theorem mm_s1_inv {ls : mm_L} {i : Nat} {v : Value} {f : mm_L → Option mm_O} {o : mm_O} (h : mm_s1 ls i v f = some o) : (i < ls.length ∧ (i = 0 ∨ ((mm_ld ls (i - 1)).map Value.category).getD 1 = 1)) ∧ f (ls.set i (some v)) = some o := mm_if_inv h
theorem mm_ld_set {ls : mm_L} {i k : Nat} {v w : Value} (h : mm_ld (ls.set i (some v)) k = some w) : (k = i ∧ w = v) ∨ (k ≠ i ∧ mm_ld ls k = some w) := by
  unfold mm_ld at h ⊢
  by_cases hk : k = i
  · subst hk
    left
    by_cases hl : k < ls.length
    · rw [List.getElem?_set_self hl] at h
      exact ⟨rfl, (Option.some.inj h).symm⟩
    · rw [List.getElem?_eq_none (by simpa using Nat.le_of_not_lt hl)] at h
      cases h
  · right
    rw [List.getElem?_set_ne (Ne.symm hk)] at h
    exact ⟨hk, h⟩
theorem mm_lv.set {arr : Array Slot} {ls : mm_L} {i : Nat} {v : Value} (hi : i < ls.length ∧ (i = 0 ∨ ((mm_ld ls (i - 1)).map Value.category).getD 1 = 1)) (h : lv_has arr ls.length ((i, v) :: (mm_al ls).filter (fun q => !(q.1 == i) && !(q.1 + 1 == i && q.2.category == 2)))) : mm_lv arr (ls.set i (some v)) := by
  refine ⟨by rw [h.1, List.length_set], h.2.1, fun k w hk => ?_⟩
  rcases mm_ld_set hk with ⟨rfl, rfl⟩ | ⟨hne, hw⟩
  · exact h.2.2 (k, w) List.mem_cons_self
  · refine h.2.2 (k, w) (List.mem_cons_of_mem _ (List.mem_filter.mpr ⟨mm_al_mem hw, ?_⟩))
    have h1 : (k == i) = false := by simpa using hne
    rw [h1]
    simp only [Bool.not_false, Bool.true_and, Bool.not_eq_true', Bool.and_eq_false_iff, beq_eq_false_iff_ne, ne_eq]
    by_cases hz : k + 1 = i
    · right
      rcases hi.2 with h0 | h0
      · omega
      · rw [show i - 1 = k by omega, hw] at h0
        simp at h0
        omega
    · exact Or.inl hz
