/-! the small machine's memory as the heap's cells -/
def mm_fs (ci : Nat) (I : mm_I) (r : mm_R) (a : Nat) : List Value := (List.range (mm_N ci)).map (fun k => if mm_ik ci k = true then .int (I a k) else va_rf (mm_P r a k))
def mm_cell (cA : Nat → ClassId) (I : mm_I) (r : mm_R) (a : Nat) : va_E :=
  if (mm_S r a).1 = 1 then .inr ((mm_S r a).2, mm_fs (mm_S r a).2 I r a)
  else if (mm_S r a).1 = 2 then .inl (cA 0, (mm_S r a).2, .inl (I a))
  else if (mm_S r a).1 = 3 then .inl (cA 1, (mm_S r a).2, .inr (.inl (mm_G r a)))
  else if (mm_S r a).1 = 4 then .inl (cA 2, (mm_S r a).2, .inr (.inr (.inr (.inr (mm_P r a)))))
  else .inl (cA 3, (mm_S r a).2, .inr (.inr (.inr (.inr (mm_P r a)))))
def mm_ws (cA : Nat → ClassId) (b : Nat) (I : mm_I) (r : mm_R) : va_W := (List.range (mm_t r - b)).map (fun k => (b + k, mm_cell cA I r (b + k)))
def mm_tys (cA : Nat → ClassId) : List (ClassId × FieldType) := [(cA 0, .int), (cA 1, .long), (cA 2, .object RX0), (cA 3, .object RX3)]
def mm_Wd (D : va_G) (cA : Nat → ClassId) (b : Nat) (I : mm_I) (r : mm_R) (H : Heap) : Prop := b ≤ mm_t r ∧ va_P D vwCl (mm_ws cA b I r) H ∧ ∀ a, (mm_S r a).1 ≠ 0 → b ≤ a ∧ a < mm_t r
abbrev mm_A (b : Nat) : Nat → Prop := fun q => b ≤ q
theorem mm_ws_get {cA : Nat → ClassId} {b k : Nat} {I : mm_I} {r : mm_R} {q : Nat × va_E} (h : (mm_ws cA b I r)[k]? = some q) : k < mm_t r - b ∧ q = (b + k, mm_cell cA I r (b + k)) := by
  unfold mm_ws at h
  rw [List.getElem?_map] at h
  by_cases hk : k < mm_t r - b
  · rw [List.getElem?_range hk] at h
    exact ⟨hk, (Option.some.inj h).symm⟩
  · rw [List.getElem?_eq_none (by simpa using Nat.le_of_not_lt hk)] at h
    cases h
theorem mm_at (cA : Nat → ClassId) {b a : Nat} (I : mm_I) {r : mm_R} (h1 : b ≤ a) (h2 : a < mm_t r) : (mm_ws cA b I r)[a - b]? = some (a, mm_cell cA I r a) := by
  unfold mm_ws
  rw [List.getElem?_map, List.getElem?_range (by omega)]
  have : b + (a - b) = a := by omega
  simp [this]
theorem mm_D (cA : Nat → ClassId) (b : Nat) (I : mm_I) (r : mm_R) : va_D (mm_A b) (mm_ws cA b I r) := by
  refine ⟨fun i j p q hi hj hpq => ?_, fun k q hk => ?_⟩
  · obtain ⟨-, rfl⟩ := mm_ws_get hi
    obtain ⟨-, rfl⟩ := mm_ws_get hj
    have : b + i = b + j := hpq
    omega
  · obtain ⟨-, rfl⟩ := mm_ws_get hk
    exact Nat.le_add_right b k
theorem mm_wset {cA : Nat → ClassId} {b a : Nat} {I I' : mm_I} {r r' : mm_R} {e : va_E} (ht : mm_t r' = mm_t r) (h1 : b ≤ a) (h2 : a < mm_t r) (he : mm_cell cA I' r' a = e) (ho : ∀ q, q ≠ a → mm_cell cA I' r' q = mm_cell cA I r q) : (mm_ws cA b I r).set (a - b) (a, e) = mm_ws cA b I' r' := by
  apply List.ext_getElem?
  intro k
  by_cases hk : k = a - b
  · subst hk
    rw [mm_at cA I' h1 (by rw [ht]; exact h2), he, List.getElem?_set_self]
    unfold mm_ws; simp; omega
  · rw [List.getElem?_set_ne (Ne.symm hk)]
    unfold mm_ws
    rw [List.getElem?_map, List.getElem?_map, ht]
    by_cases hl : k < mm_t r - b
    · rw [List.getElem?_range hl]
      have : b + k ≠ a := by omega
      simp [ho _ this]
    · rw [List.getElem?_eq_none (by simpa using Nat.le_of_not_lt hl)]
      rfl
theorem mm_wpush {cA : Nat → ClassId} {b : Nat} {I I' : mm_I} {r r' : mm_R} {e : va_E} (ht : mm_t r' = mm_t r + 1) (h1 : b ≤ mm_t r) (he : mm_cell cA I' r' (mm_t r) = e) (ho : ∀ q, q ≠ mm_t r → mm_cell cA I' r' q = mm_cell cA I r q) : mm_ws cA b I r ++ [(mm_t r, e)] = mm_ws cA b I' r' := by
  unfold mm_ws
  rw [ht, show mm_t r + 1 - b = (mm_t r - b) + 1 by omega, List.range_succ, List.map_append]
  congr 1
  · apply List.map_congr_left
    intro k hk
    have : b + k ≠ mm_t r := by have := List.mem_range.mp hk; omega
    simp [ho _ this]
  · have : b + (mm_t r - b) = mm_t r := by omega
    simp [this, he]
section
variable {D : va_G} {cA : Nat → ClassId} {b : Nat} {I : mm_I} {r : mm_R} {H : Heap}
theorem mm_Wd.lt (h : mm_Wd D cA b I r H) {a : Nat} (ha : (mm_S r a).1 ≠ 0) : b ≤ a ∧ a < mm_t r := h.2.2 a ha
theorem mm_Wd.cell (h : mm_Wd D cA b I r H) {a : Nat} (ha : (mm_S r a).1 ≠ 0) : (mm_ws cA b I r)[a - b]? = some (a, mm_cell cA I r a) := mm_at cA I (h.lt ha).1 (h.lt ha).2
theorem mm_Wd.ob (h : mm_Wd D cA b I r H) {a ci : Nat} (ha : mm_S r a = (1, ci)) : (mm_ws cA b I r)[a - b]? = some (a, .inr (ci, mm_fs ci I r a)) := by
  rw [h.cell (by rw [ha]; simp)]
  simp [mm_cell, ha]
theorem mm_Wd.iw (h : mm_Wd D cA b I r H) {a : Nat} (ha : (mm_S r a).1 = 2) : (mm_ws cA b I r)[a - b]? = some (a, .inl (cA 0, (mm_S r a).2, .inl (I a))) := by
  rw [h.cell (by rw [ha]; simp)]
  simp [mm_cell, ha]
theorem mm_Wd.lw (h : mm_Wd D cA b I r H) {a : Nat} (ha : (mm_S r a).1 = 3) : (mm_ws cA b I r)[a - b]? = some (a, .inl (cA 1, (mm_S r a).2, .inr (.inl (mm_G r a)))) := by
  rw [h.cell (by rw [ha]; simp)]
  simp [mm_cell, ha]
theorem mm_Wd.r4 (h : mm_Wd D cA b I r H) {a : Nat} (ha : (mm_S r a).1 = 4) : (mm_ws cA b I r)[a - b]? = some (a, .inl (cA 2, (mm_S r a).2, .inr (.inr (.inr (.inr (mm_P r a)))))) := by
  rw [h.cell (by rw [ha]; simp)]
  simp [mm_cell, ha]
theorem mm_Wd.r5 (h : mm_Wd D cA b I r H) {a : Nat} (ha : (mm_S r a).1 = 5) : (mm_ws cA b I r)[a - b]? = some (a, .inl (cA 3, (mm_S r a).2, .inr (.inr (.inr (.inr (mm_P r a)))))) := by
  rw [h.cell (by rw [ha]; simp)]
  simp [mm_cell, ha]
end
theorem mm_fs_at {ci k : Nat} (I : mm_I) (r : mm_R) (a : Nat) (hk : k < mm_N ci) : (mm_fs ci I r a)[k]? = some (if mm_ik ci k = true then .int (I a k) else va_rf (mm_P r a k)) := by
  unfold mm_fs
  rw [List.getElem?_map, List.getElem?_range hk]
  rfl
theorem mm_fs_len (ci : Nat) (I : mm_I) (r : mm_R) (a : Nat) : (mm_fs ci I r a).length = mm_N ci := by simp [mm_fs]
theorem mm_fs_setI {ci k : Nat} (I : mm_I) (r : mm_R) (a : Nat) (x : Int32) (hk : mm_ik ci k = true) (hl : k < mm_N ci) : (mm_fs ci I r a).set k (.int x) = mm_fs ci (mm_uI I a k x) r a := by
  apply List.ext_getElem?
  intro i
  by_cases hi : i = k
  · subst hi
    rw [List.getElem?_set_self (by rw [mm_fs_len]; exact hl), mm_fs_at _ _ _ hl]
    simp [hk, mm_uI, upd]
  · rw [List.getElem?_set_ne (Ne.symm hi)]
    unfold mm_fs
    rw [List.getElem?_map, List.getElem?_map]
    by_cases hz : i < mm_N ci
    · rw [List.getElem?_range hz]
      simp [mm_uI, upd, hi]
    · rw [List.getElem?_eq_none (by simpa using Nat.le_of_not_lt hz)]
      rfl
theorem mm_fs_setP {ci k : Nat} (I : mm_I) (r : mm_R) (a v : Nat) (hk : mm_ik ci k = false) (hl : k < mm_N ci) : (mm_fs ci I r a).set k (.ref v) = mm_fs ci I (mm_uP r a k (some v)) a := by
  apply List.ext_getElem?
  intro i
  by_cases hi : i = k
  · subst hi
    rw [List.getElem?_set_self (by rw [mm_fs_len]; exact hl), mm_fs_at _ _ _ hl]
    simp [hk, mm_uP, mm_P, va_up, va_rf]
  · rw [List.getElem?_set_ne (Ne.symm hi)]
    unfold mm_fs
    rw [List.getElem?_map, List.getElem?_map]
    by_cases hz : i < mm_N ci
    · rw [List.getElem?_range hz]
      simp [mm_uP, mm_P, va_up, hi]
    · rw [List.getElem?_eq_none (by simpa using Nat.le_of_not_lt hz)]
      rfl
theorem mm_fs_oI {ci a k q : Nat} (I : mm_I) (r : mm_R) (x : Int32) (h : q ≠ a) : mm_fs ci (mm_uI I a k x) r q = mm_fs ci I r q := by simp [mm_fs, mm_uI, h]
theorem mm_fs_oP {ci a k q : Nat} (I : mm_I) (r : mm_R) (x : Option Nat) (h : q ≠ a) : mm_fs ci I (mm_uP r a k x) q = mm_fs ci I r q := by simp [mm_fs, mm_uP, mm_P, h]
theorem mm_cell_oI {cA : Nat → ClassId} {a k q : Nat} (I : mm_I) (r : mm_R) (x : Int32) (h : q ≠ a) : mm_cell cA (mm_uI I a k x) r q = mm_cell cA I r q := by
  unfold mm_cell
  rw [mm_fs_oI I r x h]
  simp [mm_uI, h]
theorem mm_cell_oP {cA : Nat → ClassId} {a k q : Nat} (I : mm_I) (r : mm_R) (x : Option Nat) (h : q ≠ a) : mm_cell cA I (mm_uP r a k x) q = mm_cell cA I r q := by
  unfold mm_cell
  rw [show mm_S (mm_uP r a k x) q = mm_S r q from rfl, mm_fs_oP I r x h]
  simp [mm_uP, mm_P, mm_G, h]
theorem mm_cell_oG {cA : Nat → ClassId} {a k q : Nat} (I : mm_I) (r : mm_R) (x : Int64) (h : q ≠ a) : mm_cell cA I (mm_uG r a k x) q = mm_cell cA I r q := by
  unfold mm_cell
  rw [show mm_S (mm_uG r a k x) q = mm_S r q from rfl]
  simp [mm_uG, mm_G, mm_P, mm_fs, h]
theorem mm_cell_oC {cA : Nat → ClassId} {a b sp dp n q : Nat} (I : mm_I) (r : mm_R) (h : q ≠ a) : mm_cell cA I (mm_cG r a b sp dp n) q = mm_cell cA I r q := by
  unfold mm_cell
  rw [show mm_S (mm_cG r a b sp dp n) q = mm_S r q from rfl]
  simp [mm_cG, mm_G, mm_P, mm_fs, h]
theorem mm_cell_oN {cA : Nat → ClassId} {q w : Nat} {sh : Nat × Nat} (I : mm_I) (r : mm_R) (h : q ≠ mm_t r) : mm_cell cA (mm_nI I r) (mm_nR r sh w) q = mm_cell cA I r q := by
  unfold mm_cell
  rw [show mm_S (mm_nR r sh w) q = mm_S r q by simp [mm_nR, mm_S, h]]
  simp [mm_nR, mm_nI, mm_G, mm_P, mm_fs, h]
theorem mm_Wd.putI {D : va_G} {cA : Nat → ClassId} {b a k : Nat} {I : mm_I} {r : mm_R} {H H1 : Heap} {x : Int32} {e : va_E} (h : mm_Wd D cA b I r H) (ha : (mm_S r a).1 ≠ 0) (he : mm_cell cA (mm_uI I a k x) r a = e) (hP : va_P D vwCl ((mm_ws cA b I r).set (a - b) (a, e)) H1) : mm_Wd D cA b (mm_uI I a k x) r H1 := by
  refine ⟨h.1, ?_, h.2.2⟩
  rw [← mm_wset (I := I) (r := r) (I' := mm_uI I a k x) (r' := r) rfl (h.lt ha).1 (h.lt ha).2 he (fun q hq => mm_cell_oI I r x hq)]
  exact hP
theorem mm_Wd.putP {D : va_G} {cA : Nat → ClassId} {b a k : Nat} {I : mm_I} {r : mm_R} {H H1 : Heap} {x : Option Nat} {e : va_E} (h : mm_Wd D cA b I r H) (ha : (mm_S r a).1 ≠ 0) (he : mm_cell cA I (mm_uP r a k x) a = e) (hP : va_P D vwCl ((mm_ws cA b I r).set (a - b) (a, e)) H1) : mm_Wd D cA b I (mm_uP r a k x) H1 := by
  refine ⟨h.1, ?_, h.2.2⟩
  rw [← mm_wset (I := I) (r := r) (I' := I) (r' := mm_uP r a k x) rfl (h.lt ha).1 (h.lt ha).2 he (fun q hq => mm_cell_oP I r x hq)]
  exact hP
theorem mm_Wd.putG {D : va_G} {cA : Nat → ClassId} {b a k : Nat} {I : mm_I} {r : mm_R} {H H1 : Heap} {x : Int64} {e : va_E} (h : mm_Wd D cA b I r H) (ha : (mm_S r a).1 ≠ 0) (he : mm_cell cA I (mm_uG r a k x) a = e) (hP : va_P D vwCl ((mm_ws cA b I r).set (a - b) (a, e)) H1) : mm_Wd D cA b I (mm_uG r a k x) H1 := by
  refine ⟨h.1, ?_, h.2.2⟩
  rw [← mm_wset (I := I) (r := r) (I' := I) (r' := mm_uG r a k x) rfl (h.lt ha).1 (h.lt ha).2 he (fun q hq => mm_cell_oG I r x hq)]
  exact hP
theorem mm_Wd.putC {D : va_G} {cA : Nat → ClassId} {b a c sp dp n : Nat} {I : mm_I} {r : mm_R} {H H1 : Heap} {e : va_E} (h : mm_Wd D cA b I r H) (ha : (mm_S r a).1 ≠ 0) (he : mm_cell cA I (mm_cG r a c sp dp n) a = e) (hP : va_P D vwCl ((mm_ws cA b I r).set (a - b) (a, e)) H1) : mm_Wd D cA b I (mm_cG r a c sp dp n) H1 := by
  refine ⟨h.1, ?_, h.2.2⟩
  rw [← mm_wset (I := I) (r := r) (I' := I) (r' := mm_cG r a c sp dp n) rfl (h.lt ha).1 (h.lt ha).2 he (fun q hq => mm_cell_oC I r hq)]
  exact hP
theorem mm_Wd.new {D : va_G} {cA : Nat → ClassId} {b w : Nat} {sh : Nat × Nat} {I : mm_I} {r : mm_R} {H H1 : Heap} {e : va_E} (h : mm_Wd D cA b I r H) (he : mm_cell cA (mm_nI I r) (mm_nR r sh w) (mm_t r) = e) (hP : va_P D vwCl (mm_ws cA b I r ++ [(mm_t r, e)]) H1) : mm_Wd D cA b (mm_nI I r) (mm_nR r sh w) H1 := by
  refine ⟨Nat.le_succ_of_le h.1, ?_, fun a ha => ?_⟩
  · rw [← mm_wpush (I' := mm_nI I r) (r' := mm_nR r sh w) rfl h.1 he (fun q hq => mm_cell_oN I r hq)]
    exact hP
  · by_cases hq : a = mm_t r
    · subst hq
      exact ⟨h.1, Nat.lt_succ_self _⟩
    · have : mm_S (mm_nR r sh w) a = mm_S r a := by simp [mm_nR, mm_S, hq]
      rw [this] at ha
      exact ⟨(h.lt ha).1, Nat.lt_succ_of_lt (h.lt ha).2⟩
