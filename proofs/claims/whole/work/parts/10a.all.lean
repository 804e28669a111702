def idn (k : Nat) : Nat := k
/-- the shape of the two objects: the one under test at x, the reference at m -/
def hs_0 (r : mm_R) (x : Nat) : Prop := mm_S r x = (1, 5) ∧ mm_P r x 0 = some (x + 1) ∧ mm_P r x 1 = some (x + 10) ∧ mm_P r x 2 = some (x + 19) ∧ mm_P r x 3 = some (x + 93) ∧ mm_P r x 4 = some (x + 96) ∧ mm_P r x 5 = some (x + 107) ∧ mm_P r x 6 = some (x + 116) ∧ mm_P r x 7 = some (x + 125)
def hs_l (r : mm_R) (x : Nat) : Prop := ln_S r (x + 1) ∧ ln_S r (x + 10) ∧ ln_S r (x + 98) ∧ ln_S r (x + 116)
def hs_p (r : mm_R) (x : Nat) : Prop := mm_S r (x + 93) = (1, 1) ∧ mm_P r (x + 93) 2 = some (x + 94) ∧ mm_P r (x + 93) 3 = some (x + 95) ∧ mm_S r (x + 94) = (2, 6) ∧ mm_S r (x + 95) = (2, 6)
def hs_t (r : mm_R) (x : Nat) : Prop := mm_S r (x + 96) = (1, 4) ∧ mm_P r (x + 96) 2 = some (x + 98) ∧ mm_P r (x + 96) 3 = some (x + 97) ∧ mm_S r (x + 97) = (2, 80)
def hs_s (r : mm_R) (x : Nat) : Prop := mm_S r (x + 107) = (5, 4) ∧ ∀ k, k < 4 → mm_P r (x + 107) k = some (x + 108 + 2 * k) ∧ mm_S r (x + 108 + 2 * k) = (1, 3) ∧ mm_P r (x + 108 + 2 * k) 3 = some (x + 109 + 2 * k) ∧ mm_S r (x + 109 + 2 * k) = (3, 24)
def HS (r : mm_R) (x m : Nat) : Prop := m = x + 199 ∧ hs_0 r x ∧ hs_l r x ∧ pa_S r (x + 125) idn ∧ hs_p r x ∧ hs_t r x ∧ hs_s r x ∧ ml_S r m
theorem HS_of {r r' : mm_R} {x m : Nat} (hS : mm_S r' = mm_S r) (hP : ∀ a, a ≠ x + 20 → mm_P r' a = mm_P r a) (h : HS r x m) : HS r' x m := by
  obtain ⟨hm, h0, ⟨l1, l2, l3, l4⟩, hp, hpt, ht, hs, hml⟩ := h
  refine ⟨hm, ?_, ⟨ln_S_P hS (hP _ (by omega)) l1, ln_S_P hS (hP _ (by omega)) l2, ln_S_P hS (hP _ (by omega)) l3, ln_S_P hS (hP _ (by omega)) l4⟩, ?_, ?_, ?_, ?_, ?_⟩
  · unfold hs_0 at h0 ⊢; rw [hS, hP _ (by omega)]; exact h0
  · obtain ⟨a1, a2, a3, a4, a5, a6⟩ := hp
    exact ⟨by rw [hS]; exact a1, by rw [hP _ (by omega)]; exact a2, by rw [hS]; exact a3, fun k hk => ln_S_P hS (hP _ (by omega)) (a4 k hk), fun k hk => by rw [hP _ (by omega)]; exact a5 k hk, a6⟩
  · unfold hs_p at hpt ⊢; rw [hS, hP _ (by omega)]; exact hpt
  · unfold hs_t at ht ⊢; rw [hS, hP _ (by omega)]; exact ht
  · refine ⟨by rw [hS]; exact hs.1, fun k hk => ?_⟩
    rw [hS, hP _ (by omega), hP _ (by omega)]
    exact hs.2 k hk
  · unfold ml_S at hml ⊢; rw [hS, hP _ (by omega)]; exact hml
theorem HS_P {r r' : mm_R} {x m : Nat} (h : HS r x m) (hr : rP (x + 19) r r') : HS r' x m := HS_of hr.2.2.1 (fun a ha => hr.2.1 a (by omega)) h
/-- a day lane's ranges -/
def gl (L : mm_I) (n ng : Nat) : Prop := ln_G L n ng ∧ ln_R L n ng ∧ (∃ d, d < 2 ^ 31 ∧ L 0 5 = nI d) ∧ ∃ t, t ≤ 9999 ∧ L 0 3 = nI t
def gd (L : mm_I) (bn : Nat) (B : Nat → mm_I) (n ng : Nat) : Prop := gl L n ng ∧ ∀ k, k < bn → gl (B k) n ng ∧ ∀ i, B k 4 i = L 4 i ∧ B k 5 i = L 5 i
/-- the two sides' lanes are the same where there are houses and hogs -/
def gdd (L Lr : mm_I) (bn : Nat) (B Br : Nat → mm_I) (n ng : Nat) : Prop := gd L bn B n ng ∧ gd Lr bn Br n ng ∧ ag (wc n ng) L Lr ∧ ∀ k, k < bn → ag (wc n ng) (B k) (Br k)
/-- a lane with its past, on both sides -/
def g1 (I : mm_I) (r : mm_R) (a p s m : Nat) (sg : Nat → Nat) (L : mm_I) (bn : Nat) (B : Nat → mm_I) (n ng : Nat) (Lr : mm_I) (Br : Nat → mm_I) : Prop := (pa_S r p sg ∧ dl (vc I a) = L ∧ pa_V I p sg bn B) ∧ (dl (vr I s m) = Lr ∧ ml_B I s bn Br) ∧ gdd L Lr bn B Br n ng
def G1 (I : mm_I) (r : mm_R) (x m : Nat) : Prop := ∃ sg L bn B n ng Lr Br, g1 I r (x + 1) (x + 19) (m + 5) m sg L bn B n ng Lr Br
def G2 (I : mm_I) (r : mm_R) (x m : Nat) : Prop := (mm_rd I x 8 = 0 ∧ mm_rd I m 11 = 0) ∨ (mm_rd I x 8 = 1 ∧ mm_rd I m 11 = 1 ∧ ∃ L bn B n ng Lr Br, g1 I r (x + 116) (x + 125) (m + 8) m idn L bn B n ng Lr Br)
def G3 (I : mm_I) (x m : Nat) : Prop := ∃ t, t ≤ 80 ∧ mm_rd I (x + 96) 0 = nI t ∧ mm_rd I m 3 = nI t ∧ ∀ i, i < t → I (x + 97) i = I (m + 4) i ∧ ∃ c, 32 ≤ c ∧ c ≤ 126 ∧ I (m + 4) i = nI c
/-- sheet k: held, of which lane, how long; its items -/
def G4 (I : mm_I) (r : mm_R) (x m : Nat) : Prop := ∀ k, k < 4 → ((mm_rd I (x + 108 + 2 * k) 0 = 0 ∧ I (m + 1) k = -1) ∨ (mm_rd I (x + 108 + 2 * k) 0 = 1 ∧ I (m + 1) k = mm_rd I (x + 108 + 2 * k) 1)) ∧ (∃ l, l < 4 ∧ mm_rd I (x + 108 + 2 * k) 1 = nI l) ∧ (∃ z, z ≤ 24 ∧ mm_rd I (x + 108 + 2 * k) 2 = nI z ∧ I (m + 2) k = nI z) ∧ ∀ i, i < 24 → mm_G r (x + 109 + 2 * k) i = mm_G r (m + 3) (24 * k + i)
def ALL (I : mm_I) (r : mm_R) (x m : Nat) : Prop := HS r x m ∧ G1 I r x m ∧ G2 I r x m ∧ G3 I x m ∧ G4 I r x m
theorem g1_keep {I J : mm_I} {r r' : mm_R} {a p s m : Nat} {sg : Nat → Nat} {L : mm_I} {bn : Nat} {B : Nat → mm_I} {n ng : Nat} {Lr : mm_I} {Br : Nat → mm_I} (h : g1 I r a p s m sg L bn B n ng Lr Br) (hr : pa_S r' p sg) (ha : ∀ q, a ≤ q → q < a + 9 → J q = I q) (hp : ∀ q, p ≤ q → q < p + 74 → J q = I q) (hs : J s = I s) : g1 J r' a p s m sg L bn B n ng Lr Br := by
  obtain ⟨⟨h1, h2, h3⟩, ⟨h4, h5⟩, h6⟩ := h
  refine ⟨⟨hr, by rw [vc_eq ha]; exact h2, ⟨h3.1.1, by rw [rd_F (hp p (by omega) (by omega))]; exact h3.1.2⟩, fun k hk => ?_⟩, ⟨?_, ?_⟩, h6⟩
  · have := h3.1.1
    have l1 := (h1.2.2.2.2.1 k (by omega)).1
    rw [vc_eq (fun q z1 z2 => hp q (by omega) (by omega))]
    exact h3.2 k hk
  · rw [← h4]
    exact vr_row (fun i _ => by rw [hs])
  · exact ml_B_keep h5 (fun i _ _ => by rw [hs])
theorem G2_keep {I J : mm_I} {r r' : mm_R} {x m : Nat} (h : G2 I r x m) (hr : HS r' x m) (h1 : mm_rd J x 8 = mm_rd I x 8) (h2 : mm_rd J m 11 = mm_rd I m 11) (h3 : ∀ q, x + 116 ≤ q → q < x + 199 → J q = I q) (h4 : J (m + 8) = I (m + 8)) : G2 J r' x m := by
  unfold G2
  rw [h1, h2]
  rcases h with h | ⟨a, b, L, bn, B, n, ng, Lr, Br, h⟩
  · exact Or.inl h
  · exact Or.inr ⟨a, b, L, bn, B, n, ng, Lr, Br, g1_keep h hr.2.2.2.1 (fun q z1 z2 => h3 q (by omega) (by omega)) (fun q z1 z2 => h3 q (by omega) (by omega)) h4⟩
theorem G3_keep {I J : mm_I} {x m : Nat} (h : G3 I x m) (h1 : mm_rd J (x + 96) 0 = mm_rd I (x + 96) 0) (h2 : mm_rd J m 3 = mm_rd I m 3) (h3 : J (x + 97) = I (x + 97)) (h4 : J (m + 4) = I (m + 4)) : G3 J x m := by
  unfold G3
  rw [h1, h2, h3, h4]
  exact h
theorem G4_keep {I J : mm_I} {r r' : mm_R} {x m : Nat} (h : G4 I r x m) (hg : mm_G r' = mm_G r) (h1 : ∀ k, k < 4 → J (x + 108 + 2 * k) = I (x + 108 + 2 * k)) (h2 : J (m + 1) = I (m + 1)) (h3 : J (m + 2) = I (m + 2)) : G4 J r' x m := by
  intro k hk
  have := h k hk
  rw [hg, h2, h3]
  unfold mm_rd at this ⊢
  rw [h1 k hk]
  exact this
/-- the cells that foretelling may spoil -/
def scr (x m q : Nat) : Prop := (x + 10 ≤ q ∧ q < x + 19) ∨ (x + 93 ≤ q ∧ q < x + 96) ∨ (x + 98 ≤ q ∧ q < x + 107) ∨ q = m + 6 ∨ q = m + 7 ∨ (m + 9 ≤ q ∧ q < m + 13)
theorem ALL_scr {I J : mm_I} {r : mm_R} {x m : Nat} (h : ALL I r x m) (hj : ∀ q, ¬ scr x m q → J q = I q) : ALL J r x m := by
  obtain ⟨hS, ⟨sg, L, bn, B, n, ng, Lr, Br, h1⟩, h2, h3, h4⟩ := h
  have hm := hS.1
  unfold scr at hj
  refine ⟨hS, ⟨sg, L, bn, B, n, ng, Lr, Br, g1_keep h1 h1.1.1 (fun q z1 z2 => hj q (by omega)) (fun q z1 z2 => hj q (by omega)) (hj _ (by omega))⟩, G2_keep h2 hS (rd_F (hj _ (by omega))) (rd_F (hj _ (by omega))) (fun q z1 z2 => hj q (by omega)) (hj _ (by omega)), G3_keep h3 (rd_F (hj _ (by omega))) (rd_F (hj _ (by omega))) (hj _ (by omega)) (hj _ (by omega)), G4_keep h4 rfl (fun k hk => hj _ (by omega)) (hj _ (by omega)) (hj _ (by omega))⟩
/-- both answered the same int, and the joint state is well again -/
def fi (r : mm_R) (x m : Nat) (v v2 : Option Value) (I2 : mm_I) (r2 : mm_R) : Prop := (∃ y : Int32, v = some (.int y) ∧ v2 = some (.int y)) ∧ ALL I2 r2 x m ∧ mm_t r2 = mm_t r ∧ mm_n r2 = mm_n r
theorem fi_i {r r2 : mm_R} {x m : Nat} {I2 : mm_I} (y : Int32) (h : ALL I2 r2 x m) (h1 : mm_t r2 = mm_t r) (h2 : mm_n r2 = mm_n r) : fi r x m (some (.int y)) (some (.int y)) I2 r2 := ⟨⟨y, rfl, rfl⟩, h, h1, h2⟩
/-- what a call of the one and then of the other must come to -/
def pr (jx jm : Nat) (lx lm : mm_L) (I : mm_I) (r : mm_R) (x m : Nat) : Prop := mm_E jx 0 lx [] I r (fun v I1 r1 => mm_E jm 0 lm [] I1 r1 (fun v2 I2 r2 => fi r x m v v2 I2 r2))
