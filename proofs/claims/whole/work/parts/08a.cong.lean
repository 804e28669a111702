/-- two lanes agree at the places of W -/
def ag (W : Nat → Nat → Prop) (M N : mm_I) : Prop := ∀ q i, W q i → M q i = N q i
theorem ag.u {W : Nat → Nat → Prop} {M N : mm_I} (h : ag W M N) (k i : Nat) {x y : Int32} (e : x = y) : ag W (mm_uI M k i x) (mm_uI N k i y) := by
  intro q j hq
  unfold mm_uI upd
  by_cases c : q = k
  · subst c
    by_cases d : j = i
    · subst d; simp [e]
    · simp [d, h q j hq]
  · simp [c, h q j hq]
theorem ag.ite {W : Nat → Nat → Prop} {M N M2 N2 : mm_I} {c d : Prop} [Decidable c] [Decidable d] (e : c = d) (h1 : ag W M N) (h2 : ag W M2 N2) : ag W (if c then M else M2) (if d then N else N2) := by
  subst e
  by_cases z : c
  · simp only [z, if_true]; exact h1
  · simp only [z, if_false]; exact h2
/-- the places that a night reads and writes: rows 0 to 6, what is left at the n houses, and (e) how often -/
def w7 (n : Nat) (e : Prop) (q i : Nat) : Prop := q < 7 ∨ (q = 7 ∧ i < n) ∨ (q = 8 ∧ e ∧ i < n)
theorem ag_ap {n : Nat} {e : Prop} {M N : mm_I} (h : ag (w7 n e) M N) (g : Nat) : p_ap M g = p_ap N g := by
  unfold p_ap
  rw [h 4 g (Or.inl (by decide)), h 5 g (Or.inl (by decide))]
theorem ag_gs {n : Nat} {e : Prop} {M N : mm_I} (h : ag (w7 n e) M N) (x : Int32) : ∀ k, p_gs M x k = p_gs N x k := by
  intro k
  induction k with
  | zero => rfl
  | succ k ih => unfold p_gs; rw [ih, h 6 k (Or.inl (by decide))]
theorem ag_nx {n : Nat} {e : Prop} {M N : mm_I} (h : ag (w7 n e) M N) (shy : Bool) (n2 ng p : Nat) : ∀ d k nx, p_nx M shy n2 ng p d k nx = p_nx N shy n2 ng p d k nx := by
  intro d
  induction d with
  | zero => intro k nx; rfl
  | succ d ih =>
    intro k nx
    unfold p_nx
    rw [h 3 _ (Or.inl (by decide)), ag_gs h, ih, ih]
theorem ag_nxt {n : Nat} {e : Prop} {M N : mm_I} (h : ag (w7 n e) M N) (n2 ng g p : Nat) : p_nxt M n2 ng g p = p_nxt N n2 ng g p := by
  unfold p_nxt p_shy
  rw [ag_nx h, h 4 g (Or.inl (by decide))]
theorem ag_had {n : Nat} {e : Prop} {M N : mm_I} (h : ag (w7 n e) M N) (g : Nat) {p : Nat} (hp : p < n) : p_had M g p = p_had N g p := by
  unfold p_had
  rw [ag_ap h, h 7 p (Or.inr (Or.inl ⟨rfl, hp⟩))]
theorem ag_eat {n : Nat} {e : Prop} {M N : mm_I} (h : ag (w7 n e) M N) (g : Nat) {p : Nat} (hp : p < n) : ag (w7 n e) (p_eat M g p) (p_eat N g p) := by
  unfold p_eat
  rw [ag_had h g hp, ag_ap h]
  generalize p_had N g p = d
  generalize p_ap N g = w
  have h1 : ag (w7 n e) (p_eat1 M p d) (p_eat1 N p d) := by
    unfold p_eat1
    have h0 : ag (w7 n e) (mm_uI M 7 p (M 7 p - d)) (mm_uI N 7 p (N 7 p - d)) := h.u 7 p (by rw [h 7 p (Or.inr (Or.inl ⟨rfl, hp⟩))])
    exact h0.u 0 4 (by rw [h0 0 4 (Or.inl (by decide))])
  have h2 : ag (w7 n e) (p_eat2 (p_eat1 M p d) p d) (p_eat2 (p_eat1 N p d) p d) := by
    unfold p_eat2
    exact h1.u 1 p (by rw [h1 1 p (Or.inl (by decide))])
  generalize p_eat2 (p_eat1 M p d) p d = M2 at h2
  generalize p_eat2 (p_eat1 N p d) p d = N2 at h2
  have h3 : ag (w7 n e) (p_eat3 M2 p d) (p_eat3 N2 p d) := by
    unfold p_eat3
    refine ag.ite rfl h2 ?_
    intro q i hq
    unfold mm_uI upd
    by_cases c : q = 8
    · subst c
      by_cases z : i = p
      · subst z; simp [h2 8 i hq]
      · simp [z, h2 8 i hq]
    · simp [c, h2 q i hq]
  generalize p_eat3 M2 p d = M3 at h3
  generalize p_eat3 N2 p d = N3 at h3
  unfold p_eat4
  exact ag.ite rfl h3 (ag.ite (by rw [h3 1 p (Or.inl (by decide))]) h3 (h3.u 3 p (by rw [h3 3 p (Or.inl (by decide))])))
theorem ag_vis {n : Nat} {e : Prop} {M N : mm_I} (h : ag (w7 n e) M N) (ng g : Nat) {p : Nat} (hp : p < n) : ag (w7 n e) (p_vis M n ng g p) (p_vis N n ng g p) := by
  have h1 : ag (w7 n e) (p_vis1 M g p) (p_vis1 N g p) := by
    unfold p_vis1
    exact ag.ite (by rw [h 3 p (Or.inl (by decide))]) h (ag_eat h g hp)
  unfold p_vis
  refine ag.ite ?_ h1 (h1.u 6 g (by rw [ag_nxt h1]))
  unfold p_hadq
  rw [h1 4 g (Or.inl (by decide)), ag_had h g hp, ag_ap h, h 3 p (Or.inl (by decide))]
theorem ag_hogs {n ng : Nat} {e : Prop} {M N : mm_I} (h : ag (w7 n e) M N) (s : Int32) (hG : ln_G M n ng) : ∀ g, g ≤ ng → ag (w7 n e) (p_hogs M n ng s g) (p_hogs N n ng s g) := by
  intro g
  induction g with
  | zero => intro _; exact h
  | succ g ih =>
    intro hg
    have h1 := ih (by omega)
    have hG1 := p_hogs_G s hG g (by omega)
    obtain ⟨p, hp, hpl⟩ := hG1.2.2 g (by omega)
    have := hG1.1.1
    unfold p_hogs
    rw [← h1 6 g (Or.inl (by decide)), hpl, cl_nI (by omega)]
    exact ag.ite rfl (ag_vis h1 ng g hp) h1
theorem ag_int {n : Nat} {e : Prop} {M N : mm_I} (h : ag (w7 n e) M N) : ∀ k, ag (w7 n e) (p_int M k) (p_int N k) := by
  intro k
  induction k with
  | zero => exact h
  | succ k ih =>
    unfold p_int
    exact ag.ite (by rw [ih 3 k (Or.inl (by decide))]) ih (ih.u 1 k (by rw [ih 1 k (Or.inl (by decide)), ih 0 2 (Or.inl (by decide))]))
/-- ahead of a night: rows 0 to 6, and (e) how often -/
def w6 (n : Nat) (e : Prop) (q i : Nat) : Prop := q < 7 ∨ (q = 8 ∧ e ∧ i < n)
theorem ag_fill {n : Nat} {e : Prop} {M N : mm_I} (h : ag (w6 n e) M N) (w : Bool) : ag (w7 n e) (p_fill M w n) (p_fill N w n) := by
  have key : ∀ k, ag (fun q i => w6 n e q i ∨ (q = 7 ∧ i < k)) (p_fill M w k) (p_fill N w k) := by
    intro k
    induction k with
    | zero =>
      intro q i hq
      rcases hq with hq | hq
      · exact h q i hq
      · omega
    | succ k ih =>
      intro q i hq
      unfold p_fill
      by_cases c : q = 7
      · subst c
        by_cases d : i = k
        · subst d
          rw [mu_s, mu_s, ih 3 i (Or.inl (Or.inl (by decide))), ih 2 i (Or.inl (Or.inl (by decide)))]
        · rw [mu_j d, mu_j d]
          refine ih 7 i ?_
          rcases hq with hq | hq
          · exact Or.inl hq
          · exact Or.inr ⟨rfl, by omega⟩
      · rw [mu_n c, mu_n c]
        refine ih q i ?_
        rcases hq with hq | hq
        · exact Or.inl hq
        · exact absurd hq.1 c
  intro q i hq
  refine key n q i ?_
  rcases hq with hq | hq | hq
  · exact Or.inl (Or.inl hq)
  · exact Or.inr hq
  · exact Or.inl (Or.inr hq)
theorem w7_w6 {n : Nat} {e : Prop} {M N : mm_I} (h : ag (w7 n e) M N) : ag (w6 n e) M N := fun q i hq => h q i (by rcases hq with hq | hq; (exact Or.inl hq); exact Or.inr (Or.inr hq))
theorem ag_night {n ng : Nat} {e : Prop} {M N : mm_I} (h : ag (w6 n e) M N) (s : Int32) (hG : ln_G M n ng) : ag (w7 n e) (p_night M n ng s) (p_night N n ng s) := by
  have nt : ∀ (M N : mm_I), ag (w7 n e) M N → ag (w7 n e) (p_nt M) (p_nt N) := fun M N h => by
    unfold p_nt
    exact h.u 0 3 (by rw [h 0 3 (Or.inl (by decide))])
  unfold p_night
  apply nt
  refine ag.ite ?_ (ag_fill h true) ?_
  · unfold p_win; rw [h 0 3 (Or.inl (by decide))]
  · exact ag_int (ag_hogs (ag_fill h false) s (ln_G_keep hG (by rw [p_fill_keep _ _ _ _ (by decide)]) (by rw [p_fill_keep _ _ _ _ (by decide)]) (p_fill_keep _ _ _ _ (by decide))) ng (Nat.le_refl _)) n
theorem ag_nights {n ng : Nat} {e : Prop} {M N : mm_I} (h : ag (w6 n e) M N) (hG : ln_G M n ng) : ∀ k, ag (w6 n e) (p_nights M n ng k) (p_nights N n ng k) := by
  intro k
  induction k with
  | zero => exact h
  | succ k ih => exact w7_w6 (ag_night ih 0 (p_nights_G hG k))
/-- rows 0 to 6 alone -/
def dl (M : mm_I) : mm_I := fun q i => if q < 7 then M q i else 0
theorem dl_ag (n : Nat) (M : mm_I) : ag (w6 n False) M (dl M) := fun q i hq => by
  rcases hq with hq | hq
  · unfold dl; rw [if_pos hq]
  · exact absurd hq.2.1 id
theorem dl_eq {n : Nat} {e : Prop} {M N : mm_I} (h : ag (w6 n e) M N) : dl M = dl N := by
  funext q i
  unfold dl
  by_cases c : q < 7
  · rw [if_pos c, if_pos c]; exact h q i (Or.inl c)
  · rw [if_neg c, if_neg c]
theorem dl_dl (M : mm_I) : dl (dl M) = dl M := by funext q i; unfold dl; by_cases c : q < 7 <;> simp [c]
theorem dl_at {M : mm_I} {q : Nat} (h : q < 7) (i : Nat) : dl M q i = M q i := by unfold dl; rw [if_pos h]
theorem dl_G {M : mm_I} {n ng : Nat} : ln_G (dl M) n ng ↔ ln_G M n ng := by
  unfold ln_G
  simp only [dl_at (show 0 < 7 by decide), dl_at (show 6 < 7 by decide)]
theorem dl_R {M : mm_I} {n ng : Nat} : ln_R (dl M) n ng ↔ ln_R M n ng := by
  unfold ln_R
  simp only [dl_at (show 0 < 7 by decide), dl_at (show 1 < 7 by decide), dl_at (show 2 < 7 by decide), dl_at (show 3 < 7 by decide), dl_at (show 4 < 7 by decide), dl_at (show 5 < 7 by decide)]
theorem dl_u {M : mm_I} {k i : Nat} {x : Int32} (h : k < 7) : dl (mm_uI M k i x) = mm_uI (dl M) k i x := by
  funext q j
  unfold dl mm_uI upd
  by_cases c : q = k
  · subst c; by_cases d : j = i <;> simp [h, d]
  · simp [c]
/-- a night of day lanes -/
def d_nt (L : mm_I) (n ng : Nat) (s : Int32) : mm_I := dl (p_night L n ng s)
theorem d_nt_dl {M : mm_I} {n ng : Nat} (s : Int32) (hG : ln_G M n ng) : dl (p_night M n ng s) = d_nt (dl M) n ng s := dl_eq (w7_w6 (ag_night (dl_ag n M) s hG))
