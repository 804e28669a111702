/-- the places of a lane of n houses and ng hogs -/
def wc (n ng q i : Nat) : Prop := q = 0 ∨ (1 ≤ q ∧ q ≤ 3 ∧ i < n) ∨ (4 ≤ q ∧ q ≤ 6 ∧ i < ng)
def x6 (n ng q i : Nat) : Prop := wc n ng q i ∨ (q = 8 ∧ i < n)
def x7 (n ng q i : Nat) : Prop := wc n ng q i ∨ (7 ≤ q ∧ q ≤ 8 ∧ i < n)
theorem wc_0 {n ng i : Nat} : wc n ng 0 i := Or.inl rfl
theorem wc_h {n ng q i : Nat} (h1 : 1 ≤ q ∧ q ≤ 3) (h : i < n) : wc n ng q i := Or.inr (Or.inl ⟨h1.1, h1.2, h⟩)
theorem wc_g {n ng q i : Nat} (h1 : 4 ≤ q ∧ q ≤ 6) (h : i < ng) : wc n ng q i := Or.inr (Or.inr ⟨h1.1, h1.2, h⟩)
section
variable {n ng : Nat} {M N : mm_I}
theorem s_ap (h : ag (wc n ng) M N) {g : Nat} (hg : g < ng) : p_ap M g = p_ap N g := by
  unfold p_ap
  rw [h 4 g (wc_g (by decide) hg), h 5 g (wc_g (by decide) hg)]
theorem s_gs (h : ag (wc n ng) M N) (x : Int32) : ∀ k, k ≤ ng → p_gs M x k = p_gs N x k := by
  intro k
  induction k with
  | zero => intro _; rfl
  | succ k ih => intro hk; unfold p_gs; rw [ih (by omega), h 6 k (wc_g (by decide) (by omega))]
theorem s_ls (h : ag (wc n ng) M N) : ∀ k, k ≤ n → p_ls M k = p_ls N k := by
  intro k
  induction k with
  | zero => intro _; rfl
  | succ k ih => intro hk; unfold p_ls; rw [ih (by omega), h 3 k (wc_h (by decide) (by omega))]
theorem s_ow (h : ag (wc n ng) M N) : ∀ k, k ≤ n → p_ow M k = p_ow N k := by
  intro k
  induction k with
  | zero => intro _; rfl
  | succ k ih => intro hk; unfold p_ow; rw [ih (by omega), h 1 k (wc_h (by decide) (by omega))]
theorem s_nx (h : ag (wc n ng) M N) (shy : Bool) {p : Nat} (hp : p < n) : ∀ d k nx, k + d = n → p_nx M shy n ng p d k nx = p_nx N shy n ng p d k nx := by
  intro d
  induction d with
  | zero => intro k nx _; rfl
  | succ d ih =>
    intro k nx hk
    unfold p_nx
    rw [h 3 _ (wc_h (by decide) (p_oth_lt hp (show k < n by omega))), s_gs h _ ng (Nat.le_refl _), ih _ _ (by omega), ih _ _ (by omega)]
theorem s_nxt (h : ag (wc n ng) M N) {g p : Nat} (hg : g < ng) (hp : p < n) : p_nxt M n ng g p = p_nxt N n ng g p := by
  unfold p_nxt p_shy
  rw [s_nx h _ hp _ _ _ (by omega), h 4 g (wc_g (by decide) hg)]
theorem x7_c (h : ag (x7 n ng) M N) : ag (wc n ng) M N := fun q i hq => h q i (Or.inl hq)
theorem x6_c (h : ag (x6 n ng) M N) : ag (wc n ng) M N := fun q i hq => h q i (Or.inl hq)
theorem x7_x6 (h : ag (x7 n ng) M N) : ag (x6 n ng) M N := fun q i hq => h q i (by unfold x6 wc at hq; unfold x7 wc; omega)
theorem s_had (h : ag (x7 n ng) M N) {g p : Nat} (hg : g < ng) (hp : p < n) : p_had M g p = p_had N g p := by
  unfold p_had
  rw [s_ap (x7_c h) hg, h 7 p (Or.inr ⟨by decide, by decide, hp⟩)]
theorem s_eat (h : ag (x7 n ng) M N) {g p : Nat} (hg : g < ng) (hp : p < n) : ag (x7 n ng) (p_eat M g p) (p_eat N g p) := by
  unfold p_eat
  rw [s_had h hg hp, s_ap (x7_c h) hg]
  generalize p_had N g p = d
  generalize p_ap N g = w
  have h1 : ag (x7 n ng) (p_eat1 M p d) (p_eat1 N p d) := by
    unfold p_eat1
    have h0 : ag (x7 n ng) (mm_uI M 7 p (M 7 p - d)) (mm_uI N 7 p (N 7 p - d)) := h.u 7 p (by rw [h 7 p (Or.inr ⟨by decide, by decide, hp⟩)])
    exact h0.u 0 4 (by rw [h0 0 4 (Or.inl wc_0)])
  have h2 : ag (x7 n ng) (p_eat2 (p_eat1 M p d) p d) (p_eat2 (p_eat1 N p d) p d) := by
    unfold p_eat2
    exact h1.u 1 p (by rw [h1 1 p (Or.inl (wc_h (by decide) hp))])
  generalize p_eat2 (p_eat1 M p d) p d = M2 at h2
  generalize p_eat2 (p_eat1 N p d) p d = N2 at h2
  have h3 : ag (x7 n ng) (p_eat3 M2 p d) (p_eat3 N2 p d) := by
    unfold p_eat3
    exact ag.ite rfl h2 (h2.u 8 p (by rw [h2 8 p (Or.inr ⟨by decide, by decide, hp⟩)]))
  generalize p_eat3 M2 p d = M3 at h3
  generalize p_eat3 N2 p d = N3 at h3
  unfold p_eat4
  exact ag.ite rfl h3 (ag.ite (by rw [h3 1 p (Or.inl (wc_h (by decide) hp))]) h3 (h3.u 3 p (by rw [h3 3 p (Or.inl (wc_h (by decide) hp))])))
theorem s_vis (h : ag (x7 n ng) M N) {g p : Nat} (hg : g < ng) (hp : p < n) : ag (x7 n ng) (p_vis M n ng g p) (p_vis N n ng g p) := by
  have h1 : ag (x7 n ng) (p_vis1 M g p) (p_vis1 N g p) := by
    unfold p_vis1
    exact ag.ite (by rw [h 3 p (Or.inl (wc_h (by decide) hp))]) h (s_eat h hg hp)
  unfold p_vis
  refine ag.ite ?_ h1 (h1.u 6 g (by rw [s_nxt (x7_c h1) hg hp]))
  unfold p_hadq
  rw [h1 4 g (Or.inl (wc_g (by decide) hg)), s_had h hg hp, s_ap (x7_c h) hg, h 3 p (Or.inl (wc_h (by decide) hp))]
theorem s_hogs (h : ag (x7 n ng) M N) (s : Int32) (hG : ln_G M n ng) : ∀ g, g ≤ ng → ag (x7 n ng) (p_hogs M n ng s g) (p_hogs N n ng s g) := by
  intro g
  induction g with
  | zero => intro _; exact h
  | succ g ih =>
    intro hg
    have h1 := ih (by omega)
    have hG1 := p_hogs_G s hG g (by omega)
    obtain ⟨p, hp, hpl⟩ := hG1.2.2 g (by omega)
    have := hG1.1.1
    unfold p_hogs
    rw [← h1 6 g (Or.inl (wc_g (by decide) (by omega))), hpl, cl_nI (by omega)]
    exact ag.ite rfl (s_vis h1 (by omega) hp) h1
theorem s_int (h : ag (x7 n ng) M N) : ∀ k, k ≤ n → ag (x7 n ng) (p_int M k) (p_int N k) := by
  intro k
  induction k with
  | zero => intro _; exact h
  | succ k ih =>
    intro hk
    have ih := ih (by omega)
    unfold p_int
    exact ag.ite (by rw [ih 3 k (Or.inl (wc_h (by decide) hk))]) ih (ih.u 1 k (by rw [ih 1 k (Or.inl (wc_h (by decide) hk)), ih 0 2 (Or.inl wc_0)]))
theorem s_fill (h : ag (x6 n ng) M N) (w : Bool) : ag (x7 n ng) (p_fill M w n) (p_fill N w n) := by
  have key : ∀ k, k ≤ n → ag (fun q i => x6 n ng q i ∨ (q = 7 ∧ i < k)) (p_fill M w k) (p_fill N w k) := by
    intro k
    induction k with
    | zero =>
      intro _ q i hq
      rcases hq with hq | hq
      · exact h q i hq
      · omega
    | succ k ih =>
      intro hk q i hq
      have ih := ih (by omega)
      unfold p_fill
      by_cases c : q = 7
      · subst c
        by_cases d : i = k
        · subst d
          rw [mu_s, mu_s, ih 3 i (Or.inl (Or.inl (wc_h (by decide) hk))), ih 2 i (Or.inl (Or.inl (wc_h (by decide) hk)))]
        · rw [mu_j d, mu_j d]
          refine ih 7 i ?_
          rcases hq with hq | hq
          · exact Or.inl hq
          · exact Or.inr ⟨rfl, by omega⟩
      · rw [mu_n c, mu_n c]
        refine ih q i ?_
        rcases hq with hq | hq
        · exact Or.inl hq
        · exact absurd hq.1 c
  intro q i hq
  refine key n (Nat.le_refl _) q i ?_
  unfold x7 wc at hq
  unfold x6 wc
  omega
theorem s_night (h : ag (x6 n ng) M N) (s : Int32) (hG : ln_G M n ng) : ag (x7 n ng) (p_night M n ng s) (p_night N n ng s) := by
  have nt : ∀ (M N : mm_I), ag (x7 n ng) M N → ag (x7 n ng) (p_nt M) (p_nt N) := fun M N h => by
    unfold p_nt
    exact h.u 0 3 (by rw [h 0 3 (Or.inl wc_0)])
  unfold p_night
  apply nt
  refine ag.ite ?_ (s_fill h true) ?_
  · unfold p_win; rw [h 0 3 (Or.inl wc_0)]
  · exact s_int (s_hogs (s_fill h false) s (ln_G_keep hG (by rw [p_fill_keep _ _ _ _ (by decide)]) (by rw [p_fill_keep _ _ _ _ (by decide)]) (p_fill_keep _ _ _ _ (by decide))) ng (Nat.le_refl _)) n (Nat.le_refl _)
theorem s_nights (h : ag (x6 n ng) M N) (hG : ln_G M n ng) : ∀ k, ag (x6 n ng) (p_nights M n ng k) (p_nights N n ng k) := by
  intro k
  induction k with
  | zero => exact h
  | succ k ih => exact x7_x6 (s_night ih 0 (p_nights_G hG k))
theorem s_6 (h : ag (wc n ng) M N) (h1 : dl M = M) (h2 : dl N = N) : ag (x6 n ng) M N := fun q i hq => by
  rcases hq with hq | hq
  · exact h q i hq
  · rw [← h1, ← h2]
    unfold dl
    rw [if_neg (by omega), if_neg (by omega)]
theorem dl_wc {q i : Nat} (hng : ng ≤ 5) (h : wc n ng q i) : q < 7 := by unfold wc at h; omega
theorem s_dl (h : ag (wc n ng) M N) : ag (wc n ng) (dl M) (dl N) := fun q i hq => by
  have h7 : q < 7 := by unfold wc at hq; omega
  rw [dl_at h7, dl_at h7]
  exact h q i hq
theorem s_d_nt (h : ag (wc n ng) M N) (h1 : dl M = M) (h2 : dl N = N) (s : Int32) (hG : ln_G M n ng) : ag (wc n ng) (d_nt M n ng s) (d_nt N n ng s) := s_dl (x7_c (s_night (s_6 h h1 h2) s hG))
theorem s_G (h : ag (wc n ng) M N) (hG : ln_G M n ng) : ln_G N n ng := ⟨⟨hG.1.1, by rw [← h 0 0 wc_0]; exact hG.1.2⟩, ⟨hG.2.1.1, by rw [← h 0 1 wc_0]; exact hG.2.1.2⟩, fun g hg => by rw [← h 6 g (wc_g (by decide) hg)]; exact hG.2.2 g hg⟩
theorem s_R (h : ag (wc n ng) M N) (hR : ln_R M n ng) : ln_R N n ng := by
  obtain ⟨b1, b2, b3⟩ := hR
  exact ⟨fun q hq => by rw [← h 3 q (wc_h (by decide) hq), ← h 1 q (wc_h (by decide) hq), ← h 2 q (wc_h (by decide) hq)]; exact b1 q hq, fun g hg => by rw [← h 5 g (wc_g (by decide) hg), ← h 4 g (wc_g (by decide) hg)]; exact b2 g hg, by rw [← h 0 2 wc_0]; exact b3⟩
end
