/-! THE LAW: the codes stay through every change -/
def q_far (x : Nat) : Prop := x = 4 ∨ 1363 ≤ x
theorem q_cx.far {g h : Nat → Nat} {tk : Nat → Nat × Nat} {n : Nat} (hc : q_cx g tk n) (e : ∀ x, q_far x → h x = g x) (e0 : g 0 = 0 → g 1 = 0 → h 0 = 0 ∧ h 1 = 0) : q_cx h tk n :=
  hc.go (e 4 (Or.inl rfl)) (fun x x1 _ => e x (Or.inr x1)) e0
theorem g_bk_far {g : Nat → Nat} {tk : Nat → Nat × Nat} {n s l i : Nat} (hW : g_wf g) (hs : s < g 1) (hi : i < g 0) : ∀ x, q_far x → g_bk g tk n s l i x = g x := by
  intro x hx
  have h20 := hW.nb
  by_cases h0 : g_rs g s l i = 0
  · have hok := g_rs_ok h0
    have h7 := hW.seven hi hs hok.2.1
    have hpl := g_pf_le g s i
    rw [g_bk, if_pos h0, g_inc_o (by unfold q_far at hx; omega), g_put_o (by unfold q_far at hx; omega) (by omega) h7]
  · rw [g_bk, if_neg h0]
theorem g_rem_far {g : Nat → Nat} {i p : Nat} (hW : g_wf g) (hi : i < g 0) : ∀ x, q_far x → g_rem g i p x = g x := by
  intro x hx
  have h20 := hW.nb
  have hb := (hW.br hi).2.2.2.2.2.1
  unfold q_far at hx
  rw [g_rem, g_inc_o (by omega), g_del_o (by omega) hb]
theorem g_can2_far {g : Nat → Nat} {i : Nat} (hW : g_wf g) (hi : i < g 0) (h0 : g (11 + 30 * i) = 0) : ∀ x, q_far x → g_can2 g i x = g x := by
  intro x hx
  have h20 := hW.nb
  have h160 := (hW.can2 hi h0).no
  have e5 : g_can2 g i 5 = g 5 + g (12 + 30 * i) := by unfold g_can2; rw [if_neg (by omega), if_neg (by omega), if_pos rfl]
  unfold q_far at hx
  exact g_can2_o (by omega) (by omega) (by omega) (by omega)
theorem g_mgs_far {g : Nat → Nat} (hW : g_wf g) : ∀ k, k ≤ g 5 → ∀ x, q_far x → (g_mgs g k).1 x = g x
  | 0, _, _, _ => rfl
  | k + 1, hk, x, hx => by
    have ih := g_mgs_far hW k (by omega) x hx
    obtain ⟨i1, i2, i3, i5, i6, i7⟩ := hW.mgs k (by omega)
    have h20 := hW.nb
    have h160 := hW.no
    have hl := g_mgs_le g k
    unfold q_far at hx
    rw [g_mgs]
    by_cases e : g_gf (g_mgs g k).1 k < g 0
    · rw [if_pos e]
      dsimp only
      have hi : g_gf (g_mgs g k).1 k < (g_mgs g k).1 0 := by rw [i2]; exact e
      have how := i1.ow (k := k) (by omega)
      obtain ⟨e1, e2, e3, e4, e5⟩ := g_rs_ok (g_gf_ok hi)
      have h7 := i1.seven hi how.1 e2
      have hpf := g_pf_le (g_mgs g k).1 ((g_mgs g k).1 (723 + 4 * k)) (g_gf (g_mgs g k).1 k)
      rw [g_put_o (by omega) (by omega) h7]
      exact ih
    · rw [if_neg e]
      dsimp only
      unfold g_cpo
      rw [if_neg (by omega)]
      exact ih
theorem g_mkg_far {g : Nat → Nat} (hW : g_wf g) : ∀ x, q_far x → g_mkg g x = g x := by
  intro x hx
  have h9 := hx
  unfold q_far at h9
  unfold g_mkg
  rw [if_neg (by omega)]
  exact g_mgs_far hW (g 5) (Nat.le_refl _) x hx
theorem g_bk_n {g : Nat → Nat} {tk : Nat → Nat × Nat} {n s l i : Nat} (hW : g_wf g) (hs : s < g 1) (hi : i < g 0) : g_bk g tk n s l i 0 = g 0 ∧ g_bk g tk n s l i 1 = g 1 := by
  by_cases h0 : g_rs g s l i = 0
  · have hok := g_rs_ok h0
    have h7 := hW.seven hi hs hok.2.1
    have hpl := g_pf_le g s i
    rw [g_bk, if_pos h0]
    exact ⟨by rw [g_inc_o (by omega), g_put_o (by omega) (by omega) h7], by rw [g_inc_o (by omega), g_put_o (by omega) (by omega) h7]⟩
  · rw [g_bk, if_neg h0]; exact ⟨rfl, rfl⟩
theorem g_camp_far {tk : Nat → Nat × Nat} {n s l : Nat} (hl : l ≤ 60) : ∀ (k : Nat) {g : Nat → Nat}, g_wf g → s < g 1 → ∀ x, q_far x → (g_camp tk n s l k g).1 x = g x
  | 0, g, h, hs, x, hx => rfl
  | k + 1, g, h, hs, x, hx => by
    rw [g_camp]
    by_cases e : (g_chp g tk n s l (g 0)).1 = 0
    · rw [if_pos e]
    · rw [if_neg e]
      have hle := g_chp_le g tk n s l (g 0)
      have hi : (g_chp g tk n s l (g 0)).1 - 1 < g 0 := by omega
      have hw := h.bk (tk := tk) (n := n) hs hl hi
      show (g_camp tk n s l k (g_bk g tk n s l ((g_chp g tk n s l (g 0)).1 - 1))).1 x = g x
      rw [g_camp_far hl k hw (by rw [(g_bk_n h hs hi).2]; exact hs) x hx, g_bk_far h hs hi x hx]
theorem g_ba_far {g : Nat → Nat} {tk : Nat → Nat × Nat} {n s l i : Nat} (hW : g_wf g) (hs : s < g 1) (hi : i < g 0) : ∀ x, q_far x → g_ba g tk n s l i x = g x := by
  intro x hx
  have h20 := hW.nb
  have h9 := hx
  unfold q_far at h9
  unfold g_ba
  by_cases e : g_rs g s l i ≠ 5
  · rw [if_pos e]; exact g_bk_far hW hs hi x hx
  · rw [if_neg e]
    by_cases e2 : g_co g (g_set g i s) = 0
    · rw [if_pos e2]
    · rw [if_neg e2]
      have h7 := hW.seven hi hs (g_rs_is5 (Decidable.not_not.mp e)).2
      unfold g_reo
      rw [g_prm_o (by rw [g_bah_c]; omega), g_bah_o (by omega) h7 (by omega) (by omega)]
