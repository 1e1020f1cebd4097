/-! a draft takes a break and stays well-formed -/
theorem g_abk_at {g : Nat → Nat} {k dd hh ll uu j : Nat} (hk : k ≤ g 0) (hj : j < g 0 + 1) (hjk : j ≠ k) : ∃ i, i < g 0 ∧ ∀ c, c < 30 → g_abk g k dd hh ll uu (7 + c + 30 * j) = g (7 + c + 30 * i) := by
  by_cases q : j < k
  · refine ⟨j, by omega, fun c hc => ?_⟩
    unfold g_abk
    rw [if_neg (by omega), if_pos (by omega)]
  · refine ⟨j - 1, by omega, fun c hc => ?_⟩
    unfold g_abk
    rw [if_neg (by omega), if_neg (by omega), if_neg (by omega)]
    exact congrArg g (by omega)
theorem g_abk_k {g : Nat → Nat} {k dd hh ll uu : Nat} (hk : k ≤ g 0) {c : Nat} (hc : c < 30) : g_abk g k dd hh ll uu (7 + c + 30 * k) = (if c = 0 then dd else if c = 1 then hh else if c = 2 then ll else if c = 3 then uu else 0) := by
  unfold g_abk
  rw [if_neg (by omega), if_neg (by omega), if_pos (by omega)]
  rcases (show c = 0 ∨ c = 1 ∨ c = 2 ∨ c = 3 ∨ 4 ≤ c by omega) with w | w | w | w | w
  · subst w; rw [if_pos (by omega)]; rfl
  · subst w; rw [if_neg (by omega), if_pos (by omega)]; rfl
  · subst w; rw [if_neg (by omega), if_neg (by omega), if_pos (by omega)]; rfl
  · subst w; rw [if_neg (by omega), if_neg (by omega), if_neg (by omega), if_pos (by omega)]; rfl
  · rw [if_neg (by omega), if_neg (by omega), if_neg (by omega), if_neg (by omega), if_neg (by omega), if_neg (by omega), if_neg (by omega), if_neg (by omega)]
theorem g_wf.abk {g : Nat → Nat} (h : g_wf g) {k dd hh ll uu : Nat} (h0 : g 0 < 20) (hk : k ≤ g 0) (h5 : g 5 = 0) (hd : dd ≤ 6) (hh23 : hh ≤ 23) (hl : ll ≤ 300) (hu : uu ≤ 999) : g_wf (g_abk g k dd hh ll uu) := by
  have h8 := h.ns
  have o : ∀ x, x ≠ 0 → (x < 7 ∨ 607 ≤ x) → g_abk g k dd hh ll uu x = g x := fun x x1 x2 => by
    unfold g_abk
    rw [if_neg x1, if_pos (by omega)]
  have o0 : g_abk g k dd hh ll uu 0 = g 0 + 1 := by unfold g_abk; rw [if_pos rfl]
  have kc : g_abk g k dd hh ll uu (12 + 30 * k) = 0 := (g_abk_k (g := g) (dd := dd) (hh := hh) (ll := ll) (uu := uu) hk (c := 5) (by decide))
  refine ⟨by rw [o0]; omega, by rw [o 1 (by omega) (by omega)]; exact h8, fun j hj => ?_, fun j p hj hp => ?_, fun j p q hj hp hq e => ?_, fun t ht => ?_, fun a b ha hb => ?_, fun i hi => ?_, ?_⟩
  · rw [o0] at hj
    by_cases e : j = k
    · rw [e]
      have c0 := g_abk_k (g := g) (dd := dd) (hh := hh) (ll := ll) (uu := uu) hk (c := 0) (by decide)
      have c1 := g_abk_k (g := g) (dd := dd) (hh := hh) (ll := ll) (uu := uu) hk (c := 1) (by decide)
      have c2 := g_abk_k (g := g) (dd := dd) (hh := hh) (ll := ll) (uu := uu) hk (c := 2) (by decide)
      have c3 := g_abk_k (g := g) (dd := dd) (hh := hh) (ll := ll) (uu := uu) hk (c := 3) (by decide)
      have c4 := g_abk_k (g := g) (dd := dd) (hh := hh) (ll := ll) (uu := uu) hk (c := 4) (by decide)
      simp only [Nat.reduceAdd] at c0 c1 c2 c3 c4
      rw [c0, c1, c2, c3, c4, kc]
      exact ⟨hd, hh23, hl, hu, Nat.zero_le 2, by decide, fun _ => rfl⟩
    · obtain ⟨i, hi, hc⟩ := g_abk_at (dd := dd) (hh := hh) (ll := ll) (uu := uu) hk hj e
      have c0 := hc 0 (by decide)
      have c1 := hc 1 (by decide)
      have c2 := hc 2 (by decide)
      have c3 := hc 3 (by decide)
      have c4 := hc 4 (by decide)
      have c5 := hc 5 (by decide)
      simp only [Nat.reduceAdd] at c0 c1 c2 c3 c4 c5
      rw [c0, c1, c2, c3, c4, c5]
      exact h.br hi
  · rw [o0] at hj
    by_cases e : j = k
    · rw [e, kc] at hp; exact absurd hp (Nat.not_lt_zero p)
    · obtain ⟨i, hi, hc⟩ := g_abk_at (dd := dd) (hh := hh) (ll := ll) (uu := uu) hk hj e
      have c5 := hc 5 (by decide)
      simp only [Nat.reduceAdd] at c5
      rw [c5] at hp
      have hb := (h.br hi).2.2.2.2.2.1
      rw [o 1 (by omega) (by omega), show 13 + 30 * j + 3 * p = 7 + (6 + 3 * p) + 30 * j by omega, show 14 + 30 * j + 3 * p = 7 + (7 + 3 * p) + 30 * j by omega, show 15 + 30 * j + 3 * p = 7 + (8 + 3 * p) + 30 * j by omega, hc _ (by omega), hc _ (by omega), hc _ (by omega), show 7 + (6 + 3 * p) + 30 * i = 13 + 30 * i + 3 * p by omega, show 7 + (7 + 3 * p) + 30 * i = 14 + 30 * i + 3 * p by omega, show 7 + (8 + 3 * p) + 30 * i = 15 + 30 * i + 3 * p by omega]
      exact h.sp hi hp
  · rw [o0] at hj
    by_cases e9 : j = k
    · rw [e9, kc] at hp; exact absurd hp (Nat.not_lt_zero p)
    · obtain ⟨i, hi, hc⟩ := g_abk_at (dd := dd) (hh := hh) (ll := ll) (uu := uu) hk hj e9
      have c5 := hc 5 (by decide)
      simp only [Nat.reduceAdd] at c5
      rw [c5] at hp hq
      have hb := (h.br hi).2.2.2.2.2.1
      rw [show 13 + 30 * j + 3 * p = 7 + (6 + 3 * p) + 30 * j by omega, show 13 + 30 * j + 3 * q = 7 + (6 + 3 * q) + 30 * j by omega, hc _ (by omega), hc _ (by omega), show 7 + (6 + 3 * p) + 30 * i = 13 + 30 * i + 3 * p by omega, show 7 + (6 + 3 * q) + 30 * i = 13 + 30 * i + 3 * q by omega] at e
      exact h.ne hi hp hq e
  · rw [o (607 + 2 * t) (by omega) (by omega), o (608 + 2 * t) (by omega) (by omega)]; exact h.cat ht
  · rw [o (623 + 10 * a + b) (by omega) (by omega), o (623 + 10 * b + a) (by omega) (by omega)]; exact h.ban ha hb
  · rw [o 5 (by omega) (by omega), h5] at hi; exact absurd hi (Nat.not_lt_zero i)
  · rw [o 5 (by omega) (by omega), h5]; exact Nat.zero_le _
