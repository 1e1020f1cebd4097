/-! a draft stays well-formed -/
theorem g_wf.as {g : Nat → Nat} (h : g_wf g) {c p : Nat} (h8 : g 1 < 8) (hc : c ≤ 9) (hp9 : p ≤ 9) : g_wf (g_as g c p) := by
  have h20 := h.nb
  have o : ∀ x, x ≠ 1 → (x < 607 ∨ 623 ≤ x) → g_as g c p x = g x := fun x x1 x2 => by
    unfold g_as
    rw [if_neg x1, if_neg (by omega), if_neg (by omega)]
  have o1 : g_as g c p 1 = g 1 + 1 := by unfold g_as; rw [if_pos rfl]
  refine ⟨by rw [o 0 (by omega) (by omega)]; exact h20, by rw [o1]; omega, fun j hj => ?_, fun j p hj hp => ?_, fun j p q hj hp hq e => ?_, fun t ht => ?_, fun a b ha hb => ?_, fun k hk => ?_, ?_⟩
  · rw [o 0 (by omega) (by omega)] at hj
    rw [o (7 + 30 * j) (by omega) (by omega), o (8 + 30 * j) (by omega) (by omega), o (9 + 30 * j) (by omega) (by omega), o (10 + 30 * j) (by omega) (by omega), o (11 + 30 * j) (by omega) (by omega), o (12 + 30 * j) (by omega) (by omega)]
    exact h.br hj
  · rw [o 0 (by omega) (by omega)] at hj
    rw [o (12 + 30 * j) (by omega) (by omega)] at hp
    have hb := (h.br hj).2.2.2.2.2.1
    rw [o (13 + 30 * j + 3 * p) (by omega) (by omega), o (14 + 30 * j + 3 * p) (by omega) (by omega), o (15 + 30 * j + 3 * p) (by omega) (by omega)]
    have z := h.sp hj hp
    exact ⟨by omega, z.2⟩
  · rw [o 0 (by omega) (by omega)] at hj
    rw [o (12 + 30 * j) (by omega) (by omega)] at hp hq
    have hb := (h.br hj).2.2.2.2.2.1
    rw [o (13 + 30 * j + 3 * p) (by omega) (by omega), o (13 + 30 * j + 3 * q) (by omega) (by omega)] at e
    exact h.ne hj hp hq e
  · have z := h.cat ht
    unfold g_as
    rw [if_neg (show ¬ 607 + 2 * t = 1 by omega), if_neg (show ¬ 608 + 2 * t = 1 by omega)]
    by_cases e : t = g 1
    · rw [e, if_pos rfl, if_neg (by omega), if_pos rfl]; exact ⟨hc, hp9⟩
    · rw [if_neg (by omega), if_neg (by omega), if_neg (by omega), if_neg (by omega)]; exact z
  · rw [o (623 + 10 * a + b) (by omega) (by omega), o (623 + 10 * b + a) (by omega) (by omega)]; exact h.ban ha hb
  · rw [o 5 (by omega) (by omega)] at hk
    rw [o (723 + 4 * k) (by omega) (by omega), o (724 + 4 * k) (by omega) (by omega), o (725 + 4 * k) (by omega) (by omega), o (726 + 4 * k) (by omega) (by omega)]
    have z := h.ow hk
    exact ⟨by omega, z.2⟩
  · rw [o 5 (by omega) (by omega), o 0 (by omega) (by omega), g_cn_cong (g' := g) (g 0) (fun j hj => o (11 + 30 * j) (by omega) (by omega))]
    exact h.2.2.2.2.2.2.2.2
theorem g_wf.abn {g : Nat → Nat} (h : g_wf g) {x y : Nat} (hx : x < 10) (hy : y < 10) : g_wf (g_abn g x y) := by
  have h20 := h.nb
  have h8 := h.ns
  have o : ∀ k, k = k → (k < 623 ∨ 723 ≤ k) → g_abn g x y k = g k := fun k _ x2 => by
    unfold g_abn
    rw [if_neg (by omega)]
  have o1 : g_abn g x y 1 = g 1 := o 1 rfl (by omega)
  refine ⟨by rw [o 0 (by omega) (by omega)]; exact h20, by rw [o1]; exact h8, fun j hj => ?_, fun j p hj hp => ?_, fun j p q hj hp hq e => ?_, fun t ht => ?_, fun a b ha hb => ?_, fun k hk => ?_, ?_⟩
  · rw [o 0 (by omega) (by omega)] at hj
    rw [o (7 + 30 * j) (by omega) (by omega), o (8 + 30 * j) (by omega) (by omega), o (9 + 30 * j) (by omega) (by omega), o (10 + 30 * j) (by omega) (by omega), o (11 + 30 * j) (by omega) (by omega), o (12 + 30 * j) (by omega) (by omega)]
    exact h.br hj
  · rw [o 0 (by omega) (by omega)] at hj
    rw [o (12 + 30 * j) (by omega) (by omega)] at hp
    have hb := (h.br hj).2.2.2.2.2.1
    rw [o (13 + 30 * j + 3 * p) (by omega) (by omega), o (14 + 30 * j + 3 * p) (by omega) (by omega), o (15 + 30 * j + 3 * p) (by omega) (by omega)]
    have z := h.sp hj hp
    exact ⟨by omega, z.2⟩
  · rw [o 0 (by omega) (by omega)] at hj
    rw [o (12 + 30 * j) (by omega) (by omega)] at hp hq
    have hb := (h.br hj).2.2.2.2.2.1
    rw [o (13 + 30 * j + 3 * p) (by omega) (by omega), o (13 + 30 * j + 3 * q) (by omega) (by omega)] at e
    exact h.ne hj hp hq e
  · rw [o (607 + 2 * t) (by omega) (by omega), o (608 + 2 * t) (by omega) (by omega)]; exact h.cat ht
  · have z := h.ban ha hb
    unfold g_abn
    by_cases e : (a = x ∧ b = y) ∨ (a = y ∧ b = x)
    · rw [if_pos (by omega), if_pos (by omega)]; exact ⟨Nat.le_refl 1, rfl⟩
    · rw [if_neg (by omega), if_neg (by omega)]; exact z
  · rw [o 5 (by omega) (by omega)] at hk
    rw [o (723 + 4 * k) (by omega) (by omega), o (724 + 4 * k) (by omega) (by omega), o (725 + 4 * k) (by omega) (by omega), o (726 + 4 * k) (by omega) (by omega)]
    have z := h.ow hk
    exact ⟨by omega, z.2⟩
  · rw [o 5 (by omega) (by omega), o 0 (by omega) (by omega), g_cn_cong (g' := g) (g 0) (fun j hj => o (11 + 30 * j) (by omega) (by omega))]
    exact h.2.2.2.2.2.2.2.2
