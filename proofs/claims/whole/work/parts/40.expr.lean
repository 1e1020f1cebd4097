/-! the price expression, as it is read: common to class and reference -/
abbrev p_S : Type := Nat × Nat × (Nat → Nat × Nat)
abbrev p_R : Type := (Nat × Nat) ⊕ p_S
def p_bind (r : p_R) (f : p_S → p_R) : p_R := match r with
  | .inl x => .inl x
  | .inr s => f s
/-- one token behind -/
def p_adv (t : Nat → Nat) (L : Nat) (s : p_S) : p_S := (t_en t L (t_sk t L s.1), s.2)
def p_em (k v : Nat) (s : p_S) : p_S := (s.1, s.2.1 + 1, fun j => if j = s.2.1 then (k, v) else s.2.2 j)
/-- an error: its code, counted down from zero, and where -/
def p_err (t : Nat → Nat) (L c : Nat) (s : p_S) : p_R := .inl (4294967296 - c, t_sk t L s.1)
noncomputable def p_ex (t : Nat → Nat) (L : Nat) : Nat → Nat → Nat → p_S → p_R
  | 0, _, _, _ => .inl (0, 0)
  | f + 1, m, d, s =>
    if m = 0 then
      (if t_sg t L s.1 40 = 1 then (if 4 ≤ d then p_err t L 5 s else p_bind (p_ex t L f 2 (d + 1) (p_adv t L s)) (fun s1 => if t_sg t L s1.1 41 = 1 then .inr (p_adv t L s1) else p_err t L 2 s1))
      else if t_kd t L (t_sk t L s.1) = 2 then (if 9999 < t_vc t L (t_sk t L s.1) 0 then p_err t L 3 s else .inr (p_em 0 (t_vc t L (t_sk t L s.1) 0) (p_adv t L s)))
      else if t_cw t L s.1 = 0 then p_err t L 2 s else .inr (p_em 1 (t_cw t L s.1 - 1) (p_adv t L s)))
    else if m = 1 then p_bind (p_ex t L f 0 d s) (fun s1 => p_ex t L f 3 d s1)
    else if m = 2 then p_bind (p_ex t L f 1 d s) (fun s1 => p_ex t L f 4 d s1)
    else if m = 3 then
      (if t_sg t L s.1 42 = 1 then p_bind (p_ex t L f 0 d (p_adv t L s)) (fun s1 => p_ex t L f 3 d (p_em 4 0 s1))
      else if t_sg t L s.1 47 = 1 then p_bind (p_ex t L f 0 d (p_adv t L s)) (fun s1 => p_ex t L f 3 d (p_em 5 0 s1))
      else .inr s)
    else
      (if t_sg t L s.1 43 = 1 then p_bind (p_ex t L f 1 d (p_adv t L s)) (fun s1 => p_ex t L f 4 d (p_em 2 0 s1))
      else if t_sg t L s.1 45 = 1 then p_bind (p_ex t L f 1 d (p_adv t L s)) (fun s1 => p_ex t L f 4 d (p_em 3 0 s1))
      else .inr s)
section PEX
variable {t : Nat → Nat} {L : Nat}
theorem p_bind_r {r : p_R} {f : p_S → p_R} {s : p_S} (h : p_bind r f = .inr s) : ∃ s1, r = .inr s1 ∧ f s1 = .inr s := by
  cases r with
  | inl x => exact absurd h (by simp [p_bind])
  | inr s1 => exact ⟨s1, rfl, h⟩
theorem t_sk_le {e : Nat} (h : e ≤ L) : t_sk t L e ≤ L := t_run_le t_isS t h
theorem t_sk_ge (t : Nat → Nat) (L e : Nat) : e ≤ t_sk t L e := t_run_ge t_isS t L e
theorem t_en_gt {s : Nat} (h : s < L) : s < t_en t L s := by
  have h1 := t_run_ge t_isL t L s
  have h2 := t_run_ge t_isD t L s
  unfold t_en
  split
  · assumption
  · split
    · assumption
    · omega
theorem t_sg_lt {e c : Nat} (h : t_sg t L e c = 1) : t_sk t L e < L := by
  unfold t_sg at h
  by_cases q : t_sk t L e < L ∧ t (t_sk t L e) = c
  · exact q.1
  · rw [if_neg q] at h; exact absurd h (by decide)
theorem t_kd_lt {s : Nat} (hs : s ≤ L) (h : t_kd t L s ≠ 0) : s < L := by
  have h1 := t_run_le t_isL t hs
  have h2 := t_run_le t_isD t hs
  have h1 : t_wd t L s ≤ L := h1
  have h2 : t_dg t L s ≤ L := h2
  unfold t_kd at h
  by_cases q : s < t_wd t L s
  · omega
  · rw [if_neg q] at h
    by_cases q2 : s < t_dg t L s
    · omega
    · rw [if_neg q2] at h
      by_cases q3 : s < L
      · exact q3
      · rw [if_neg q3] at h; exact absurd rfl h
theorem t_wb_lt {e i : Nat} (he : e ≤ L) (hi : i < 29) (h : t_wb t L e i ≠ 0) : t_sk t L e < L := by
  have h1 := t_run_le t_isL t (t_sk_le (t := t) he)
  have h1 : t_wd t L (t_sk t L e) ≤ L := h1
  by_cases q : t_isw t L e i
  · have := lq_len_pos i hi
    have := q.1
    omega
  · exact absurd (t_wb_n q) h
theorem t_cw_lt {e : Nat} (he : e ≤ L) (h : t_cw t L e ≠ 0) : t_sk t L e < L := by
  unfold t_cw at h
  by_cases q0 : t_wb t L e 14 ≠ 0
  · exact t_wb_lt he (by decide) q0
  · rw [if_neg q0] at h
    by_cases q1 : t_wb t L e 15 ≠ 0
    · exact t_wb_lt he (by decide) q1
    · rw [if_neg q1] at h
      by_cases q2 : t_wb t L e 16 ≠ 0
      · exact t_wb_lt he (by decide) q2
      · rw [if_neg q2] at h
        by_cases q3 : t_wb t L e 17 ≠ 0
        · exact t_wb_lt he (by decide) q3
        · rw [if_neg q3] at h
          by_cases q4 : t_wb t L e 18 ≠ 0
          · exact t_wb_lt he (by decide) q4
          · rw [if_neg q4] at h; exact absurd rfl h
/-- reading goes on, stays in the text, and lays no more tokens than it has read bytes -/
def p_le (L : Nat) (s s1 : p_S) : Prop := s.1 ≤ s1.1 ∧ s1.1 ≤ L ∧ ∀ k, s.2.1 + k ≤ s.1 → s1.2.1 + k ≤ s1.1
theorem p_le.trans {a b c : p_S} (h : p_le L a b) (h2 : p_le L b c) : p_le L a c := ⟨Nat.le_trans h.1 h2.1, h2.2.1, fun k q => h2.2.2 k (h.2.2 k q)⟩
theorem p_adv_le {s : p_S} (hs : s.1 ≤ L) (h : t_sk t L s.1 < L) : s.1 < (p_adv t L s).1 ∧ (p_adv t L s).1 ≤ L := by
  have h1 := t_sk_ge t L s.1
  have h2 := t_en_gt (t := t) h
  exact ⟨by show s.1 < t_en t L (t_sk t L s.1); omega, t_en_le (Nat.le_of_lt h)⟩
theorem p_ex_le : ∀ (f m d : Nat) (s s1 : p_S), s.1 ≤ L → p_ex t L f m d s = .inr s1 → p_le L s s1
  | 0, m, d, s, s1, _, h => by rw [p_ex] at h; exact absurd h (by simp)
  | f + 1, m, d, s, s1, hs, h => by
    have ih := p_ex_le f
    rw [p_ex] at h
    by_cases m0 : m = 0
    · rw [if_pos m0] at h
      by_cases g1 : t_sg t L s.1 40 = 1
      · rw [if_pos g1] at h
        by_cases g2 : 4 ≤ d
        · rw [if_pos g2, p_err] at h; exact absurd h (by simp)
        · rw [if_neg g2] at h
          obtain ⟨s2, e1, e2⟩ := p_bind_r h
          obtain ⟨a1, a2⟩ := p_adv_le hs (t_sg_lt g1)
          obtain ⟨b1, b2, b3⟩ := ih _ _ _ _ a2 e1
          by_cases g3 : t_sg t L s2.1 41 = 1
          · rw [if_pos g3] at e2
            obtain ⟨c1, c2⟩ := p_adv_le b2 (t_sg_lt g3)
            cases e2
            refine ⟨by omega, c2, fun k q => ?_⟩
            have b4 := b3 k (show s.2.1 + k ≤ (p_adv t L s).1 by omega)
            show s2.2.1 + k ≤ _
            omega
          · rw [if_neg g3, p_err] at e2; exact absurd e2 (by simp)
      · rw [if_neg g1] at h
        by_cases g2 : t_kd t L (t_sk t L s.1) = 2
        · rw [if_pos g2] at h
          obtain ⟨a1, a2⟩ := p_adv_le hs (t_kd_lt (t_sk_le (t := t) hs) (by rw [g2]; decide))
          by_cases g3 : 9999 < t_vc t L (t_sk t L s.1) 0
          · rw [if_pos g3, p_err] at h; exact absurd h (by simp)
          · rw [if_neg g3] at h
            cases h
            refine ⟨by show s.1 ≤ (p_adv t L s).1; omega, a2, fun k q => ?_⟩
            show s.2.1 + 1 + k ≤ (p_adv t L s).1
            omega
        · rw [if_neg g2] at h
          by_cases g3 : t_cw t L s.1 = 0
          · rw [if_pos g3, p_err] at h; exact absurd h (by simp)
          · rw [if_neg g3] at h
            obtain ⟨a1, a2⟩ := p_adv_le hs (t_cw_lt hs g3)
            cases h
            refine ⟨by show s.1 ≤ (p_adv t L s).1; omega, a2, fun k q => ?_⟩
            show s.2.1 + 1 + k ≤ (p_adv t L s).1
            omega
    · rw [if_neg m0] at h
      have two : ∀ {ma mb : Nat}, p_bind (p_ex t L f ma d s) (fun s1 => p_ex t L f mb d s1) = .inr s1 → p_le L s s1 := fun {ma mb} h => by
        obtain ⟨s2, e1, e2⟩ := p_bind_r h
        have b := ih _ _ _ _ hs e1
        exact b.trans (ih _ _ _ _ b.2.1 e2)
      have lp : ∀ {c ma mb kk : Nat}, t_sg t L s.1 c = 1 → p_bind (p_ex t L f ma d (p_adv t L s)) (fun s1 => p_ex t L f mb d (p_em kk 0 s1)) = .inr s1 → p_le L s s1 := fun {c ma mb kk} g h => by
        obtain ⟨s2, e1, e2⟩ := p_bind_r h
        obtain ⟨a1, a2⟩ := p_adv_le hs (t_sg_lt g)
        have b := ih _ _ _ _ a2 e1
        have c := ih _ _ _ _ (show (p_em kk 0 s2).1 ≤ L from b.2.1) e2
        refine ⟨?_, c.2.1, fun k q => c.2.2 k ?_⟩
        · have c1 := c.1
          have b1 := b.1
          have c1 : s2.1 ≤ s1.1 := c1
          omega
        · have b3 := b.2.2 (k + 1) (show s.2.1 + (k + 1) ≤ (p_adv t L s).1 by omega)
          show s2.2.1 + 1 + k ≤ s2.1
          omega
      by_cases m1 : m = 1
      · rw [if_pos m1] at h; exact two h
      · rw [if_neg m1] at h
        by_cases m2 : m = 2
        · rw [if_pos m2] at h; exact two h
        · rw [if_neg m2] at h
          by_cases m3 : m = 3
          · rw [if_pos m3] at h
            by_cases g1 : t_sg t L s.1 42 = 1
            · rw [if_pos g1] at h; exact lp g1 h
            · rw [if_neg g1] at h
              by_cases g2 : t_sg t L s.1 47 = 1
              · rw [if_pos g2] at h; exact lp g2 h
              · rw [if_neg g2] at h; cases h; exact ⟨Nat.le_refl _, hs, fun _ q => q⟩
          · rw [if_neg m3] at h
            by_cases g1 : t_sg t L s.1 43 = 1
            · rw [if_pos g1] at h; exact lp g1 h
            · rw [if_neg g1] at h
              by_cases g2 : t_sg t L s.1 45 = 1
              · rw [if_pos g2] at h; exact lp g2 h
              · rw [if_neg g2] at h; cases h; exact ⟨Nat.le_refl _, hs, fun _ q => q⟩
end PEX
