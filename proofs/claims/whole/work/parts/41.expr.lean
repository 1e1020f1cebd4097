/-! what is read as a price expression can be evaluated -/
theorem q_hgt_cong {a b : Nat → Nat × Nat} : ∀ n, (∀ j, j < n → a j = b j) → q_hgt a n = q_hgt b n
  | 0, _ => rfl
  | n + 1, h => by rw [q_hgt, q_hgt, h n (by omega), q_hgt_cong n (fun j hj => h j (by omega))]
def q_wk (tk : Nat → Nat × Nat) (n : Nat) : Prop := ∀ i, i < n → q_tok (tk i) (q_hgt tk i)
def p_bd (m d h : Nat) : Prop := (m = 0 ∧ h ≤ 2 * d + 2) ∨ (m = 1 ∧ h ≤ 2 * d + 1) ∨ (m = 2 ∧ h ≤ 2 * d) ∨ (m = 3 ∧ 1 ≤ h ∧ h ≤ 2 * d + 2) ∨ (4 ≤ m ∧ 1 ≤ h ∧ h ≤ 2 * d + 1)
section PWF
variable {t : Nat → Nat} {L : Nat}
theorem p_em_h {k v : Nat} {s : p_S} : q_hgt (p_em k v s).2.2 s.2.1 = q_hgt s.2.2 s.2.1 := q_hgt_cong _ (fun j hj => by show (if j = s.2.1 then _ else _) = _; rw [if_neg (by omega)])
theorem p_em_w {k v : Nat} {s : p_S} (h : q_wk s.2.2 s.2.1) (ht : q_tok (k, v) (q_hgt s.2.2 s.2.1)) : q_wk (p_em k v s).2.2 (p_em k v s).2.1 := by
  intro i hi
  have hi : i < s.2.1 + 1 := hi
  have e : q_hgt (p_em k v s).2.2 i = q_hgt s.2.2 i := q_hgt_cong _ (fun j hj => by show (if j = s.2.1 then _ else _) = _; rw [if_neg (by omega)])
  rw [e]
  show q_tok (if i = s.2.1 then (k, v) else s.2.2 i) _
  by_cases q : i = s.2.1
  · rw [if_pos q, q]; exact ht
  · rw [if_neg q]; exact h i (by omega)
theorem p_em_n {k v : Nat} {s : p_S} : q_hgt (p_em k v s).2.2 (p_em k v s).2.1 = if k ≤ 1 then q_hgt s.2.2 s.2.1 + 1 else q_hgt s.2.2 s.2.1 - 1 := by
  show q_hgt (p_em k v s).2.2 (s.2.1 + 1) = _
  rw [q_hgt, p_em_h]
  show (if (if s.2.1 = s.2.1 then (k, v) else s.2.2 s.2.1).1 ≤ 1 then _ else _) = _
  rw [if_pos rfl]
theorem p_ex_wf : ∀ (f m d : Nat) (s s1 : p_S), d ≤ 4 → p_ex t L f m d s = .inr s1 → q_wk s.2.2 s.2.1 → p_bd m d (q_hgt s.2.2 s.2.1) → q_wk s1.2.2 s1.2.1 ∧ q_hgt s1.2.2 s1.2.1 = q_hgt s.2.2 s.2.1 + if m ≤ 2 then 1 else 0
  | 0, m, d, s, s1, _, h, _, _ => by rw [p_ex] at h; exact absurd h (by simp)
  | f + 1, m, d, s, s1, hd, h, hw, hb => by
    have ih := p_ex_wf f
    rw [p_ex] at h
    unfold p_bd at hb
    by_cases m0 : m = 0
    · rw [if_pos m0] at h
      rw [if_pos (by omega)]
      by_cases g1 : t_sg t L s.1 40 = 1
      · rw [if_pos g1] at h
        by_cases g2 : 4 ≤ d
        · rw [if_pos g2, p_err] at h; exact absurd h (by simp)
        · rw [if_neg g2] at h
          obtain ⟨s2, e1, e2⟩ := p_bind_r h
          obtain ⟨b1, b2⟩ := ih 2 (d + 1) _ _ (by omega) e1 hw (Or.inr (Or.inr (Or.inl ⟨rfl, by show q_hgt s.2.2 s.2.1 ≤ _; omega⟩)))
          by_cases g3 : t_sg t L s2.1 41 = 1
          · rw [if_pos g3] at e2
            cases e2
            exact ⟨b1, b2⟩
          · rw [if_neg g3, p_err] at e2; exact absurd e2 (by simp)
      · rw [if_neg g1] at h
        by_cases g2 : t_kd t L (t_sk t L s.1) = 2
        · rw [if_pos g2] at h
          by_cases g3 : 9999 < t_vc t L (t_sk t L s.1) 0
          · rw [if_pos g3, p_err] at h; exact absurd h (by simp)
          · rw [if_neg g3] at h
            cases h
            exact ⟨p_em_w (s := p_adv t L s) hw (Or.inl ⟨rfl, by show t_vc t L (t_sk t L s.1) 0 ≤ 9999; omega, by show q_hgt s.2.2 s.2.1 < 11; omega⟩), by rw [p_em_n, if_pos (by decide)]; rfl⟩
        · rw [if_neg g2] at h
          by_cases g3 : t_cw t L s.1 = 0
          · rw [if_pos g3, p_err] at h; exact absurd h (by simp)
          · rw [if_neg g3] at h
            have h5 := t_cw_le t L s.1
            cases h
            exact ⟨p_em_w (s := p_adv t L s) hw (Or.inr (Or.inl ⟨rfl, by show t_cw t L s.1 - 1 < 5; omega, by show q_hgt s.2.2 s.2.1 < 11; omega⟩)), by rw [p_em_n, if_pos (by decide)]; rfl⟩
    · rw [if_neg m0] at h
      have lp : ∀ {ma mb kk : Nat}, ma ≤ 2 → 3 ≤ mb → 2 ≤ kk → kk ≤ 5 → 1 ≤ q_hgt s.2.2 s.2.1 → p_bd ma d (q_hgt s.2.2 s.2.1) → p_bd mb d (q_hgt s.2.2 s.2.1) → p_bind (p_ex t L f ma d (p_adv t L s)) (fun s1 => p_ex t L f mb d (p_em kk 0 s1)) = .inr s1 → q_wk s1.2.2 s1.2.1 ∧ q_hgt s1.2.2 s1.2.1 = q_hgt s.2.2 s.2.1 + 0 := fun {ma mb kk} a1 a2 a3 a4 a5 a6 a7 h => by
        obtain ⟨s2, e1, e2⟩ := p_bind_r h
        obtain ⟨b1, b2⟩ := ih ma d _ _ hd e1 hw a6
        rw [if_pos a1] at b2
        have b2 : q_hgt s2.2.2 s2.2.1 = q_hgt s.2.2 s.2.1 + 1 := b2
        have hn : q_hgt (p_em kk 0 s2).2.2 (p_em kk 0 s2).2.1 = q_hgt s.2.2 s.2.1 := by rw [p_em_n, if_neg (by omega), b2]; omega
        obtain ⟨c1, c2⟩ := ih mb d _ _ hd e2 (p_em_w b1 (Or.inr (Or.inr ⟨a3, a4, by rw [b2]; omega⟩))) (by rw [hn]; exact a7)
        rw [hn, if_neg (by omega)] at c2
        exact ⟨c1, c2⟩
      have two : ∀ {ma mb : Nat}, ma ≤ 2 → 3 ≤ mb → p_bd ma d (q_hgt s.2.2 s.2.1) → p_bd mb d (q_hgt s.2.2 s.2.1 + 1) → p_bind (p_ex t L f ma d s) (fun s1 => p_ex t L f mb d s1) = .inr s1 → q_wk s1.2.2 s1.2.1 ∧ q_hgt s1.2.2 s1.2.1 = q_hgt s.2.2 s.2.1 + 1 := fun {ma mb} a1 a2 a6 a7 h => by
        obtain ⟨s2, e1, e2⟩ := p_bind_r h
        obtain ⟨b1, b2⟩ := ih ma d _ _ hd e1 hw a6
        rw [if_pos a1] at b2
        obtain ⟨c1, c2⟩ := ih mb d _ _ hd e2 b1 (by rw [b2]; exact a7)
        rw [b2, if_neg (by omega)] at c2
        exact ⟨c1, c2⟩
      by_cases m1 : m = 1
      · rw [if_pos m1] at h; rw [if_pos (by omega)]; exact two (by decide) (by decide) (Or.inl ⟨rfl, by omega⟩) (Or.inr (Or.inr (Or.inr (Or.inl ⟨rfl, by omega, by omega⟩)))) h
      · rw [if_neg m1] at h
        by_cases m2 : m = 2
        · rw [if_pos m2] at h; rw [if_pos (by omega)]; exact two (by decide) (by decide) (Or.inr (Or.inl ⟨rfl, by omega⟩)) (Or.inr (Or.inr (Or.inr (Or.inr ⟨by decide, by omega, by omega⟩)))) h
        · rw [if_neg m2] at h
          rw [if_neg (by omega)]
          by_cases m3 : m = 3
          · rw [if_pos m3] at h
            have k0 : p_bd 0 d (q_hgt s.2.2 s.2.1) := Or.inl ⟨rfl, by omega⟩
            have k3 : p_bd 3 d (q_hgt s.2.2 s.2.1) := Or.inr (Or.inr (Or.inr (Or.inl ⟨rfl, by omega, by omega⟩)))
            by_cases g1 : t_sg t L s.1 42 = 1
            · rw [if_pos g1] at h; exact lp (by decide) (by decide) (by decide) (by decide) (by omega) k0 k3 h
            · rw [if_neg g1] at h
              by_cases g2 : t_sg t L s.1 47 = 1
              · rw [if_pos g2] at h; exact lp (by decide) (by decide) (by decide) (by decide) (by omega) k0 k3 h
              · rw [if_neg g2] at h; cases h; exact ⟨hw, rfl⟩
          · rw [if_neg m3] at h
            have k1 : p_bd 1 d (q_hgt s.2.2 s.2.1) := Or.inr (Or.inl ⟨rfl, by omega⟩)
            have k4 : p_bd 4 d (q_hgt s.2.2 s.2.1) := Or.inr (Or.inr (Or.inr (Or.inr ⟨by decide, by omega, by omega⟩)))
            by_cases g1 : t_sg t L s.1 43 = 1
            · rw [if_pos g1] at h; exact lp (by decide) (by decide) (by decide) (by decide) (by omega) k1 k4 h
            · rw [if_neg g1] at h
              by_cases g2 : t_sg t L s.1 45 = 1
              · rw [if_pos g2] at h; exact lp (by decide) (by decide) (by decide) (by decide) (by omega) k1 k4 h
              · rw [if_neg g2] at h; cases h; exact ⟨hw, rfl⟩
/-- the whole expression, read from nothing -/
theorem p_ex_fwf {f e : Nat} {tk : Nat → Nat × Nat} {s1 : p_S} (h : p_ex t L f 2 0 (e, 0, tk) = .inr s1) : q_fwf s1.2.2 s1.2.1 := by
  obtain ⟨a, b⟩ := p_ex_wf f 2 0 _ _ (by decide) h (fun i hi => absurd hi (Nat.not_lt_zero i)) (Or.inr (Or.inr (Or.inl ⟨rfl, Nat.le_refl _⟩)))
  exact ⟨a, b⟩
end PWF
