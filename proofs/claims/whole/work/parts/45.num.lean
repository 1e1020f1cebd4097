/-! numbers of a statement, as they are read: common to class and reference -/
/-- an error, or the value and the position behind -/
def p_nu (t : Nat → Nat) (L lo hi e : Nat) : (Nat × Nat) ⊕ (Nat × Nat) := if t_nm t L e lo hi = 1 then .inl (4294967294, t_sk t L e) else if t_nm t L e lo hi = 2 then .inl (4294967293, t_sk t L e) else .inr (t_vc t L (t_sk t L e) 0, t_en t L (t_sk t L e))
def p_npt (M M1 : lq_M) (r : Nat) (t : Nat → Nat) (L lo hi e : Nat) (res : (Nat × Nat) ⊕ (Nat × Nat)) (y : Int32) : Prop := match res with
  | .inl x => y = nI 0 ∧ M1 r 1 = x.1 ∧ M1 r 2 = x.2 ∧ (∀ j, j ≠ 1 → j ≠ 2 → M1 r j = M r j) ∧ ∀ b, b ≠ r → M1 b = M b
  | .inr x => y = nI 1 ∧ M1 r 3 = x.1 ∧ (∀ j, j ≠ 3 → M1 r j = M r j) ∧ q_tks M1 (r + 1) t L x.2 ∧ (∀ b, b ≠ r → b ≠ r + 1 → M1 b = M b) ∧ lo ≤ x.1 ∧ x.1 ≤ hi ∧ e < x.2 ∧ x.2 ≤ L
theorem p_fai_pt {M : lq_M} {r c lo hi e : Nat} {t : Nat → Nat} {L : Nat} (h3 : M (r + 1) 3 = t_sk t L e) : p_npt M (q_fai M r c) r t L lo hi e (.inl (c, t_sk t L e)) (nI 0) := by
  refine ⟨rfl, ?_, ?_, fun j j1 j2 => ?_, fun b hb => ?_⟩
  · unfold q_fai; rw [lq_up_c _ _ (by decide), lq_up_s]
  · unfold q_fai; rw [lq_up_s]; exact h3
  · unfold q_fai; rw [lq_up_c _ _ j2, lq_up_c _ _ j1]
  · unfold q_fai; rw [lq_up_n _ _ _ hb, lq_up_n _ _ _ hb]
theorem p_nu_of {M M1 : lq_M} {r lo hi e : Nat} {t : Nat → Nat} {L : Nat} {y : Int32} (he : e ≤ L) (h3 : M (r + 1) 3 = t_sk t L e) (h : (t_nm t L e lo hi = 0 ∧ y = nI 1 ∧ M1 r 3 = t_vc t L (t_sk t L e) 0 ∧ (∀ j, j ≠ 3 → M1 r j = M r j) ∧ q_tks M1 (r + 1) t L (t_en t L (t_sk t L e)) ∧ ∀ b, b ≠ r → b ≠ r + 1 → M1 b = M b) ∨ (t_nm t L e lo hi = 1 ∧ y = nI 0 ∧ M1 = q_fai M r 4294967294) ∨ (t_nm t L e lo hi = 2 ∧ y = nI 0 ∧ M1 = q_fai M r 4294967293)) : p_npt M M1 r t L lo hi e (p_nu t L lo hi e) y := by
  have hsk := t_sk_le (t := t) he
  have hge := t_sk_ge t L e
  rcases h with ⟨a1, a2, a3, a4, a5, a6⟩ | ⟨a1, rfl, rfl⟩ | ⟨a1, rfl, rfl⟩
  · have hk : t_kd t L (t_sk t L e) = 2 := Decidable.byContradiction fun q => by
      rw [t_nm, if_pos q] at a1
      exact absurd a1 (by decide)
    have hlt := t_kd_lt (t := t) hsk (by rw [hk]; decide)
    have hgt := t_en_gt (t := t) hlt
    have hv : ¬ (t_vc t L (t_sk t L e) 0 < lo ∨ hi < t_vc t L (t_sk t L e) 0) := fun q => by
      rw [t_nm, if_neg (fun z => z hk), if_pos q] at a1
      exact absurd a1 (by decide)
    rw [p_nu, if_neg (by omega), if_neg (by omega)]
    exact ⟨a2, a3, a4, a5, a6, by show lo ≤ t_vc t L (t_sk t L e) 0; omega, by show t_vc t L (t_sk t L e) 0 ≤ hi; omega, by show e < t_en t L (t_sk t L e); omega, t_en_le hsk⟩
  · rw [p_nu, if_pos a1]
    exact p_fai_pt h3
  · rw [p_nu, if_neg (by omega), if_pos a1]
    exact p_fai_pt h3
