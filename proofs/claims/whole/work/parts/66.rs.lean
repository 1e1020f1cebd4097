/-! THE REFERENCE: terms and sums -/
section R14
variable {G : lq_G} {z : Nat} {S : lq_S} {M : lq_M} {N : lq_N} {m : Nat} {fh fo : Nat → Option Nat}
theorem sl_X9_term {L : Nat} (h9 : sh9 S m fh fo) (hL8 : L ≤ 800) {t : Nat → Nat} (ht : ∀ j, j < L → t j < 256) {v : Value} (hX : lq_sx G v) {f d : Nat} (hd : d ≤ 4) {Mo : lq_M} {s : p_S} (he : s.1 ≤ L) (hn : s.2.1 ≤ s.1) (hM : ∀ j, j < L → M (m + 1) j = t j) (hL : M m 3 = L) (hP : r_pc M m t L d s) (hwk : q_wk s.2.2 s.2.1) (hbd : p_bd 3 d (q_hgt s.2.2 s.2.1)) (hf : 4 * (L - s.1) + 1 ≤ f + 1) (hxo : r_xf m Mo M) (ho6 : M m 6 = Mo m 6) (IHs : ∀ (M' : lq_M) (N' : lq_N) (s' : p_S), s'.1 ≤ L → s'.2.1 ≤ s'.1 → (∀ j, j < L → M' (m + 1) j = t j) → M' m 3 = L → r_pc M' m t L d s' → q_wk s'.2.2 s'.2.1 → p_bd 0 d (q_hgt s'.2.2 s'.2.1) → 4 * (L - s'.1) + 1 ≤ f → LM G YX9_factor (6 + 3 * (4 - d)) 0 0 [.ref m] z S M' N' (lq_mv z S N' (fun M1 => r_pt m M' M1 t L d (p_ex t L f 0 d s'))) lq_no) (IHl : ∀ (M' : lq_M) (s' : p_S), s'.1 ≤ L → s'.2.1 ≤ s'.1 → (∀ j, j < L → M' (m + 1) j = t j) → M' m 3 = L → r_pc M' m t L d s' → q_wk s'.2.2 s'.2.1 → p_bd 3 d (q_hgt s'.2.2 s'.2.1) → 4 * (L - s'.1) + 1 ≤ f → r_xf m Mo M' → M' m 6 = Mo m 6 → LW G YX9_term (7 + 3 * (4 - d)) 0 0 (lq_mv z S N (fun M1 => r_pt m Mo M1 t L d (p_ex t L f 3 d s'))) lq_no z S M' N 4 [some (.ref m), none] []) : LW G YX9_term (7 + 3 * (4 - d)) 0 0 (lq_mv z S N (fun M1 => r_pt m Mo M1 t L d (p_ex t L (f + 1) 3 d s))) lq_no z S M N 4 [some (.ref m), none] [] := by
  have hP0 := hP
  obtain ⟨h0, ⟨hpL, hps⟩, h13, hcd⟩ := hP
  have hsL : t_sk t L s.1 ≤ L := t_sk_le he
  have hge := t_sk_ge t L s.1
  have hbd0 : 1 ≤ q_hgt s.2.2 s.2.1 ∧ q_hgt s.2.2 s.2.1 ≤ 2 * d + 2 := by unfold p_bd at hbd; omega
  have hb1 := t_sg_by (e := s.1) (c := 42) ht (by decide)
  have hb2 := t_sg_by (e := s.1) (c := 47) ht (by decide)
  have hMN : ∀ j, j < L → lq_up M m 4 (t_sk t L s.1) (m + 1) j = t j := fun j hj => by rw [lq_up_n _ _ _ (by omega)]; exact hM j hj
  have hLN : lq_up M m 4 (t_sk t L s.1) m 3 = L := by rw [lq_up_c _ _ (by decide)]; exact hL
  have h0N : lq_up M m 4 (t_sk t L s.1) m 5 = 0 := by rw [lq_up_c _ _ (by decide)]; exact h0
  have hsk2 : t_sk t L (t_sk t L s.1) = t_sk t L s.1 := t_sk_sk he
  refine qw_aload_n 0 dX9_term_4 rfl rfl ?_
  refine qw_cvp [] (k_X9_isGood_g h9 h0) mX9_70 dX9_term_5 h9.1 rfl rfl rfl (Nat.le_of_ble_eq_true rfl) (by omega) (by decide) rfl ?_
  refine qw_if_eqN 74 dX9_term_8 (by decide) (by omega) (fun c8 => absurd c8 (by decide)) (fun c8 => ?_)
  refine qw_aload_n 0 dX9_term_11 rfl rfl ?_
  refine qw_cvi [] (k_X9_next h9 hL8 ht hM hL rfl hpL) mX9_74 dX9_term_12 h9.1 rfl rfl rfl (Nat.le_of_ble_eq_true rfl) (by omega) (by decide) rfl (fun x1 M1 h1 => ?_)
  obtain ⟨rfl, hz⟩ := h1
  rw [hz, hps]
  refine qw_bipush (nI 42) dX9_term_15 (by decide) ?_
  refine qw_icmp_eq 29 dX9_term_17 (by decide) (fun c17 => ?_) (fun c17 => ?_)
  · refine qw_aload_n 0 dX9_term_29 rfl rfl ?_
    refine qw_cvi [] (k_X9_next h9 hL8 ht hMN hLN (lq_up_s _ _ _ _) hsL) mX9_74 dX9_term_30 h9.1 rfl rfl rfl (Nat.le_of_ble_eq_true rfl) (by omega) (by decide) rfl (fun x1 M1 h1 => ?_)
    obtain ⟨rfl, hz⟩ := h1
    rw [hz, hsk2, lq_up_up]
    refine qw_bipush (nI 42) dX9_term_33 (by decide) ?_
    refine qw_icmp_ne 42 dX9_term_35 (by decide) (fun c35 => absurd c17 c35) (fun c35 => ?_)
    refine qw_iconst (nI 1) dX9_term_38 (by decide) ?_
    refine qw_goto 43 dX9_term_39 (by decide) ?_
    refine qw_istore_n 1 dX9_term_43 rfl rfl (by decide) ?_
    have hs1 : t_sg t L s.1 42 = 1 := hb1.mp c17
    have hsgx := t_en_sg hs1 rfl rfl
    have hen := hsgx.2.2
    have hlt := hsgx.1
    refine qw_aload_n 0 dX9_term_44 rfl rfl ?_
    refine qw_dup dX9_term_45 rfl ?_
    refine qw_geti fX9_54 dX9_term_46 h9.1 rfl ?_
    rw [lq_up_s]
    refine qw_iconst (nI 1) dX9_term_49 (by decide) ?_
    refine qw_addN dX9_term_50 ?_
    refine qw_puti fX9_54 dX9_term_51 h9.1 rfl ?_
    have hMP : ∀ j, j < L → (lq_up (lq_up M m 4 (t_sk t L s.1)) m 4 (t_sk t L s.1 + 1)) (m + 1) j = t j := fun j hj => by rw [lq_up_n _ _ _ (by omega)]; exact hMN j hj
    have hLP : (lq_up (lq_up M m 4 (t_sk t L s.1)) m 4 (t_sk t L s.1 + 1)) m 3 = L := by rw [lq_up_c _ _ (by decide)]; exact hLN
    have hpP : r_pc (lq_up (lq_up M m 4 (t_sk t L s.1)) m 4 (t_sk t L s.1 + 1)) m t L d (p_adv t L s) := ⟨by rw [lq_up_c _ _ (by decide)]; exact h0N, by rw [lq_up_s]; exact ⟨by omega, by show t_sk t L (t_sk t L s.1 + 1) = t_sk t L (t_en t L (t_sk t L s.1)); rw [hen]⟩, by rw [lq_up_c _ _ (by decide), lq_up_c _ _ (by decide)]; exact h13, by rw [lq_up_n _ _ _ (by omega), lq_up_n _ _ _ (by omega)]; exact hcd⟩
    have hx0 : r_xf m M (lq_up (lq_up M m 4 (t_sk t L s.1)) m 4 (t_sk t L s.1 + 1)) := (r_xf.up (by decide)).tr (r_xf.up (by decide))
    have hadL : (p_adv t L s).1 ≤ L := by show t_en t L (t_sk t L s.1) ≤ L; omega
    refine qw_aload_n 0 dX9_term_54 rfl rfl ?_
    refine qw_cvv [] (IHs (lq_up (lq_up M m 4 (t_sk t L s.1)) m 4 (t_sk t L s.1 + 1)) N (p_adv t L s) hadL (by show s.2.1 ≤ t_en t L (t_sk t L s.1); omega) hMP hLP hpP hwk (by show p_bd 0 d (q_hgt s.2.2 s.2.1); unfold p_bd; omega) (by show 4 * (L - t_en t L (t_sk t L s.1)) + 1 ≤ f; omega)) mX9_133 dX9_term_55 h9.1 rfl rfl rfl (Nat.le_of_ble_eq_true rfl) (by omega) (by decide) rfl (fun M5 h5 => ?_)
    cases hr : p_ex t L f 0 d (p_adv t L s) with
    | inl x0 =>
      rw [hr] at h5
      have hbad : ¬ nI (M5 m 5) = 0 := by rw [h5.2.1]; exact h5.2.2.2
      have hpx : p_ex t L (f + 1) 3 d s = .inl x0 := by rw [p_ex, if_neg (by decide), if_neg (by decide), if_neg (by decide), if_pos rfl, if_pos hs1, hr]; rfl
      refine qw_aload_n 0 dX9_term_58 rfl rfl ?_
      refine qw_iload_n 1 dX9_term_59 rfl rfl ?_
      refine qw_if_eqN 67 dX9_term_60 (by decide) (by omega) (fun c60 => absurd c60 (by decide)) (fun c60 => ?_)
      refine qw_iconst (nI 4) dX9_term_63 (by decide) ?_
      refine qw_goto 68 dX9_term_64 (by decide) ?_
      refine qw_cvv [_] (k_X9_emit_b h9 hbad) mX9_130 dX9_term_68 h9.1 rfl rfl rfl (Nat.le_of_ble_eq_true rfl) (by omega) (by decide) rfl (fun M7 h7 => ?_)
      rw [h7]
      refine qw_goto 4 dX9_term_71 (by decide) ?_
      refine qw_weak [some (.ref m), none] (by simp [lq_le]) (e_X9_term h9 hbad (by omega) ?_)
      exact ⟨rfl, rfl, rfl, rfl, by rw [hpx]; exact ⟨(hxo.tr hx0).tr h5.1, h5.2.1, h5.2.2.1, h5.2.2.2⟩⟩
    | inr s1 =>
      rw [hr] at h5
      obtain ⟨h5x, h56, h5p⟩ := h5
      have hl1 := p_ex_le _ _ _ _ _ hadL hr
      have hs1L : s1.1 ≤ L := hl1.2.1
      have had1 : t_en t L (t_sk t L s.1) ≤ s1.1 := hl1.1
      have hw1 := p_ex_wf _ _ _ _ _ hd hr hwk (by show p_bd 0 d (q_hgt s.2.2 s.2.1); unfold p_bd; omega)
      rw [if_pos (by decide)] at hw1
      have hw12 : q_hgt s1.2.2 s1.2.1 = q_hgt s.2.2 s.2.1 + 1 := hw1.2
      have hs1n : s1.2.1 + 1 ≤ s1.1 := hl1.2.2 1 (by show s.2.1 + 1 ≤ t_en t L (t_sk t L s.1); omega)
      have hce := q_ce_2 hw1.1 s1.2.1 (Nat.le_refl _)
      have hpx : p_ex t L (f + 1) 3 d s = p_ex t L f 3 d (p_em 4 0 s1) := by rw [p_ex, if_neg (by decide), if_neg (by decide), if_neg (by decide), if_pos rfl, if_pos hs1, hr]; rfl
      refine qw_aload_n 0 dX9_term_58 rfl rfl ?_
      refine qw_iload_n 1 dX9_term_59 rfl rfl ?_
      refine qw_if_eqN 67 dX9_term_60 (by decide) (by omega) (fun c60 => absurd c60 (by decide)) (fun c60 => ?_)
      refine qw_iconst (nI 4) dX9_term_63 (by decide) ?_
      refine qw_goto 68 dX9_term_64 (by decide) ?_
      refine qw_cvv [_] (k_X9_emit_g h9 h5p.1 (by rw [h5p.2.2.2.1]; omega)) mX9_130 dX9_term_68 h9.1 rfl rfl rfl (Nat.le_of_ble_eq_true rfl) (by omega) (by decide) rfl (fun M7 h7 => ?_)
      rw [h7]
      refine qw_goto 4 dX9_term_71 (by decide) ?_
      rw [hpx]
      exact qw_weak _ (by simp [lq_le]) (IHl _ (p_em 4 0 s1) hs1L hs1n (fun j hj => by rw [r_em.n (by omega), h5x.2.1 (m + 1) (by omega) (by omega)]; exact hMP j hj) (by rw [r_em.n (by omega), h5x.1 3 (by decide) (by decide) (by decide) (by decide) (by decide)]; exact hLP) ⟨by rw [r_em.n (by omega)]; exact h5p.1, by rw [r_em.n (by omega)]; exact h5p.2.1, by rw [r_em.n (by omega)]; exact h5p.2.2.1, h5p.2.2.2.em1 (by decide)⟩ (p_em_w hw1.1 (Or.inr (Or.inr ⟨by decide, by decide, by rw [hw1.2]; omega⟩))) (by rw [p_em_n, if_neg (by decide), hw1.2]; unfold p_bd; omega) (by show 4 * (L - s1.1) + 1 ≤ f; omega) (((hxo.tr hx0).tr h5x).tr r_em.xf) (by rw [r_em.n (by omega), h56, lq_up_c _ _ (by decide), lq_up_c _ _ (by decide)]; exact ho6))
  · refine qw_aload_n 0 dX9_term_20 rfl rfl ?_
    refine qw_cvi [] (k_X9_next h9 hL8 ht hMN hLN (lq_up_s _ _ _ _) hsL) mX9_74 dX9_term_21 h9.1 rfl rfl rfl (Nat.le_of_ble_eq_true rfl) (by omega) (by decide) rfl (fun x1 M1 h1 => ?_)
    obtain ⟨rfl, hz⟩ := h1
    rw [hz, hsk2, lq_up_up]
    refine qw_bipush (nI 47) dX9_term_24 (by decide) ?_
    refine qw_icmp_ne 74 dX9_term_26 (by decide) (fun c26 => ?_) (fun c26 => ?_)
    · exact qw_return rfl dX9_term_74 ⟨rfl, rfl, rfl, rfl, by rw [show p_ex t L (f + 1) 3 d s = .inr s by rw [p_ex, if_neg (by decide), if_neg (by decide), if_neg (by decide), if_pos rfl, if_neg (fun q => c17 (hb1.mpr q)), if_neg (fun q => c26 (hb2.mpr q))]]; exact ⟨hxo.tr (r_xf.up (by decide)), by rw [lq_up_c _ _ (by decide)]; exact ho6, h0N, by rw [lq_up_s]; exact t_sk_self he, by rw [lq_up_c _ _ (by decide)]; exact h13, by rw [lq_up_n _ _ _ (by omega)]; exact hcd⟩⟩
    · refine qw_aload_n 0 dX9_term_29 rfl rfl ?_
      refine qw_cvi [] (k_X9_next h9 hL8 ht hMN hLN (lq_up_s _ _ _ _) hsL) mX9_74 dX9_term_30 h9.1 rfl rfl rfl (Nat.le_of_ble_eq_true rfl) (by omega) (by decide) rfl (fun x1 M1 h1 => ?_)
      obtain ⟨rfl, hz⟩ := h1
      rw [hz, hsk2, lq_up_up]
      refine qw_bipush (nI 42) dX9_term_33 (by decide) ?_
      refine qw_icmp_ne 42 dX9_term_35 (by decide) (fun c35 => ?_) (fun c35 => absurd c35 c17)
      refine qw_iconst (nI 0) dX9_term_42 (by decide) ?_
      refine qw_istore_n 1 dX9_term_43 rfl rfl (by decide) ?_
      have hs1 : t_sg t L s.1 47 = 1 := hb2.mp c26
      have hsgx := t_en_sg hs1 rfl rfl
      have hen := hsgx.2.2
      have hlt := hsgx.1
      refine qw_aload_n 0 dX9_term_44 rfl rfl ?_
      refine qw_dup dX9_term_45 rfl ?_
      refine qw_geti fX9_54 dX9_term_46 h9.1 rfl ?_
      rw [lq_up_s]
      refine qw_iconst (nI 1) dX9_term_49 (by decide) ?_
      refine qw_addN dX9_term_50 ?_
      refine qw_puti fX9_54 dX9_term_51 h9.1 rfl ?_
      have hMP : ∀ j, j < L → (lq_up (lq_up M m 4 (t_sk t L s.1)) m 4 (t_sk t L s.1 + 1)) (m + 1) j = t j := fun j hj => by rw [lq_up_n _ _ _ (by omega)]; exact hMN j hj
      have hLP : (lq_up (lq_up M m 4 (t_sk t L s.1)) m 4 (t_sk t L s.1 + 1)) m 3 = L := by rw [lq_up_c _ _ (by decide)]; exact hLN
      have hpP : r_pc (lq_up (lq_up M m 4 (t_sk t L s.1)) m 4 (t_sk t L s.1 + 1)) m t L d (p_adv t L s) := ⟨by rw [lq_up_c _ _ (by decide)]; exact h0N, by rw [lq_up_s]; exact ⟨by omega, by show t_sk t L (t_sk t L s.1 + 1) = t_sk t L (t_en t L (t_sk t L s.1)); rw [hen]⟩, by rw [lq_up_c _ _ (by decide), lq_up_c _ _ (by decide)]; exact h13, by rw [lq_up_n _ _ _ (by omega), lq_up_n _ _ _ (by omega)]; exact hcd⟩
      have hx0 : r_xf m M (lq_up (lq_up M m 4 (t_sk t L s.1)) m 4 (t_sk t L s.1 + 1)) := (r_xf.up (by decide)).tr (r_xf.up (by decide))
      have hadL : (p_adv t L s).1 ≤ L := by show t_en t L (t_sk t L s.1) ≤ L; omega
      refine qw_aload_n 0 dX9_term_54 rfl rfl ?_
      refine qw_cvv [] (IHs (lq_up (lq_up M m 4 (t_sk t L s.1)) m 4 (t_sk t L s.1 + 1)) N (p_adv t L s) hadL (by show s.2.1 ≤ t_en t L (t_sk t L s.1); omega) hMP hLP hpP hwk (by show p_bd 0 d (q_hgt s.2.2 s.2.1); unfold p_bd; omega) (by show 4 * (L - t_en t L (t_sk t L s.1)) + 1 ≤ f; omega)) mX9_133 dX9_term_55 h9.1 rfl rfl rfl (Nat.le_of_ble_eq_true rfl) (by omega) (by decide) rfl (fun M5 h5 => ?_)
      cases hr : p_ex t L f 0 d (p_adv t L s) with
      | inl x0 =>
        rw [hr] at h5
        have hbad : ¬ nI (M5 m 5) = 0 := by rw [h5.2.1]; exact h5.2.2.2
        have hpx : p_ex t L (f + 1) 3 d s = .inl x0 := by rw [p_ex, if_neg (by decide), if_neg (by decide), if_neg (by decide), if_pos rfl, if_neg (fun q => c17 (hb1.mpr q)), if_pos hs1, hr]; rfl
        refine qw_aload_n 0 dX9_term_58 rfl rfl ?_
        refine qw_iload_n 1 dX9_term_59 rfl rfl ?_
        refine qw_if_eqN 67 dX9_term_60 (by decide) (by omega) (fun c60 => ?_) (fun c60 => absurd rfl c60)
        refine qw_iconst (nI 5) dX9_term_67 (by decide) ?_
        refine qw_cvv [_] (k_X9_emit_b h9 hbad) mX9_130 dX9_term_68 h9.1 rfl rfl rfl (Nat.le_of_ble_eq_true rfl) (by omega) (by decide) rfl (fun M7 h7 => ?_)
        rw [h7]
        refine qw_goto 4 dX9_term_71 (by decide) ?_
        refine qw_weak [some (.ref m), none] (by simp [lq_le]) (e_X9_term h9 hbad (by omega) ?_)
        exact ⟨rfl, rfl, rfl, rfl, by rw [hpx]; exact ⟨(hxo.tr hx0).tr h5.1, h5.2.1, h5.2.2.1, h5.2.2.2⟩⟩
      | inr s1 =>
        rw [hr] at h5
        obtain ⟨h5x, h56, h5p⟩ := h5
        have hl1 := p_ex_le _ _ _ _ _ hadL hr
        have hs1L : s1.1 ≤ L := hl1.2.1
        have had1 : t_en t L (t_sk t L s.1) ≤ s1.1 := hl1.1
        have hw1 := p_ex_wf _ _ _ _ _ hd hr hwk (by show p_bd 0 d (q_hgt s.2.2 s.2.1); unfold p_bd; omega)
        rw [if_pos (by decide)] at hw1
        have hw12 : q_hgt s1.2.2 s1.2.1 = q_hgt s.2.2 s.2.1 + 1 := hw1.2
        have hs1n : s1.2.1 + 1 ≤ s1.1 := hl1.2.2 1 (by show s.2.1 + 1 ≤ t_en t L (t_sk t L s.1); omega)
        have hce := q_ce_2 hw1.1 s1.2.1 (Nat.le_refl _)
        have hpx : p_ex t L (f + 1) 3 d s = p_ex t L f 3 d (p_em 5 0 s1) := by rw [p_ex, if_neg (by decide), if_neg (by decide), if_neg (by decide), if_pos rfl, if_neg (fun q => c17 (hb1.mpr q)), if_pos hs1, hr]; rfl
        refine qw_aload_n 0 dX9_term_58 rfl rfl ?_
        refine qw_iload_n 1 dX9_term_59 rfl rfl ?_
        refine qw_if_eqN 67 dX9_term_60 (by decide) (by omega) (fun c60 => ?_) (fun c60 => absurd rfl c60)
        refine qw_iconst (nI 5) dX9_term_67 (by decide) ?_
        refine qw_cvv [_] (k_X9_emit_g h9 h5p.1 (by rw [h5p.2.2.2.1]; omega)) mX9_130 dX9_term_68 h9.1 rfl rfl rfl (Nat.le_of_ble_eq_true rfl) (by omega) (by decide) rfl (fun M7 h7 => ?_)
        rw [h7]
        refine qw_goto 4 dX9_term_71 (by decide) ?_
        rw [hpx]
        exact qw_weak _ (by simp [lq_le]) (IHl _ (p_em 5 0 s1) hs1L hs1n (fun j hj => by rw [r_em.n (by omega), h5x.2.1 (m + 1) (by omega) (by omega)]; exact hMP j hj) (by rw [r_em.n (by omega), h5x.1 3 (by decide) (by decide) (by decide) (by decide) (by decide)]; exact hLP) ⟨by rw [r_em.n (by omega)]; exact h5p.1, by rw [r_em.n (by omega)]; exact h5p.2.1, by rw [r_em.n (by omega)]; exact h5p.2.2.1, h5p.2.2.2.em1 (by decide)⟩ (p_em_w hw1.1 (Or.inr (Or.inr ⟨by decide, by decide, by rw [hw1.2]; omega⟩))) (by rw [p_em_n, if_neg (by decide), hw1.2]; unfold p_bd; omega) (by show 4 * (L - s1.1) + 1 ≤ f; omega) (((hxo.tr hx0).tr h5x).tr r_em.xf) (by rw [r_em.n (by omega), h56, lq_up_c _ _ (by decide), lq_up_c _ _ (by decide)]; exact ho6))
theorem s_X9_term {L : Nat} (h9 : sh9 S m fh fo) (hL8 : L ≤ 800) {t : Nat → Nat} (ht : ∀ j, j < L → t j < 256) {v : Value} (hX : lq_sx G v) {f d : Nat} (hd : d ≤ 4) {s : p_S} (he : s.1 ≤ L) (hn : s.2.1 ≤ s.1) (hM : ∀ j, j < L → M (m + 1) j = t j) (hL : M m 3 = L) (hP : r_pc M m t L d s) (hwk : q_wk s.2.2 s.2.1) (hbd : p_bd 1 d (q_hgt s.2.2 s.2.1)) (hf : 4 * (L - s.1) + 2 ≤ f + 1) (IHs : ∀ (M' : lq_M) (N' : lq_N) (s' : p_S), s'.1 ≤ L → s'.2.1 ≤ s'.1 → (∀ j, j < L → M' (m + 1) j = t j) → M' m 3 = L → r_pc M' m t L d s' → q_wk s'.2.2 s'.2.1 → p_bd 0 d (q_hgt s'.2.2 s'.2.1) → 4 * (L - s'.1) + 1 ≤ f → LM G YX9_factor (6 + 3 * (4 - d)) 0 0 [.ref m] z S M' N' (lq_mv z S N' (fun M1 => r_pt m M' M1 t L d (p_ex t L f 0 d s'))) lq_no) (IHl : ∀ (M' : lq_M) (s' : p_S), s'.1 ≤ L → s'.2.1 ≤ s'.1 → (∀ j, j < L → M' (m + 1) j = t j) → M' m 3 = L → r_pc M' m t L d s' → q_wk s'.2.2 s'.2.1 → p_bd 3 d (q_hgt s'.2.2 s'.2.1) → 4 * (L - s'.1) + 1 ≤ f → r_xf m M M' → M' m 6 = M m 6 → LW G YX9_term (7 + 3 * (4 - d)) 0 0 (lq_mv z S N (fun M1 => r_pt m M M1 t L d (p_ex t L f 3 d s'))) lq_no z S M' N 4 [some (.ref m), none] []) : LM G YX9_term (7 + 3 * (4 - d)) 0 0 [.ref m] z S M N (lq_mv z S N (fun M1 => r_pt m M M1 t L d (p_ex t L (f + 1) 1 d s))) lq_no := by
  have hbd0 : q_hgt s.2.2 s.2.1 ≤ 2 * d + 1 := by unfold p_bd at hbd; omega
  refine LM.of (by decide) rfl [some (.ref m), none] rfl (Nat.le_of_ble_eq_true rfl) ?_
  refine qw_aload_n 0 dX9_term_0 rfl rfl ?_
  refine qw_cvv [] (IHs M N s he hn hM hL hP hwk (by unfold p_bd; omega) (by omega)) mX9_133 dX9_term_1 h9.1 rfl rfl rfl (Nat.le_of_ble_eq_true rfl) (by omega) (by decide) rfl (fun M5 h5 => ?_)
  cases hr : p_ex t L f 0 d s with
  | inl x0 =>
    rw [hr] at h5
    have hpx : p_ex t L (f + 1) 1 d s = .inl x0 := by rw [p_ex, if_neg (by decide), if_pos rfl, hr]; rfl
    have hbad : ¬ nI (M5 m 5) = 0 := by rw [h5.2.1]; exact h5.2.2.2
    refine e_X9_term h9 hbad (by omega) ?_
    exact ⟨rfl, rfl, rfl, rfl, by rw [hpx]; exact h5⟩
  | inr s1 =>
    rw [hr] at h5
    obtain ⟨h5x, h56, h5p⟩ := h5
    have hl1 := p_ex_le _ _ _ _ _ he hr
    have hw1 := p_ex_wf _ _ _ _ _ hd hr hwk (by unfold p_bd; omega)
    rw [if_pos (by decide)] at hw1
    have hs1n : s1.2.1 + 0 ≤ s1.1 := hl1.2.2 0 (by omega)
    have hs1a := hl1.1
    have hpx : p_ex t L (f + 1) 1 d s = p_ex t L f 3 d s1 := by rw [p_ex, if_neg (by decide), if_pos rfl, hr]; rfl
    rw [hpx]
    exact IHl M5 s1 hl1.2.1 hs1n (fun j hj => by rw [h5x.2.1 (m + 1) (by omega) (by omega)]; exact hM j hj) (by rw [h5x.1 3 (by decide) (by decide) (by decide) (by decide) (by decide)]; exact hL) h5p hw1.1 (by rw [hw1.2]; unfold p_bd; omega) (by omega) h5x h56
theorem sl_X9_sum {L : Nat} (h9 : sh9 S m fh fo) (hL8 : L ≤ 800) {t : Nat → Nat} (ht : ∀ j, j < L → t j < 256) {v : Value} (hX : lq_sx G v) {f d : Nat} (hd : d ≤ 4) {Mo : lq_M} {s : p_S} (he : s.1 ≤ L) (hn : s.2.1 ≤ s.1) (hM : ∀ j, j < L → M (m + 1) j = t j) (hL : M m 3 = L) (hP : r_pc M m t L d s) (hwk : q_wk s.2.2 s.2.1) (hbd : p_bd 4 d (q_hgt s.2.2 s.2.1)) (hf : 4 * (L - s.1) + 1 ≤ f + 1) (hxo : r_xf m Mo M) (ho6 : M m 6 = Mo m 6) (IHs : ∀ (M' : lq_M) (N' : lq_N) (s' : p_S), s'.1 ≤ L → s'.2.1 ≤ s'.1 → (∀ j, j < L → M' (m + 1) j = t j) → M' m 3 = L → r_pc M' m t L d s' → q_wk s'.2.2 s'.2.1 → p_bd 1 d (q_hgt s'.2.2 s'.2.1) → 4 * (L - s'.1) + 2 ≤ f → LM G YX9_term (7 + 3 * (4 - d)) 0 0 [.ref m] z S M' N' (lq_mv z S N' (fun M1 => r_pt m M' M1 t L d (p_ex t L f 1 d s'))) lq_no) (IHl : ∀ (M' : lq_M) (s' : p_S), s'.1 ≤ L → s'.2.1 ≤ s'.1 → (∀ j, j < L → M' (m + 1) j = t j) → M' m 3 = L → r_pc M' m t L d s' → q_wk s'.2.2 s'.2.1 → p_bd 4 d (q_hgt s'.2.2 s'.2.1) → 4 * (L - s'.1) + 1 ≤ f → r_xf m Mo M' → M' m 6 = Mo m 6 → LW G YX9_sum (8 + 3 * (4 - d)) 0 0 (lq_mv z S N (fun M1 => r_pt m Mo M1 t L d (p_ex t L f 4 d s'))) lq_no z S M' N 4 [some (.ref m), none] []) : LW G YX9_sum (8 + 3 * (4 - d)) 0 0 (lq_mv z S N (fun M1 => r_pt m Mo M1 t L d (p_ex t L (f + 1) 4 d s))) lq_no z S M N 4 [some (.ref m), none] [] := by
  have hP0 := hP
  obtain ⟨h0, ⟨hpL, hps⟩, h13, hcd⟩ := hP
  have hsL : t_sk t L s.1 ≤ L := t_sk_le he
  have hge := t_sk_ge t L s.1
  have hbd0 : 1 ≤ q_hgt s.2.2 s.2.1 ∧ q_hgt s.2.2 s.2.1 ≤ 2 * d + 1 := by unfold p_bd at hbd; omega
  have hb1 := t_sg_by (e := s.1) (c := 43) ht (by decide)
  have hb2 := t_sg_by (e := s.1) (c := 45) ht (by decide)
  have hMN : ∀ j, j < L → lq_up M m 4 (t_sk t L s.1) (m + 1) j = t j := fun j hj => by rw [lq_up_n _ _ _ (by omega)]; exact hM j hj
  have hLN : lq_up M m 4 (t_sk t L s.1) m 3 = L := by rw [lq_up_c _ _ (by decide)]; exact hL
  have h0N : lq_up M m 4 (t_sk t L s.1) m 5 = 0 := by rw [lq_up_c _ _ (by decide)]; exact h0
  have hsk2 : t_sk t L (t_sk t L s.1) = t_sk t L s.1 := t_sk_sk he
  refine qw_aload_n 0 dX9_sum_4 rfl rfl ?_
  refine qw_cvp [] (k_X9_isGood_g h9 h0) mX9_70 dX9_sum_5 h9.1 rfl rfl rfl (Nat.le_of_ble_eq_true rfl) (by omega) (by decide) rfl ?_
  refine qw_if_eqN 74 dX9_sum_8 (by decide) (by omega) (fun c8 => absurd c8 (by decide)) (fun c8 => ?_)
  refine qw_aload_n 0 dX9_sum_11 rfl rfl ?_
  refine qw_cvi [] (k_X9_next h9 hL8 ht hM hL rfl hpL) mX9_74 dX9_sum_12 h9.1 rfl rfl rfl (Nat.le_of_ble_eq_true rfl) (by omega) (by decide) rfl (fun x1 M1 h1 => ?_)
  obtain ⟨rfl, hz⟩ := h1
  rw [hz, hps]
  refine qw_bipush (nI 43) dX9_sum_15 (by decide) ?_
  refine qw_icmp_eq 29 dX9_sum_17 (by decide) (fun c17 => ?_) (fun c17 => ?_)
  · refine qw_aload_n 0 dX9_sum_29 rfl rfl ?_
    refine qw_cvi [] (k_X9_next h9 hL8 ht hMN hLN (lq_up_s _ _ _ _) hsL) mX9_74 dX9_sum_30 h9.1 rfl rfl rfl (Nat.le_of_ble_eq_true rfl) (by omega) (by decide) rfl (fun x1 M1 h1 => ?_)
    obtain ⟨rfl, hz⟩ := h1
    rw [hz, hsk2, lq_up_up]
    refine qw_bipush (nI 43) dX9_sum_33 (by decide) ?_
    refine qw_icmp_ne 42 dX9_sum_35 (by decide) (fun c35 => absurd c17 c35) (fun c35 => ?_)
    refine qw_iconst (nI 1) dX9_sum_38 (by decide) ?_
    refine qw_goto 43 dX9_sum_39 (by decide) ?_
    refine qw_istore_n 1 dX9_sum_43 rfl rfl (by decide) ?_
    have hs1 : t_sg t L s.1 43 = 1 := hb1.mp c17
    have hsgx := t_en_sg hs1 rfl rfl
    have hen := hsgx.2.2
    have hlt := hsgx.1
    refine qw_aload_n 0 dX9_sum_44 rfl rfl ?_
    refine qw_dup dX9_sum_45 rfl ?_
    refine qw_geti fX9_54 dX9_sum_46 h9.1 rfl ?_
    rw [lq_up_s]
    refine qw_iconst (nI 1) dX9_sum_49 (by decide) ?_
    refine qw_addN dX9_sum_50 ?_
    refine qw_puti fX9_54 dX9_sum_51 h9.1 rfl ?_
    have hMP : ∀ j, j < L → (lq_up (lq_up M m 4 (t_sk t L s.1)) m 4 (t_sk t L s.1 + 1)) (m + 1) j = t j := fun j hj => by rw [lq_up_n _ _ _ (by omega)]; exact hMN j hj
    have hLP : (lq_up (lq_up M m 4 (t_sk t L s.1)) m 4 (t_sk t L s.1 + 1)) m 3 = L := by rw [lq_up_c _ _ (by decide)]; exact hLN
    have hpP : r_pc (lq_up (lq_up M m 4 (t_sk t L s.1)) m 4 (t_sk t L s.1 + 1)) m t L d (p_adv t L s) := ⟨by rw [lq_up_c _ _ (by decide)]; exact h0N, by rw [lq_up_s]; exact ⟨by omega, by show t_sk t L (t_sk t L s.1 + 1) = t_sk t L (t_en t L (t_sk t L s.1)); rw [hen]⟩, by rw [lq_up_c _ _ (by decide), lq_up_c _ _ (by decide)]; exact h13, by rw [lq_up_n _ _ _ (by omega), lq_up_n _ _ _ (by omega)]; exact hcd⟩
    have hx0 : r_xf m M (lq_up (lq_up M m 4 (t_sk t L s.1)) m 4 (t_sk t L s.1 + 1)) := (r_xf.up (by decide)).tr (r_xf.up (by decide))
    have hadL : (p_adv t L s).1 ≤ L := by show t_en t L (t_sk t L s.1) ≤ L; omega
    refine qw_aload_n 0 dX9_sum_54 rfl rfl ?_
    refine qw_cvv [] (IHs (lq_up (lq_up M m 4 (t_sk t L s.1)) m 4 (t_sk t L s.1 + 1)) N (p_adv t L s) hadL (by show s.2.1 ≤ t_en t L (t_sk t L s.1); omega) hMP hLP hpP hwk (by show p_bd 1 d (q_hgt s.2.2 s.2.1); unfold p_bd; omega) (by show 4 * (L - t_en t L (t_sk t L s.1)) + 2 ≤ f; omega)) mX9_136 dX9_sum_55 h9.1 rfl rfl rfl (Nat.le_of_ble_eq_true rfl) (by omega) (by decide) rfl (fun M5 h5 => ?_)
    cases hr : p_ex t L f 1 d (p_adv t L s) with
    | inl x0 =>
      rw [hr] at h5
      have hbad : ¬ nI (M5 m 5) = 0 := by rw [h5.2.1]; exact h5.2.2.2
      have hpx : p_ex t L (f + 1) 4 d s = .inl x0 := by rw [p_ex, if_neg (by decide), if_neg (by decide), if_neg (by decide), if_neg (by decide), if_pos hs1, hr]; rfl
      refine qw_aload_n 0 dX9_sum_58 rfl rfl ?_
      refine qw_iload_n 1 dX9_sum_59 rfl rfl ?_
      refine qw_if_eqN 67 dX9_sum_60 (by decide) (by omega) (fun c60 => absurd c60 (by decide)) (fun c60 => ?_)
      refine qw_iconst (nI 2) dX9_sum_63 (by decide) ?_
      refine qw_goto 68 dX9_sum_64 (by decide) ?_
      refine qw_cvv [_] (k_X9_emit_b h9 hbad) mX9_130 dX9_sum_68 h9.1 rfl rfl rfl (Nat.le_of_ble_eq_true rfl) (by omega) (by decide) rfl (fun M7 h7 => ?_)
      rw [h7]
      refine qw_goto 4 dX9_sum_71 (by decide) ?_
      refine qw_weak [some (.ref m), none] (by simp [lq_le]) (e_X9_sum h9 hbad (by omega) ?_)
      exact ⟨rfl, rfl, rfl, rfl, by rw [hpx]; exact ⟨(hxo.tr hx0).tr h5.1, h5.2.1, h5.2.2.1, h5.2.2.2⟩⟩
    | inr s1 =>
      rw [hr] at h5
      obtain ⟨h5x, h56, h5p⟩ := h5
      have hl1 := p_ex_le _ _ _ _ _ hadL hr
      have hs1L : s1.1 ≤ L := hl1.2.1
      have had1 : t_en t L (t_sk t L s.1) ≤ s1.1 := hl1.1
      have hw1 := p_ex_wf _ _ _ _ _ hd hr hwk (by show p_bd 1 d (q_hgt s.2.2 s.2.1); unfold p_bd; omega)
      rw [if_pos (by decide)] at hw1
      have hw12 : q_hgt s1.2.2 s1.2.1 = q_hgt s.2.2 s.2.1 + 1 := hw1.2
      have hs1n : s1.2.1 + 1 ≤ s1.1 := hl1.2.2 1 (by show s.2.1 + 1 ≤ t_en t L (t_sk t L s.1); omega)
      have hce := q_ce_2 hw1.1 s1.2.1 (Nat.le_refl _)
      have hpx : p_ex t L (f + 1) 4 d s = p_ex t L f 4 d (p_em 2 0 s1) := by rw [p_ex, if_neg (by decide), if_neg (by decide), if_neg (by decide), if_neg (by decide), if_pos hs1, hr]; rfl
      refine qw_aload_n 0 dX9_sum_58 rfl rfl ?_
      refine qw_iload_n 1 dX9_sum_59 rfl rfl ?_
      refine qw_if_eqN 67 dX9_sum_60 (by decide) (by omega) (fun c60 => absurd c60 (by decide)) (fun c60 => ?_)
      refine qw_iconst (nI 2) dX9_sum_63 (by decide) ?_
      refine qw_goto 68 dX9_sum_64 (by decide) ?_
      refine qw_cvv [_] (k_X9_emit_g h9 h5p.1 (by rw [h5p.2.2.2.1]; omega)) mX9_130 dX9_sum_68 h9.1 rfl rfl rfl (Nat.le_of_ble_eq_true rfl) (by omega) (by decide) rfl (fun M7 h7 => ?_)
      rw [h7]
      refine qw_goto 4 dX9_sum_71 (by decide) ?_
      rw [hpx]
      exact qw_weak _ (by simp [lq_le]) (IHl _ (p_em 2 0 s1) hs1L hs1n (fun j hj => by rw [r_em.n (by omega), h5x.2.1 (m + 1) (by omega) (by omega)]; exact hMP j hj) (by rw [r_em.n (by omega), h5x.1 3 (by decide) (by decide) (by decide) (by decide) (by decide)]; exact hLP) ⟨by rw [r_em.n (by omega)]; exact h5p.1, by rw [r_em.n (by omega)]; exact h5p.2.1, by rw [r_em.n (by omega)]; exact h5p.2.2.1, h5p.2.2.2.em1 (by decide)⟩ (p_em_w hw1.1 (Or.inr (Or.inr ⟨by decide, by decide, by rw [hw1.2]; omega⟩))) (by rw [p_em_n, if_neg (by decide), hw1.2]; unfold p_bd; omega) (by show 4 * (L - s1.1) + 1 ≤ f; omega) (((hxo.tr hx0).tr h5x).tr r_em.xf) (by rw [r_em.n (by omega), h56, lq_up_c _ _ (by decide), lq_up_c _ _ (by decide)]; exact ho6))
  · refine qw_aload_n 0 dX9_sum_20 rfl rfl ?_
    refine qw_cvi [] (k_X9_next h9 hL8 ht hMN hLN (lq_up_s _ _ _ _) hsL) mX9_74 dX9_sum_21 h9.1 rfl rfl rfl (Nat.le_of_ble_eq_true rfl) (by omega) (by decide) rfl (fun x1 M1 h1 => ?_)
    obtain ⟨rfl, hz⟩ := h1
    rw [hz, hsk2, lq_up_up]
    refine qw_bipush (nI 45) dX9_sum_24 (by decide) ?_
    refine qw_icmp_ne 74 dX9_sum_26 (by decide) (fun c26 => ?_) (fun c26 => ?_)
    · exact qw_return rfl dX9_sum_74 ⟨rfl, rfl, rfl, rfl, by rw [show p_ex t L (f + 1) 4 d s = .inr s by rw [p_ex, if_neg (by decide), if_neg (by decide), if_neg (by decide), if_neg (by decide), if_neg (fun q => c17 (hb1.mpr q)), if_neg (fun q => c26 (hb2.mpr q))]]; exact ⟨hxo.tr (r_xf.up (by decide)), by rw [lq_up_c _ _ (by decide)]; exact ho6, h0N, by rw [lq_up_s]; exact t_sk_self he, by rw [lq_up_c _ _ (by decide)]; exact h13, by rw [lq_up_n _ _ _ (by omega)]; exact hcd⟩⟩
    · refine qw_aload_n 0 dX9_sum_29 rfl rfl ?_
      refine qw_cvi [] (k_X9_next h9 hL8 ht hMN hLN (lq_up_s _ _ _ _) hsL) mX9_74 dX9_sum_30 h9.1 rfl rfl rfl (Nat.le_of_ble_eq_true rfl) (by omega) (by decide) rfl (fun x1 M1 h1 => ?_)
      obtain ⟨rfl, hz⟩ := h1
      rw [hz, hsk2, lq_up_up]
      refine qw_bipush (nI 43) dX9_sum_33 (by decide) ?_
      refine qw_icmp_ne 42 dX9_sum_35 (by decide) (fun c35 => ?_) (fun c35 => absurd c35 c17)
      refine qw_iconst (nI 0) dX9_sum_42 (by decide) ?_
      refine qw_istore_n 1 dX9_sum_43 rfl rfl (by decide) ?_
      have hs1 : t_sg t L s.1 45 = 1 := hb2.mp c26
      have hsgx := t_en_sg hs1 rfl rfl
      have hen := hsgx.2.2
      have hlt := hsgx.1
      refine qw_aload_n 0 dX9_sum_44 rfl rfl ?_
      refine qw_dup dX9_sum_45 rfl ?_
      refine qw_geti fX9_54 dX9_sum_46 h9.1 rfl ?_
      rw [lq_up_s]
      refine qw_iconst (nI 1) dX9_sum_49 (by decide) ?_
      refine qw_addN dX9_sum_50 ?_
      refine qw_puti fX9_54 dX9_sum_51 h9.1 rfl ?_
      have hMP : ∀ j, j < L → (lq_up (lq_up M m 4 (t_sk t L s.1)) m 4 (t_sk t L s.1 + 1)) (m + 1) j = t j := fun j hj => by rw [lq_up_n _ _ _ (by omega)]; exact hMN j hj
      have hLP : (lq_up (lq_up M m 4 (t_sk t L s.1)) m 4 (t_sk t L s.1 + 1)) m 3 = L := by rw [lq_up_c _ _ (by decide)]; exact hLN
      have hpP : r_pc (lq_up (lq_up M m 4 (t_sk t L s.1)) m 4 (t_sk t L s.1 + 1)) m t L d (p_adv t L s) := ⟨by rw [lq_up_c _ _ (by decide)]; exact h0N, by rw [lq_up_s]; exact ⟨by omega, by show t_sk t L (t_sk t L s.1 + 1) = t_sk t L (t_en t L (t_sk t L s.1)); rw [hen]⟩, by rw [lq_up_c _ _ (by decide), lq_up_c _ _ (by decide)]; exact h13, by rw [lq_up_n _ _ _ (by omega), lq_up_n _ _ _ (by omega)]; exact hcd⟩
      have hx0 : r_xf m M (lq_up (lq_up M m 4 (t_sk t L s.1)) m 4 (t_sk t L s.1 + 1)) := (r_xf.up (by decide)).tr (r_xf.up (by decide))
      have hadL : (p_adv t L s).1 ≤ L := by show t_en t L (t_sk t L s.1) ≤ L; omega
      refine qw_aload_n 0 dX9_sum_54 rfl rfl ?_
      refine qw_cvv [] (IHs (lq_up (lq_up M m 4 (t_sk t L s.1)) m 4 (t_sk t L s.1 + 1)) N (p_adv t L s) hadL (by show s.2.1 ≤ t_en t L (t_sk t L s.1); omega) hMP hLP hpP hwk (by show p_bd 1 d (q_hgt s.2.2 s.2.1); unfold p_bd; omega) (by show 4 * (L - t_en t L (t_sk t L s.1)) + 2 ≤ f; omega)) mX9_136 dX9_sum_55 h9.1 rfl rfl rfl (Nat.le_of_ble_eq_true rfl) (by omega) (by decide) rfl (fun M5 h5 => ?_)
      cases hr : p_ex t L f 1 d (p_adv t L s) with
      | inl x0 =>
        rw [hr] at h5
        have hbad : ¬ nI (M5 m 5) = 0 := by rw [h5.2.1]; exact h5.2.2.2
        have hpx : p_ex t L (f + 1) 4 d s = .inl x0 := by rw [p_ex, if_neg (by decide), if_neg (by decide), if_neg (by decide), if_neg (by decide), if_neg (fun q => c17 (hb1.mpr q)), if_pos hs1, hr]; rfl
        refine qw_aload_n 0 dX9_sum_58 rfl rfl ?_
        refine qw_iload_n 1 dX9_sum_59 rfl rfl ?_
        refine qw_if_eqN 67 dX9_sum_60 (by decide) (by omega) (fun c60 => ?_) (fun c60 => absurd rfl c60)
        refine qw_iconst (nI 3) dX9_sum_67 (by decide) ?_
        refine qw_cvv [_] (k_X9_emit_b h9 hbad) mX9_130 dX9_sum_68 h9.1 rfl rfl rfl (Nat.le_of_ble_eq_true rfl) (by omega) (by decide) rfl (fun M7 h7 => ?_)
        rw [h7]
        refine qw_goto 4 dX9_sum_71 (by decide) ?_
        refine qw_weak [some (.ref m), none] (by simp [lq_le]) (e_X9_sum h9 hbad (by omega) ?_)
        exact ⟨rfl, rfl, rfl, rfl, by rw [hpx]; exact ⟨(hxo.tr hx0).tr h5.1, h5.2.1, h5.2.2.1, h5.2.2.2⟩⟩
      | inr s1 =>
        rw [hr] at h5
        obtain ⟨h5x, h56, h5p⟩ := h5
        have hl1 := p_ex_le _ _ _ _ _ hadL hr
        have hs1L : s1.1 ≤ L := hl1.2.1
        have had1 : t_en t L (t_sk t L s.1) ≤ s1.1 := hl1.1
        have hw1 := p_ex_wf _ _ _ _ _ hd hr hwk (by show p_bd 1 d (q_hgt s.2.2 s.2.1); unfold p_bd; omega)
        rw [if_pos (by decide)] at hw1
        have hw12 : q_hgt s1.2.2 s1.2.1 = q_hgt s.2.2 s.2.1 + 1 := hw1.2
        have hs1n : s1.2.1 + 1 ≤ s1.1 := hl1.2.2 1 (by show s.2.1 + 1 ≤ t_en t L (t_sk t L s.1); omega)
        have hce := q_ce_2 hw1.1 s1.2.1 (Nat.le_refl _)
        have hpx : p_ex t L (f + 1) 4 d s = p_ex t L f 4 d (p_em 3 0 s1) := by rw [p_ex, if_neg (by decide), if_neg (by decide), if_neg (by decide), if_neg (by decide), if_neg (fun q => c17 (hb1.mpr q)), if_pos hs1, hr]; rfl
        refine qw_aload_n 0 dX9_sum_58 rfl rfl ?_
        refine qw_iload_n 1 dX9_sum_59 rfl rfl ?_
        refine qw_if_eqN 67 dX9_sum_60 (by decide) (by omega) (fun c60 => ?_) (fun c60 => absurd rfl c60)
        refine qw_iconst (nI 3) dX9_sum_67 (by decide) ?_
        refine qw_cvv [_] (k_X9_emit_g h9 h5p.1 (by rw [h5p.2.2.2.1]; omega)) mX9_130 dX9_sum_68 h9.1 rfl rfl rfl (Nat.le_of_ble_eq_true rfl) (by omega) (by decide) rfl (fun M7 h7 => ?_)
        rw [h7]
        refine qw_goto 4 dX9_sum_71 (by decide) ?_
        rw [hpx]
        exact qw_weak _ (by simp [lq_le]) (IHl _ (p_em 3 0 s1) hs1L hs1n (fun j hj => by rw [r_em.n (by omega), h5x.2.1 (m + 1) (by omega) (by omega)]; exact hMP j hj) (by rw [r_em.n (by omega), h5x.1 3 (by decide) (by decide) (by decide) (by decide) (by decide)]; exact hLP) ⟨by rw [r_em.n (by omega)]; exact h5p.1, by rw [r_em.n (by omega)]; exact h5p.2.1, by rw [r_em.n (by omega)]; exact h5p.2.2.1, h5p.2.2.2.em1 (by decide)⟩ (p_em_w hw1.1 (Or.inr (Or.inr ⟨by decide, by decide, by rw [hw1.2]; omega⟩))) (by rw [p_em_n, if_neg (by decide), hw1.2]; unfold p_bd; omega) (by show 4 * (L - s1.1) + 1 ≤ f; omega) (((hxo.tr hx0).tr h5x).tr r_em.xf) (by rw [r_em.n (by omega), h56, lq_up_c _ _ (by decide), lq_up_c _ _ (by decide)]; exact ho6))
theorem s_X9_sum {L : Nat} (h9 : sh9 S m fh fo) (hL8 : L ≤ 800) {t : Nat → Nat} (ht : ∀ j, j < L → t j < 256) {v : Value} (hX : lq_sx G v) {f d : Nat} (hd : d ≤ 4) {s : p_S} (he : s.1 ≤ L) (hn : s.2.1 ≤ s.1) (hM : ∀ j, j < L → M (m + 1) j = t j) (hL : M m 3 = L) (hP : r_pc M m t L d s) (hwk : q_wk s.2.2 s.2.1) (hbd : p_bd 2 d (q_hgt s.2.2 s.2.1)) (hf : 4 * (L - s.1) + 3 ≤ f + 1) (IHs : ∀ (M' : lq_M) (N' : lq_N) (s' : p_S), s'.1 ≤ L → s'.2.1 ≤ s'.1 → (∀ j, j < L → M' (m + 1) j = t j) → M' m 3 = L → r_pc M' m t L d s' → q_wk s'.2.2 s'.2.1 → p_bd 1 d (q_hgt s'.2.2 s'.2.1) → 4 * (L - s'.1) + 2 ≤ f → LM G YX9_term (7 + 3 * (4 - d)) 0 0 [.ref m] z S M' N' (lq_mv z S N' (fun M1 => r_pt m M' M1 t L d (p_ex t L f 1 d s'))) lq_no) (IHl : ∀ (M' : lq_M) (s' : p_S), s'.1 ≤ L → s'.2.1 ≤ s'.1 → (∀ j, j < L → M' (m + 1) j = t j) → M' m 3 = L → r_pc M' m t L d s' → q_wk s'.2.2 s'.2.1 → p_bd 4 d (q_hgt s'.2.2 s'.2.1) → 4 * (L - s'.1) + 1 ≤ f → r_xf m M M' → M' m 6 = M m 6 → LW G YX9_sum (8 + 3 * (4 - d)) 0 0 (lq_mv z S N (fun M1 => r_pt m M M1 t L d (p_ex t L f 4 d s'))) lq_no z S M' N 4 [some (.ref m), none] []) : LM G YX9_sum (8 + 3 * (4 - d)) 0 0 [.ref m] z S M N (lq_mv z S N (fun M1 => r_pt m M M1 t L d (p_ex t L (f + 1) 2 d s))) lq_no := by
  have hbd0 : q_hgt s.2.2 s.2.1 ≤ 2 * d := by unfold p_bd at hbd; omega
  refine LM.of (by decide) rfl [some (.ref m), none] rfl (Nat.le_of_ble_eq_true rfl) ?_
  refine qw_aload_n 0 dX9_sum_0 rfl rfl ?_
  refine qw_cvv [] (IHs M N s he hn hM hL hP hwk (by unfold p_bd; omega) (by omega)) mX9_136 dX9_sum_1 h9.1 rfl rfl rfl (Nat.le_of_ble_eq_true rfl) (by omega) (by decide) rfl (fun M5 h5 => ?_)
  cases hr : p_ex t L f 1 d s with
  | inl x0 =>
    rw [hr] at h5
    have hpx : p_ex t L (f + 1) 2 d s = .inl x0 := by rw [p_ex, if_neg (by decide), if_neg (by decide), if_pos rfl, hr]; rfl
    have hbad : ¬ nI (M5 m 5) = 0 := by rw [h5.2.1]; exact h5.2.2.2
    refine e_X9_sum h9 hbad (by omega) ?_
    exact ⟨rfl, rfl, rfl, rfl, by rw [hpx]; exact h5⟩
  | inr s1 =>
    rw [hr] at h5
    obtain ⟨h5x, h56, h5p⟩ := h5
    have hl1 := p_ex_le _ _ _ _ _ he hr
    have hw1 := p_ex_wf _ _ _ _ _ hd hr hwk (by unfold p_bd; omega)
    rw [if_pos (by decide)] at hw1
    have hs1n : s1.2.1 + 0 ≤ s1.1 := hl1.2.2 0 (by omega)
    have hs1a := hl1.1
    have hpx : p_ex t L (f + 1) 2 d s = p_ex t L f 4 d s1 := by rw [p_ex, if_neg (by decide), if_neg (by decide), if_pos rfl, hr]; rfl
    rw [hpx]
    exact IHl M5 s1 hl1.2.1 hs1n (fun j hj => by rw [h5x.2.1 (m + 1) (by omega) (by omega)]; exact hM j hj) (by rw [h5x.1 3 (by decide) (by decide) (by decide) (by decide) (by decide)]; exact hL) h5p hw1.1 (by rw [hw1.2]; unfold p_bd; omega) (by omega) h5x h56
theorem k_rex {L : Nat} (h9 : sh9 S m fh fo) (hL8 : L ≤ 800) {t : Nat → Nat} (ht : ∀ j, j < L → t j < 256) {v : Value} (hX : lq_sx G v) : ∀ f : Nat, (∀ (d : Nat), d ≤ 4 → ∀ (M : lq_M) (N : lq_N) (s : p_S), s.1 ≤ L → s.2.1 ≤ s.1 → (∀ j, j < L → M (m + 1) j = t j) → M m 3 = L → r_pc M m t L d s → q_wk s.2.2 s.2.1 → p_bd 0 d (q_hgt s.2.2 s.2.1) → 4 * (L - s.1) + 1 ≤ f → LM G YX9_factor (6 + 3 * (4 - d)) 0 0 [.ref m] z S M N (lq_mv z S N (fun M1 => r_pt m M M1 t L d (p_ex t L f 0 d s))) lq_no) ∧ (∀ (d : Nat), d ≤ 4 → ∀ (M : lq_M) (N : lq_N) (s : p_S), s.1 ≤ L → s.2.1 ≤ s.1 → (∀ j, j < L → M (m + 1) j = t j) → M m 3 = L → r_pc M m t L d s → q_wk s.2.2 s.2.1 → p_bd 1 d (q_hgt s.2.2 s.2.1) → 4 * (L - s.1) + 2 ≤ f → LM G YX9_term (7 + 3 * (4 - d)) 0 0 [.ref m] z S M N (lq_mv z S N (fun M1 => r_pt m M M1 t L d (p_ex t L f 1 d s))) lq_no) ∧ (∀ (d : Nat), d ≤ 4 → ∀ (M : lq_M) (N : lq_N) (s : p_S), s.1 ≤ L → s.2.1 ≤ s.1 → (∀ j, j < L → M (m + 1) j = t j) → M m 3 = L → r_pc M m t L d s → q_wk s.2.2 s.2.1 → p_bd 2 d (q_hgt s.2.2 s.2.1) → 4 * (L - s.1) + 3 ≤ f → LM G YX9_sum (8 + 3 * (4 - d)) 0 0 [.ref m] z S M N (lq_mv z S N (fun M1 => r_pt m M M1 t L d (p_ex t L f 2 d s))) lq_no) ∧ (∀ (d : Nat), d ≤ 4 → ∀ (Mo M : lq_M) (N : lq_N) (s : p_S), s.1 ≤ L → s.2.1 ≤ s.1 → (∀ j, j < L → M (m + 1) j = t j) → M m 3 = L → r_pc M m t L d s → q_wk s.2.2 s.2.1 → p_bd 3 d (q_hgt s.2.2 s.2.1) → 4 * (L - s.1) + 1 ≤ f → r_xf m Mo M → M m 6 = Mo m 6 → LW G YX9_term (7 + 3 * (4 - d)) 0 0 (lq_mv z S N (fun M1 => r_pt m Mo M1 t L d (p_ex t L f 3 d s))) lq_no z S M N 4 [some (.ref m), none] []) ∧ (∀ (d : Nat), d ≤ 4 → ∀ (Mo M : lq_M) (N : lq_N) (s : p_S), s.1 ≤ L → s.2.1 ≤ s.1 → (∀ j, j < L → M (m + 1) j = t j) → M m 3 = L → r_pc M m t L d s → q_wk s.2.2 s.2.1 → p_bd 4 d (q_hgt s.2.2 s.2.1) → 4 * (L - s.1) + 1 ≤ f → r_xf m Mo M → M m 6 = Mo m 6 → LW G YX9_sum (8 + 3 * (4 - d)) 0 0 (lq_mv z S N (fun M1 => r_pt m Mo M1 t L d (p_ex t L f 4 d s))) lq_no z S M N 4 [some (.ref m), none] []) := by
  intro f
  induction f with
  | zero => exact ⟨fun _ _ _ _ _ _ _ _ _ _ _ _ h => absurd h (by omega), fun _ _ _ _ _ _ _ _ _ _ _ _ h => absurd h (by omega), fun _ _ _ _ _ _ _ _ _ _ _ _ h => absurd h (by omega), fun _ _ _ _ _ _ _ _ _ _ _ _ _ h => absurd h (by omega), fun _ _ _ _ _ _ _ _ _ _ _ _ _ h => absurd h (by omega)⟩
  | succ f ih =>
    obtain ⟨i0, i1, i2, i3, i4⟩ := ih
    refine ⟨fun d hd M N s he hn hM hL hP hw hb hf => ?_, fun d hd M N s he hn hM hL hP hw hb hf => ?_, fun d hd M N s he hn hM hL hP hw hb hf => ?_, fun d hd Mo M N s he hn hM hL hP hw hb hf hx h6 => ?_, fun d hd Mo M N s he hn hM hL hP hw hb hf hx h6 => ?_⟩
    · exact s_X9_factor h9 hL8 ht hX hd he hn hM hL hP hw hb hf (fun hd4 M' N' s' => i2 (d + 1) (by omega) M' N' s')
    · exact s_X9_term h9 hL8 ht hX hd he hn hM hL hP hw hb hf (i0 d hd) (fun M' s' => i3 d hd M M' N s')
    · exact s_X9_sum h9 hL8 ht hX hd he hn hM hL hP hw hb hf (i1 d hd) (fun M' s' => i4 d hd M M' N s')
    · exact sl_X9_term h9 hL8 ht hX hd he hn hM hL hP hw hb hf hx h6 (i0 d hd) (fun M' s' => i3 d hd Mo M' N s')
    · exact sl_X9_sum h9 hL8 ht hX hd he hn hM hL hP hw hb hf hx h6 (i1 d hd) (fun M' s' => i4 d hd Mo M' N s')
theorem k_X9_sum {L : Nat} (h9 : sh9 S m fh fo) (hL8 : L ≤ 800) {t : Nat → Nat} (ht : ∀ j, j < L → t j < 256) {v : Value} (hX : lq_sx G v) (hM : ∀ j, j < L → M (m + 1) j = t j) (hL : M m 3 = L) {e : Nat} {tk : Nat → Nat × Nat} (he : e ≤ L) (h0 : M m 5 = 0) (hat : r_at t L (M m 4) e) (h13 : M m 13 = 0) (h4 : M (m + 3) 4 = 0) : LM G YX9_sum 20 0 0 [.ref m] z S M N (lq_mv z S N (fun M1 => r_pt m M M1 t L 0 (p_ex t L 3203 2 0 (e, 0, tk)))) lq_no :=
  (k_rex h9 hL8 ht hX 3203).2.2.1 0 (by decide) M N (e, 0, tk) he (Nat.zero_le _) hM hL ⟨h0, hat, h13, by show M (m + 3) 4 = 0; exact h4, fun j hj => absurd hj (Nat.not_lt_zero j)⟩ (fun i hi => absurd hi (Nat.not_lt_zero i)) (Or.inr (Or.inr (Or.inl ⟨rfl, Nat.zero_le _⟩))) (by omega)
end R14
