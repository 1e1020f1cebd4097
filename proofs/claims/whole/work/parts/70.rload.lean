/-! THE REFERENCE: load -/
theorem q_by_m1 {t : Nat → Nat} {L j : Nat} (ht : j < L → t j < 256) : q_by t L j = -1 ↔ L ≤ j := by
  unfold q_by
  by_cases h : j < L
  · rw [if_pos h]
    refine ⟨fun q => ?_, fun q => absurd q (by omega)⟩
    have h1 := nI_toInt (show t j < 2 ^ 31 by have := ht h; omega)
    rw [q] at h1
    exact absurd h1 (by have : (-1 : Int32).toInt = -1 := rfl; omega)
  · rw [if_neg h]
    exact ⟨fun _ => by omega, fun _ => rfl⟩
theorem t_kd_0 {t : Nat → Nat} {L s : Nat} (hs : s ≤ L) : t_kd t L s = 0 ↔ L ≤ s := by
  refine ⟨fun q => ?_, fun q => Decidable.byContradiction fun h => absurd (t_kd_lt (t := t) hs h) (by omega)⟩
  refine Decidable.byContradiction fun h => ?_
  rw [t_kd, if_pos (show s < L by omega)] at q
  split at q
  · exact absurd q (by decide)
  · split at q <;> exact absurd q (by decide)
theorem p_lp_s {t : Nat → Nat} {L f : Nat} {s : p_St} (h : ¬ t_kd t L (t_sk t L s.1) = 0) : p_lp t L (f + 1) s = match p_sem t L (p_stm t L s) with | .inl x => .inl x | .inr s1 => p_lp t L f s1 := by
  rw [p_lp, if_neg h]
  cases p_stm t L s with
  | inl x => rfl
  | inr s1 =>
    show (if _ then _ else _) = match (if _ then _ else _ : p_T) with | .inl x => _ | .inr s1 => _
    by_cases c : t_sg t L s1.1 59 = 1
    · rw [if_pos c, if_pos c]
    · rw [if_neg c, if_neg c]
theorem p_sem_w {t : Nat → Nat} {L : Nat} (hL : L ≤ 800) {s s1 : p_St} (hs : p_sw L s) (h : p_sem t L (p_stm t L s) = .inr s1) : p_sw L s1 ∧ s.1 < s1.1 := by
  cases r : p_stm t L s with
  | inl x =>
    rw [r] at h
    have h2 : (Sum.inl x : p_T) = .inr s1 := h
    exact absurd h2 (by simp)
  | inr s2 =>
    rw [r] at h
    have h2 : (if t_sg t L s2.1 59 = 1 then .inr (t_en t L (t_sk t L s2.1), s2.2) else .inl (4294967294, t_sk t L s2.1) : p_T) = .inr s1 := h
    obtain ⟨hw, hlt⟩ := p_stm_w hL hs r
    by_cases c : t_sg t L s2.1 59 = 1
    · rw [if_pos c] at h2
      have h3 : (t_en t L (t_sk t L s2.1), s2.2) = s1 := by simpa using h2
      rw [← h3]
      have hg := t_sk_ge t L s2.1
      have hlt2 := t_sg_lt (t := t) (L := L) c
      have hg2 := t_en_gt (t := t) hlt2
      exact ⟨⟨t_en_le (t_sk_le hw.1), hw.2⟩, by show s.1 < t_en t L (t_sk t L s2.1); omega⟩
    · rw [if_neg c] at h2
      exact absurd h2 (by simp)
theorem r_sP.pre {m : Nat} {M0 M M1 : lq_M} {t : Nat → Nat} {L : Nat} {res : p_T} (hf : r_sf m M0 M) (h6 : M m 6 = M0 m 6) (h : r_sP m M M1 t L res) : r_sP m M0 M1 t L res := by
  refine ⟨hf.tr h.1, ?_⟩
  have h2 := h.2
  cases res with
  | inl x => exact h2
  | inr s => exact ⟨by rw [h2.1, h6], h2.2⟩
theorem r_dr.b23 {u : Nat → Nat} {s : p_St} (hD : r_dr u s) (hW : g_wf s.2.1) : ∀ j, j < u 0 → u (7 + 30 * j) ≤ 6 ∧ u (8 + 30 * j) ≤ 23 := fun j hj => by
  obtain ⟨⟨a0, a1, a2, a3⟩, -⟩ := id hD
  obtain ⟨i, j1, j2, j3⟩ := (r_G_mem (u := u) (dd := u (7 + 30 * j)) (hh := u (8 + 30 * j)) (u 0)).mpr ⟨j, hj, rfl, rfl⟩
  have hb9 := hW.br (i := i) (by omega)
  rw [← j2, ← j3, ← hD.2.1 (7 + 30 * i) (by omega) (by omega), ← hD.2.1 (8 + 30 * i) (by omega) (by omega)]
  exact ⟨hb9.1, hb9.2.1⟩
theorem r_dr.zero {u : Nat → Nat} {e : Nat} (h : ∀ x, x < 2663 → u x = 0) : r_dr u (e, (fun _ => 0), 0, 0, 5, q_dft) := by
  have h0 := h 0 (by decide)
  refine ⟨⟨h0, h 1 (by decide), h 2 (by decide), by omega⟩, fun x x1 x2 => by rw [h0]; rfl, fun x x1 x2 => h x (by omega), ⟨h 5 (by decide), h 6 (by decide), rfl⟩, fun j hj => by omega, fun x x1 x2 => h x (by omega), Or.inl ⟨h 4 (by decide), rfl, fun j hj => rfl⟩, fun _ => h 4 (by decide)⟩
/-- what load leaves: the result of the text, told against the memory before -/
def r_le (m u : Nat) (H : Nat → Nat → Nat) (M M1 : lq_M) (res : p_T) (x : Int32) : Prop := M1 m 0 = 0 ∧ M1 m 2 = M m 2 ∧ q_fr m (m + 273) M M1 ∧ M1 (m + 1) = M (m + 1) ∧ match res with
  | .inl y => x = nI y.1 ∧ M1 m 7 = y.2 ∧ M1 (m + 2) = M (m + 2) ∧ q_hr M1 m u H
  | .inr s => x = nI (s.2.1 0) ∧ M1 m 7 = 4294967295 ∧ q_hr M1 m (min (u + 1) 8) (q_sh H) ∧ (∀ k, k < 1363 → k ≠ 2 → k ≠ 3 → k ≠ 4 → M1 (m + 2) k = s.2.1 k) ∧ q_cd (M1 (m + 2)) s.2.2.2.2.2 s.2.2.2.2.1
theorem r_le.of {m u : Nat} {H : Nat → Nat → Nat} {M M1 M2 : lq_M} {res : p_T} {x : Int32} (h : r_le m u H M1 M2 res x) (h2 : M1 m 2 = M m 2) (hf : q_fr m (m + 273) M M1) (hd : M1 (m + 2) = M (m + 2)) (hd1 : M1 (m + 1) = M (m + 1)) : r_le m u H M M2 res x := by
  obtain ⟨a, b, c, c1, d⟩ := h
  refine ⟨a, by rw [b, h2], fun b hb => by rw [c b hb, hf b hb], by rw [c1, hd1], ?_⟩
  cases res with
  | inl y => exact ⟨d.1, d.2.1, by rw [d.2.2.1, hd], d.2.2.2⟩
  | inr s => exact d
section R18
variable {G : lq_G} {z : Nat} {S : lq_S} {M : lq_M} {N : lq_N} {m : Nat} {fh fo : Nat → Option Nat}
theorem k_X9_rememberD (h9 : sh9 S m fh fo) {u : Nat} {H : Nat → Nat → Nat} (hH : q_hr M m u H) (h0 : M m 0 = 0) (hd : H 0 = M (m + 2)) : LM G YX9_remember 1 0 0 [.ref m] z S M N (lq_mv z S N (fun M1 => M1 (m + 3) = M (m + 3) ∧ q_mut m u H M M1 (M (m + 2)))) lq_no := by
  obtain ⟨hu, h8, hr⟩ := hH
  refine LM.of (by decide) rfl [some (.ref m), none] rfl (Nat.le_of_ble_eq_true rfl) ?_
  have tail : ∀ (M2 : lq_M) (v : Nat), v < 8 → min (u + 1) 8 = v + 1 → M2 m 11 = v → (∀ j, 1 ≤ j → j ≤ u → j + 1 ≤ 8 → ∀ k, k < 2663 → M2 (m + 5 + (v - j)) k = H j k) → (∀ b, b ≠ m → b < m + 5 ∨ m + 13 ≤ b → M2 b = M b) → (∀ j, j ≠ 11 → M2 m j = M m j) → LW G YX9_remember 1 0 0 (lq_mv z S N (fun M1 => M1 (m + 3) = M (m + 3) ∧ q_mut m u H M M1 (M (m + 2)))) lq_no z S M2 N 50 [some (.ref m), none] [] := by
    intro M2 v hv hm2 h11 hR hb2 hm0
    refine qw_aload_n 0 dX9_remember_50 rfl rfl ?_
    refine qw_getr fX9_17 dX9_remember_51 h9.1 rfl ?_
    refine qw_aload_n 0 dX9_remember_54 rfl rfl ?_
    refine qw_getr fX9_25 dX9_remember_55 h9.1 rfl ?_
    refine qw_aload_n 0 dX9_remember_58 rfl rfl ?_
    refine qw_geti fX9_262 dX9_remember_59 h9.1 rfl ?_
    rw [h11]
    refine qw_aald dX9_remember_62 h9.hi rfl rfl (by omega) (by omega) (h9.hf (by omega)) ?_
    refine qw_csv [_, _] (k_X9_copy (h9.hc (k := v) (by omega)) h9.da (by omega)) mX9_181 dX9_remember_63 rfl rfl (Nat.le_of_ble_eq_true rfl) (by omega) (by decide) rfl (fun M3 h3 => ?_)
    refine qw_aload_n 0 dX9_remember_66 rfl rfl ?_
    refine qw_dup dX9_remember_67 rfl ?_
    refine qw_geti fX9_262 dX9_remember_68 h9.1 rfl ?_
    have h11b : M3 m 11 = v := by rw [h3.2 m (by omega)]; exact h11
    rw [h11b]
    refine qw_iconst (nI 1) dX9_remember_71 (by decide) ?_
    refine qw_addN dX9_remember_72 ?_
    refine qw_puti fX9_262 dX9_remember_73 h9.1 rfl ?_
    exact qw_return rfl dX9_remember_76 ⟨rfl, rfl, rfl, rfl, by
      have e2 : ∀ b, b ≠ m → lq_up M3 m 11 (v + 1) b = M3 b := fun b hb => lq_up_n _ _ _ hb
      refine ⟨by rw [e2 _ (by omega), h3.2 _ (by omega), hb2 _ (by omega) (by omega)], by rw [e2 _ (by omega), h3.2 _ (by omega), hb2 _ (by omega) (by omega)], ⟨by rw [lq_up_s, hm2], by omega, fun j j1 j2 k hk => ?_⟩, by rw [lq_up_c _ _ (by decide), h3.2 _ (by omega), hm0 0 (by decide)]; exact h0, fun b hb => by rw [e2 b (by omega), h3.2 b (by omega)]; exact hb2 b (by omega) (by omega), by rw [e2 _ (by omega), h3.2 _ (by omega)]; exact hb2 _ (by omega) (by omega), fun j j0 j1 => by rw [lq_up_c _ _ j1, h3.2 _ (by omega)]; exact hm0 j j1⟩
      rw [e2 _ (by omega), hm2]
      by_cases e : j = 1
      · subst e
        show M3 (m + 5 + (v + 1 - 1)) k = H 0 k
        rw [show v + 1 - 1 = v by omega, h3.1 k hk, hd, hb2 _ (by omega) (by omega)]
      · show M3 (m + 5 + (v + 1 - j)) k = H (j - 1) k
        rw [h3.2 _ (by omega), show v + 1 - j = v - (j - 1) by omega]
        exact hR (j - 1) (by omega) (by omega) (by omega) k hk⟩
  refine qw_aload_n 0 dX9_remember_0 rfl rfl ?_
  refine qw_geti fX9_262 dX9_remember_1 h9.1 rfl ?_
  rw [hu]
  refine qw_bipush (nI 8) dX9_remember_4 (by decide) ?_
  refine qw_icmp_neN 50 dX9_remember_6 (by decide) (by omega) (by omega) (fun c6 => ?_) (fun c6 => ?_)
  · exact tail M u (by omega) (by omega) hu (fun j j1 j2 j3 k hk => hr j j1 j2 k hk) (fun b b1 b2 => rfl) (fun j hj => rfl)
  · refine qw_iconst (nI 1) dX9_remember_9 (by decide) ?_
    refine qw_istore_n 1 dX9_remember_10 rfl rfl (by decide) ?_
    refine l_X9_remember h9 (M0 := M) (fun M1 k1 k2 => ?_) 8 1 M (by decide) (by decide) (by decide) (fun i hi => by omega) (fun b hb => rfl)
    refine qw_aload_n 0 dX9_remember_40 rfl rfl ?_
    refine qw_dup dX9_remember_41 rfl ?_
    refine qw_geti fX9_262 dX9_remember_42 h9.1 rfl ?_
    rw [k2 m (by omega), hu]
    refine qw_iconst (nI 1) dX9_remember_45 (by decide) ?_
    refine qw_subN (by omega) dX9_remember_46 ?_
    refine qw_puti fX9_262 dX9_remember_47 h9.1 rfl ?_
    refine qw_weak _ (by simp [lq_le]) (tail _ 7 (by decide) (by omega) (by rw [lq_up_s]; omega) (fun j j1 j2 j3 k hk => ?_) (fun b b1 b2 => ?_) (fun j hj => ?_))
    · rw [lq_up_n _ _ _ (by omega), k1 (7 - j) (by omega) k hk, show 7 - j + 1 = u - j by omega]
      exact hr j j1 (by omega) k hk
    · rw [lq_up_n _ _ _ b1]; exact k2 b (by omega)
    · rw [lq_up_c _ _ hj, k2 m (by omega)]
theorem e_X9_load (h9 : sh9 S m fh fo) {t : Nat → Nat} {L u : Nat} {H : Nat → Nat → Nat} {res : p_T} {M0 : lq_M} (hr : r_sP m M0 M t L res) (h6 : M0 m 6 = 4294967295) (h0 : M0 m 0 = 0) (hH : q_hr M0 m u H) (hd : H 0 = M0 (m + 2)) (hw : ∀ s, res = .inr s → p_sw L s) {Q : lq_P} (kQ : ∀ x M1, r_le m u H M0 M1 res x → Q (some (.int x)) z S M1 N) : LW G YX9_load 23 0 0 Q lq_no z S M N 136 [some (.ref m), none, none] [] := by
  obtain ⟨hf, hr⟩ := hr
  have hX0 : ∀ j, j ≠ 7 → j ≠ 4 → j ≠ 5 → j ≠ 6 → j ≠ 12 → j ≠ 13 → j ≠ 14 → (lq_up M m 7 (M m 6)) m j = M0 m j := fun j j7 a b c d e f => by rw [lq_up_c _ _ j7]; exact hf.1 j a b c d e f
  have hXb : ∀ b, b ≠ m → b ≠ m + 3 → (lq_up M m 7 (M m 6)) b = M0 b := fun b b1 b2 => by rw [lq_up_n _ _ _ b1]; exact hf.2 b b1 b2
  have hXd : (lq_up M m 7 (M m 6)) (m + 3) = M (m + 3) := lq_up_n _ _ _ (by omega)
  have hHX : q_hr (lq_up M m 7 (M m 6)) m u H := ⟨by rw [hX0 11 (by decide) (by decide) (by decide) (by decide) (by decide) (by decide) (by decide)]; exact hH.1, hH.2.1, fun j j1 j2 k hk => by rw [hXb _ (by omega) (by omega)]; exact hH.2.2 j j1 j2 k hk⟩
  cases res with
  | inl x0 =>
    obtain ⟨q1, q2, q3⟩ := hr
    have hbad : ¬ nI ((lq_up M m 7 (M m 6)) m 5) = 0 := by rw [lq_up_c _ _ (by decide), q1]; exact q3
    refine qw_aload_n 0 dX9_load_136 rfl rfl ?_
    refine qw_aload_n 0 dX9_load_137 rfl rfl ?_
    refine qw_geti fX9_63 dX9_load_138 h9.1 rfl ?_
    refine qw_puti fX9_13 dX9_load_141 h9.1 rfl ?_
    refine qw_aload_n 0 dX9_load_144 rfl rfl ?_
    refine qw_cvp [] (k_X9_isGood_b h9 hbad) mX9_70 dX9_load_145 h9.1 rfl rfl rfl (Nat.le_of_ble_eq_true rfl) (by omega) (by decide) rfl ?_
    refine qw_if_neN 156 dX9_load_148 (by decide) (by omega) (fun c148 => absurd rfl c148) (fun c148 => ?_)
    refine qw_aload_n 0 dX9_load_151 rfl rfl ?_
    refine qw_geti fX9_60 dX9_load_152 h9.1 rfl ?_
    rw [lq_up_c _ _ (by decide), q1]
    exact qw_ireturn rfl rfl dX9_load_155 (kQ _ _ ⟨by rw [hX0 0 (by decide) (by decide) (by decide) (by decide) (by decide) (by decide) (by decide)]; exact h0, hX0 2 (by decide) (by decide) (by decide) (by decide) (by decide) (by decide) (by decide), fun b hb => hXb b (by omega) (by omega), hXb _ (by omega) (by omega), rfl, by rw [lq_up_s]; exact q2, hXb _ (by omega) (by omega), hHX⟩)
  | inr s =>
    obtain ⟨q6, q5, q4, q13, q14, hD⟩ := hr
    have hs := hw s rfl
    have hW := hs.2.1
    obtain ⟨⟨a0, a1, a2, a3⟩, b7, c7, ⟨d5, d6, d7⟩, z7, z8, hq, -⟩ := id hD
    refine qw_aload_n 0 dX9_load_136 rfl rfl ?_
    refine qw_aload_n 0 dX9_load_137 rfl rfl ?_
    refine qw_geti fX9_63 dX9_load_138 h9.1 rfl ?_
    refine qw_puti fX9_13 dX9_load_141 h9.1 rfl ?_
    refine qw_aload_n 0 dX9_load_144 rfl rfl ?_
    refine qw_cvp [] (k_X9_isGood_g h9 (by rw [lq_up_c _ _ (by decide)]; exact q5)) mX9_70 dX9_load_145 h9.1 rfl rfl rfl (Nat.le_of_ble_eq_true rfl) (by omega) (by decide) rfl ?_
    refine qw_if_neN 156 dX9_load_148 (by decide) (by omega) (fun c148 => ?_) (fun c148 => absurd c148 (by decide))
    refine qw_aload_n 0 dX9_load_156 rfl rfl ?_
    refine qw_cvv [] (k_X9_sortBreaks h9 a3 (hD.b23 hW) z7 z8 hXd) mX9_175 dX9_load_157 h9.1 rfl rfl rfl (Nat.le_of_ble_eq_true rfl) (by omega) (by decide) rfl (fun M1 h1 => ?_)
    refine qw_aload_n 0 dX9_load_160 rfl rfl ?_
    refine qw_cvv [] (k_X9_rememberD (u := u) (H := H) h9 ⟨by rw [h1.1 m (by omega)]; exact hHX.1, hHX.2.1, fun j j1 j2 k hk => by rw [h1.1 _ (by omega)]; exact hHX.2.2 j j1 j2 k hk⟩ (by rw [h1.1 m (by omega), hX0 0 (by decide) (by decide) (by decide) (by decide) (by decide) (by decide) (by decide)]; exact h0) (by rw [h1.1 _ (by omega), hXb _ (by omega) (by omega)]; exact hd)) mX9_178 dX9_load_161 h9.1 rfl rfl rfl (Nat.le_of_ble_eq_true rfl) (by omega) (by decide) rfl (fun M2 h2 => ?_)
    obtain ⟨h2d, h2a, h2b, h2c, h2e⟩ := h2
    refine qw_aload_n 0 dX9_load_164 rfl rfl ?_
    refine qw_getr fX9_20 dX9_load_165 h9.1 rfl ?_
    refine qw_aload_n 0 dX9_load_168 rfl rfl ?_
    refine qw_getr fX9_17 dX9_load_169 h9.1 rfl ?_
    refine qw_csv [_, _] (k_X9_copy h9.da h9.dr (by omega)) mX9_181 dX9_load_172 rfl rfl (Nat.le_of_ble_eq_true rfl) (by omega) (by decide) rfl (fun M3 h3 => ?_)
    have hdx : ∀ x, x < 2663 → M3 (m + 2) x = if 7 ≤ x ∧ x < 607 then r_G (M (m + 3)) (M (m + 3) 0) x else M (m + 3) x := fun x hx => by rw [h3.1 x hx, h2d, h1.2 x]
    have hm3 : ∀ b, b ≠ m + 2 → M3 b = M2 b := h3.2
    refine qw_aload_n 0 dX9_load_175 rfl rfl ?_
    refine qw_getr fX9_17 dX9_load_176 h9.1 rfl ?_
    refine qw_iconst (nI 0) dX9_load_179 (by decide) ?_
    refine qw_iald dX9_load_180 h9.da (by omega) (by omega) ?_
    rw [hdx 0 (by decide), if_neg (by omega), a0]
    exact qw_ireturn rfl rfl dX9_load_181 (kQ _ _ ⟨by rw [hm3 m (by omega)]; exact h2c, by rw [hm3 m (by omega), h2e.2.2 2 (by decide) (by decide), h1.1 m (by omega)]; exact hX0 2 (by decide) (by decide) (by decide) (by decide) (by decide) (by decide) (by decide), fun b hb => by rw [hm3 b (by omega), h2e.1 b hb, h1.1 b (by omega)]; exact hXb b (by omega) (by omega), by rw [hm3 _ (by omega), h2e.2.1, h1.1 _ (by omega)]; exact hXb _ (by omega) (by omega), rfl, by rw [hm3 m (by omega), h2e.2.2 7 (by decide) (by decide), h1.1 m (by omega), lq_up_s, q6, h6], ⟨by rw [hm3 m (by omega)]; exact h2b.1, h2b.2.1, fun j j1 j2 k hk => by rw [hm3 _ (by have := h2b.2.1; omega)]; exact h2b.2.2 j j1 j2 k hk⟩, fun k k1 k2 k3 k4 => by
      rw [hdx k (by omega)]
      by_cases e : 7 ≤ k ∧ k < 607
      · rw [if_pos e]; exact (b7 k e.1 e.2).symm
      · rw [if_neg e]
        by_cases e2 : 607 ≤ k
        · exact c7 k e2 k1
        · rcases (show k = 0 ∨ k = 1 ∨ k = 5 ∨ k = 6 by omega) with w | w | w | w
          · subst w; exact a0
          · subst w; exact a1
          · subst w; rw [d5, hs.2.2.1]
          · subst w; rw [d6, d7], (show q_cd (M (m + 3)) s.2.2.2.2.2 s.2.2.2.2.1 from hq).cong hs.2.2.2.2.2.1 hs.2.2.2.2.2.2 (by rw [hdx 4 (by decide), if_neg (by omega)]) (fun x x1 x2 => by rw [hdx x x2, if_neg (by omega)])⟩)
theorem b_X9_load (h9 : sh9 S m fh fo) (h0 : ¬ nI (M m 5) = 0) {Q : lq_P} (kk : LW G YX9_load 23 0 0 Q lq_no z S M N 136 [some (.ref m), none, none] []) : LW G YX9_load 23 0 0 Q lq_no z S M N 114 [some (.ref m), none, none] [] := by
  refine qw_aload_n 0 dX9_load_114 rfl rfl ?_
  refine qw_cvp [] (k_X9_isGood_b h9 h0) mX9_70 dX9_load_115 h9.1 rfl rfl rfl (Nat.le_of_ble_eq_true rfl) (by omega) (by decide) rfl ?_
  refine qw_if_eqN 136 dX9_load_118 (by decide) (by omega) (fun c118 => ?_) (fun c118 => absurd rfl c118)
  exact kk
theorem l_X9_load {L : Nat} (h9 : sh9 S m fh fo) (hL8 : L ≤ 800) {t : Nat → Nat} (ht : ∀ j, j < L → t j < 256) {v : Value} (hX : lq_sx G v) {M0 : lq_M} (hM0 : ∀ j, j < L → M0 (m + 1) j = t j) (hL0 : M0 m 3 = L) {res : p_T} {Q : lq_P} (kk : ∀ M1, r_sP m M0 M1 t L res → LW G YX9_load 23 0 0 Q lq_no z S M1 N 136 [some (.ref m), none, none] []) :
    ∀ (f : Nat) (s : p_St) (M : lq_M), p_sw L s → L - s.1 < f → r_sP m M0 M t L (.inr s) → p_lp t L f s = res → LW G YX9_load 23 0 0 Q lq_no z S M N 114 [some (.ref m), none, none] [] := by
  intro f
  induction f with
  | zero => intro _ _ _ _ _ _; omega
  | succ f ih =>
    intro s M hs hf9 hr hp
    obtain ⟨hf, q6, q5, ⟨q4, q4b⟩, q13, q14, hD⟩ := id hr
    have hM : ∀ j, j < L → M (m + 1) j = t j := fun j hj => by rw [hf.2 (m + 1) (by omega) (by omega)]; exact hM0 j hj
    have hL : M m 3 = L := by rw [hf.1 3 (by decide) (by decide) (by decide) (by decide) (by decide) (by decide)]; exact hL0
    have hsk := t_sk_le (t := t) hs.1
    refine qw_aload_n 0 dX9_load_114 rfl rfl ?_
    refine qw_cvp [] (k_X9_isGood_g h9 q5) mX9_70 dX9_load_115 h9.1 rfl rfl rfl (Nat.le_of_ble_eq_true rfl) (by omega) (by decide) rfl ?_
    refine qw_if_eqN 136 dX9_load_118 (by decide) (by omega) (fun c118 => absurd c118 (by decide)) (fun c118 => ?_)
    refine qw_aload_n 0 dX9_load_121 rfl rfl ?_
    refine qw_cvi [] (k_X9_next h9 hL8 ht hM hL rfl q4) mX9_74 dX9_load_122 h9.1 rfl rfl rfl (Nat.le_of_ble_eq_true rfl) (by omega) (by decide) rfl (fun x1 M1 h1 => ?_)
    obtain ⟨rfl, hz⟩ := h1
    rw [hz]
    refine qw_iconst (-1) dX9_load_125 (by decide) ?_
    refine qw_icmp_eq 136 dX9_load_126 (by decide) (fun c126 => ?_) (fun c126 => ?_)
    · have hk : t_kd t L (t_sk t L s.1) = 0 := (t_kd_0 hsk).mpr (by rw [q4b] at c126; exact (q_by_m1 (fun h => ht _ h)).mp c126)
      have hres : res = .inr s := by rw [← hp, p_lp, if_pos hk]
      exact kk _ (by rw [hres]; exact ⟨hf.tr (r_sf.up (by decide)), by rw [lq_up_c _ _ (by decide)]; exact q6, by rw [lq_up_c _ _ (by decide)]; exact q5, by rw [lq_up_s]; exact ⟨t_sk_le q4, by rw [t_sk_sk q4]; exact q4b⟩, by rw [lq_up_c _ _ (by decide)]; exact q13, by rw [lq_up_c _ _ (by decide)]; exact q14, by rw [lq_up_n _ _ _ (by omega)]; exact hD⟩)
    · refine qw_aload_n 0 dX9_load_129 rfl rfl ?_
      refine qw_cvv [] (k_X9_statement h9 hL8 ht hX hs (M := (lq_up M m 4 (t_sk t L (M m 4)))) (fun j hj => by rw [lq_up_n _ _ _ (by omega)]; exact hM j hj) (by rw [lq_up_c _ _ (by decide)]; exact hL) (by rw [lq_up_c _ _ (by decide)]; exact q5) (by rw [lq_up_s]; exact ⟨t_sk_le q4, by rw [t_sk_sk q4]; exact q4b⟩) (by rw [lq_up_c _ _ (by decide)]; exact q13) (by rw [lq_up_c _ _ (by decide)]; exact q14) (by rw [lq_up_n _ _ _ (by omega)]; exact hD)) mX9_172 dX9_load_130 h9.1 rfl rfl rfl (Nat.le_of_ble_eq_true rfl) (by omega) (by decide) rfl (fun M2 h2 => ?_)
      refine qw_goto 114 dX9_load_133 (by decide) ?_
      have hk : ¬ t_kd t L (t_sk t L s.1) = 0 := fun q => c126 ((q_by_m1 (fun h => ht _ h)).mpr (by rw [q4b]; exact (t_kd_0 hsk).mp q))
      have h3 := r_sP.pre hf q6 h2.u4
      rw [p_lp_s hk] at hp
      cases hsem : p_sem t L (p_stm t L s) with
      | inl x =>
        rw [hsem] at h3 hp
        have hres : Sum.inl x = res := hp
        rw [← hres] at kk
        exact b_X9_load h9 (by rw [h3.2.1]; exact h3.2.2.2) (kk M2 h3)
      | inr s1 =>
        rw [hsem] at h3 hp
        obtain ⟨hw1, hlt⟩ := p_sem_w hL8 hs hsem
        exact ih s1 M2 hw1 (by have := hw1.1; omega) h3 hp
theorem z_X9_load (h9 : sh9 S m fh fo) {x : Int32} {M0 : lq_M} {Q : lq_P} (kk : ∀ M1 : lq_M, (∀ b, b ≠ m + 3 → M1 b = M0 b) → (∀ k, k < 2663 → M1 (m + 3) k = 0) → LW G YX9_load 23 0 0 Q lq_no z S M1 N 89 [some (.ref m), none, none] []) : ∀ (n9 i : Nat) (M : lq_M), i ≤ 2663 → 2663 - i < n9 → (∀ b, b ≠ m + 3 → M b = M0 b) → (∀ k, k < i → M (m + 3) k = 0) → LW G YX9_load 23 0 0 Q lq_no z S M N 69 [some (.ref m), some (.int x), some (.int (nI i))] [] := by
  intro n9
  induction n9 with
  | zero => intro _ _ _ _ _ _; omega
  | succ n9 ih =>
    intro i M hi hn9 hq hv
    refine qw_iload_n 2 dX9_load_69 rfl rfl ?_
    refine qw_sipush (nI 2663) dX9_load_70 (by decide) ?_
    refine qw_icmp_geN 89 dX9_load_73 (by decide) (by omega) (by omega) (fun c73 => ?_) (fun c73 => ?_)
    · exact qw_weak _ (by simp [lq_le]) (kk M hq (fun k hk => hv k (by omega)))
    · refine qw_aload_n 0 dX9_load_76 rfl rfl ?_
      refine qw_getr fX9_20 dX9_load_77 h9.1 rfl ?_
      refine qw_iload_n 2 dX9_load_80 rfl rfl ?_
      refine qw_iconst (nI 0) dX9_load_81 (by decide) ?_
      refine qw_iast dX9_load_82 h9.dr (by omega) (by omega) ?_
      refine qw_iincN 1 dX9_load_83 rfl (by decide) rfl (by decide) ?_
      refine qw_goto 69 dX9_load_86 (by decide) ?_
      refine ih (i + 1) _ (by omega) (by omega) (fun b hb => by rw [lq_up_n _ _ _ hb]; exact hq b hb) (fun k hk => ?_)
      by_cases e : k = i
      · rw [e, lq_up_s]
      · rw [lq_up_c _ _ e]; exact hv k (by omega)
theorem k_X9_load (h9 : sh9 S m fh fo) {v : Value} (hX : lq_sx G v) (hbl : M m 2 ≤ 800) (ht : ∀ j, j < M m 2 → M (m + 1) j < 256) {u : Nat} {H : Nat → Nat → Nat} (hH : q_hr M m u H) (hd : H 0 = M (m + 2)) {len : Int32} : LM G YX9_load 23 0 0 [.ref m, .int len] z S M N (lq_mi z S N (fun x M1 => (∃ l, l ≤ M m 2 ∧ len = nI l ∧ r_le m u H (lq_up M m 2 0) M1 (p_set (M (m + 1)) l) x) ∨ (¬ q_rg len 0 (M m 2) ∧ M1 = lq_up M m 0 1))) lq_no := by
  refine LM.of (by decide) rfl [some (.ref m), some (.int len), none] rfl (Nat.le_of_ble_eq_true rfl) ?_
  refine qw_aload_n 0 dX9_load_0 rfl rfl ?_
  refine qw_iconst (nI 0) dX9_load_1 (by decide) ?_
  refine qw_puti fX9_41 dX9_load_2 h9.1 rfl ?_
  refine qw_aload_n 0 dX9_load_5 rfl rfl ?_
  refine qw_iload_n 1 dX9_load_6 rfl rfl ?_
  refine qw_iconst (nI 0) dX9_load_7 (by decide) ?_
  refine qw_aload_n 0 dX9_load_8 rfl rfl ?_
  refine qw_geti fX9_48 dX9_load_9 h9.1 rfl ?_
  rw [lq_up_c M (a := m) (k := 0) (j := 2) 0 (by decide)]
  refine qw_csp [_, _, _] (k_X9_in) mX9_66 dX9_load_12 rfl rfl (Nat.le_of_ble_eq_true rfl) (by omega) (by decide) rfl ?_
  rw [q_inrg (by decide) (by omega)]
  refine qw_if_neN 22 dX9_load_15 (by decide) (Nat.lt_of_le_of_lt q_b_le (by decide)) (fun c15 => ?_) (fun c15 => ?_)
  · refine qw_iconst (nI 0) dX9_load_22 (by decide) ?_
    refine qw_iconst (nI 1) dX9_load_23 (by decide) ?_
    refine qw_cvi [_, _] (k_X9_fails h9 (by decide) (by decide) (lq_up_s M m 0 0)) mX9_166 dX9_load_24 h9.1 rfl rfl rfl (Nat.le_of_ble_eq_true rfl) (by omega) (by decide) rfl (fun x1 M2 h1 => ?_)
    obtain ⟨-, rfl, hz⟩ := h1.resolve_right (fun q => absurd q.1 (by decide))
    rw [hz]
    refine qw_if_eqN 32 dX9_load_27 (by decide) (by omega) (fun c27 => ?_) (fun c27 => absurd rfl c27)
    have hrg : q_rg len 0 (M m 2) := q_b_ne c15
    obtain ⟨l, -, hl, rfl⟩ := hrg
    refine qw_aload_n 0 dX9_load_32 rfl rfl ?_
    refine qw_iconst (nI 0) dX9_load_33 (by decide) ?_
    refine qw_puti fX9_48 dX9_load_34 h9.1 rfl ?_
    refine qw_aload_n 0 dX9_load_37 rfl rfl ?_
    refine qw_iload_n 1 dX9_load_38 rfl rfl ?_
    refine qw_puti fX9_51 dX9_load_39 h9.1 rfl ?_
    refine qw_aload_n 0 dX9_load_42 rfl rfl ?_
    refine qw_iconst (nI 0) dX9_load_43 (by decide) ?_
    refine qw_puti fX9_54 dX9_load_44 h9.1 rfl ?_
    refine qw_aload_n 0 dX9_load_47 rfl rfl ?_
    refine qw_iconst (nI 0) dX9_load_48 (by decide) ?_
    refine qw_puti fX9_60 dX9_load_49 h9.1 rfl ?_
    refine qw_aload_n 0 dX9_load_52 rfl rfl ?_
    refine qw_iconst (-1) dX9_load_53 (by decide) ?_
    rw [show (-1 : Int32) = nI 4294967295 by decide]
    refine qw_puti fX9_63 dX9_load_54 h9.1 rfl ?_
    refine qw_aload_n 0 dX9_load_57 rfl rfl ?_
    refine qw_iconst (nI 0) dX9_load_58 (by decide) ?_
    refine qw_puti fX9_103 dX9_load_59 h9.1 rfl ?_
    refine qw_aload_n 0 dX9_load_62 rfl rfl ?_
    refine qw_iconst (nI 0) dX9_load_63 (by decide) ?_
    refine qw_puti fX9_139 dX9_load_64 h9.1 rfl ?_
    refine qw_iconst (nI 0) dX9_load_67 (by decide) ?_
    refine qw_istore_n 2 dX9_load_68 rfl rfl (by decide) ?_
    refine z_X9_load h9 (M0 := lq_up (lq_up (lq_up (lq_up (lq_up (lq_up (lq_up (lq_up M m 0 0) m 2 0) m 3 l) m 4 0) m 5 0) m 6 4294967295) m 13 0) m 14 0) (fun M1 k1 hz1 => ?_) 2664 0 _ (by decide) (by decide) (fun b hb => rfl) (fun k hk => absurd hk (Nat.not_lt_zero k))
    have hL8 : l ≤ 800 := by omega
    have ht0 : ∀ j, j < l → M (m + 1) j < 256 := fun j hj => ht j (by omega)
    have km : M1 m = (lq_up (lq_up (lq_up (lq_up (lq_up (lq_up (lq_up (lq_up M m 0 0) m 2 0) m 3 l) m 4 0) m 5 0) m 6 4294967295) m 13 0) m 14 0) m := k1 m (by omega)
    have kb : ∀ b, b ≠ m → b ≠ m + 3 → M1 b = M b := fun b b1 b2 => by rw [k1 b b2]; simp only [lq_up_n _ _ _ b1]
    have hM1 : ∀ j, j < l → M1 (m + 1) j = M (m + 1) j := fun j hj => by rw [kb (m + 1) (by omega) (by omega)]
    have hL1 : M1 m 3 = l := by rw [km]; simp [lq_up]
    have h41 : M1 m 4 = 0 := by rw [km]; simp [lq_up]
    have h51 : M1 m 5 = 0 := by rw [km]; simp [lq_up]
    have h61 : M1 m 6 = 4294967295 := by rw [km]; simp [lq_up]
    have h131 : M1 m 13 = 0 := by rw [km]; simp [lq_up]
    have h141 : M1 m 14 = 0 := by rw [km]; simp [lq_up]
    have h01 : M1 m 0 = 0 := by rw [km]; simp [lq_up]
    have h21 : M1 m 2 = 0 := by rw [km]; simp [lq_up]
    have h11 : M1 m 11 = u := by rw [km]; simp [lq_up]; exact hH.1
    have x28 := t_wb_c (t := M (m + 1)) (L := l) (e := 0) 28 9 rfl rfl
    have fin : ∀ M2, r_sP m M1 M2 (M (m + 1)) l (p_set (M (m + 1)) l) → LW G YX9_load 23 0 0 (lq_mi z S N (fun x M3 => (∃ l1, l1 ≤ M m 2 ∧ nI l = nI l1 ∧ r_le m u H (lq_up M m 2 0) M3 (p_set (M (m + 1)) l1) x) ∨ (¬ q_rg (nI l) 0 (M m 2) ∧ M3 = lq_up M m 0 1))) lq_no z S M2 N 136 [some (.ref m), none, none] [] := fun M2 hr2 => by
      exact (e_X9_load (u := u) (H := H) h9 hr2 h61 h01 ⟨h11, hH.2.1, fun j j1 j2 k hk => by rw [kb _ (by omega) (by omega)]; exact hH.2.2 j j1 j2 k hk⟩ (by rw [kb _ (by omega) (by omega)]; exact hd) (fun s hs => p_set_w hL8 hs) (fun x M3 hle => ⟨rfl, rfl, rfl, _, rfl, Or.inl ⟨l, hl, rfl, hle.of (by rw [h21, lq_up_s]) (fun b hb => by rw [kb b (by omega) (by omega), lq_up_n _ _ _ (by omega)]) (by rw [kb _ (by omega) (by omega), lq_up_n _ _ _ (by omega)]) (by rw [kb _ (by omega) (by omega), lq_up_n _ _ _ (by omega)])⟩⟩))
    refine qw_aload_n 0 dX9_load_89 rfl rfl ?_
    refine qw_ldcS 28 dX9_load_90 rfl ?_
    refine qw_cvi [_] (k_X9_takeWord (e := 0) (i := 28) h9 hL8 ht0 hX (by decide) (by decide) hM1 hL1 h41 ⟨Nat.zero_le l, rfl⟩ h51) mX9_115 dX9_load_92 h9.1 rfl rfl rfl (Nat.le_of_ble_eq_true rfl) (by omega) (by decide) rfl (fun y2 M2 h2 => ?_)
    obtain ⟨rfl, hz2⟩ := h2
    rw [hz2, x28]
    have hwb := t_wb_01 (M (m + 1)) l 0 9
    refine qw_if_neN 108 dX9_load_95 (by decide) (by omega) (fun c95 => ?_) (fun c95 => ?_)
    · have hw1 : t_wb (M (m + 1)) l 0 9 = 1 := by omega
      rw [if_pos hw1]
      have hen0 : (t_en (M (m + 1)) l (t_sk (M (m + 1)) l 0)) ≤ l := t_en_le (t_sk_le (Nat.zero_le l))
      refine qw_aload_n 0 dX9_load_108 rfl rfl ?_
      refine qw_bipush (nI 59) dX9_load_109 (by decide) ?_
      refine qw_cvv [_] (k_X9_expect_g (e := (t_en (M (m + 1)) l (t_sk (M (m + 1)) l 0))) (c := 59) h9 hL8 ht0 (M := lq_up M1 m 4 (t_en (M (m + 1)) l (t_sk (M (m + 1)) l 0))) (fun j hj => by rw [lq_up_n _ _ _ (by omega)]; exact hM1 j hj) (by rw [lq_up_c _ _ (by decide)]; exact hL1) (by rw [lq_up_s]) ⟨hen0, rfl⟩ (by rw [lq_up_c _ _ (by decide)]; exact h51) (by decide) (by decide) (by decide)) mX9_109 dX9_load_111 h9.1 rfl rfl rfl (Nat.le_of_ble_eq_true rfl) (by omega) (by decide) rfl (fun M3 h3 => ?_)
      rcases h3 with ⟨k1, k2⟩ | ⟨k1, k2, k3, k4⟩
      · rw [k2]
        refine l_X9_load h9 hL8 ht0 hX hM1 hL1 (res := p_set (M (m + 1)) l) fin 800 (t_en (M (m + 1)) l (t_sk (M (m + 1)) l (t_en (M (m + 1)) l (t_sk (M (m + 1)) l 0))), (fun _ => 0), 0, 0, 5, q_dft) (lq_up (lq_up M1 m 4 (t_en (M (m + 1)) l (t_sk (M (m + 1)) l 0))) m 4 (t_en (M (m + 1)) l (t_sk (M (m + 1)) l (t_en (M (m + 1)) l (t_sk (M (m + 1)) l 0))))) ⟨t_en_le (t_sk_le hen0), g_wf.zero, rfl, Nat.zero_le _, Nat.zero_le _, q_fwf_dft, (show 5 ≤ 800 from by decide)⟩ ?_ ⟨(r_sf.up (by decide)).tr (r_sf.up (by decide)), by rw [lq_up_c _ _ (by decide), lq_up_c _ _ (by decide)], by rw [lq_up_c _ _ (by decide), lq_up_c _ _ (by decide)]; exact h51, by rw [lq_up_s]; exact ⟨t_en_le (t_sk_le hen0), rfl⟩, by rw [lq_up_c _ _ (by decide), lq_up_c _ _ (by decide)]; exact h131, by rw [lq_up_c _ _ (by decide), lq_up_c _ _ (by decide)]; exact h141, by rw [lq_up_n _ _ _ (by omega), lq_up_n _ _ _ (by omega)]; exact r_dr.zero hz1⟩ (by rw [p_set, if_neg (by omega), if_neg (fun q => q k1)])
        have hg := t_en_gt (t := M (m + 1)) (t_sg_lt (t := M (m + 1)) (L := l) k1)
        show l - t_en (M (m + 1)) l (t_sk (M (m + 1)) l (t_en (M (m + 1)) l (t_sk (M (m + 1)) l 0))) < 800
        omega
      · have hps : p_set (M (m + 1)) l = .inl (4294967294, t_sk (M (m + 1)) l (t_en (M (m + 1)) l (t_sk (M (m + 1)) l 0))) := by rw [p_set, if_neg (by omega), if_pos k1]
        exact b_X9_load h9 (by rw [k2]; decide) (fin M3 (by rw [hps]; exact ⟨(r_sf.up (by decide)).tr k4.sf, k2, k3, (show ¬ nI 4294967294 = 0 from by decide)⟩))
    · refine qw_aload_n 0 dX9_load_98 rfl rfl ?_
      refine qw_bipush (-2) dX9_load_99 (by decide) ?_
      rw [show (-2 : Int32) = nI 4294967294 by decide]
      refine qw_aload_n 0 dX9_load_101 rfl rfl ?_
      refine qw_geti fX9_54 dX9_load_102 h9.1 rfl ?_
      rw [lq_up_s, if_neg (show ¬ t_wb (M (m + 1)) l 0 9 = 1 by omega)]
      refine qw_cvv [_, _] (k_X9_report_g h9 (by rw [lq_up_c _ _ (by decide)]; exact h51)) mX9_87 dX9_load_105 h9.1 rfl rfl rfl (Nat.le_of_ble_eq_true rfl) (by omega) (by decide) rfl (fun M3 h3 => ?_)
      rw [h3]
      refine qw_aload_n 0 dX9_load_108 rfl rfl ?_
      refine qw_bipush (nI 59) dX9_load_109 (by decide) ?_
      refine qw_cvv [_] (k_X9_expect_b h9 (by rw [lq_up_c _ _ (by decide), lq_up_s]; decide)) mX9_109 dX9_load_111 h9.1 rfl rfl rfl (Nat.le_of_ble_eq_true rfl) (by omega) (by decide) rfl (fun M4 h4 => ?_)
      rw [h4]
      have hw0 : t_wb (M (m + 1)) l 0 9 = 0 := by omega
      have hps : p_set (M (m + 1)) l = .inl (4294967294, t_sk (M (m + 1)) l 0) := by rw [p_set, if_pos hw0]
      exact b_X9_load h9 (by rw [lq_up_c _ _ (by decide), lq_up_s]; decide) (fin _ (by rw [hps]; exact ⟨((r_sf.up (by decide)).tr (r_sf.up (by decide))).tr (r_sf.up (by decide)), by rw [lq_up_c _ _ (by decide), lq_up_s], by rw [lq_up_s], (show ¬ nI 4294967294 = 0 from by decide)⟩))
  · refine qw_iconst (nI 1) dX9_load_18 (by decide) ?_
    refine qw_goto 23 dX9_load_19 (by decide) ?_
    refine qw_iconst (nI 1) dX9_load_23 (by decide) ?_
    refine qw_cvi [_, _] (k_X9_fails h9 (by decide) (by decide) (lq_up_s M m 0 0)) mX9_166 dX9_load_24 h9.1 rfl rfl rfl (Nat.le_of_ble_eq_true rfl) (by omega) (by decide) rfl (fun x1 M2 h1 => ?_)
    obtain ⟨-, rfl, hz⟩ := h1.resolve_left (fun q => absurd q.1 (by decide))
    rw [hz]
    refine qw_if_eqN 32 dX9_load_27 (by decide) (by omega) (fun c27 => absurd c27 (by decide)) (fun c27 => ?_)
    refine qw_iconst (nI 0) dX9_load_30 (by decide) ?_
    exact qw_ireturn rfl rfl dX9_load_31 ⟨rfl, rfl, rfl, _, rfl, Or.inr ⟨q_b_eq c15, by rw [lq_up_up]⟩⟩
end R18
