/-! THE REFERENCE: reading a sponsor, a ban, a statement -/
theorem r_dr.spo {u v : Nat → Nat} {s : p_St} {c p e1 : Nat} (h : r_dr u s) (h0 : u 1 < 8) (v1 : v 1 = u 1 + 1) (vc : v (607 + 2 * u 1) = c) (vp : v (608 + 2 * u 1) = p) (vo : ∀ x, x ≠ 1 → x ≠ 607 + 2 * u 1 → x ≠ 608 + 2 * u 1 → v x = u x) : r_dr v (e1, g_as s.2.1 c p, s.2.2) := by
  obtain ⟨⟨a0, a1, a2, a3⟩, b, cc, ⟨d5, d6, d7⟩, e, f, hq, hp⟩ := h
  have v0 : v 0 = u 0 := vo 0 (by decide) (by omega) (by omega)
  have hg : r_G v (u 0) = r_G u (u 0) := r_G_cong _ (fun x x1 x2 => vo x (by omega) (by omega) (by omega))
  have go : ∀ x, x ≠ 1 → x ≠ 607 + 2 * u 1 → x ≠ 608 + 2 * u 1 → g_as s.2.1 c p x = s.2.1 x := fun x x1 x2 x3 => by rw [g_as, if_neg x1, if_neg (by omega), if_neg (by omega)]
  refine ⟨⟨?_, ?_, ?_, by omega⟩, fun x x1 x2 => ?_, fun x x1 x2 => ?_, ⟨?_, ?_, ?_⟩, fun j hj k k1 k2 => ?_, fun x x1 x2 => ?_, ?_, fun q => ?_⟩
  · show v 0 = g_as s.2.1 c p 0
    rw [go 0 (by decide) (by omega) (by omega), v0, a0]
  · show v 1 = g_as s.2.1 c p 1
    rw [g_as, if_pos rfl, v1, a1]
  · rw [vo 2 (by decide) (by omega) (by omega)]; exact a2
  · show g_as s.2.1 c p x = _
    rw [v0, hg, go x (by omega) (by omega) (by omega)]
    exact b x x1 x2
  · show v x = g_as s.2.1 c p x
    by_cases e2 : x = 607 + 2 * u 1
    · rw [e2, vc, g_as, if_neg (by omega), if_pos (by omega)]
    · by_cases e3 : x = 608 + 2 * u 1
      · rw [e3, vp, g_as, if_neg (by omega), if_neg (by omega), if_pos (by omega)]
      · rw [vo x (by omega) e2 e3, go x (by omega) e2 e3]
        exact cc x x1 x2
  · rw [vo 5 (by decide) (by omega) (by omega)]; exact d5
  · rw [vo 6 (by decide) (by omega) (by omega)]; exact d6
  · show g_as s.2.1 c p 6 = 0
    rw [go 6 (by decide) (by omega) (by omega)]; exact d7
  · rw [v0] at hj
    rw [vo (7 + 30 * j + k) (by omega) (by omega) (by omega)]
    exact e j hj k k1 k2
  · rw [v0] at x1
    rw [vo x (by omega) (by omega) (by omega)]
    exact f x x1 x2
  · show q_cd v s.2.2.2.2.2 s.2.2.2.2.1
    rcases hq with ⟨h1, h2, h3⟩ | ⟨h1, h2, h3⟩
    · exact Or.inl ⟨by rw [vo 4 (by decide) (by omega) (by omega)]; exact h1, h2, h3⟩
    · exact Or.inr ⟨h1, by rw [vo 4 (by decide) (by omega) (by omega)]; exact h2, fun j hj => ⟨by rw [vo _ (by omega) (by omega) (by omega)]; exact (h3 j hj).1, fun q => by rw [vo _ (by omega) (by omega) (by omega)]; exact (h3 j hj).2 q⟩⟩
  · rw [vo 4 (by decide) (by omega) (by omega)]; exact hp q
theorem r_dr.ban {u v : Nat → Nat} {s : p_St} {a b e1 : Nat} (h : r_dr u s) (ha : a ≤ 9) (hb : b ≤ 9) (v2 : v 2 = u 2 + 1) (vb : ∀ x, x ≠ 2 → v x = if x = 623 + 10 * a + b ∨ x = 623 + 10 * b + a then 1 else u x) : r_dr v (e1, g_abn s.2.1 a b, s.2.2.1 + 1, s.2.2.2) := by
  obtain ⟨⟨a0, a1, a2, a3⟩, bb, cc, ⟨d5, d6, d7⟩, e, f, hq, hp⟩ := h
  have vo : ∀ x, x ≠ 2 → (x < 623 ∨ 723 ≤ x) → v x = u x := fun x x1 x2 => by rw [vb x x1, if_neg (by omega)]
  have v0 : v 0 = u 0 := vo 0 (by decide) (by omega)
  have hg : r_G v (u 0) = r_G u (u 0) := r_G_cong _ (fun x x1 x2 => vo x (by omega) (by omega))
  have go : ∀ x, (x < 623 ∨ 723 ≤ x) → g_abn s.2.1 a b x = s.2.1 x := fun x x1 => by rw [g_abn, if_neg (by omega)]
  refine ⟨⟨?_, ?_, ?_, by omega⟩, fun x x1 x2 => ?_, fun x x1 x2 => ?_, ⟨?_, ?_, ?_⟩, fun j hj k k1 k2 => ?_, fun x x1 x2 => ?_, ?_, fun q => ?_⟩
  · show v 0 = g_abn s.2.1 a b 0
    rw [go 0 (by omega), v0, a0]
  · show v 1 = g_abn s.2.1 a b 1
    rw [go 1 (by omega), vo 1 (by decide) (by omega), a1]
  · show v 2 = s.2.2.1 + 1
    rw [v2, a2]
  · show g_abn s.2.1 a b x = _
    rw [v0, hg, go x (by omega)]
    exact bb x x1 x2
  · show v x = g_abn s.2.1 a b x
    rw [vb x (by omega), g_abn, cc x x1 x2]
  · rw [vo 5 (by decide) (by omega)]; exact d5
  · rw [vo 6 (by decide) (by omega)]; exact d6
  · show g_abn s.2.1 a b 6 = 0
    rw [go 6 (by omega)]; exact d7
  · rw [v0] at hj
    rw [vo (7 + 30 * j + k) (by omega) (by omega)]
    exact e j hj k k1 k2
  · rw [v0] at x1
    rw [vo x (by omega) (by omega)]
    exact f x x1 x2
  · show q_cd v s.2.2.2.2.2 s.2.2.2.2.1
    rcases hq with ⟨h1, h2, h3⟩ | ⟨h1, h2, h3⟩
    · exact Or.inl ⟨by rw [vo 4 (by decide) (by omega)]; exact h1, h2, h3⟩
    · exact Or.inr ⟨h1, by rw [vo 4 (by decide) (by omega)]; exact h2, fun j hj => ⟨by rw [vo _ (by omega) (by omega)]; exact (h3 j hj).1, fun q => by rw [vo _ (by omega) (by omega)]; exact (h3 j hj).2 q⟩⟩
  · rw [vo 4 (by decide) (by omega)]; exact hp q
theorem r_dr.prc {u v : Nat → Nat} {s : p_St} {e1 n : Nat} {tk : Nat → Nat × Nat} (h : r_dr u s) (hn : 0 < n) (hc : r_cd v tk n) (vo : ∀ x, x ≠ 3 → x ≠ 4 → x < 1363 → v x = u x) : r_dr v (e1, s.2.1, s.2.2.1, 1, n, tk) := by
  obtain ⟨⟨a0, a1, a2, a3⟩, bb, cc, ⟨d5, d6, d7⟩, e, f, hq, hp⟩ := h
  have v0 : v 0 = u 0 := vo 0 (by decide) (by decide) (by decide)
  have hg : r_G v (u 0) = r_G u (u 0) := r_G_cong _ (fun x x1 x2 => vo x (by omega) (by omega) (by omega))
  refine ⟨⟨by rw [v0]; exact a0, by rw [vo 1 (by decide) (by decide) (by decide)]; exact a1, by rw [vo 2 (by decide) (by decide) (by decide)]; exact a2, by omega⟩, fun x x1 x2 => by rw [v0, hg]; exact bb x x1 x2, fun x x1 x2 => by rw [vo x (by omega) (by omega) x2]; exact cc x x1 x2, ⟨by rw [vo 5 (by decide) (by decide) (by decide)]; exact d5, by rw [vo 6 (by decide) (by decide) (by decide)]; exact d6, d7⟩, fun j hj k k1 k2 => ?_, fun x x1 x2 => ?_, Or.inr ⟨hn, hc.1, hc.2⟩, fun q => absurd q (show ¬ (1 : Nat) = 0 by decide)⟩
  · rw [v0] at hj
    rw [vo (7 + 30 * j + k) (by omega) (by omega) (by omega)]
    exact e j hj k k1 k2
  · rw [v0] at x1
    rw [vo x (by omega) (by omega) (by omega)]
    exact f x x1 x2
noncomputable def p_br4 (r : p_Q) (s : p_St) : p_T := match r with
  | .inl x => .inl x
  | .inr x => .inr (x.1, x.2, s.2.2.1 + 1, s.2.2.2)
section R16
variable {G : lq_G} {z : Nat} {S : lq_S} {M : lq_M} {N : lq_N} {m : Nat} {fh fo : Nat → Option Nat}
theorem b1_X9_readSponsor (h9 : sh9 S m fh fo) (h0 : ¬ nI (M m 5) = 0) {a : Nat} (ha : a < 700) {Q : lq_P} (hQ : ∀ M1, r_bd m M M1 → Q none z S M1 N) : LW G YX9_readSponsor 3 0 0 Q lq_no z S M N 67 [some (.ref m), none, some (.int (nI a))] [] := by
  refine qw_aload_n 0 dX9_readSponsor_67 rfl rfl ?_
  refine qw_getr fX9_20 dX9_readSponsor_68 h9.1 rfl ?_
  refine qw_iconst (nI 1) dX9_readSponsor_71 (by decide) ?_
  refine qw_dup2 dX9_readSponsor_72 rfl rfl ?_
  refine qw_iald dX9_readSponsor_73 h9.dr (by omega) (by omega) ?_
  refine qw_iconst (nI 1) dX9_readSponsor_74 (by decide) ?_
  refine qw_addN dX9_readSponsor_75 ?_
  refine qw_iast dX9_readSponsor_76 h9.dr (by omega) (by omega) ?_
  exact qw_return rfl dX9_readSponsor_77 (hQ _ r_bd.dr)
theorem b0_X9_readSponsor (h9 : sh9 S m fh fo) (h0 : ¬ nI (M m 5) = 0) {a : Nat} (ha : a < 700) {Q : lq_P} (hQ : ∀ M1, r_bd m M M1 → Q none z S M1 N) : LW G YX9_readSponsor 3 0 0 Q lq_no z S M N 52 [some (.ref m), none, some (.int (nI a))] [] := by
  refine qw_aload_n 0 dX9_readSponsor_52 rfl rfl ?_
  refine qw_getr fX9_20 dX9_readSponsor_53 h9.1 rfl ?_
  refine qw_iload_n 2 dX9_readSponsor_56 rfl rfl ?_
  refine qw_iconst (nI 1) dX9_readSponsor_57 (by decide) ?_
  refine qw_addN dX9_readSponsor_58 ?_
  refine qw_aload_n 0 dX9_readSponsor_59 rfl rfl ?_
  refine qw_iconst (nI 1) dX9_readSponsor_60 (by decide) ?_
  refine qw_bipush (nI 9) dX9_readSponsor_61 (by decide) ?_
  refine qw_cvp [_, _] (k_X9_number_b h9 h0) mX9_127 dX9_readSponsor_63 h9.1 rfl rfl rfl (Nat.le_of_ble_eq_true rfl) (by omega) (by decide) rfl ?_
  refine qw_iast dX9_readSponsor_66 h9.dr (by omega) (by omega) ?_
  exact b1_X9_readSponsor h9 (by rw [lq_up_n _ _ _ (by omega)]; exact h0) ha (fun M1 h1 => hQ M1 (r_bd.dr.tr h1))
theorem k_X9_readSponsor {L : Nat} (h9 : sh9 S m fh fo) (hL8 : L ≤ 800) {t : Nat → Nat} (ht : ∀ j, j < L → t j < 256) {s : p_St} (hs : p_sw L s) (hM : ∀ j, j < L → M (m + 1) j = t j) (hL : M m 3 = L) (h0 : M m 5 = 0) (h4 : M m 4 = t_en t L (t_sk t L s.1)) (h13 : M m 13 = 0) (h14 : M m 14 = s.2.2.2.1) (hD : r_dr (M (m + 3)) s) : LM G YX9_readSponsor 3 0 0 [.ref m, .int (nI (t_sk t L s.1))] z S M N (lq_mv z S N (fun M1 => r_sP m M M1 t L (p_br3 (p_spo t L s.2.1 s.1) s))) lq_no := by
  have hW := hs.2.1
  have he := hs.1
  have h8 := hW.ns
  obtain ⟨⟨a0, a1, a2, a3⟩, -⟩ := id hD
  have hsk := t_sk_le (t := t) he
  have hen := t_en_le (t := t) hsk
  refine LM.of (by decide) rfl [some (.ref m), some (.int (nI (t_sk t L s.1))), none] rfl (Nat.le_of_ble_eq_true rfl) ?_
  refine qw_aload_n 0 dX9_readSponsor_0 rfl rfl ?_
  refine qw_getr fX9_20 dX9_readSponsor_1 h9.1 rfl ?_
  refine qw_iconst (nI 1) dX9_readSponsor_4 (by decide) ?_
  refine qw_iald dX9_readSponsor_5 h9.dr (by omega) (by omega) ?_
  refine qw_bipush (nI 8) dX9_readSponsor_6 (by decide) ?_
  refine qw_icmp_neN 18 dX9_readSponsor_8 (by decide) (by omega) (by omega) (fun c8 => ?_) (fun c8 => ?_)
  · refine qw_aload_n 0 dX9_readSponsor_18 rfl rfl ?_
    refine qw_cvp [] (k_X9_isGood_g h9 h0) mX9_70 dX9_readSponsor_19 h9.1 rfl rfl rfl (Nat.le_of_ble_eq_true rfl) (by omega) (by decide) rfl ?_
    refine qw_if_neN 26 dX9_readSponsor_22 (by decide) (by omega) (fun c22 => ?_) (fun c22 => absurd c22 (by decide))
    have c8n : ¬ 8 ≤ s.2.1 1 := by omega
    refine qw_sipush (nI 607) dX9_readSponsor_26 (by decide) ?_
    refine qw_iconst (nI 2) dX9_readSponsor_29 (by decide) ?_
    refine qw_aload_n 0 dX9_readSponsor_30 rfl rfl ?_
    refine qw_getr fX9_20 dX9_readSponsor_31 h9.1 rfl ?_
    refine qw_iconst (nI 1) dX9_readSponsor_34 (by decide) ?_
    refine qw_iald dX9_readSponsor_35 h9.dr (by omega) (by omega) ?_
    refine qw_mulN dX9_readSponsor_36 ?_
    refine qw_addN dX9_readSponsor_37 ?_
    refine qw_istore_n 2 dX9_readSponsor_38 rfl rfl (by decide) ?_
    refine qw_aload_n 0 dX9_readSponsor_39 rfl rfl ?_
    refine qw_getr fX9_20 dX9_readSponsor_40 h9.1 rfl ?_
    refine qw_iload_n 2 dX9_readSponsor_43 rfl rfl ?_
    refine qw_aload_n 0 dX9_readSponsor_44 rfl rfl ?_
    refine qw_iconst (nI 0) dX9_readSponsor_45 (by decide) ?_
    refine qw_bipush (nI 9) dX9_readSponsor_46 (by decide) ?_
    refine qw_cvi [_, _] (k_X9_number_g (lo := 0) (hi := 9) (e := (t_en t L (t_sk t L s.1))) h9 hL8 ht hM hL h4 ⟨hen, rfl⟩ h0 (by decide) (by decide)) mX9_127 dX9_readSponsor_48 h9.1 rfl rfl rfl (Nat.le_of_ble_eq_true rfl) (by omega) (by decide) rfl (fun y1 M1 h1 => ?_)
    cases hr1 : p_nu t L 0 9 (t_en t L (t_sk t L s.1)) with
    | inl x0 =>
      rw [hr1] at h1
      obtain ⟨q1, q2, q3, q4⟩ := h1
      have hb : p_br3 (p_spo t L s.2.1 s.1) s = .inl x0 := by unfold p_br3 p_spo p_two; rw [if_neg c8n]; simp only [hr1]
      rw [← q_u_n y1]
      refine qw_iasj (607 + 2 * M (m + 3) 1) (by omega) dX9_readSponsor_51 h9.dr (by omega) (by omega) ?_
      exact qw_weak _ (by simp [lq_le]) (b0_X9_readSponsor h9 (by rw [lq_up_n _ _ _ (by omega), q1]; exact q4) (a := 607 + 2 * M (m + 3) 1) (by omega) (fun MZ hz => ⟨rfl, rfl, rfl, rfl, by rw [hb]; exact ⟨(q3.sf.tr r_sf.dr).tr hz.1, by rw [hz.2.1, lq_up_n _ _ _ (by omega)]; exact q1, by rw [hz.2.2, lq_up_n _ _ _ (by omega)]; exact q2, q4⟩⟩))
    | inr x1 =>
      rw [hr1] at h1
      have i1 := p_nu_inr hen hr1
      obtain ⟨rfl, g15, g14, g112, g16, g1r⟩ := h1
      refine qw_iasj (607 + 2 * M (m + 3) 1) (by omega) dX9_readSponsor_51 h9.dr (by omega) (by omega) ?_
      have f1 : r_sf m M (lq_up M1 (m + 3) (607 + 2 * M (m + 3) 1) x1.1) := g1r.sf.tr r_sf.dr
      have tM1 : ∀ j, j < L → (lq_up M1 (m + 3) (607 + 2 * M (m + 3) 1) x1.1) (m + 1) j = t j := fun j hj => by rw [f1.2 (m + 1) (by omega) (by omega)]; exact hM j hj
      have tL1 : (lq_up M1 (m + 3) (607 + 2 * M (m + 3) 1) x1.1) m 3 = L := by rw [f1.1 3 (by decide) (by decide) (by decide) (by decide) (by decide) (by decide)]; exact hL
      have t01 : (lq_up M1 (m + 3) (607 + 2 * M (m + 3) 1) x1.1) m 5 = 0 := by rw [lq_up_n _ _ _ (by omega)]; exact g15
      have t41 : (lq_up M1 (m + 3) (607 + 2 * M (m + 3) 1) x1.1) m 4 = x1.2 := by rw [lq_up_n _ _ _ (by omega)]; exact g14
      have t131 : (lq_up M1 (m + 3) (607 + 2 * M (m + 3) 1) x1.1) m 13 = 0 := by rw [lq_up_n _ _ _ (by omega), g1r.1 13 (by decide) (by decide) (by decide) (by decide)]; exact h13
      have t141 : (lq_up M1 (m + 3) (607 + 2 * M (m + 3) 1) x1.1) m 14 = s.2.2.2.1 := by rw [lq_up_n _ _ _ (by omega), g1r.1 14 (by decide) (by decide) (by decide) (by decide)]; exact h14
      have u1 : ∀ x, (lq_up M1 (m + 3) (607 + 2 * M (m + 3) 1) x1.1) (m + 3) x = if x = 607 + 2 * M (m + 3) 1 then x1.1 else M (m + 3) x := fun x => by rw [lq_up_x, g1r.2 (m + 3) (by omega)]
      refine qw_aload_n 0 dX9_readSponsor_52 rfl rfl ?_
      refine qw_getr fX9_20 dX9_readSponsor_53 h9.1 rfl ?_
      refine qw_iload_n 2 dX9_readSponsor_56 rfl rfl ?_
      refine qw_iconst (nI 1) dX9_readSponsor_57 (by decide) ?_
      refine qw_addN dX9_readSponsor_58 ?_
      refine qw_aload_n 0 dX9_readSponsor_59 rfl rfl ?_
      refine qw_iconst (nI 1) dX9_readSponsor_60 (by decide) ?_
      refine qw_bipush (nI 9) dX9_readSponsor_61 (by decide) ?_
      refine qw_cvi [_, _] (k_X9_number_g (lo := 1) (hi := 9) (e := x1.2) h9 hL8 ht tM1 tL1 t41 ⟨i1.2.2.2.2.2, rfl⟩ t01 (by decide) (by decide)) mX9_127 dX9_readSponsor_63 h9.1 rfl rfl rfl (Nat.le_of_ble_eq_true rfl) (by omega) (by decide) rfl (fun y2 M2 h2 => ?_)
      cases hr2 : p_nu t L 1 9 x1.2 with
      | inl x0 =>
        rw [hr2] at h2
        obtain ⟨q1, q2, q3, q4⟩ := h2
        have hb : p_br3 (p_spo t L s.2.1 s.1) s = .inl x0 := by unfold p_br3 p_spo p_two; rw [if_neg c8n]; simp only [hr1, hr2]
        rw [← q_u_n y2]
        refine qw_iasj (608 + 2 * M (m + 3) 1) (by omega) dX9_readSponsor_66 h9.dr (by omega) (by omega) ?_
        exact qw_weak _ (by simp [lq_le]) (b1_X9_readSponsor h9 (by rw [lq_up_n _ _ _ (by omega), q1]; exact q4) (a := 607 + 2 * M (m + 3) 1) (by omega) (fun MZ hz => ⟨rfl, rfl, rfl, rfl, by rw [hb]; exact ⟨((f1.tr q3.sf).tr r_sf.dr).tr hz.1, by rw [hz.2.1, lq_up_n _ _ _ (by omega)]; exact q1, by rw [hz.2.2, lq_up_n _ _ _ (by omega)]; exact q2, q4⟩⟩))
      | inr x2 =>
        rw [hr2] at h2
        have i2 := p_nu_inr i1.2.2.2.2.2 hr2
        obtain ⟨rfl, g25, g24, g212, g26, g2r⟩ := h2
        have hb : p_br3 (p_spo t L s.2.1 s.1) s = .inr (x2.2, g_as s.2.1 x1.1 x2.1, s.2.2) := by unfold p_br3 p_spo p_two; rw [if_neg c8n]; simp only [hr1, hr2]
        refine qw_iasj (608 + 2 * M (m + 3) 1) (by omega) dX9_readSponsor_66 h9.dr (by omega) (by omega) ?_
        refine qw_aload_n 0 dX9_readSponsor_67 rfl rfl ?_
        refine qw_getr fX9_20 dX9_readSponsor_68 h9.1 rfl ?_
        refine qw_iconst (nI 1) dX9_readSponsor_71 (by decide) ?_
        refine qw_dup2 dX9_readSponsor_72 rfl rfl ?_
        refine qw_iald dX9_readSponsor_73 h9.dr (by omega) (by omega) ?_
        refine qw_iconst (nI 1) dX9_readSponsor_74 (by decide) ?_
        refine qw_addN dX9_readSponsor_75 ?_
        refine qw_iast dX9_readSponsor_76 h9.dr (by omega) (by omega) ?_
        exact qw_return rfl dX9_readSponsor_77 ⟨rfl, rfl, rfl, rfl, by rw [hb]; exact ⟨((f1.tr g2r.sf).tr r_sf.dr).tr r_sf.dr, by rw [lq_up_n _ _ _ (by omega), lq_up_n _ _ _ (by omega), g26, lq_up_n _ _ _ (by omega)]; exact g16, by rw [lq_up_n _ _ _ (by omega), lq_up_n _ _ _ (by omega)]; exact g25, by rw [lq_up_n _ _ _ (by omega), lq_up_n _ _ _ (by omega), g24]; exact ⟨i2.2.2.2.2.2, rfl⟩, by rw [lq_up_n _ _ _ (by omega), lq_up_n _ _ _ (by omega), g2r.1 13 (by decide) (by decide) (by decide) (by decide)]; exact t131, by rw [lq_up_n _ _ _ (by omega), lq_up_n _ _ _ (by omega), g2r.1 14 (by decide) (by decide) (by decide) (by decide)]; exact t141, hD.spo (by omega) (by rw [lq_up_s, lq_up_c _ _ (by omega), g2r.2 (m + 3) (by omega), u1 1, if_neg (by omega)]) (by rw [lq_up_c _ _ (by omega), lq_up_c _ _ (by omega), g2r.2 (m + 3) (by omega), u1 _, if_pos rfl]) (by rw [lq_up_c _ _ (by omega), lq_up_s]) (fun x x1 x2 x3 => by rw [lq_up_c _ _ x1, lq_up_c _ _ x3, g2r.2 (m + 3) (by omega), u1 x, if_neg x2])⟩⟩
  · refine qw_aload_n 0 dX9_readSponsor_11 rfl rfl ?_
    refine qw_bipush (-4) dX9_readSponsor_12 (by decide) ?_
    rw [show (-4 : Int32) = nI 4294967292 by decide]
    refine qw_iload_n 1 dX9_readSponsor_14 rfl rfl ?_
    refine qw_cvv [_, _] (k_X9_report_g h9 h0) mX9_87 dX9_readSponsor_15 h9.1 rfl rfl rfl (Nat.le_of_ble_eq_true rfl) (by omega) (by decide) rfl (fun M2 h2 => ?_)
    subst h2
    refine qw_aload_n 0 dX9_readSponsor_18 rfl rfl ?_
    refine qw_cvp [] (k_X9_isGood_b h9 (by rw [lq_up_c _ _ (by decide), lq_up_s]; decide)) mX9_70 dX9_readSponsor_19 h9.1 rfl rfl rfl (Nat.le_of_ble_eq_true rfl) (by omega) (by decide) rfl ?_
    refine qw_if_neN 26 dX9_readSponsor_22 (by decide) (by omega) (fun c22 => absurd rfl c22) (fun c22 => ?_)
    exact qw_return rfl dX9_readSponsor_25 ⟨rfl, rfl, rfl, rfl, by rw [show p_br3 (p_spo t L s.2.1 s.1) s = .inl (4294967292, t_sk t L s.1) by unfold p_br3 p_spo; rw [if_pos (by omega)]]; exact ⟨(r_sf.up (by decide)).tr (r_sf.up (by decide)), by rw [lq_up_c _ _ (by decide), lq_up_s], by rw [lq_up_s], (show ¬ nI 4294967292 = 0 from by decide)⟩⟩
theorem k_X9_readBan {L : Nat} (h9 : sh9 S m fh fo) (hL8 : L ≤ 800) {t : Nat → Nat} (ht : ∀ j, j < L → t j < 256) {s : p_St} (hs : p_sw L s) (hM : ∀ j, j < L → M (m + 1) j = t j) (hL : M m 3 = L) (h0 : M m 5 = 0) (h4 : M m 4 = t_en t L (t_sk t L s.1)) (h13 : M m 13 = 0) (h14 : M m 14 = s.2.2.2.1) (hD : r_dr (M (m + 3)) s) : LM G YX9_readBan 3 0 0 [.ref m, .int (nI (t_sk t L s.1))] z S M N (lq_mv z S N (fun M1 => r_sP m M M1 t L (p_br4 (p_ban t L s.2.1 s.2.2.1 s.1) s))) lq_no := by
  have hW := hs.2.1
  have he := hs.1
  have h8 := hW.ns
  obtain ⟨⟨a0, a1, a2, a3⟩, -⟩ := id hD
  have hsk := t_sk_le (t := t) he
  have hen := t_en_le (t := t) hsk
  have hbc := hs.2.2.2.1
  refine LM.of (by decide) rfl [some (.ref m), some (.int (nI (t_sk t L s.1))), none, none] rfl (Nat.le_of_ble_eq_true rfl) ?_
  refine qw_aload_n 0 dX9_readBan_0 rfl rfl ?_
  refine qw_getr fX9_20 dX9_readBan_1 h9.1 rfl ?_
  refine qw_iconst (nI 2) dX9_readBan_4 (by decide) ?_
  refine qw_iald dX9_readBan_5 h9.dr (by omega) (by omega) ?_
  refine qw_bipush (nI 10) dX9_readBan_6 (by decide) ?_
  refine qw_icmp_neN 18 dX9_readBan_8 (by decide) (by omega) (by omega) (fun c8 => ?_) (fun c8 => ?_)
  · have c8n : ¬ 10 ≤ s.2.2.1 := by omega
    refine qw_aload_n 0 dX9_readBan_18 rfl rfl ?_
    refine qw_iconst (nI 0) dX9_readBan_19 (by decide) ?_
    refine qw_bipush (nI 9) dX9_readBan_20 (by decide) ?_
    refine qw_cvi [_, _] (k_X9_number_g (lo := 0) (hi := 9) (e := (t_en t L (t_sk t L s.1))) h9 hL8 ht hM hL h4 ⟨hen, rfl⟩ h0 (by decide) (by decide)) mX9_127 dX9_readBan_22 h9.1 rfl rfl rfl (Nat.le_of_ble_eq_true rfl) (by omega) (by decide) rfl (fun y1 M1 h1 => ?_)
    cases hr1 : p_nu t L 0 9 (t_en t L (t_sk t L s.1)) with
    | inl x0 =>
      rw [hr1] at h1
      obtain ⟨q1, q2, q3, q4⟩ := h1
      have hb : p_br4 (p_ban t L s.2.1 s.2.2.1 s.1) s = .inl x0 := by unfold p_br4 p_ban p_two; rw [if_neg c8n]; simp only [hr1]
      have hbad : ¬ nI (M1 m 5) = 0 := by rw [q1]; exact q4
      refine qw_istore_n 2 dX9_readBan_25 rfl rfl (by decide) ?_
      refine qw_aload_n 0 dX9_readBan_26 rfl rfl ?_
      refine qw_iconst (nI 0) dX9_readBan_27 (by decide) ?_
      refine qw_bipush (nI 9) dX9_readBan_28 (by decide) ?_
      refine qw_cvp [_, _] (k_X9_number_b h9 hbad) mX9_127 dX9_readBan_30 h9.1 rfl rfl rfl (Nat.le_of_ble_eq_true rfl) (by omega) (by decide) rfl ?_
      refine qw_istore_n 3 dX9_readBan_33 rfl rfl (by decide) ?_
      refine qw_aload_n 0 dX9_readBan_34 rfl rfl ?_
      refine qw_cvp [] (k_X9_isGood_b h9 hbad) mX9_70 dX9_readBan_35 h9.1 rfl rfl rfl (Nat.le_of_ble_eq_true rfl) (by omega) (by decide) rfl ?_
      refine qw_if_neN 42 dX9_readBan_38 (by decide) (by omega) (fun c38 => absurd rfl c38) (fun c38 => ?_)
      exact qw_return rfl dX9_readBan_41 ⟨rfl, rfl, rfl, rfl, by rw [hb]; exact ⟨q3.sf, q1, q2, q4⟩⟩
    | inr x1 =>
      rw [hr1] at h1
      have i1 := p_nu_inr hen hr1
      obtain ⟨rfl, g15, g14, g112, g16, g1r⟩ := h1
      have tM1 : ∀ j, j < L → M1 (m + 1) j = t j := fun j hj => by rw [g1r.2 (m + 1) (by omega)]; exact hM j hj
      have tL1 : M1 m 3 = L := by rw [g1r.1 3 (by decide) (by decide) (by decide) (by decide)]; exact hL
      refine qw_istore_n 2 dX9_readBan_25 rfl rfl (by decide) ?_
      refine qw_aload_n 0 dX9_readBan_26 rfl rfl ?_
      refine qw_iconst (nI 0) dX9_readBan_27 (by decide) ?_
      refine qw_bipush (nI 9) dX9_readBan_28 (by decide) ?_
      refine qw_cvi [_, _] (k_X9_number_g (lo := 0) (hi := 9) (e := x1.2) h9 hL8 ht tM1 tL1 g14 ⟨i1.2.2.2.2.2, rfl⟩ g15 (by decide) (by decide)) mX9_127 dX9_readBan_30 h9.1 rfl rfl rfl (Nat.le_of_ble_eq_true rfl) (by omega) (by decide) rfl (fun y2 M2 h2 => ?_)
      cases hr2 : p_nu t L 0 9 x1.2 with
      | inl x0 =>
        rw [hr2] at h2
        obtain ⟨q1, q2, q3, q4⟩ := h2
        have hb : p_br4 (p_ban t L s.2.1 s.2.2.1 s.1) s = .inl x0 := by unfold p_br4 p_ban p_two; rw [if_neg c8n]; simp only [hr1, hr2]
        have hbad : ¬ nI (M2 m 5) = 0 := by rw [q1]; exact q4
        refine qw_istore_n 3 dX9_readBan_33 rfl rfl (by decide) ?_
        refine qw_aload_n 0 dX9_readBan_34 rfl rfl ?_
        refine qw_cvp [] (k_X9_isGood_b h9 hbad) mX9_70 dX9_readBan_35 h9.1 rfl rfl rfl (Nat.le_of_ble_eq_true rfl) (by omega) (by decide) rfl ?_
        refine qw_if_neN 42 dX9_readBan_38 (by decide) (by omega) (fun c38 => absurd rfl c38) (fun c38 => ?_)
        exact qw_return rfl dX9_readBan_41 ⟨rfl, rfl, rfl, rfl, by rw [hb]; exact ⟨g1r.sf.tr q3.sf, q1, q2, q4⟩⟩
      | inr x2 =>
        rw [hr2] at h2
        have i2 := p_nu_inr i1.2.2.2.2.2 hr2
        obtain ⟨rfl, g25, g24, g212, g26, g2r⟩ := h2
        have hu : M2 (m + 3) = M (m + 3) := by rw [g2r.2 (m + 3) (by omega), g1r.2 (m + 3) (by omega)]
        have hb : p_br4 (p_ban t L s.2.1 s.2.2.1 s.1) s = .inr (x2.2, g_abn s.2.1 x1.1 x2.1, s.2.2.1 + 1, s.2.2.2) := by unfold p_br4 p_ban p_two; rw [if_neg c8n]; simp only [hr1, hr2]
        refine qw_istore_n 3 dX9_readBan_33 rfl rfl (by decide) ?_
        refine qw_aload_n 0 dX9_readBan_34 rfl rfl ?_
        refine qw_cvp [] (k_X9_isGood_g h9 g25) mX9_70 dX9_readBan_35 h9.1 rfl rfl rfl (Nat.le_of_ble_eq_true rfl) (by omega) (by decide) rfl ?_
        refine qw_if_neN 42 dX9_readBan_38 (by decide) (by omega) (fun c38 => ?_) (fun c38 => absurd c38 (by decide))
        refine qw_aload_n 0 dX9_readBan_42 rfl rfl ?_
        refine qw_getr fX9_20 dX9_readBan_43 h9.1 rfl ?_
        refine qw_sipush (nI 623) dX9_readBan_46 (by decide) ?_
        refine qw_bipush (nI 10) dX9_readBan_49 (by decide) ?_
        refine qw_iload_n 2 dX9_readBan_51 rfl rfl ?_
        refine qw_mulN dX9_readBan_52 ?_
        refine qw_addN dX9_readBan_53 ?_
        refine qw_iload_n 3 dX9_readBan_54 rfl rfl ?_
        refine qw_addN dX9_readBan_55 ?_
        refine qw_iconst (nI 1) dX9_readBan_56 (by decide) ?_
        refine qw_iasj (623 + 10 * x1.1 + x2.1) (by omega) dX9_readBan_57 h9.dr (by omega) (by omega) ?_
        refine qw_aload_n 0 dX9_readBan_58 rfl rfl ?_
        refine qw_getr fX9_20 dX9_readBan_59 h9.1 rfl ?_
        refine qw_sipush (nI 623) dX9_readBan_62 (by decide) ?_
        refine qw_bipush (nI 10) dX9_readBan_65 (by decide) ?_
        refine qw_iload_n 3 dX9_readBan_67 rfl rfl ?_
        refine qw_mulN dX9_readBan_68 ?_
        refine qw_addN dX9_readBan_69 ?_
        refine qw_iload_n 2 dX9_readBan_70 rfl rfl ?_
        refine qw_addN dX9_readBan_71 ?_
        refine qw_iconst (nI 1) dX9_readBan_72 (by decide) ?_
        refine qw_iasj (623 + 10 * x2.1 + x1.1) (by omega) dX9_readBan_73 h9.dr (by omega) (by omega) ?_
        refine qw_aload_n 0 dX9_readBan_74 rfl rfl ?_
        refine qw_getr fX9_20 dX9_readBan_75 h9.1 rfl ?_
        refine qw_iconst (nI 2) dX9_readBan_78 (by decide) ?_
        refine qw_dup2 dX9_readBan_79 rfl rfl ?_
        refine qw_iald dX9_readBan_80 h9.dr (by omega) (by omega) ?_
        refine qw_iconst (nI 1) dX9_readBan_81 (by decide) ?_
        refine qw_addN dX9_readBan_82 ?_
        refine qw_iast dX9_readBan_83 h9.dr (by omega) (by omega) ?_
        exact qw_return rfl dX9_readBan_84 ⟨rfl, rfl, rfl, rfl, by rw [hb]; exact ⟨(((g1r.sf.tr g2r.sf).tr r_sf.dr).tr r_sf.dr).tr r_sf.dr, by rw [lq_up_n _ _ _ (by omega), lq_up_n _ _ _ (by omega), lq_up_n _ _ _ (by omega), g26]; exact g16, by rw [lq_up_n _ _ _ (by omega), lq_up_n _ _ _ (by omega), lq_up_n _ _ _ (by omega)]; exact g25, by rw [lq_up_n _ _ _ (by omega), lq_up_n _ _ _ (by omega), lq_up_n _ _ _ (by omega), g24]; exact ⟨i2.2.2.2.2.2, rfl⟩, by rw [lq_up_n _ _ _ (by omega), lq_up_n _ _ _ (by omega), lq_up_n _ _ _ (by omega), g2r.1 13 (by decide) (by decide) (by decide) (by decide), g1r.1 13 (by decide) (by decide) (by decide) (by decide)]; exact h13, by rw [lq_up_n _ _ _ (by omega), lq_up_n _ _ _ (by omega), lq_up_n _ _ _ (by omega), g2r.1 14 (by decide) (by decide) (by decide) (by decide), g1r.1 14 (by decide) (by decide) (by decide) (by decide)]; exact h14, hD.ban i1.2.2.2.1 i2.2.2.2.1 (by rw [lq_up_s, lq_up_c _ _ (by omega), lq_up_c _ _ (by omega), hu]) (fun x x1 => by
          rw [lq_up_c _ _ x1, lq_up_x, lq_up_x, hu]
          split
          · rw [if_pos (by omega)]
          · split
            · rw [if_pos (by omega)]
            · rw [if_neg (by omega)])⟩⟩
  · refine qw_aload_n 0 dX9_readBan_11 rfl rfl ?_
    refine qw_bipush (-4) dX9_readBan_12 (by decide) ?_
    rw [show (-4 : Int32) = nI 4294967292 by decide]
    refine qw_iload_n 1 dX9_readBan_14 rfl rfl ?_
    refine qw_cvv [_, _] (k_X9_report_g h9 h0) mX9_87 dX9_readBan_15 h9.1 rfl rfl rfl (Nat.le_of_ble_eq_true rfl) (by omega) (by decide) rfl (fun M2 h2 => ?_)
    subst h2
    have hbad : ¬ nI ((lq_up (lq_up M m 5 4294967292) m 6 (t_sk t L s.1)) m 5) = 0 := by rw [lq_up_c _ _ (by decide), lq_up_s]; decide
    refine qw_aload_n 0 dX9_readBan_18 rfl rfl ?_
    refine qw_iconst (nI 0) dX9_readBan_19 (by decide) ?_
    refine qw_bipush (nI 9) dX9_readBan_20 (by decide) ?_
    refine qw_cvp [_, _] (k_X9_number_b h9 hbad) mX9_127 dX9_readBan_22 h9.1 rfl rfl rfl (Nat.le_of_ble_eq_true rfl) (by omega) (by decide) rfl ?_
    refine qw_istore_n 2 dX9_readBan_25 rfl rfl (by decide) ?_
    refine qw_aload_n 0 dX9_readBan_26 rfl rfl ?_
    refine qw_iconst (nI 0) dX9_readBan_27 (by decide) ?_
    refine qw_bipush (nI 9) dX9_readBan_28 (by decide) ?_
    refine qw_cvp [_, _] (k_X9_number_b h9 hbad) mX9_127 dX9_readBan_30 h9.1 rfl rfl rfl (Nat.le_of_ble_eq_true rfl) (by omega) (by decide) rfl ?_
    refine qw_istore_n 3 dX9_readBan_33 rfl rfl (by decide) ?_
    refine qw_aload_n 0 dX9_readBan_34 rfl rfl ?_
    refine qw_cvp [] (k_X9_isGood_b h9 hbad) mX9_70 dX9_readBan_35 h9.1 rfl rfl rfl (Nat.le_of_ble_eq_true rfl) (by omega) (by decide) rfl ?_
    refine qw_if_neN 42 dX9_readBan_38 (by decide) (by omega) (fun c38 => absurd rfl c38) (fun c38 => ?_)
    exact qw_return rfl dX9_readBan_41 ⟨rfl, rfl, rfl, rfl, by rw [show p_br4 (p_ban t L s.2.1 s.2.2.1 s.1) s = .inl (4294967292, t_sk t L s.1) by unfold p_br4 p_ban; rw [if_pos (by omega)]]; exact ⟨(r_sf.up (by decide)).tr (r_sf.up (by decide)), by rw [lq_up_c _ _ (by decide), lq_up_s], by rw [lq_up_s], (show ¬ nI 4294967292 = 0 from by decide)⟩⟩
theorem k_X9_once_0 (h9 : sh9 S m fh fo) (h0 : M m 5 = 0) (h14 : M m 14 = 0) {o : Nat} : LM G YX9_once 1 0 0 [.ref m, .int (nI 0), .int (nI o)] z S M N (lq_mv z S N (fun M1 => M1 = lq_up M m 14 1)) lq_no := by
  refine LM.of (by decide) rfl [some (.ref m), some (.int (nI 0)), some (.int (nI o))] rfl (Nat.le_of_ble_eq_true rfl) ?_
  refine qw_aload_n 0 dX9_once_0 rfl rfl ?_
  refine qw_geti fX9_139 dX9_once_1 h9.1 rfl ?_
  rw [h14]
  refine qw_iload_n 1 dX9_once_4 rfl rfl ?_
  refine qw_shrN (by decide) (by decide) dX9_once_5 ?_
  refine qw_iconst (nI 1) dX9_once_6 (by decide) ?_
  refine qw_andN dX9_once_7 ?_
  refine qw_iconst (nI 1) dX9_once_8 (by decide) ?_
  refine qw_icmp_neN 19 dX9_once_9 (by decide) (by decide) (by decide) (fun c9 => ?_) (fun c9 => absurd c9 (by decide))
  refine qw_aload_n 0 dX9_once_19 rfl rfl ?_
  refine qw_dup dX9_once_20 rfl ?_
  refine qw_geti fX9_139 dX9_once_21 h9.1 rfl ?_
  rw [h14]
  refine qw_iconst (nI 1) dX9_once_24 (by decide) ?_
  refine qw_iload_n 1 dX9_once_25 rfl rfl ?_
  refine qw_shlN (by decide) (by decide) dX9_once_26 ?_
  refine qw_orN dX9_once_27 ?_
  refine qw_puti fX9_139 dX9_once_28 h9.1 rfl ?_
  exact qw_return rfl dX9_once_31 ⟨rfl, rfl, rfl, rfl, rfl⟩
theorem k_X9_once_1 (h9 : sh9 S m fh fo) (h0 : M m 5 = 0) (h14 : M m 14 = 1) {o : Nat} : LM G YX9_once 1 0 0 [.ref m, .int (nI 0), .int (nI o)] z S M N (lq_mv z S N (fun M1 => M1 = lq_up (lq_up (lq_up M m 5 4294967294) m 6 o) m 14 1)) lq_no := by
  refine LM.of (by decide) rfl [some (.ref m), some (.int (nI 0)), some (.int (nI o))] rfl (Nat.le_of_ble_eq_true rfl) ?_
  refine qw_aload_n 0 dX9_once_0 rfl rfl ?_
  refine qw_geti fX9_139 dX9_once_1 h9.1 rfl ?_
  rw [h14]
  refine qw_iload_n 1 dX9_once_4 rfl rfl ?_
  refine qw_shrN (by decide) (by decide) dX9_once_5 ?_
  refine qw_iconst (nI 1) dX9_once_6 (by decide) ?_
  refine qw_andN dX9_once_7 ?_
  refine qw_iconst (nI 1) dX9_once_8 (by decide) ?_
  refine qw_icmp_neN 19 dX9_once_9 (by decide) (by decide) (by decide) (fun c9 => absurd (by decide) c9) (fun c9 => ?_)
  refine qw_aload_n 0 dX9_once_12 rfl rfl ?_
  refine qw_bipush (-2) dX9_once_13 (by decide) ?_
  rw [show (-2 : Int32) = nI 4294967294 by decide]
  refine qw_iload_n 2 dX9_once_15 rfl rfl ?_
  refine qw_cvv [_, _] (k_X9_report_g h9 h0) mX9_87 dX9_once_16 h9.1 rfl rfl rfl (Nat.le_of_ble_eq_true rfl) (by omega) (by decide) rfl (fun M2 h2 => ?_)
  subst h2
  refine qw_aload_n 0 dX9_once_19 rfl rfl ?_
  refine qw_dup dX9_once_20 rfl ?_
  refine qw_geti fX9_139 dX9_once_21 h9.1 rfl ?_
  rw [lq_up_c _ _ (by decide), lq_up_c _ _ (by decide), h14]
  refine qw_iconst (nI 1) dX9_once_24 (by decide) ?_
  refine qw_iload_n 1 dX9_once_25 rfl rfl ?_
  refine qw_shlN (by decide) (by decide) dX9_once_26 ?_
  refine qw_orN dX9_once_27 ?_
  refine qw_puti fX9_139 dX9_once_28 h9.1 rfl ?_
  exact qw_return rfl dX9_once_31 ⟨rfl, rfl, rfl, rfl, rfl⟩
noncomputable def p_sem (t : Nat → Nat) (L : Nat) (r : p_T) : p_T := match r with
  | .inl x => .inl x
  | .inr s1 => if t_sg t L s1.1 59 = 1 then .inr (t_en t L (t_sk t L s1.1), s1.2) else .inl (4294967294, t_sk t L s1.1)
theorem e_X9_statement {L : Nat} (h9 : sh9 S m fh fo) (hL8 : L ≤ 800) {t : Nat → Nat} (ht : ∀ j, j < L → t j < 256) {M0 : lq_M} {res : p_T} (hM0 : ∀ j, j < L → M0 (m + 1) j = t j) (hL0 : M0 m 3 = L) (hr : r_sP m M0 M t L res) (hw : ∀ s1, res = .inr s1 → s1.1 ≤ L) : LW G YX9_statement 21 0 0 (lq_mv z S N (fun M1 => r_sP m M0 M1 t L (p_sem t L res))) lq_no z S M N 97 [some (.ref m), none] [] := by
  obtain ⟨hf, hr⟩ := hr
  have hM : ∀ j, j < L → M (m + 1) j = t j := fun j hj => by rw [hf.2 (m + 1) (by omega) (by omega)]; exact hM0 j hj
  have hL : M m 3 = L := by rw [hf.1 3 (by decide) (by decide) (by decide) (by decide) (by decide) (by decide)]; exact hL0
  cases res with
  | inl x =>
    have hbad : ¬ nI (M m 5) = 0 := by rw [hr.1]; exact hr.2.2
    refine qw_aload_n 0 dX9_statement_97 rfl rfl ?_
    refine qw_bipush (nI 59) dX9_statement_98 (by decide) ?_
    refine qw_cvv [_] (k_X9_expect_b h9 hbad) mX9_109 dX9_statement_100 h9.1 rfl rfl rfl (Nat.le_of_ble_eq_true rfl) (by omega) (by decide) rfl (fun M1 h1 => ?_)
    rw [h1]
    exact qw_return rfl dX9_statement_103 ⟨rfl, rfl, rfl, rfl, hf, hr⟩
  | inr s1 =>
    refine qw_aload_n 0 dX9_statement_97 rfl rfl ?_
    refine qw_bipush (nI 59) dX9_statement_98 (by decide) ?_
    refine qw_cvv [_] (k_X9_expect_g (e := s1.1) (c := 59) h9 hL8 ht hM hL rfl hr.2.2.1 hr.2.1 (by decide) (by decide) (by decide)) mX9_109 dX9_statement_100 h9.1 rfl rfl rfl (Nat.le_of_ble_eq_true rfl) (by omega) (by decide) rfl (fun M1 h1 => ?_)
    rcases h1 with ⟨k1, k2⟩ | ⟨k1, k2, k3, k4⟩
    · rw [k2]
      have hpx : p_sem t L (.inr s1) = .inr (t_en t L (t_sk t L s1.1), s1.2) := by show (if _ then _ else _) = _; rw [if_pos k1]
      exact qw_return rfl dX9_statement_103 ⟨rfl, rfl, rfl, rfl, by rw [hpx]; exact ⟨hf.tr (r_sf.up (by decide)), by rw [lq_up_c _ _ (by decide)]; exact hr.1, by rw [lq_up_c _ _ (by decide)]; exact hr.2.1, by rw [lq_up_s]; exact ⟨t_en_le (t_sk_le (hw s1 rfl)), rfl⟩, by rw [lq_up_c _ _ (by decide)]; exact hr.2.2.2.1, by rw [lq_up_c _ _ (by decide)]; exact hr.2.2.2.2.1, by rw [lq_up_n _ _ _ (by omega)]; exact hr.2.2.2.2.2⟩⟩
    · have hpx : p_sem t L (.inr s1) = .inl (4294967294, t_sk t L s1.1) := by show (if _ then _ else _) = _; rw [if_neg k1]
      exact qw_return rfl dX9_statement_103 ⟨rfl, rfl, rfl, rfl, by rw [hpx]; exact ⟨hf.tr k4.sf, k2, k3, (show ¬ nI 4294967294 = 0 from by decide)⟩⟩
theorem k_X9_statement {L : Nat} (h9 : sh9 S m fh fo) (hL8 : L ≤ 800) {t : Nat → Nat} (ht : ∀ j, j < L → t j < 256) {v : Value} (hX : lq_sx G v) {s : p_St} (hs : p_sw L s) (hM : ∀ j, j < L → M (m + 1) j = t j) (hL : M m 3 = L) (h0 : M m 5 = 0) (hat : r_at t L (M m 4) s.1) (h13 : M m 13 = 0) (h14 : M m 14 = s.2.2.2.1) (hD : r_dr (M (m + 3)) s) : LM G YX9_statement 21 0 0 [.ref m] z S M N (lq_mv z S N (fun M1 => r_sP m M M1 t L (p_sem t L (p_stm t L s)))) lq_no := by
  have he := hs.1
  have hW := hs.2.1
  have hsk := t_sk_le (t := t) he
  have hen := t_en_le (t := t) hsk
  obtain ⟨hpL, hps⟩ := hat
  have hwl : ∀ s1, p_stm t L s = .inr s1 → s1.1 ≤ L := fun s1 h => (p_stm_w hL8 hs h).1.1
  have x24 := t_wb_c (t := t) (L := L) (e := s.1) 24 10 rfl rfl
  have x25 := t_wb_c (t := t) (L := L) (e := s.1) 25 11 rfl rfl
  have x26 := t_wb_c (t := t) (L := L) (e := s.1) 26 12 rfl rfl
  have x27 := t_wb_c (t := t) (L := L) (e := s.1) 27 13 rfl rfl
  have hpr := hs.2.2.2.2.1
  refine LM.of (by decide) rfl [some (.ref m), none] rfl (Nat.le_of_ble_eq_true rfl) ?_
  refine qw_aload_n 0 dX9_statement_0 rfl rfl ?_
  refine qw_cvi [] (k_X9_next h9 hL8 ht hM hL rfl hpL) mX9_74 dX9_statement_1 h9.1 rfl rfl rfl (Nat.le_of_ble_eq_true rfl) (by omega) (by decide) rfl (fun x1 M1 h1 => ?_)
  obtain ⟨rfl, hz⟩ := h1
  rw [hz, hps]
  have hMN : ∀ j, j < L → lq_up M m 4 (t_sk t L s.1) (m + 1) j = t j := fun j hj => by rw [lq_up_n _ _ _ (by omega)]; exact hM j hj
  have hLN : lq_up M m 4 (t_sk t L s.1) m 3 = L := by rw [lq_up_c _ _ (by decide)]; exact hL
  have h0N : lq_up M m 4 (t_sk t L s.1) m 5 = 0 := by rw [lq_up_c _ _ (by decide)]; exact h0
  refine qw_pop dX9_statement_4 rfl ?_
  refine qw_aload_n 0 dX9_statement_5 rfl rfl ?_
  refine qw_geti fX9_54 dX9_statement_6 h9.1 rfl ?_
  rw [lq_up_s]
  refine qw_istore_n 1 dX9_statement_9 rfl rfl (by decide) ?_
  refine qw_aload_n 0 dX9_statement_10 rfl rfl ?_
  refine qw_ldcS 24 dX9_statement_11 rfl ?_
  refine qw_cvi [_] (k_X9_takeWord (i := 24) (e := s.1) h9 hL8 ht hX (by decide) (by decide) hMN hLN (lq_up_s _ _ _ _) (t_sk_self he) h0N) mX9_115 dX9_statement_13 h9.1 rfl rfl rfl (Nat.le_of_ble_eq_true rfl) (by omega) (by decide) rfl (fun y24 W24 hw24 => ?_)
  obtain ⟨rfl, hw24⟩ := hw24
  have hb24 := t_wb_01 t L s.1 24
  refine qw_if_eqN 27 dX9_statement_16 (by decide) (by omega) (fun c16 => ?_) (fun c16 => ?_)
  · rw [hw24, if_neg (by omega), lq_up_up]
    refine qw_aload_n 0 dX9_statement_27 rfl rfl ?_
    refine qw_ldcS 25 dX9_statement_28 rfl ?_
    refine qw_cvi [_] (k_X9_takeWord (i := 25) (e := s.1) h9 hL8 ht hX (by decide) (by decide) hMN hLN (lq_up_s _ _ _ _) (t_sk_self he) h0N) mX9_115 dX9_statement_30 h9.1 rfl rfl rfl (Nat.le_of_ble_eq_true rfl) (by omega) (by decide) rfl (fun y25 W25 hw25 => ?_)
    obtain ⟨rfl, hw25⟩ := hw25
    have hb25 := t_wb_01 t L s.1 25
    refine qw_if_eqN 44 dX9_statement_33 (by decide) (by omega) (fun c33 => ?_) (fun c33 => ?_)
    · rw [hw25, if_neg (by omega), lq_up_up]
      refine qw_aload_n 0 dX9_statement_44 rfl rfl ?_
      refine qw_ldcS 26 dX9_statement_45 rfl ?_
      refine qw_cvi [_] (k_X9_takeWord (i := 26) (e := s.1) h9 hL8 ht hX (by decide) (by decide) hMN hLN (lq_up_s _ _ _ _) (t_sk_self he) h0N) mX9_115 dX9_statement_47 h9.1 rfl rfl rfl (Nat.le_of_ble_eq_true rfl) (by omega) (by decide) rfl (fun y26 W26 hw26 => ?_)
      obtain ⟨rfl, hw26⟩ := hw26
      have hb26 := t_wb_01 t L s.1 26
      refine qw_if_eqN 61 dX9_statement_50 (by decide) (by omega) (fun c50 => ?_) (fun c50 => ?_)
      · rw [hw26, if_neg (by omega), lq_up_up]
        refine qw_aload_n 0 dX9_statement_61 rfl rfl ?_
        refine qw_ldcS 27 dX9_statement_62 rfl ?_
        refine qw_cvi [_] (k_X9_takeWord (i := 27) (e := s.1) h9 hL8 ht hX (by decide) (by decide) hMN hLN (lq_up_s _ _ _ _) (t_sk_self he) h0N) mX9_115 dX9_statement_64 h9.1 rfl rfl rfl (Nat.le_of_ble_eq_true rfl) (by omega) (by decide) rfl (fun y27 W27 hw27 => ?_)
        obtain ⟨rfl, hw27⟩ := hw27
        have hb27 := t_wb_01 t L s.1 27
        refine qw_if_eqN 90 dX9_statement_67 (by decide) (by omega) (fun c67 => ?_) (fun c67 => ?_)
        · rw [hw27, if_neg (by omega), lq_up_up]
          refine qw_aload_n 0 dX9_statement_90 rfl rfl ?_
          refine qw_bipush (-2) dX9_statement_91 (by decide) ?_
          rw [show (-2 : Int32) = nI 4294967294 by decide]
          refine qw_iload_n 1 dX9_statement_93 rfl rfl ?_
          refine qw_cvv [_, _] (k_X9_report_g h9 h0N) mX9_87 dX9_statement_94 h9.1 rfl rfl rfl (Nat.le_of_ble_eq_true rfl) (by omega) (by decide) rfl (fun M2 h2 => ?_)
          rw [h2]
          have hps9 : p_stm t L s = .inl (4294967294, t_sk t L s.1) := by unfold p_stm; rw [if_neg (by omega), if_neg (by omega), if_neg (by omega), if_pos (Or.inl (by omega))]
          rw [hps9] at hwl ⊢
          refine qw_weak [some (.ref m), none] (by simp [lq_le]) ?_
          exact e_X9_statement h9 hL8 ht (M0 := M) hM hL ⟨((r_sf.up (by decide)).tr (r_sf.up (by decide))).tr (r_sf.up (by decide)), by rw [lq_up_c _ _ (by decide), lq_up_s], by rw [lq_up_s], (show ¬ nI 4294967294 = 0 from by decide)⟩ hwl
        · rw [hw27, if_pos (by omega), lq_up_up]
          by_cases hpr0 : s.2.2.2.1 = 0
          · skip
            refine qw_aload_n 0 dX9_statement_70 rfl rfl ?_
            refine qw_iconst (nI 0) dX9_statement_71 (by decide) ?_
            refine qw_iload_n 1 dX9_statement_72 rfl rfl ?_
            refine qw_cvv [_, _] (k_X9_once_0 h9 (by rw [lq_up_c _ _ (by decide)]; exact h0) (by rw [lq_up_c _ _ (by decide), h14]; omega)) mX9_163 dX9_statement_73 h9.1 rfl rfl rfl (Nat.le_of_ble_eq_true rfl) (by omega) (by decide) rfl (fun M5 h5 => ?_)
            rw [h5]
            refine qw_aload_n 0 dX9_statement_76 rfl rfl ?_
            refine qw_getr fX9_20 dX9_statement_77 h9.1 rfl ?_
            refine qw_iconst (nI 3) dX9_statement_80 (by decide) ?_
            refine qw_iconst (nI 1) dX9_statement_81 (by decide) ?_
            refine qw_iast dX9_statement_82 h9.dr (by omega) (by omega) ?_
            refine qw_aload_n 0 dX9_statement_83 rfl rfl ?_
            refine qw_cvv [] (k_X9_sum (e := t_en t L (t_sk t L s.1)) (tk := s.2.2.2.2.2) h9 hL8 ht hX (M := (lq_up (lq_up (lq_up M m 4 (t_en t L (t_sk t L s.1))) m 14 1) (m + 3) 3 1)) (fun j hj => by rw [lq_up_n _ _ _ (by omega), lq_up_n _ _ _ (by omega), lq_up_n _ _ _ (by omega)]; exact hM j hj) (by rw [lq_up_n _ _ _ (by omega), lq_up_c _ _ (by decide), lq_up_c _ _ (by decide)]; exact hL) hen (by rw [lq_up_n _ _ _ (by omega), lq_up_c _ _ (by decide), lq_up_c _ _ (by decide)]; exact h0) (by rw [lq_up_n _ _ _ (by omega), lq_up_c _ _ (by decide), lq_up_s]; exact ⟨hen, rfl⟩) (by rw [lq_up_n _ _ _ (by omega), lq_up_c _ _ (by decide), lq_up_c _ _ (by decide)]; exact h13) (by rw [lq_up_c _ _ (by decide), lq_up_n _ _ _ (by omega), lq_up_n _ _ _ (by omega)]; exact hD.2.2.2.2.2.2.2 hpr0)) mX9_106 dX9_statement_84 h9.1 rfl rfl rfl (Nat.le_of_ble_eq_true rfl) (by omega) (by decide) rfl (fun M6 h6 => ?_)
            refine qw_goto 97 dX9_statement_87 (by decide) ?_
            have hxs : r_sf m M (lq_up (lq_up (lq_up M m 4 (t_en t L (t_sk t L s.1))) m 14 1) (m + 3) 3 1) := ((r_sf.up (by decide)).tr (r_sf.up (by decide))).tr r_sf.dr
            have hps9 : p_stm t L s = match p_ex t L 3203 2 0 (t_en t L (t_sk t L s.1), 0, s.2.2.2.2.2) with | .inl x => .inl x | .inr q => .inr (q.1, s.2.1, s.2.2.1, 1, q.2.1, q.2.2) := by unfold p_stm; rw [if_neg (by omega), if_neg (by omega), if_neg (by omega), if_neg (fun q => by rcases q with q | q; omega; exact q hpr0)]; rfl
            cases hr : p_ex t L 3203 2 0 (t_en t L (t_sk t L s.1), 0, s.2.2.2.2.2) with
            | inl x0 =>
              rw [hr] at hps9 h6
              have hps8 : p_stm t L s = .inl x0 := hps9
              rw [hps8] at hwl ⊢
              refine qw_weak [some (.ref m), none] (by simp [lq_le]) ?_
              exact e_X9_statement h9 hL8 ht (M0 := M) hM hL ⟨hxs.tr h6.1.sf, h6.2.1, h6.2.2.1, h6.2.2.2⟩ hwl
            | inr q =>
              rw [hr] at hps9 h6
              have hps8 : p_stm t L s = .inr (q.1, s.2.1, s.2.2.1, 1, q.2.1, q.2.2) := hps9
              rw [hps8] at hwl ⊢
              obtain ⟨h6x, h66, h65, h6a, h613, h6c⟩ := h6
              have hff := p_ex_fwf hr
              have hn0 : 0 < q.2.1 := by
                rcases Nat.eq_zero_or_pos q.2.1 with z9 | z9
                · have h9' := hff.2
                  rw [z9] at h9'
                  exact absurd h9' (show ¬ (0 : Nat) = 1 by decide)
                · exact z9
              refine qw_weak [some (.ref m), none] (by simp [lq_le]) ?_
              exact e_X9_statement h9 hL8 ht (M0 := M) hM hL ⟨hxs.tr h6x.sf, by rw [h66, lq_up_n _ _ _ (by omega), lq_up_c _ _ (by decide), lq_up_c _ _ (by decide)], h65, h6a, h613, by rw [h6x.1 14 (by decide) (by decide) (by decide) (by decide) (by decide), lq_up_n _ _ _ (by omega), lq_up_s], hD.prc hn0 h6c (fun x x1 x2 x3 => by rw [h6x.2.2 x x2 x3, lq_up_c _ _ x1, lq_up_n _ _ _ (by omega), lq_up_n _ _ _ (by omega)])⟩ hwl
          · skip
            refine qw_aload_n 0 dX9_statement_70 rfl rfl ?_
            refine qw_iconst (nI 0) dX9_statement_71 (by decide) ?_
            refine qw_iload_n 1 dX9_statement_72 rfl rfl ?_
            refine qw_cvv [_, _] (k_X9_once_1 h9 (by rw [lq_up_c _ _ (by decide)]; exact h0) (by rw [lq_up_c _ _ (by decide), h14]; omega)) mX9_163 dX9_statement_73 h9.1 rfl rfl rfl (Nat.le_of_ble_eq_true rfl) (by omega) (by decide) rfl (fun M5 h5 => ?_)
            rw [h5]
            refine qw_aload_n 0 dX9_statement_76 rfl rfl ?_
            refine qw_getr fX9_20 dX9_statement_77 h9.1 rfl ?_
            refine qw_iconst (nI 3) dX9_statement_80 (by decide) ?_
            refine qw_iconst (nI 1) dX9_statement_81 (by decide) ?_
            refine qw_iast dX9_statement_82 h9.dr (by omega) (by omega) ?_
            have hbad : ¬ nI ((lq_up (lq_up (lq_up (lq_up (lq_up M m 4 (t_en t L (t_sk t L s.1))) m 5 4294967294) m 6 (t_sk t L s.1)) m 14 1) (m + 3) 3 1) m 5) = 0 := by rw [lq_up_n _ _ _ (by omega), lq_up_c _ _ (by decide), lq_up_c _ _ (by decide), lq_up_s]; decide
            refine qw_aload_n 0 dX9_statement_83 rfl rfl ?_
            refine qw_cvv [] (k_X9_sum_b h9 hbad) mX9_106 dX9_statement_84 h9.1 rfl rfl rfl (Nat.le_of_ble_eq_true rfl) (by omega) (by decide) rfl (fun M6 h6 => ?_)
            rw [h6]
            refine qw_goto 97 dX9_statement_87 (by decide) ?_
            have hps9 : p_stm t L s = .inl (4294967294, t_sk t L s.1) := by unfold p_stm; rw [if_neg (by omega), if_neg (by omega), if_neg (by omega), if_pos (Or.inr (by omega))]
            rw [hps9] at hwl ⊢
            refine qw_weak [some (.ref m), none] (by simp [lq_le]) ?_
            exact e_X9_statement h9 hL8 ht (M0 := M) hM hL ⟨((((r_sf.up (by decide)).tr (r_sf.up (by decide))).tr (r_sf.up (by decide))).tr (r_sf.up (by decide))).tr r_sf.dr, by rw [lq_up_n _ _ _ (by omega), lq_up_c _ _ (by decide), lq_up_c _ _ (by decide), lq_up_s], by rw [lq_up_n _ _ _ (by omega), lq_up_c _ _ (by decide), lq_up_s], (show ¬ nI 4294967294 = 0 from by decide)⟩ hwl
      · rw [hw26, if_pos (by omega), lq_up_up]
        refine qw_aload_n 0 dX9_statement_53 rfl rfl ?_
        refine qw_iload_n 1 dX9_statement_54 rfl rfl ?_
        refine qw_cvv [_] (k_X9_readBan h9 hL8 ht hs (fun j hj => by rw [lq_up_n _ _ _ (by omega)]; exact hM j hj) (by rw [lq_up_c _ _ (by decide)]; exact hL) (by rw [lq_up_c _ _ (by decide)]; exact h0) (lq_up_s _ _ _ _) (by rw [lq_up_c _ _ (by decide)]; exact h13) (by rw [lq_up_c _ _ (by decide)]; exact h14) (by rw [lq_up_n _ _ _ (by omega)]; exact hD)) mX9_158 dX9_statement_55 h9.1 rfl rfl rfl (Nat.le_of_ble_eq_true rfl) (by omega) (by decide) rfl (fun M5 h5 => ?_)
        refine qw_goto 97 dX9_statement_58 (by decide) ?_
        have hps9 : p_stm t L s = p_br4 (p_ban t L s.2.1 s.2.2.1 s.1) s := by unfold p_stm p_br4; rw [if_neg (by omega), if_neg (by omega), if_pos (by omega)]; cases p_ban t L s.2.1 s.2.2.1 s.1 <;> rfl
        rw [hps9] at hwl ⊢
        refine qw_weak [some (.ref m), none] (by simp [lq_le]) ?_
        exact e_X9_statement h9 hL8 ht (M0 := M) hM hL h5.u4 hwl
    · rw [hw25, if_pos (by omega), lq_up_up]
      refine qw_aload_n 0 dX9_statement_36 rfl rfl ?_
      refine qw_iload_n 1 dX9_statement_37 rfl rfl ?_
      refine qw_cvv [_] (k_X9_readSponsor h9 hL8 ht hs (fun j hj => by rw [lq_up_n _ _ _ (by omega)]; exact hM j hj) (by rw [lq_up_c _ _ (by decide)]; exact hL) (by rw [lq_up_c _ _ (by decide)]; exact h0) (lq_up_s _ _ _ _) (by rw [lq_up_c _ _ (by decide)]; exact h13) (by rw [lq_up_c _ _ (by decide)]; exact h14) (by rw [lq_up_n _ _ _ (by omega)]; exact hD)) mX9_153 dX9_statement_38 h9.1 rfl rfl rfl (Nat.le_of_ble_eq_true rfl) (by omega) (by decide) rfl (fun M5 h5 => ?_)
      refine qw_goto 97 dX9_statement_41 (by decide) ?_
      have hps9 : p_stm t L s = p_br3 (p_spo t L s.2.1 s.1) s := by unfold p_stm p_br3; rw [if_neg (by omega), if_pos (by omega)]; cases p_spo t L s.2.1 s.1 <;> rfl
      rw [hps9] at hwl ⊢
      refine qw_weak [some (.ref m), none] (by simp [lq_le]) ?_
      exact e_X9_statement h9 hL8 ht (M0 := M) hM hL h5.u4 hwl
  · rw [hw24, if_pos (by omega), lq_up_up]
    refine qw_aload_n 0 dX9_statement_19 rfl rfl ?_
    refine qw_iload_n 1 dX9_statement_20 rfl rfl ?_
    refine qw_cvv [_] (k_X9_readBreak h9 hL8 ht hs (fun j hj => by rw [lq_up_n _ _ _ (by omega)]; exact hM j hj) (by rw [lq_up_c _ _ (by decide)]; exact hL) (by rw [lq_up_c _ _ (by decide)]; exact h0) (lq_up_s _ _ _ _) (by rw [lq_up_c _ _ (by decide)]; exact h13) (by rw [lq_up_c _ _ (by decide)]; exact h14) (by rw [lq_up_n _ _ _ (by omega)]; exact hD)) mX9_148 dX9_statement_21 h9.1 rfl rfl rfl (Nat.le_of_ble_eq_true rfl) (by omega) (by decide) rfl (fun M5 h5 => ?_)
    refine qw_goto 97 dX9_statement_24 (by decide) ?_
    have hps9 : p_stm t L s = p_br3 (p_brk t L s.2.1 s.1) s := by unfold p_stm p_br3; rw [if_pos (by omega)]; cases p_brk t L s.2.1 s.1 <;> rfl
    rw [hps9] at hwl ⊢
    refine qw_weak [some (.ref m), none] (by simp [lq_le]) ?_
    exact e_X9_statement h9 hL8 ht (M0 := M) hM hL h5.u4 hwl
end R16
