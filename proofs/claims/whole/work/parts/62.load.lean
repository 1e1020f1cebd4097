/-! load -/
theorem p_lp_w {t : Nat → Nat} {L : Nat} (hL : L ≤ 800) : ∀ (f : Nat) (s s1 : p_St), p_sw L s → p_lp t L f s = .inr s1 → p_sw L s1
  | 0, s, s1, hs, h => by
    rw [p_lp] at h
    have : s = s1 := by simpa using h
    rw [← this]; exact hs
  | f + 1, s, s1, hs, h => by
    rw [p_lp] at h
    by_cases c : t_kd t L (t_sk t L s.1) = 0
    · rw [if_pos c] at h
      have : s = s1 := by simpa using h
      rw [← this]; exact hs
    · rw [if_neg c] at h
      cases r : p_stm t L s with
      | inl y => rw [r] at h; exact absurd h (by simp)
      | inr s2 =>
        rw [r] at h
        dsimp only at h
        have hw := (p_stm_w hL hs r).1
        by_cases c2 : t_sg t L s2.1 59 = 1
        · rw [if_pos c2] at h
          exact p_lp_w hL f (t_en t L (t_sk t L s2.1), s2.2) s1 ⟨t_en_le (t_sk_le hw.1), hw.2⟩ h
        · rw [if_neg c2] at h
          exact absurd h (by simp)
theorem p_set_w {t : Nat → Nat} {L : Nat} {s1 : p_St} (hL : L ≤ 800) (h : p_set t L = .inr s1) : p_sw L s1 := by
  unfold p_set at h
  by_cases c : t_wb t L 0 9 = 0
  · rw [if_pos c] at h; exact absurd h (by simp)
  · rw [if_neg c] at h
    by_cases c2 : t_sg t L (t_en t L (t_sk t L 0)) 59 ≠ 1
    · rw [if_pos c2] at h; exact absurd h (by simp)
    · rw [if_neg c2] at h
      have h0 : t_en t L (t_sk t L 0) ≤ L := t_en_le (t_sk_le (Nat.zero_le L))
      exact p_lp_w hL 800 _ s1 ⟨t_en_le (t_sk_le h0), g_wf.zero, rfl, Nat.zero_le _, Nat.zero_le _, q_fwf_dft, (show 5 ≤ 800 from by decide)⟩ h
theorem q_hc.eqM {M M1 : lq_M} {h c u : Nat} {H : Nat → Nat → Nat} {tk : Nat → Nat → Nat × Nat} {n : Nat → Nat} (hC : q_hc M h c u H tk n) (hq : ∀ x, h ≤ x → x < h + 1208 → M1 x = M x) : q_hc M1 h c u H tk n := by
  obtain ⟨h9, c1, c2, c3, c4⟩ := hC
  refine ⟨h9, by rw [hq h (by omega) (by omega)]; exact c1, by rw [hq h (by omega) (by omega)]; exact c2, c3, fun j hj => ?_⟩
  obtain ⟨d1, d2⟩ := c4 j hj
  have hw := d2.1.nb
  have hr := q_ri_lt h9 j
  exact ⟨d1.eqM (fun i hi => by show i < 20; omega) (fun x x1 x2 => hq x (by omega) (by omega)), d2⟩
def p_ld (z : Nat) (S : lq_S) (M : lq_M) (N : lq_N) (b u : Nat) (H : Nat → Nat → Nat) (tk : Nat → Nat → Nat × Nat) (n : Nat → Nat) (len : Int32) : lq_P := fun o z1 S1 M1 N1 => z1 = z ∧ N1 = N ∧ ∃ (y : Int32) (f1 : Nat → Option Nat) (σ1 : Nat → Nat) (l : Nat), o = some (.int y) ∧ l ≤ M b 1 ∧ len = nI l ∧ sh5 S1 (b + 2) (b + 1) 800 ∧ sh4 S1 (b + 5) f1 σ1 ∧ (∀ c, c ≠ b + 3 → c ≠ b + 6 → S1 c = S c) ∧ M1 b 1 = 0 ∧ (∀ c, c < b ∨ c = b + 1 ∨ b + 1607 ≤ c → M1 c = M c) ∧ match p_set (M (b + 1)) l with
  | .inl x => y = nI x.1 ∧ M1 b 2 = x.2 ∧ q_hi M1 (b + 139) u H tk n
  | .inr s => y = nI (s.2.1 0) ∧ M1 b 2 = 4294967295 ∧ q_hi M1 (b + 139) (min (u + 1) 8) (q_nw s.2.1 H) (q_nw s.2.2.2.2.2 tk) (q_nw s.2.2.2.2.1 n)
section RLD
variable {G : lq_G} {z : Nat} {S : lq_S} {N : lq_N} {M : lq_M}
theorem k_X8_load {b : Nat} {F : Nat → Nat → Option Nat} {fp fb : Nat → Option Nat} (h8 : sh8 S b F fp fb) {x0 nb0 : Nat} (h5 : sh5 S (b + 2) x0 nb0) {f : Nat → Option Nat} {σ : Nat → Nat} (hD : sh4 S (b + 5) f σ) {v : Value} (hX : lq_sx G v) (hf : M b 1 ≤ 800) (ht : ∀ j, j < M b 1 → M (b + 1) j < 256) {u : Nat} {H : Nat → Nat → Nat} {tk : Nat → Nat → Nat × Nat} {n : Nat → Nat} (hH : q_hi M (b + 139) u H tk n) {len : Int32} : LM G YX8_load 23 1 6 [.ref b, .int len] z S M N (p_ld z S M N b u H tk n len) (lq_xs S M N (fun E => E = eIA ∧ ¬ q_rg len 0 (M b 1))) := by
  obtain ⟨c, hC⟩ := hH
  refine LM.of (by decide) rfl [some (.ref b), some (.int len), none, none] rfl (Nat.le_of_ble_eq_true rfl) ?_
  refine qw_iload_n 1 dX8_load_0 rfl rfl ?_
  refine qw_if_lt 12 dX8_load_1 (by decide) (fun c1 => ?_) (fun c1 => ?_)
  · exact qw_throwL (ci := 10)  0 rfl rfl tF_IAE tN (by decide) tK_IAE tI_IAE rfl tA_IAE tB_IAE dX8_load_12 dX8_load_15 dX8_load_16 dX8_load_18 dX8_load_21 (by decide) (by omega) (by omega) (fun z9 => ⟨rfl, rfl, rfl, rfl, fun q => by have q9 := (q_rg_i (by omega)).mp q; have c9 := q_l0_i.mp c1; omega⟩)
  · refine qw_iload_n 1 dX8_load_4 rfl rfl ?_
    refine qw_aload_n 0 dX8_load_5 rfl rfl ?_
    refine qw_geti fX8_13 dX8_load_6 h8.1 rfl ?_
    refine qw_icmp_le 22 dX8_load_9 (by decide) (fun c9 => ?_) (fun c9 => ?_)
    · have hlen : q_rg len 0 (M b 1) := (q_rg_i (by omega)).mpr ⟨by have c1 := mt q_l0_i.mpr c1; omega, by have c9 := (q_le_i (by omega)).mp c9; exact c9⟩
      obtain ⟨l, -, hl, rfl⟩ := hlen
      refine qw_aload_n 0 dX8_load_22 rfl rfl ?_
      refine qw_getr fX8_23 dX8_load_23 h8.1 rfl ?_
      refine qw_aload_n 0 dX8_load_26 rfl rfl ?_
      refine qw_getr fX8_9 dX8_load_27 h8.1 rfl ?_
      refine qw_iload_n 1 dX8_load_30 rfl rfl ?_
      refine qw_aload_n 0 dX8_load_31 rfl rfl ?_
      refine qw_getr fX8_30 dX8_load_32 h8.1 rfl ?_
      refine qw_cvq [_, _, _] (k_X5_readSetup (x := b + 1) (nb := 800) (L := l) (by omega) (by omega) (by decide) (by omega) (fun j hj => ht j (by omega)) hX h5 h8.2.2.2 hD (fun j hj => rfl)) mX8_59 dX8_load_35 h5.1 rfl rfl rfl (Nat.le_of_ble_eq_true rfl) (by omega) (by decide) rfl (fun o z1 S1 M1 N1 h1 => ?_)
      obtain ⟨rfl, rfl, y, f1, σ1, rfl, hS1, h51, eS, hfr, hq⟩ := h1
      have h81 : sh8 S1 b F fp fb := h8.eqS (fun c c1 c2 c3 c4 => eS c (by omega) (by omega))
      have hC1 : q_hc M1 (b + 139) c u H tk n := hC.eqM (fun x x1 x2 => hfr x (by omega) (by omega) (by omega))
      have e9 : ∀ x, x ≠ b → (lq_up (lq_up M1 b 1 0) b 2 (M1 (b + 2) 2)) x = M1 x := fun x hx => by rw [lq_up_n _ _ _ hx, lq_up_n _ _ _ hx]
      have hC2 : q_hc (lq_up (lq_up M1 b 1 0) b 2 (M1 (b + 2) 2)) (b + 139) c u H tk n := hC1.eqM (fun x x1 x2 => e9 x (by omega))
      have hout : ∀ x, x < b ∨ x = b + 1 ∨ b + 1607 ≤ x → M1 x = M x := fun x hx => hfr x (by omega) (by omega) (by omega)
      have eS1 : ∀ c, c ≠ b + 3 → c ≠ b + 6 → S1 c = S c := fun c c1 c2 => eS c (by omega) (by omega)
      cases hr : p_set (M (b + 1)) l with
      | inl x0 =>
        rw [hr] at hq
        obtain ⟨rfl, q2, q3⟩ := hq
        refine qw_istore_n 2 dX8_load_38 rfl rfl (by decide) ?_
        refine qw_aload_n 0 dX8_load_39 rfl rfl ?_
        refine qw_iconst (nI 0) dX8_load_40 (by decide) ?_
        refine qw_puti fX8_13 dX8_load_41 h81.1 rfl ?_
        refine qw_aload_n 0 dX8_load_44 rfl rfl ?_
        refine qw_aload_n 0 dX8_load_45 rfl rfl ?_
        refine qw_getr fX8_23 dX8_load_46 h81.1 rfl ?_
        refine qw_geti fX8_63 dX8_load_49 h51.1 rfl ?_
        rw [lq_up_n _ _ _ (by omega)]
        refine qw_puti fX8_17 dX8_load_52 h81.1 rfl ?_
        refine qw_iload_n 2 dX8_load_55 rfl rfl ?_
        refine qw_if_neN 67 dX8_load_56 (by decide) (by omega) (fun c56 => absurd rfl c56) (fun c56 => ?_)
        refine qw_aload_n 0 dX8_load_59 rfl rfl ?_
        refine qw_getr fX8_23 dX8_load_60 h81.1 rfl ?_
        refine qw_geti fX8_66 dX8_load_63 h51.1 rfl ?_
        rw [e9 (b + 2) (by omega), q2]
        exact qw_ireturn rfl rfl dX8_load_66 ⟨rfl, rfl, _, f1, σ1, l, rfl, hl, rfl, h51, hS1, eS1, by rw [lq_up_c _ _ (by decide), lq_up_s], fun x hx => by rw [e9 x (by omega)]; exact hout x hx, by rw [hr]; exact ⟨rfl, by rw [lq_up_s]; exact q3, ⟨c, hC2⟩⟩⟩
      | inr s =>
        rw [hr] at hq
        obtain ⟨rfl, q2, q3, q4⟩ := hq
        have hw := p_set_w (by omega) hr
        refine qw_istore_n 2 dX8_load_38 rfl rfl (by decide) ?_
        refine qw_aload_n 0 dX8_load_39 rfl rfl ?_
        refine qw_iconst (nI 0) dX8_load_40 (by decide) ?_
        refine qw_puti fX8_13 dX8_load_41 h81.1 rfl ?_
        refine qw_aload_n 0 dX8_load_44 rfl rfl ?_
        refine qw_aload_n 0 dX8_load_45 rfl rfl ?_
        refine qw_getr fX8_23 dX8_load_46 h81.1 rfl ?_
        refine qw_geti fX8_63 dX8_load_49 h51.1 rfl ?_
        rw [lq_up_n _ _ _ (by omega)]
        refine qw_puti fX8_17 dX8_load_52 h81.1 rfl ?_
        refine qw_iload_n 2 dX8_load_55 rfl rfl ?_
        refine qw_if_neN 67 dX8_load_56 (by decide) (by omega) (fun c56 => ?_) (fun c56 => absurd c56 (by decide))
        refine qw_aload_n 0 dX8_load_67 rfl rfl ?_
        refine qw_getr fX8_37 dX8_load_68 h81.1 rfl ?_
        refine qw_cvo [] (k_X3_beginChange h81.2.1 hC2.2.1 hC2.1 hC2.2.2.1 hC2.2.2.2.1 (hC2.2.2.2.2 0 (Nat.zero_le u)).1 (hC2.2.2.2.2 0 (Nat.zero_le u)).2.1 (hC2.2.2.2.2 0 (Nat.zero_le u)).2.2.2) mX8_69 dX8_load_71 h81.2.1.1 rfl rfl rfl (Nat.le_of_ble_eq_true rfl) (by omega) (by decide) rfl (fun M3 hb1 => ?_)
        have hC3 := hC2.bgn hb1
        have hnx := g_nx_lt c
        have hSp : sh4 S1 (b + 139 + 2 + 134 * g_nx c) (F (g_nx c)) q_id := h81.2.1.2.2.2 _ hnx
        have hq1 := hb1.2.2.2
        have hR3 : q_pl M3 (b + 5) σ1 s.2.1 s.2.2.2.2.2 s.2.2.2.2.1 := q4.eqM (fun i hi => hS1.s (by have := hw.2.1.nb; omega)) (fun x x1 x2 => by rw [hq1 x (by omega) (by omega), e9 x (by omega)])
        refine qw_astore_n 3 dX8_load_74 rfl rfl (by decide) ?_
        refine qw_aload_n 3 dX8_load_75 rfl rfl ?_
        refine qw_aload_n 0 dX8_load_76 rfl rfl ?_
        refine qw_getr fX8_30 dX8_load_77 h81.1 rfl ?_
        refine qw_cvv [_] (k_X4_copyFrom hSp hS1 hR3 hw.2.1 hw.2.2.2.2.2.2 (by omega)) mX8_73 dX8_load_80 hSp.1 rfl rfl rfl (Nat.le_of_ble_eq_true rfl) (by omega) (by decide) rfl (fun M4 h4 => ?_)
        refine qw_aload_n 3 dX8_load_83 rfl rfl ?_
        refine qw_geti fX8_77 dX8_load_84 hSp.1 rfl ?_
        rw [h4.1.nb]
        exact qw_ireturn rfl rfl dX8_load_87 ⟨rfl, rfl, _, f1, σ1, l, rfl, hl, rfl, h51, hS1, eS1, by rw [h4.2 b (by omega), hq1 b (by omega) (by omega), lq_up_c _ _ (by decide), lq_up_s], fun x hx => by rw [h4.2 x (by omega), hq1 x (by omega) (by omega), e9 x (by omega)]; exact hout x hx, by rw [hr]; exact ⟨rfl, by rw [h4.2 b (by omega), hq1 b (by omega) (by omega), lq_up_s]; exact q3, ⟨g_nx c, hC3.mut h4.1 ⟨hw.2.1, Or.inl hw.2.2.2.2.2.1, hw.2.2.2.2.2.2⟩ (fun x hx => h4.2 x hx)⟩⟩⟩
    · exact qw_throwL (ci := 10)  0 rfl rfl tF_IAE tN (by decide) tK_IAE tI_IAE rfl tA_IAE tB_IAE dX8_load_12 dX8_load_15 dX8_load_16 dX8_load_18 dX8_load_21 (by decide) (by omega) (by omega) (fun z9 => ⟨rfl, rfl, rfl, rfl, fun q => by have q9 := (q_rg_i (by omega)).mp q; exact c9 ((q_le_i (by omega)).mpr q9.2)⟩)
end RLD
