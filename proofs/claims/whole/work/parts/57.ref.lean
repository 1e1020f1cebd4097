/-! THE REFERENCE: campaign, makeGood, bookAnyhow, arrangements, arranged -/
section R9
variable {G : lq_G} {z : Nat} {S : lq_S} {M : lq_M} {N : lq_N} {m : Nat} {fh fo : Nat → Option Nat}
theorem q_cd.cong {g g1 : Nat → Nat} {tk : Nat → Nat × Nat} {n : Nat} (hF : q_fwf tk n) (hn : n ≤ 800) (h : q_cd g tk n) (e4 : g1 4 = g 4) (e : ∀ x, 1363 ≤ x → x < 2663 → g1 x = g x) : q_cd g1 tk n := by
  rcases h with ⟨h1, h2, h3⟩ | ⟨h1, h2, h3⟩
  · exact Or.inl ⟨by rw [e4]; exact h1, h2, h3⟩
  · have hc := q_ce_2 hF.1 n (Nat.le_refl n)
    have hh := hF.2
    refine Or.inr ⟨h1, by rw [e4]; exact h2, fun j hj => ?_⟩
    have hl := q_ce_lt tk hj
    have hl2 : q_ce tk j + 1 ≤ q_ce tk n := by
      split at hl <;> omega
    rw [e _ (by omega) (by omega)]
    refine ⟨(h3 j hj).1, fun q => ?_⟩
    rw [e _ (by omega) (by omega)]
    exact (h3 j hj).2 q
theorem q_cd.bk {g : Nat → Nat} {tk : Nat → Nat × Nat} {n s l i : Nat} (hF : q_fwf tk n) (hn : n ≤ 800) (h : q_cd g tk n) (hW : g_wf g) (hs : s < g 1) (hi : i < g 0) : q_cd (g_bk g tk n s l i) tk n := by
  by_cases h0 : g_rs g s l i = 0
  · have hok := g_rs_ok h0
    have h7 := hW.seven hi hs hok.2.1
    have hpl := g_pf_le g s i
    have h20 := hW.nb
    rw [g_bk, if_pos h0]
    exact h.cong hF hn (by rw [g_inc_o (by decide), g_put_o (by omega) (by omega) h7]) (fun x h1 h2 => by rw [g_inc_o (by omega), g_put_o (by omega) (by omega) h7])
  · rw [g_bk, if_neg h0]
    exact h
theorem l_X9_campaign (h9 : sh9 S m fh fo) {tk : Nat → Nat × Nat} {n : Nat} (hF : q_fwf tk n) (hn : n ≤ 800) {s l : Nat} (hl : l ≤ 60) {M0 : lq_M} {N0 : lq_N} {most : Nat} (hmo : most ≤ 20) {R : (Nat → Nat) × Nat} {Q : lq_P} (kk : ∀ (M1 : lq_M) (N1 : lq_N), M1 (m + 2) = R.1 → (∀ b, b ≠ m + 2 → M1 b = M0 b) → q_nf m N0 N1 → LW G YX9_campaign 6 0 0 Q lq_no z S M1 N1 97 [some (.ref m), none, none, none, some (.int (nI R.2)), none, none] []) : ∀ (k b : Nat) (M : lq_M) (N : lq_N) (g : Nat → Nat), b + k = most → M (m + 2) = g → g_wf g → q_cd g tk n → s < g 1 → R = ((g_camp tk n s l k g).1, b + (g_camp tk n s l k g).2) → (∀ b, b ≠ m + 2 → M b = M0 b) → q_nf m N0 N → LW G YX9_campaign 6 0 0 Q lq_no z S M N 61 [some (.ref m), some (.int (nI s)), some (.int (nI l)), some (.int (nI most)), some (.int (nI b)), some (.int (q_m1 (g_chp g tk n s l (g 0)).1)), none] [] := by
  intro k
  induction k with
  | zero =>
    intro b M N g hb hg hW hC hs hRR hq hnf
    have h20 := hW.nb
    have hR1 : R.1 = g := by rw [hRR, g_camp]
    have hR2 : R.2 = b := by rw [hRR, g_camp]; rfl
    refine qw_iload dX9_campaign_61 rfl ?_
    refine qw_iconst (-1) dX9_campaign_63 (by decide) ?_
    refine qw_icmp_eq 97 dX9_campaign_64 (by decide) (fun c64 => ?_) (fun c64 => ?_)
    · exact qw_weak _ (by simp [lq_le, hR2]) (kk M N (by rw [hg, hR1]) hq hnf)
    · refine qw_iload dX9_campaign_67 rfl ?_
      refine qw_iload_n 3 dX9_campaign_69 rfl rfl ?_
      refine qw_icmp_geN 97 dX9_campaign_70 (by decide) (by omega) (by omega) (fun c70 => ?_) (fun c70 => absurd c70 (by omega))
      exact qw_weak _ (by simp [lq_le, hR2]) (kk M N (by rw [hg, hR1]) hq hnf)
  | succ k ih =>
    intro b M N g hb hg hW hC hs hRR hq hnf
    have h20 := hW.nb
    have hle := g_chp_le g tk n s l (g 0)
    have hm := q_m1_eq (k := (g_chp g tk n s l (g 0)).1) (by omega)
    refine qw_iload dX9_campaign_61 rfl ?_
    refine qw_iconst (-1) dX9_campaign_63 (by decide) ?_
    refine qw_icmp_eq 97 dX9_campaign_64 (by decide) (fun c64 => ?_) (fun c64 => ?_)
    · have hR1 : R.1 = g := by rw [hRR, g_camp, if_pos (hm.mp c64)]
      have hR2 : R.2 = b := by rw [hRR, g_camp, if_pos (hm.mp c64)]; rfl
      exact qw_weak _ (by simp [lq_le, hR2]) (kk M N (by rw [hg, hR1]) hq hnf)
    · refine qw_iload dX9_campaign_67 rfl ?_
      refine qw_iload_n 3 dX9_campaign_69 rfl rfl ?_
      refine qw_icmp_geN 97 dX9_campaign_70 (by decide) (by omega) (by omega) (fun c70 => absurd c70 (by omega)) (fun c70 => ?_)
      have hk0 : (g_chp g tk n s l (g 0)).1 ≠ 0 := fun q => c64 (hm.mpr q)
      have hr0 : g_rs g s l ((g_chp g tk n s l (g 0)).1 - 1) = 0 := g_chp_ok (tk := tk) (n := n) (k := g 0) (by omega)
      have hW2 := hW.bk (tk := tk) (n := n) (l := l) (i := (g_chp g tk n s l (g 0)).1 - 1) hs hl (by omega)
      have hC2 := hC.bk (l := l) (i := (g_chp g tk n s l (g 0)).1 - 1) hF hn hW hs (by omega)
      have h01 := g_bk_01 (tk := tk) (n := n) (l := l) (i := (g_chp g tk n s l (g 0)).1 - 1) hW hs (by omega)
      refine qw_aload_n 0 dX9_campaign_73 rfl rfl ?_
      refine qw_iload_n 1 dX9_campaign_74 rfl rfl ?_
      refine qw_iload_n 2 dX9_campaign_75 rfl rfl ?_
      refine qw_iload dX9_campaign_76 rfl ?_
      rw [show q_m1 (g_chp g tk n s l (g 0)).1 = nI ((g_chp g tk n s l (g 0)).1 - 1) from if_neg hk0]
      refine qw_cvn [_, _, _] (k_X9_books_g h9 hg hW hF hn hC hs hl (by omega) hr0) mX9_269 dX9_campaign_78 h9.1 rfl rfl rfl (Nat.le_of_ble_eq_true rfl) (by omega) (by decide) rfl (fun x1 M3 N3 h3 => ?_)
      obtain ⟨rfl, h3g, h3q, h3n⟩ := h3
      refine qw_istore dX9_campaign_81 rfl (by decide) ?_
      refine qw_iincN 1 dX9_campaign_83 rfl (by decide) rfl (by decide) ?_
      refine qw_aload_n 0 dX9_campaign_86 rfl rfl ?_
      refine qw_iload_n 1 dX9_campaign_87 rfl rfl ?_
      refine qw_iload_n 2 dX9_campaign_88 rfl rfl ?_
      refine qw_cvn [_, _] (k_X9_findCheapest_g h9 h3g hW2 hF hn hC2 (by rw [h01.2]; exact hs) hl) mX9_247 dX9_campaign_89 h9.1 rfl rfl rfl (Nat.le_of_ble_eq_true rfl) (by omega) (by decide) rfl (fun x2 M4 N4 h4 => ?_)
      obtain ⟨rfl, hz, h4n⟩ := h4
      rw [hz]
      refine qw_istore dX9_campaign_92 rfl (by decide) ?_
      refine qw_goto 61 dX9_campaign_94 (by decide) ?_
      exact qw_weak _ (by simp [lq_le]) (ih (b + 1) M3 N4 _ (by omega) h3g hW2 hC2 (by rw [h01.2]; exact hs) (by rw [hRR, g_camp, if_neg hk0]; show (_, _) = (_, _); rw [show ∀ u : Nat, b + (u + 1) = b + 1 + u from fun u => by omega]) (fun b hb => by rw [h3q b hb]; exact hq b hb) ((hnf.tr h3n).tr h4n))
theorem k_X9_campaign (h9 : sh9 S m fh fo) (hW : g_wf (M (m + 2))) {tk : Nat → Nat × Nat} {n : Nat} (hF : q_fwf tk n) (hn : n ≤ 800) (hC : q_cd (M (m + 2)) tk n) {u : Nat} {H : Nat → Nat → Nat} (hH : q_hr M m u H) (hd : H 0 = M (m + 2)) {s l w : Int32} : LM G YX9_campaign 6 0 0 [.ref m, .int s, .int l, .int w] z S M N (lq_mn z S (fun x M3 N2 => ((∃ ks kl km, ks < M (m + 2) 1 ∧ 5 ≤ kl ∧ kl ≤ 60 ∧ 1 ≤ km ∧ km ≤ 20 ∧ s = nI ks ∧ l = nI kl ∧ w = nI km ∧ x = nI (g_camp tk n ks kl km (M (m + 2))).2 ∧ q_mut m u H M M3 ((g_camp tk n ks kl km (M (m + 2))).1)) ∨ ∃ e, ((e = 1 ∧ ¬ q_ix s (M (m + 2) 1)) ∨ (e = 2 ∧ q_ix s (M (m + 2) 1) ∧ ¬ (q_rg l 5 60 ∧ q_rg w 1 20))) ∧ M3 = lq_up M m 0 e) ∧ q_nf m N N2)) lq_no := by
  refine LM.of (by decide) rfl [some (.ref m), some (.int s), some (.int l), some (.int w), none, none, none] rfl (Nat.le_of_ble_eq_true rfl) ?_
  refine qw_aload_n 0 dX9_campaign_0 rfl rfl ?_
  refine qw_iconst (nI 0) dX9_campaign_1 (by decide) ?_
  refine qw_puti fX9_41 dX9_campaign_2 h9.1 rfl ?_
  have hM0 := lq_up_s M m 0 0
  have hMd := lq_up_n M (a := m) (b := m + 2) 0 0 (by omega)
  have hMu := fun e => lq_up_up M m 0 0 e
  have hMr := fun b (hb : b ≠ m) => lq_up_n M (a := m) (b := b) 0 0 hb
  have hMm := fun j (hj : j ≠ 0) => lq_up_c M (a := m) (k := 0) (j := j) 0 hj
  revert hM0 hMd hMu hMr hMm
  generalize hM1 : lq_up M m 0 0 = M1
  intro h0 hMd hMu hMr hMm
  have hW1 : g_wf (M1 (m + 2)) := by rw [hMd]; exact hW
  have h20 := hW1.nb
  have h8 := hW1.ns
  have h160 := hW1.no
  have hH1 : q_hr M1 m u H := hH.th hM1
  have hd1 : H 0 = M1 (m + 2) := by rw [hMd]; exact hd
  have hC1 : q_cd (M1 (m + 2)) tk n := by rw [hMd]; exact hC
  refine qw_aload_n 0 dX9_campaign_5 rfl rfl ?_
  refine qw_iload_n 1 dX9_campaign_6 rfl rfl ?_
  refine qw_cvi [_] (k_X9_noSponsor h9 h0 (by omega)) mX9_232 dX9_campaign_7 h9.1 rfl rfl rfl (Nat.le_of_ble_eq_true rfl) (by omega) (by decide) rfl (fun x1 M2 h1 => ?_)
  rcases h1 with ⟨v1, rfl, hz⟩ | ⟨v1, rfl, hz⟩ <;> rw [hz]
  · refine qw_if_neN 44 dX9_campaign_10 (by decide) (by omega) (fun c10 => absurd rfl c10) (fun c10 => ?_)
    refine qw_aload_n 0 dX9_campaign_13 rfl rfl ?_
    refine qw_iload_n 2 dX9_campaign_14 rfl rfl ?_
    refine qw_cvi [_] (k_X9_noSeconds h9 h0) mX9_238 dX9_campaign_15 h9.1 rfl rfl rfl (Nat.le_of_ble_eq_true rfl) (by omega) (by decide) rfl (fun x1 M2 h1 => ?_)
    rcases h1 with ⟨v2, rfl, hz⟩ | ⟨v2, rfl, hz⟩ <;> rw [hz]
    · refine qw_if_neN 44 dX9_campaign_18 (by decide) (by omega) (fun c18 => absurd rfl c18) (fun c18 => ?_)
      refine qw_aload_n 0 dX9_campaign_21 rfl rfl ?_
      refine qw_iload_n 3 dX9_campaign_22 rfl rfl ?_
      refine qw_iconst (nI 1) dX9_campaign_23 (by decide) ?_
      refine qw_bipush (nI 20) dX9_campaign_24 (by decide) ?_
      refine qw_csp [_, _, _] (k_X9_in) mX9_66 dX9_campaign_26 rfl rfl (Nat.le_of_ble_eq_true rfl) (by omega) (by decide) rfl ?_
      rw [q_inrg (by decide) (by decide)]
      refine qw_if_neN 36 dX9_campaign_29 (by decide) (Nat.lt_of_le_of_lt q_b_le (by decide)) (fun c29 => ?_) (fun c29 => ?_)
      · refine qw_iconst (nI 0) dX9_campaign_36 (by decide) ?_
        refine qw_iconst (nI 2) dX9_campaign_37 (by decide) ?_
        refine qw_cvi [_, _] (k_X9_fails h9 (by decide) (by decide) h0) mX9_166 dX9_campaign_38 h9.1 rfl rfl rfl (Nat.le_of_ble_eq_true rfl) (by omega) (by decide) rfl (fun x1 M2 h1 => ?_)
        obtain ⟨-, rfl, hz⟩ := h1.resolve_right (fun q => absurd q.1 (by decide))
        rw [hz]
        refine qw_if_eqN 46 dX9_campaign_41 (by decide) (by omega) (fun c41 => ?_) (fun c41 => absurd rfl c41)
        obtain ⟨ks, hs, rfl⟩ := v1
        obtain ⟨kl, hl1, hl2, rfl⟩ := v2
        obtain ⟨km, hm1, hm2, rfl⟩ := q_b_ne c29
        refine qw_aload_n 0 dX9_campaign_46 rfl rfl ?_
        refine qw_cvv [] (k_X9_remember h9 hH1 h0 hd1) mX9_178 dX9_campaign_47 h9.1 rfl rfl rfl (Nat.le_of_ble_eq_true rfl) (by omega) (by decide) rfl (fun M2 hmu => ?_)
        have e2 := hmu.1
        refine qw_iconst (nI 0) dX9_campaign_50 (by decide) ?_
        refine qw_istore dX9_campaign_51 rfl (by decide) ?_
        refine qw_aload_n 0 dX9_campaign_53 rfl rfl ?_
        refine qw_iload_n 1 dX9_campaign_54 rfl rfl ?_
        refine qw_iload_n 2 dX9_campaign_55 rfl rfl ?_
        refine qw_cvn [_, _] (k_X9_findCheapest_g h9 e2 hW1 hF hn hC1 hs hl2) mX9_247 dX9_campaign_56 h9.1 rfl rfl rfl (Nat.le_of_ble_eq_true rfl) (by omega) (by decide) rfl (fun x2 M4 N4 h4 => ?_)
        obtain ⟨rfl, hz, h4n⟩ := h4
        rw [hz]
        refine qw_istore dX9_campaign_59 rfl (by decide) ?_
        refine l_X9_campaign h9 hF hn hl2 (M0 := M2) (N0 := N) hm2 (R := g_camp tk n ks kl km (M1 (m + 2))) (fun M5 N5 k1 k2 k3 => ?_) km 0 M2 N4 _ (by omega) e2 hW1 hC1 hs (by rw [Nat.zero_add]) (fun b hb => rfl) h4n
        refine qw_iload dX9_campaign_97 rfl ?_
        exact qw_ireturn rfl rfl dX9_campaign_99 ⟨rfl, rfl, _, rfl, Or.inl (by rw [← hMd]; exact ⟨ks, kl, km, hs, hl1, hl2, hm1, hm2, rfl, rfl, rfl, rfl, (hmu.go (q_dfr.of k2) k1).th hM1⟩), k3⟩
      · refine qw_iconst (nI 1) dX9_campaign_32 (by decide) ?_
        refine qw_goto 37 dX9_campaign_33 (by decide) ?_
        refine qw_iconst (nI 2) dX9_campaign_37 (by decide) ?_
        refine qw_cvi [_, _] (k_X9_fails h9 (by decide) (by decide) h0) mX9_166 dX9_campaign_38 h9.1 rfl rfl rfl (Nat.le_of_ble_eq_true rfl) (by omega) (by decide) rfl (fun x1 M2 h1 => ?_)
        obtain ⟨-, rfl, hz⟩ := h1.resolve_left (fun q => absurd q.1 (by decide))
        rw [hz]
        refine qw_if_eqN 46 dX9_campaign_41 (by decide) (by omega) (fun c41 => absurd c41 (by decide)) (fun c41 => ?_)
        refine qw_iconst (nI 0) dX9_campaign_44 (by decide) ?_
        exact qw_ireturn rfl rfl dX9_campaign_45 ⟨rfl, rfl, _, rfl, Or.inr ⟨2, by rw [← hMd]; exact Or.inr ⟨rfl, v1, fun q => q_b_eq c29 q.2⟩, hMu 2⟩, q_nf.rf⟩
    · refine qw_if_neN 44 dX9_campaign_18 (by decide) (by omega) (fun c18 => ?_) (fun c18 => absurd c18 (by decide))
      refine qw_iconst (nI 0) dX9_campaign_44 (by decide) ?_
      exact qw_ireturn rfl rfl dX9_campaign_45 ⟨rfl, rfl, _, rfl, Or.inr ⟨2, by rw [← hMd]; exact Or.inr ⟨rfl, v1, fun q => v2 q.1⟩, hMu 2⟩, q_nf.rf⟩
  · refine qw_if_neN 44 dX9_campaign_10 (by decide) (by omega) (fun c10 => ?_) (fun c10 => absurd c10 (by decide))
    refine qw_iconst (nI 0) dX9_campaign_44 (by decide) ?_
    exact qw_ireturn rfl rfl dX9_campaign_45 ⟨rfl, rfl, _, rfl, Or.inr ⟨1, by rw [← hMd]; exact Or.inl ⟨rfl, v1⟩, hMu 1⟩, q_nf.rf⟩
theorem l_X9_goodFor (h9 : sh9 S m fh fo) (hW : g_wf (M (m + 2))) {k : Nat} (hk : k < M (m + 2) 5) : ∀ (n9 i : Nat), i ≤ M (m + 2) 0 → M (m + 2) 0 - i < n9 → (∀ j, j < i → g_gdN (M (m + 2)) k j ≠ 1) → LW G YX9_goodFor 5 0 0 (lq_pu z S M N (.int (if g_gf (M (m + 2)) k < M (m + 2) 0 then nI (g_gf (M (m + 2)) k) else -1))) lq_no z S M N 10 [some (.ref m), some (.int (nI k)), some (.int (nI (723 + 4 * k))), some (.int (nI i))] [] := by
  intro n9
  induction n9 with
  | zero => intro _ _ _ _; omega
  | succ n9 ih =>
    intro i hi hn9 hno
    have h20 := hW.nb
    have h160 := hW.no
    have how := hW.ow hk
    refine qw_iload_n 3 dX9_goodFor_10 rfl rfl ?_
    refine qw_aload_n 0 dX9_goodFor_11 rfl rfl ?_
    refine qw_getr fX9_17 dX9_goodFor_12 h9.1 rfl ?_
    refine qw_iconst (nI 0) dX9_goodFor_15 (by decide) ?_
    refine qw_iald dX9_goodFor_16 h9.da (by omega) (by omega) ?_
    refine qw_icmp_geN 72 dX9_goodFor_17 (by decide) (by omega) (by omega) (fun c17 => ?_) (fun c17 => ?_)
    · refine qw_iconst (-1) dX9_goodFor_72 (by decide) ?_
      exact qw_ireturn rfl rfl dX9_goodFor_73 ⟨by rw [g_gf, q_fst_miss (fun j hj => hno j (by omega)), if_neg (by omega)], rfl, rfl, rfl, rfl⟩
    · have hb := hW.br (i := i) (by omega)
      refine qw_aload_n 0 dX9_goodFor_20 rfl rfl ?_
      refine qw_getr fX9_17 dX9_goodFor_21 h9.1 rfl ?_
      refine qw_iload_n 3 dX9_goodFor_24 rfl rfl ?_
      refine qw_csp [_] (k_X9_at) mX9_44 dX9_goodFor_25 rfl rfl (Nat.le_of_ble_eq_true rfl) (by omega) (by decide) rfl ?_
      refine qw_iconst (nI 3) dX9_goodFor_28 (by decide) ?_
      refine qw_addN dX9_goodFor_29 ?_
      refine qw_iaj (10 + 30 * i) (by omega) dX9_goodFor_30 h9.da (by omega) (by omega) ?_
      refine qw_aload_n 0 dX9_goodFor_31 rfl rfl ?_
      refine qw_getr fX9_17 dX9_goodFor_32 h9.1 rfl ?_
      refine qw_iload_n 2 dX9_goodFor_35 rfl rfl ?_
      refine qw_iconst (nI 3) dX9_goodFor_36 (by decide) ?_
      refine qw_addN dX9_goodFor_37 ?_
      refine qw_iaj (726 + 4 * k) (by omega) dX9_goodFor_38 h9.da (by omega) (by omega) ?_
      refine qw_icmp_ltN 66 dX9_goodFor_39 (by decide) (by omega) (by omega) (fun c39 => ?_) (fun c39 => ?_)
      · refine qw_iincN 1 dX9_goodFor_66 rfl (by decide) rfl (by decide) ?_
        refine qw_goto 10 dX9_goodFor_69 (by decide) ?_
        refine ih (i + 1) (by omega) (by omega) (fun j hj => ?_)
        rcases Nat.lt_or_ge j i with q | q
        · exact hno j q
        · rw [show j = i by omega]; exact fun q9 => absurd (g_gdN_1.mp q9) (fun q => by omega)
      · refine qw_aload_n 0 dX9_goodFor_42 rfl rfl ?_
        refine qw_aload_n 0 dX9_goodFor_43 rfl rfl ?_
        refine qw_getr fX9_17 dX9_goodFor_44 h9.1 rfl ?_
        refine qw_iload_n 2 dX9_goodFor_47 rfl rfl ?_
        refine qw_iald dX9_goodFor_48 h9.da (by omega) (by omega) ?_
        refine qw_aload_n 0 dX9_goodFor_49 rfl rfl ?_
        refine qw_getr fX9_17 dX9_goodFor_50 h9.1 rfl ?_
        refine qw_iload_n 2 dX9_goodFor_53 rfl rfl ?_
        refine qw_iconst (nI 1) dX9_goodFor_54 (by decide) ?_
        refine qw_addN dX9_goodFor_55 ?_
        refine qw_iaj (724 + 4 * k) (by omega) dX9_goodFor_56 h9.da (by omega) (by omega) ?_
        refine qw_iload_n 3 dX9_goodFor_57 rfl rfl ?_
        refine qw_cvp [_, _, _] (k_X9_reasonOf h9 hW (by omega) how.1 how.2.1) mX9_225 dX9_goodFor_58 h9.1 rfl rfl rfl (Nat.le_of_ble_eq_true rfl) (by omega) (by decide) rfl ?_
        have hrl : g_rs (M (m + 2)) (M (m + 2) (723 + 4 * k)) (M (m + 2) (724 + 4 * k)) i ≤ 5 := g_rs_le
        refine qw_if_neN 66 dX9_goodFor_61 (by decide) (by omega) (fun c61 => ?_) (fun c61 => ?_)
        · refine qw_iincN 1 dX9_goodFor_66 rfl (by decide) rfl (by decide) ?_
          refine qw_goto 10 dX9_goodFor_69 (by decide) ?_
          refine ih (i + 1) (by omega) (by omega) (fun j hj => ?_)
          rcases Nat.lt_or_ge j i with q | q
          · exact hno j q
          · rw [show j = i by omega]; exact fun q9 => absurd (g_gdN_1.mp q9) (fun q => c61 q.2)
        · refine qw_iload_n 3 dX9_goodFor_64 rfl rfl ?_
          exact qw_ireturn rfl rfl dX9_goodFor_65 ⟨by rw [g_gf, q_fst_hit (i := i) (by omega) (g_gdN_1.mpr ⟨by omega, c61⟩) hno, if_pos (by omega)], rfl, rfl, rfl, rfl⟩
theorem k_X9_goodFor (h9 : sh9 S m fh fo) (hW : g_wf (M (m + 2))) {k : Nat} (hk : k < M (m + 2) 5) : LM G YX9_goodFor 5 0 0 [.ref m, .int (nI k)] z S M N (lq_pu z S M N (.int (if g_gf (M (m + 2)) k < M (m + 2) 0 then nI (g_gf (M (m + 2)) k) else -1))) lq_no := by
  refine LM.of (by decide) rfl [some (.ref m), some (.int (nI k)), none, none] rfl (Nat.le_of_ble_eq_true rfl) ?_
  refine qw_sipush (nI 723) dX9_goodFor_0 (by decide) ?_
  refine qw_iconst (nI 4) dX9_goodFor_3 (by decide) ?_
  refine qw_iload_n 1 dX9_goodFor_4 rfl rfl ?_
  refine qw_mulN dX9_goodFor_5 ?_
  refine qw_addN dX9_goodFor_6 ?_
  refine qw_istore_n 2 dX9_goodFor_7 rfl rfl (by decide) ?_
  refine qw_iconst (nI 0) dX9_goodFor_8 (by decide) ?_
  refine qw_istore_n 3 dX9_goodFor_9 rfl rfl (by decide) ?_
  exact l_X9_goodFor h9 hW hk (M (m + 2) 0 + 1) 0 (Nat.zero_le _) (by omega) (fun j hj => absurd hj (Nat.not_lt_zero j))
theorem k_X9_goodFor_g (h9 : sh9 S m fh fo) {g : Nat → Nat} (hg : M (m + 2) = g) (hW : g_wf (g)) {k : Nat} (hk : k < g 5) : LM G YX9_goodFor 5 0 0 [.ref m, .int (nI k)] z S M N (lq_pu z S M N (.int (if g_gf (g) k < g 0 then nI (g_gf (g) k) else -1))) lq_no := by
  subst hg
  exact k_X9_goodFor h9 hW hk
def g_cpi (h : Nat → Nat) (k left j : Nat) : Nat → Nat := fun x => if 723 + 4 * left ≤ x ∧ x < 723 + 4 * left + j then h (x + 4 * (k - left)) else h x
theorem g_cpi_w {h : Nat → Nat} {k left j : Nat} (hl : left ≤ k) (hj : j < 4) : (fun x => if x = 723 + 4 * left + j then g_cpi h k left j (723 + 4 * k + j) else g_cpi h k left j x) = g_cpi h k left (j + 1) := by
  funext x
  unfold g_cpi
  by_cases e : x = 723 + 4 * left + j
  · rw [if_pos e, if_pos (show 723 + 4 * left ≤ x ∧ x < 723 + 4 * left + (j + 1) by omega)]
    rw [if_neg (by omega), show x + 4 * (k - left) = 723 + 4 * k + j by omega]
  · rw [if_neg e]
    by_cases e2 : 723 + 4 * left ≤ x ∧ x < 723 + 4 * left + j
    · rw [if_pos e2, if_pos (show 723 + 4 * left ≤ x ∧ x < 723 + 4 * left + (j + 1) by omega)]
    · rw [if_neg e2, if_neg (by omega)]
theorem g_cpi_0 {h : Nat → Nat} {k left : Nat} : h = g_cpi h k left 0 := by
  funext x
  unfold g_cpi
  rw [if_neg (by omega)]
theorem g_cpi_4 {h : Nat → Nat} {k left : Nat} : g_cpi h k left 4 = g_cpo h k left := by
  funext x
  unfold g_cpi g_cpo
  by_cases e : 723 + 4 * left ≤ x ∧ x < 723 + 4 * left + 4
  · rw [if_pos e, if_pos (by omega)]
  · rw [if_neg e, if_neg (by omega)]
theorem l0_X9_makeGood (h9 : sh9 S m fh fo) {M0 : lq_M} {Q : lq_P} {k left n0 : Nat} {h : Nat → Nat} (hk : k < 160) (hl : left ≤ k) {l6 : Int32} (kk : ∀ M1 : lq_M, M1 (m + 2) = g_cpo h k left → (∀ b, b ≠ m + 2 → M1 b = M0 b) → LW G YX9_makeGood 6 0 0 Q lq_no z S M1 N 138 [some (.ref m), some (.int (nI n0)), some (.int (nI left)), some (.int (nI k)), none, none, none, none] []) : ∀ (n9 j : Nat) (M : lq_M), j ≤ 4 → 4 - j < n9 → M (m + 2) = g_cpi h k left j → (∀ b, b ≠ m + 2 → M b = M0 b) → LW G YX9_makeGood 6 0 0 Q lq_no z S M N 106 [some (.ref m), some (.int (nI n0)), some (.int (nI left)), some (.int (nI k)), some (.int (nI (723 + 4 * k))), some (.int (nI (723 + 4 * left))), some (.int l6), some (.int (nI j))] [] := by
  intro n9
  induction n9 with
  | zero => intro _ _ _ _ _ _; omega
  | succ n9 ih =>
    intro j M hj hn9 hv hq
    refine qw_iload dX9_makeGood_106 rfl ?_
    refine qw_iconst (nI 4) dX9_makeGood_108 (by decide) ?_
    refine qw_icmp_geN 138 dX9_makeGood_109 (by decide) (by omega) (by omega) (fun c109 => ?_) (fun c109 => ?_)
    · refine qw_weak _ (by simp [lq_le]) (kk M ?_ hq)
      rw [hv, show j = 4 by omega]
      exact g_cpi_4
    · refine qw_aload_n 0 dX9_makeGood_112 rfl rfl ?_
      refine qw_getr fX9_17 dX9_makeGood_113 h9.1 rfl ?_
      refine qw_iload dX9_makeGood_116 rfl ?_
      refine qw_iload dX9_makeGood_118 rfl ?_
      refine qw_addN dX9_makeGood_120 ?_
      refine qw_aload_n 0 dX9_makeGood_121 rfl rfl ?_
      refine qw_getr fX9_17 dX9_makeGood_122 h9.1 rfl ?_
      refine qw_iload dX9_makeGood_125 rfl ?_
      refine qw_iload dX9_makeGood_127 rfl ?_
      refine qw_addN dX9_makeGood_129 ?_
      refine qw_iald dX9_makeGood_130 h9.da (by omega) (by omega) ?_
      refine qw_iast dX9_makeGood_131 h9.da (by omega) (by omega) ?_
      refine qw_iincN 1 dX9_makeGood_132 rfl (by decide) rfl (by decide) ?_
      refine qw_goto 106 dX9_makeGood_135 (by decide) ?_
      refine ih (j + 1) _ (by omega) (by omega) ?_ (fun b hb => by rw [lq_up_n _ _ _ hb]; exact hq b hb)
      rw [lq_up_a, hv]
      exact g_cpi_w hl (by omega)
theorem l1_X9_makeGood (h9 : sh9 S m fh fo) {g : Nat → Nat} (hW : g_wf g) {M0 : lq_M} {Q : lq_P} (kk : ∀ M1 : lq_M, M1 (m + 2) = (g_mgs g (g 5)).1 → (∀ b, b ≠ m + 2 → M1 b = M0 b) → LW G YX9_makeGood 6 0 0 Q lq_no z S M1 N 147 [some (.ref m), some (.int (nI (g 5))), some (.int (nI (g_mgs g (g 5)).2)), none, none, none, none, none] []) : ∀ (n9 k : Nat) (M : lq_M), k ≤ g 5 → g 5 - k < n9 → M (m + 2) = (g_mgs g k).1 → (∀ b, b ≠ m + 2 → M b = M0 b) → LW G YX9_makeGood 6 0 0 Q lq_no z S M N 20 [some (.ref m), some (.int (nI (g 5))), some (.int (nI (g_mgs g k).2)), some (.int (nI k)), none, none, none, none] [] := by
  intro n9
  induction n9 with
  | zero => intro _ _ _ _ _ _; omega
  | succ n9 ih =>
    intro k M hk hn9 hg hq
    have h20 := hW.nb
    have h8 := hW.ns
    have h160 := hW.no
    obtain ⟨i1, i2, i3, i5, i6, i7⟩ := hW.mgs k hk
    have hle := g_mgs_le g k
    refine qw_iload_n 3 dX9_makeGood_20 rfl rfl ?_
    refine qw_iload_n 1 dX9_makeGood_21 rfl rfl ?_
    refine qw_icmp_geN 147 dX9_makeGood_22 (by decide) (by omega) (by omega) (fun c22 => ?_) (fun c22 => ?_)
    · have e : k = g 5 := by omega
      subst e
      exact qw_weak _ (by simp [lq_le]) (kk M hg hq)
    · refine qw_sipush (nI 723) dX9_makeGood_25 (by decide) ?_
      refine qw_iconst (nI 4) dX9_makeGood_28 (by decide) ?_
      refine qw_iload_n 3 dX9_makeGood_29 rfl rfl ?_
      refine qw_mulN dX9_makeGood_30 ?_
      refine qw_addN dX9_makeGood_31 ?_
      refine qw_istore dX9_makeGood_32 rfl (by decide) ?_
      refine qw_sipush (nI 723) dX9_makeGood_34 (by decide) ?_
      refine qw_iconst (nI 4) dX9_makeGood_37 (by decide) ?_
      refine qw_iload_n 2 dX9_makeGood_38 rfl rfl ?_
      refine qw_mulN dX9_makeGood_39 ?_
      refine qw_addN dX9_makeGood_40 ?_
      refine qw_istore dX9_makeGood_41 rfl (by decide) ?_
      refine qw_aload_n 0 dX9_makeGood_43 rfl rfl ?_
      refine qw_iload_n 3 dX9_makeGood_44 rfl rfl ?_
      refine qw_cvp [_] (k_X9_goodFor_g h9 hg i1 (by omega)) mX9_278 dX9_makeGood_45 h9.1 rfl rfl rfl (Nat.le_of_ble_eq_true rfl) (by omega) (by decide) rfl ?_
      by_cases hgf : g_gf (g_mgs g k).1 k < (g_mgs g k).1 0
      · rw [if_pos hgf]
        have hr0 := g_gf_ok hgf
        have hok := g_rs_ok hr0
        have how := i1.ow (k := k) (by omega)
        have hpl := g_pf_le (g_mgs g k).1 ((g_mgs g k).1 (723 + 4 * k)) (g_gf (g_mgs g k).1 k)
        have h7 := i1.seven hgf how.1 hok.2.1
        have hm1 : (g_mgs g (k + 1)).1 = g_put (g_mgs g k).1 (g_gf (g_mgs g k).1 k) (g_pf (g_mgs g k).1 ((g_mgs g k).1 (723 + 4 * k)) (g_gf (g_mgs g k).1 k)) ((g_mgs g k).1 (723 + 4 * k)) ((g_mgs g k).1 (724 + 4 * k)) ((g_mgs g k).1 (725 + 4 * k)) := by rw [g_mgs, if_pos (by omega)]
        have hm2 : (g_mgs g (k + 1)).2 = (g_mgs g k).2 := by rw [g_mgs, if_pos (by omega)]
        refine qw_istore dX9_makeGood_48 rfl (by decide) ?_
        refine qw_iload dX9_makeGood_50 rfl ?_
        refine qw_iconst (-1) dX9_makeGood_52 (by decide) ?_
        refine qw_icmp_eq 103 dX9_makeGood_53 (by decide) (fun c53 => absurd c53 (fun q => by have h1 := nI_toInt (show g_gf (g_mgs g k).1 k < 2 ^ 31 by omega); rw [q] at h1; have : (-1 : Int32).toInt = -1 := rfl; omega)) (fun c53 => ?_)
        refine qw_aload_n 0 dX9_makeGood_56 rfl rfl ?_
        refine qw_iload dX9_makeGood_57 rfl ?_
        refine qw_aload_n 0 dX9_makeGood_59 rfl rfl ?_
        refine qw_aload_n 0 dX9_makeGood_60 rfl rfl ?_
        refine qw_getr fX9_17 dX9_makeGood_61 h9.1 rfl ?_
        refine qw_iload dX9_makeGood_64 rfl ?_
        refine qw_iald dX9_makeGood_66 h9.da (by omega) (by omega) ?_
        rw [hg]
        refine qw_iload dX9_makeGood_67 rfl ?_
        refine qw_cvp [_, _] (k_X9_placeFor_g h9 hg i1 hgf how.1) mX9_205 dX9_makeGood_69 h9.1 rfl rfl rfl (Nat.le_of_ble_eq_true rfl) (by omega) (by decide) rfl ?_
        rw [if_neg hok.2.2.2.2]
        refine qw_aload_n 0 dX9_makeGood_72 rfl rfl ?_
        refine qw_getr fX9_17 dX9_makeGood_73 h9.1 rfl ?_
        refine qw_iload dX9_makeGood_76 rfl ?_
        refine qw_iald dX9_makeGood_78 h9.da (by omega) (by omega) ?_
        rw [hg]
        refine qw_aload_n 0 dX9_makeGood_79 rfl rfl ?_
        refine qw_getr fX9_17 dX9_makeGood_80 h9.1 rfl ?_
        refine qw_iload dX9_makeGood_83 rfl ?_
        refine qw_iconst (nI 1) dX9_makeGood_85 (by decide) ?_
        refine qw_addN dX9_makeGood_86 ?_
        refine qw_iaj (724 + 4 * k) (by omega) dX9_makeGood_87 h9.da (by omega) (by omega) ?_
        rw [hg]
        refine qw_aload_n 0 dX9_makeGood_88 rfl rfl ?_
        refine qw_getr fX9_17 dX9_makeGood_89 h9.1 rfl ?_
        refine qw_iload dX9_makeGood_92 rfl ?_
        refine qw_iconst (nI 2) dX9_makeGood_94 (by decide) ?_
        refine qw_addN dX9_makeGood_95 ?_
        refine qw_iaj (725 + 4 * k) (by omega) dX9_makeGood_96 h9.da (by omega) (by omega) ?_
        rw [hg]
        refine qw_cvv [_, _, _, _, _] (k_X9_put h9 (by omega) (by omega) h7 hg) mX9_265 dX9_makeGood_97 h9.1 rfl rfl rfl (Nat.le_of_ble_eq_true rfl) (by omega) (by decide) rfl (fun M2 h2 => ?_)
        refine qw_goto 141 dX9_makeGood_100 (by decide) ?_
        refine qw_iincN 1 dX9_makeGood_141 rfl (by decide) rfl (by decide) ?_
        refine qw_goto 20 dX9_makeGood_144 (by decide) ?_
        refine qw_weak _ (by simp [lq_le, hm2]) (ih (k + 1) M2 (by omega) (by omega) (by rw [h2.1, hm1]) (fun b hb => by rw [h2.2 b hb]; exact hq b hb))
      · rw [if_neg hgf]
        have hm1 : (g_mgs g (k + 1)).1 = g_cpo (g_mgs g k).1 k (g_mgs g k).2 := by rw [g_mgs, if_neg (by omega)]
        have hm2 : (g_mgs g (k + 1)).2 = (g_mgs g k).2 + 1 := by rw [g_mgs, if_neg (by omega)]
        refine qw_istore dX9_makeGood_48 rfl (by decide) ?_
        refine qw_iload dX9_makeGood_50 rfl ?_
        refine qw_iconst (-1) dX9_makeGood_52 (by decide) ?_
        refine qw_icmp_eq 103 dX9_makeGood_53 (by decide) (fun c53 => ?_) (fun c53 => absurd rfl c53)
        refine qw_iconst (nI 0) dX9_makeGood_103 (by decide) ?_
        refine qw_istore dX9_makeGood_104 rfl (by decide) ?_
        refine l0_X9_makeGood h9 (M0 := M0) (h := (g_mgs g k).1) (k := k) (left := (g_mgs g k).2) (by omega) hle (fun M2 k1 k2 => ?_) 5 0 M (by decide) (by decide) (by rw [hg]; exact g_cpi_0) hq
        refine qw_iincN 1 dX9_makeGood_138 rfl (by decide) rfl (by decide) ?_
        refine qw_iincN 1 dX9_makeGood_141 rfl (by decide) rfl (by decide) ?_
        refine qw_goto 20 dX9_makeGood_144 (by decide) ?_
        exact qw_weak _ (by simp [lq_le, hm2]) (ih (k + 1) M2 (by omega) (by omega) (by rw [k1, hm1]) k2)
theorem k_X9_makeGood (h9 : sh9 S m fh fo) (hW : g_wf (M (m + 2))) {u : Nat} {H : Nat → Nat → Nat} (hH : q_hr M m u H) (hd : H 0 = M (m + 2)) : LM G YX9_makeGood 6 0 0 [.ref m] z S M N (lq_mi z S N (fun x M3 => x = nI (M (m + 2) 5 - (g_mgs (M (m + 2)) (M (m + 2) 5)).2) ∧ q_mut m u H M M3 (g_mkg (M (m + 2))))) lq_no := by
  refine LM.of (by decide) rfl [some (.ref m), none, none, none, none, none, none, none] rfl (Nat.le_of_ble_eq_true rfl) ?_
  refine qw_aload_n 0 dX9_makeGood_0 rfl rfl ?_
  refine qw_iconst (nI 0) dX9_makeGood_1 (by decide) ?_
  refine qw_puti fX9_41 dX9_makeGood_2 h9.1 rfl ?_
  have hM0 := lq_up_s M m 0 0
  have hMd := lq_up_n M (a := m) (b := m + 2) 0 0 (by omega)
  have hMu := fun e => lq_up_up M m 0 0 e
  have hMr := fun b (hb : b ≠ m) => lq_up_n M (a := m) (b := b) 0 0 hb
  have hMm := fun j (hj : j ≠ 0) => lq_up_c M (a := m) (k := 0) (j := j) 0 hj
  revert hM0 hMd hMu hMr hMm
  generalize hM1 : lq_up M m 0 0 = M1
  intro h0 hMd hMu hMr hMm
  have hW1 : g_wf (M1 (m + 2)) := by rw [hMd]; exact hW
  have h20 := hW1.nb
  have h8 := hW1.ns
  have h160 := hW1.no
  have hH1 : q_hr M1 m u H := hH.th hM1
  have hd1 : H 0 = M1 (m + 2) := by rw [hMd]; exact hd
  refine qw_aload_n 0 dX9_makeGood_5 rfl rfl ?_
  refine qw_cvv [] (k_X9_remember h9 hH1 h0 hd1) mX9_178 dX9_makeGood_6 h9.1 rfl rfl rfl (Nat.le_of_ble_eq_true rfl) (by omega) (by decide) rfl (fun M2 hmu => ?_)
  have e2 := hmu.1
  refine qw_aload_n 0 dX9_makeGood_9 rfl rfl ?_
  refine qw_getr fX9_17 dX9_makeGood_10 h9.1 rfl ?_
  refine qw_iconst (nI 5) dX9_makeGood_13 (by decide) ?_
  refine qw_iald dX9_makeGood_14 h9.da (by omega) (by omega) ?_
  rw [e2]
  refine qw_istore_n 1 dX9_makeGood_15 rfl rfl (by decide) ?_
  refine qw_iconst (nI 0) dX9_makeGood_16 (by decide) ?_
  refine qw_istore_n 2 dX9_makeGood_17 rfl rfl (by decide) ?_
  refine qw_iconst (nI 0) dX9_makeGood_18 (by decide) ?_
  refine qw_istore_n 3 dX9_makeGood_19 rfl rfl (by decide) ?_
  have hml := g_mgs_le (M1 (m + 2)) (M1 (m + 2) 5)
  refine l1_X9_makeGood h9 hW1 (M0 := M2) (fun M4 k1 k2 => ?_) (M1 (m + 2) 5 + 1) 0 M2 (Nat.zero_le _) (by omega) (by rw [e2]; rfl) (fun b hb => rfl)
  refine qw_aload_n 0 dX9_makeGood_147 rfl rfl ?_
  refine qw_getr fX9_17 dX9_makeGood_148 h9.1 rfl ?_
  refine qw_iconst (nI 5) dX9_makeGood_151 (by decide) ?_
  refine qw_iload_n 2 dX9_makeGood_152 rfl rfl ?_
  refine qw_iast dX9_makeGood_153 h9.da (by omega) (by omega) ?_
  refine qw_iload_n 1 dX9_makeGood_154 rfl rfl ?_
  refine qw_iload_n 2 dX9_makeGood_155 rfl rfl ?_
  refine qw_subN (by omega) dX9_makeGood_156 ?_
  exact qw_ireturn rfl rfl dX9_makeGood_157 ⟨rfl, rfl, rfl, _, rfl, by rw [← hMd]; exact ⟨rfl, (hmu.go (q_dfr.of (fun b hb => by rw [lq_up_n _ _ _ hb]; exact k2 b hb)) (by rw [lq_up_a, k1]; rfl)).th hM1⟩⟩
end R9
