/-! the class as a whole: changes -/
def g_one (g : Nat → Nat) (y v : Nat) : Nat → Nat := fun x => if x = y then v else g x
theorem g_one_o {g : Nat → Nat} {y v x : Nat} (h : x ≠ y) : g_one g y v x = g x := if_neg h
theorem g_one_s {g : Nat → Nat} {y v : Nat} : g_one g y v y = v := if_pos rfl
theorem g_wf.air {g : Nat → Nat} (h : g_wf g) {i : Nat} (hi : i < g 0) (h0 : g (11 + 30 * i) = 0) : g_wf (g_one g (11 + 30 * i) 1) := by
  have h20 := h.nb
  have h8 := h.ns
  have o : ∀ x, x ≠ 11 + 30 * i → g_one g (11 + 30 * i) 1 x = g x := fun x hx => g_one_o hx
  refine ⟨by rw [o 0 (by omega)]; exact h20, by rw [o 1 (by omega)]; exact h8, fun j hj => ?_, fun j p hj hp => ?_, fun j p q hj hp hq e => ?_, fun s hs => ?_, fun a b ha hb => ?_, fun k hk => ?_, ?_⟩
  · rw [o 0 (by omega)] at hj
    have hb := h.br hj
    rw [o (7 + 30 * j) (by omega), o (8 + 30 * j) (by omega), o (9 + 30 * j) (by omega), o (10 + 30 * j) (by omega), o (12 + 30 * j) (by omega)]
    by_cases e : j = i
    · subst e
      rw [g_one_s]
      exact ⟨hb.1, hb.2.1, hb.2.2.1, hb.2.2.2.1, by omega, hb.2.2.2.2.2.1, fun q => absurd q (by decide)⟩
    · rw [o (11 + 30 * j) (by omega)]; exact hb
  · rw [o 0 (by omega)] at hj
    rw [o (12 + 30 * j) (by omega)] at hp
    have hb := (h.br hj).2.2.2.2.2.1
    rw [o 1 (by omega), o (13 + 30 * j + 3 * p) (by omega), o (14 + 30 * j + 3 * p) (by omega), o (15 + 30 * j + 3 * p) (by omega)]
    exact h.sp hj hp
  · rw [o 0 (by omega)] at hj
    rw [o (12 + 30 * j) (by omega)] at hp hq
    have hb := (h.br hj).2.2.2.2.2.1
    rw [o (13 + 30 * j + 3 * p) (by omega), o (13 + 30 * j + 3 * q) (by omega)] at e
    exact h.ne hj hp hq e
  · rw [o (607 + 2 * s) (by omega), o (608 + 2 * s) (by omega)]; exact h.cat hs
  · rw [o (623 + 10 * a + b) (by omega), o (623 + 10 * b + a) (by omega)]; exact h.ban ha hb
  · rw [o 5 (by omega)] at hk
    rw [o (723 + 4 * k) (by omega), o (724 + 4 * k) (by omega), o (725 + 4 * k) (by omega), o (726 + 4 * k) (by omega), o 1 (by omega)]
    exact h.ow hk
  · have ec : ∀ m, g_cn (g_one g (11 + 30 * i) 1) m = g_cn g m := by
      intro m
      induction m with
      | zero => rfl
      | succ m ih =>
        rw [g_cn, g_cn, ih]
        by_cases e : m = i
        · subst e
          rw [g_one_s, h0, if_neg (by decide), if_neg (by decide)]
        · rw [o (11 + 30 * m) (by omega)]
    rw [o 5 (by omega), o 0 (by omega), ec]
    exact h.2.2.2.2.2.2.2.2
theorem g_wf.capd {g : Nat → Nat} (h : g_wf g) {s v : Nat} (hs : s < 8) (hv : v ≤ 9) : g_wf (g_one g (608 + 2 * s) v) := by
  have h20 := h.nb
  have h8 := h.ns
  have o : ∀ x, x ≠ 608 + 2 * s → g_one g (608 + 2 * s) v x = g x := fun x hx => g_one_o hx
  refine ⟨by rw [o 0 (by omega)]; exact h20, by rw [o 1 (by omega)]; exact h8, fun j hj => ?_, fun j p hj hp => ?_, fun j p q hj hp hq e => ?_, fun t ht => ?_, fun a b ha hb => ?_, fun k hk => ?_, ?_⟩
  · rw [o 0 (by omega)] at hj
    rw [o (7 + 30 * j) (by omega), o (8 + 30 * j) (by omega), o (9 + 30 * j) (by omega), o (10 + 30 * j) (by omega), o (11 + 30 * j) (by omega), o (12 + 30 * j) (by omega)]
    exact h.br hj
  · rw [o 0 (by omega)] at hj
    rw [o (12 + 30 * j) (by omega)] at hp
    have hb := (h.br hj).2.2.2.2.2.1
    rw [o 1 (by omega), o (13 + 30 * j + 3 * p) (by omega), o (14 + 30 * j + 3 * p) (by omega), o (15 + 30 * j + 3 * p) (by omega)]
    exact h.sp hj hp
  · rw [o 0 (by omega)] at hj
    rw [o (12 + 30 * j) (by omega)] at hp hq
    have hb := (h.br hj).2.2.2.2.2.1
    rw [o (13 + 30 * j + 3 * p) (by omega), o (13 + 30 * j + 3 * q) (by omega)] at e
    exact h.ne hj hp hq e
  · rw [o (607 + 2 * t) (by omega)]
    by_cases e : t = s
    · subst e
      rw [g_one_s]
      exact ⟨(h.cat ht).1, hv⟩
    · rw [o (608 + 2 * t) (by omega)]; exact h.cat ht
  · rw [o (623 + 10 * a + b) (by omega), o (623 + 10 * b + a) (by omega)]; exact h.ban ha hb
  · rw [o 5 (by omega)] at hk
    rw [o (723 + 4 * k) (by omega), o (724 + 4 * k) (by omega), o (725 + 4 * k) (by omega), o (726 + 4 * k) (by omega), o 1 (by omega)]
    exact h.ow hk
  · rw [o 5 (by omega), o 0 (by omega), g_cn_cong (g := g_one g (608 + 2 * s) v) (g' := g) (g 0) (fun j hj => o (11 + 30 * j) (by omega))]
    exact h.2.2.2.2.2.2.2.2
theorem q_pl.air {S : lq_S} {M : lq_M} {a i : Nat} {f : Nat → Option Nat} {σ g : Nat → Nat} {tk : Nat → Nat × Nat} {n : Nat} (hS : sh4 S a f σ) (hW : g_wf g) (h : q_pl M a σ g tk n) (hi : i < g 0) : q_pl (lq_up M (a + 2 + 6 * σ i) 4 1) a σ (g_one g (11 + 30 * i) 1) tk n := by
  have h20 := hW.nb
  have h8 := hW.ns
  have hsi := hS.s (i := i) (by omega)
  have o : ∀ x, x ≠ 11 + 30 * i → g_one g (11 + 30 * i) 1 x = g x := fun x hx => g_one_o hx
  have e : ∀ b, b ≠ a + 2 + 6 * σ i → lq_up M (a + 2 + 6 * σ i) 4 1 b = M b := fun b hb => lq_up_n _ _ _ hb
  refine ⟨by rw [e a (by omega), o 0 (by omega)]; exact h.nb, by rw [e a (by omega), o 1 (by omega)]; exact h.ns, by rw [e a (by omega), o 6 (by omega)]; exact h.inc, fun j hj => ?_, fun s hs => ?_, fun c hc => ?_, ?_, ?_⟩
  · rw [o 0 (by omega)] at hj
    have hb := (hW.br hj).2.2.2.2.2.1
    have q := h.br hj
    have hsj := hS.s (i := j) (by omega)
    unfold q_br at q ⊢
    rw [o (7 + 30 * j) (by omega), o (8 + 30 * j) (by omega), o (9 + 30 * j) (by omega), o (10 + 30 * j) (by omega), o (12 + 30 * j) (by omega)]
    by_cases w : j = i
    · subst w
      rw [g_one_s, lq_up_c _ _ (by decide), lq_up_c _ _ (by decide), lq_up_c _ _ (by decide), lq_up_c _ _ (by decide), lq_up_s, e _ (by omega), e _ (by omega), e _ (by omega), e _ (by omega)]
      refine ⟨q.1, q.2.1, q.2.2.1, q.2.2.2.1, rfl, q.2.2.2.2.2.1, fun p hp => ?_⟩
      rw [o (13 + 30 * j + 3 * p) (by omega), o (14 + 30 * j + 3 * p) (by omega), o (15 + 30 * j + 3 * p) (by omega)]
      exact q.2.2.2.2.2.2 p hp
    · have hne : σ j ≠ σ i := fun z => w (hS.inj (by omega) (by omega) z)
      rw [o (11 + 30 * j) (by omega), e (a + 2 + 6 * σ j) (by omega), e (a + 2 + 6 * σ j + 1) (by omega), e (a + 2 + 6 * σ j + 1 + 1) (by omega), e (a + 2 + 6 * σ j + 1 + 2) (by omega), e (a + 2 + 6 * σ j + 1 + 3) (by omega)]
      refine ⟨q.1, q.2.1, q.2.2.1, q.2.2.2.1, q.2.2.2.2.1, q.2.2.2.2.2.1, fun p hp => ?_⟩
      rw [o (13 + 30 * j + 3 * p) (by omega), o (14 + 30 * j + 3 * p) (by omega), o (15 + 30 * j + 3 * p) (by omega)]
      exact q.2.2.2.2.2.2 p hp
  · rw [o 1 (by omega)] at hs
    rw [e (a + 122) (by omega), e (a + 123) (by omega), o (607 + 2 * s) (by omega), o (608 + 2 * s) (by omega)]
    exact h.cat hs
  · rw [e (a + 124) (by omega)]
    refine ⟨(h.ban hc).1, fun b hb => ?_⟩
    rw [o (623 + 10 * c + b) (by omega)]
    exact (h.ban hc).2 b hb
  · rw [e (a + 125) (by omega), e (a + 125 + 1) (by omega)]
    exact h.fm
  · rw [e (a + 129) (by omega), e (a + 129 + 1) (by omega), e (a + 129 + 2) (by omega), e (a + 129 + 3) (by omega), e (a + 129 + 4) (by omega), o 5 (by omega)]
    refine ⟨h.ow.1, fun k hk => ?_⟩
    rw [o (723 + 4 * k) (by omega), o (724 + 4 * k) (by omega), o (725 + 4 * k) (by omega), o (726 + 4 * k) (by omega)]
    exact h.ow.2 k hk
theorem q_pl.capd {S : lq_S} {M : lq_M} {a s v : Nat} {f : Nat → Option Nat} {σ g : Nat → Nat} {tk : Nat → Nat × Nat} {n : Nat} (hS : sh4 S a f σ) (hW : g_wf g) (h : q_pl M a σ g tk n) (hs8 : s < 8) : q_pl (lq_up M (a + 123) s v) a σ (g_one g (608 + 2 * s) v) tk n := by
  have h20 := hW.nb
  have h8 := hW.ns
  have o : ∀ x, x ≠ 608 + 2 * s → g_one g (608 + 2 * s) v x = g x := fun x hx => g_one_o hx
  have e : ∀ b, b ≠ a + 123 → lq_up M (a + 123) s v b = M b := fun b hb => lq_up_n _ _ _ hb
  refine ⟨by rw [e a (by omega), o 0 (by omega)]; exact h.nb, by rw [e a (by omega), o 1 (by omega)]; exact h.ns, by rw [e a (by omega), o 6 (by omega)]; exact h.inc, fun j hj => ?_, fun t ht => ?_, fun c hc => ?_, ?_, ?_⟩
  · rw [o 0 (by omega)] at hj
    have hb := (hW.br hj).2.2.2.2.2.1
    have hsj := hS.s (i := j) (by omega)
    have q := (h.br hj).eqM (M1 := lq_up M (a + 123) s v) (fun x x1 x2 => e x (by omega))
    unfold q_br at q ⊢
    rw [o (7 + 30 * j) (by omega), o (8 + 30 * j) (by omega), o (9 + 30 * j) (by omega), o (10 + 30 * j) (by omega), o (11 + 30 * j) (by omega), o (12 + 30 * j) (by omega)]
    refine ⟨q.1, q.2.1, q.2.2.1, q.2.2.2.1, q.2.2.2.2.1, q.2.2.2.2.2.1, fun p hp => ?_⟩
    rw [o (13 + 30 * j + 3 * p) (by omega), o (14 + 30 * j + 3 * p) (by omega), o (15 + 30 * j + 3 * p) (by omega)]
    exact q.2.2.2.2.2.2 p hp
  · rw [o 1 (by omega)] at ht
    rw [e (a + 122) (by omega), o (607 + 2 * t) (by omega)]
    by_cases w : t = s
    · subst w
      rw [lq_up_s, g_one_s]
      exact ⟨(h.cat ht).1, rfl⟩
    · rw [lq_up_c _ _ w, o (608 + 2 * t) (by omega)]
      exact h.cat ht
  · rw [e (a + 124) (by omega)]
    refine ⟨(h.ban hc).1, fun b hb => ?_⟩
    rw [o (623 + 10 * c + b) (by omega)]
    exact (h.ban hc).2 b hb
  · rw [e (a + 125) (by omega), e (a + 125 + 1) (by omega)]
    exact h.fm
  · rw [e (a + 129) (by omega), e (a + 129 + 1) (by omega), e (a + 129 + 2) (by omega), e (a + 129 + 3) (by omega), e (a + 129 + 4) (by omega), o 5 (by omega)]
    refine ⟨h.ow.1, fun k hk => ?_⟩
    rw [o (723 + 4 * k) (by omega), o (724 + 4 * k) (by omega), o (725 + 4 * k) (by omega), o (726 + 4 * k) (by omega)]
    exact h.ow.2 k hk
theorem q_hc.wr {M M1 : lq_M} {h c u : Nat} {H : Nat → Nat → Nat} {tk : Nat → Nat → Nat × Nat} {n : Nat → Nat} {g : Nat → Nat} (hC : q_hc M h c u (q_sh H) (q_sh tk) (q_sh n)) (hp : q_pl M1 (h + 2 + 134 * c) q_id g (tk 0) (n 0)) (hw : g_wf g) (hF : q_fwf (tk 0) (n 0) ∨ (g 0 = 0 ∧ g 1 = 0)) (hq : q_fr (h + 2 + 134 * c) (h + 2 + 134 * c + 134) M M1) : q_hc M1 h c u (q_nw g H) (q_sh tk) (q_sh n) := by
  have h0 := (hC.2.2.2.2 0 (Nat.zero_le u)).2
  have z := hC.mut hp ⟨hw, hF, h0.2.2⟩ (fun b hb => hq b hb)
  have e1 : q_h0 (tk 0) (q_sh tk) = q_sh tk := q_h0_id (q_sh tk)
  have e2 : q_h0 (n 0) (q_sh n) = q_sh n := q_h0_id (q_sh n)
  rw [e1, e2, q_h0_sh] at z
  exact z
section CVO
variable {G : lq_G} {Y : lq_Y} {d kc ks z : Nat} {S : lq_S} {M : lq_M} {N : lq_N} {Q : lq_P} {X : lq_E} {pc : Nat} {lv : List (Option Value)} {st : List Value}
variable {y : lq_Y} {d' n idx b ci : Nat} {fl : List (Option (Option Nat))}
theorem qw_cvo {q : Nat} {P : lq_M → Prop} (As : List Value) {rest : List Value} (hM : LM G y d' 0 0 (.ref b :: As) z S M N (fun r z1 S1 M1 N1 => z1 = z ∧ S1 = S ∧ N1 = N ∧ r = some (.ref q) ∧ P M1) lq_no) (hc : lq_cv Y.1.cls idx y n) (hd : decode Y.2.1 pc = .ok (.invokevirtual idx, 3)) (hS : S b = some (.inl (ci, fl))) (hcl : (lq_cl[ci]?).map (fun q => q.1) = some y.1.cls) (hn : As.length = n) (hst : st = As.reverse ++ .ref b :: rest) (hw : (rest.map fun v => v.category).sum ≤ 8) (hdd : d' + 1 ≤ d) (hm : y.2.2.1 ≤ 20) (hT : Y.2.2.2.2 = []) (k : ∀ M', P M' → LW G Y d kc ks Q X z S M' N (pc + 3) lv (.ref q :: rest)) : LW G Y d kc ks Q X z S M N pc lv st :=
  lq_callV hM hc hd hS hcl hn hst hw hdd hm (Nat.zero_le _) (Nat.zero_le _) hT (fun _ _ _ _ _ h => h.elim) (fun r z' S' M' N' h => by obtain ⟨rfl, rfl, rfl, rfl, h9⟩ := h; exact k M' h9)
end CVO
section PU2
variable {G : lq_G} {z : Nat} {S : lq_S} {N : lq_N} {M : lq_M}
theorem k_X8_book {b : Nat} {F : Nat → Nat → Option Nat} {fp fb : Nat → Option Nat} (h8 : sh8 S b F fp fb) {u : Nat} {H : Nat → Nat → Nat} {tk : Nat → Nat → Nat × Nat} {n : Nat → Nat} (hH : q_hi M (b + 139) u H tk n) {s l i : Int32} : LM G YX8_book 6 3 18 [.ref b, .int s, .int l, .int i] z S M N (lq_mi z S N (fun x M1 => ∃ ks kl ki, ks < H 0 1 ∧ 5 ≤ kl ∧ kl ≤ 60 ∧ ki < H 0 0 ∧ s = nI ks ∧ l = nI kl ∧ i = nI ki ∧ x = g_bkr (H 0) ks kl ki ∧ q_hi M1 (b + 139) (min (u + 1) 8) (q_nw (g_bk (H 0) (tk 0) (n 0) ks kl ki) H) (q_sh tk) (q_sh n) ∧ q_fr (b + 139) (b + 1607) M M1)) (lq_xs S M N (fun E => (E = eIO ∧ ¬ (q_ix s (H 0 1) ∧ q_ix i (H 0 0))) ∨ (E = eIA ∧ q_ix s (H 0 1) ∧ q_ix i (H 0 0) ∧ ¬ q_rg l 5 60))) := by
  obtain ⟨c, hC⟩ := hH
  have hC2 := hC
  obtain ⟨h9, hc, hu, hu8, hp⟩ := hC2
  have hR : q_pl M (b + 139 + 2 + 134 * c) q_id (H 0) (tk 0) (n 0) := (hp 0 (Nat.zero_le u)).1
  obtain ⟨hW, hF, hn⟩ := (hp 0 (Nat.zero_le u)).2
  have hS : sh4 S (b + 139 + 2 + 134 * c) (F c) q_id := h8.2.1.2.2.2 c h9
  have hA := h8.2.2.1
  obtain ⟨a, ha⟩ : ∃ a, a = b + 139 + 2 + 134 * c := ⟨_, rfl⟩
  rw [← ha] at hR hS
  have h20 := hW.nb
  have hs8 := hW.ns
  have h160 := hW.no
  have e0 := hR.nb
  have e1 := hR.ns
  refine LM.of (by decide) rfl [some (.ref b), some (.int s), some (.int l), some (.int i)] rfl (Nat.le_of_ble_eq_true rfl) ?_
  refine qw_aload_n 0 dX8_book_0 rfl rfl ?_
  refine qw_getr fX8_37 dX8_book_1 h8.1 rfl ?_
  refine qw_cvp [] (k_X3_latest h8.2.1 hc h9) mX8_80 dX8_book_4 h8.2.1.1 rfl rfl rfl (Nat.le_of_ble_eq_true rfl) (by omega) (by decide) rfl ?_
  rw [← ha]
  refine qw_iload_n 1 dX8_book_7 rfl rfl ?_
  refine qw_iload_n 2 dX8_book_8 rfl rfl ?_
  refine qw_iload_n 3 dX8_book_9 rfl rfl ?_
  refine qw_csx [_, _, _, _] (k_X8_checkSpotIn hS (by omega) (by omega)) mX8_165 dX8_book_10 rfl rfl (Nat.le_of_ble_eq_true rfl) (by omega) (by decide) rfl (by omega) (by omega) (fun E z9 h9 => ⟨rfl, rfl, rfl, by unfold q_sinX at h9; rw [e0, e1] at h9; exact h9⟩) (fun v1 => ?_)
  unfold q_sin at v1
  rw [e0, e1] at v1
  obtain ⟨⟨ks, hs, rfl⟩, ⟨ki, hi, rfl⟩, ⟨kl, hl1, hl2, rfl⟩⟩ := v1
  refine qw_aload_n 0 dX8_book_13 rfl rfl ?_
  refine qw_getr fX8_37 dX8_book_14 h8.1 rfl ?_
  refine qw_cvo [] (k_X3_beginChange h8.2.1 hc h9 hu hu8 (by rw [← ha]; exact hR) hW hn) mX8_69 dX8_book_17 h8.2.1.1 rfl rfl rfl (Nat.le_of_ble_eq_true rfl) (by omega) (by decide) rfl (fun M1 hb1 => ?_)
  have hC1 := hC.bgn hb1
  have hnx := g_nx_lt c
  have hS1 : sh4 S (b + 139 + 2 + 134 * g_nx c) (F (g_nx c)) q_id := h8.2.1.2.2.2 _ hnx
  have hR1 := hb1.1
  have hq1 := hb1.2.2.2
  obtain ⟨a1, ha1⟩ : ∃ a1, a1 = b + 139 + 2 + 134 * g_nx c := ⟨_, rfl⟩
  rw [← ha1] at hS1 hR1 ⊢
  refine qw_iload_n 1 dX8_book_20 rfl rfl ?_
  refine qw_iload_n 2 dX8_book_21 rfl rfl ?_
  refine qw_iload_n 3 dX8_book_22 rfl rfl ?_
  refine qw_cvi [_, _, _] (k_X4_bookSpot hS1 hR1 hW (hF.resolve_right (fun q => by omega)) hn hs hl2 hi) mX8_209 dX8_book_23 hS1.1 rfl rfl rfl (Nat.le_of_ble_eq_true rfl) (by omega) (by decide) rfl (fun x2 M2 h2 => ?_)
  obtain ⟨hx2, hR2, hq2⟩ := h2
  exact qw_ireturn rfl rfl dX8_book_26 ⟨rfl, rfl, rfl, _, rfl, ks, kl, ki, hs, hl1, hl2, hi, rfl, rfl, rfl, hx2, ⟨g_nx c, hC1.wr (by rw [← ha1]; exact hR2) (hW.bk hs hl2 hi) (Or.inl (hF.resolve_right (fun q => by omega))) (by rw [← ha1]; exact hq2)⟩, fun x hx => by rw [hq2 x (by omega), hq1 x (by omega) (by omega)]⟩
theorem k_X8_makeGood {b : Nat} {F : Nat → Nat → Option Nat} {fp fb : Nat → Option Nat} (h8 : sh8 S b F fp fb) {u : Nat} {H : Nat → Nat → Nat} {tk : Nat → Nat → Nat × Nat} {n : Nat → Nat} (hH : q_hi M (b + 139) u H tk n) : LM G YX8_makeGood 6 0 0 [.ref b] z S M N (lq_mi z S N (fun x M1 => x = nI (H 0 5 - (g_mgs (H 0) (H 0 5)).2) ∧ q_hi M1 (b + 139) (min (u + 1) 8) (q_nw (g_mkg (H 0)) H) (q_sh tk) (q_sh n) ∧ q_fr (b + 139) (b + 1607) M M1)) lq_no := by
  obtain ⟨c, hC⟩ := hH
  have hC2 := hC
  obtain ⟨h9, hc, hu, hu8, hp⟩ := hC2
  have hR : q_pl M (b + 139 + 2 + 134 * c) q_id (H 0) (tk 0) (n 0) := (hp 0 (Nat.zero_le u)).1
  obtain ⟨hW, hF, hn⟩ := (hp 0 (Nat.zero_le u)).2
  have hS : sh4 S (b + 139 + 2 + 134 * c) (F c) q_id := h8.2.1.2.2.2 c h9
  have hA := h8.2.2.1
  obtain ⟨a, ha⟩ : ∃ a, a = b + 139 + 2 + 134 * c := ⟨_, rfl⟩
  rw [← ha] at hR hS
  have h20 := hW.nb
  have hs8 := hW.ns
  have h160 := hW.no
  have e0 := hR.nb
  have e1 := hR.ns
  refine LM.of (by decide) rfl [some (.ref b)] rfl (Nat.le_of_ble_eq_true rfl) ?_
  refine qw_aload_n 0 dX8_makeGood_0 rfl rfl ?_
  refine qw_getr fX8_37 dX8_makeGood_1 h8.1 rfl ?_
  refine qw_cvo [] (k_X3_beginChange h8.2.1 hc h9 hu hu8 (by rw [← ha]; exact hR) hW hn) mX8_69 dX8_makeGood_4 h8.2.1.1 rfl rfl rfl (Nat.le_of_ble_eq_true rfl) (by omega) (by decide) rfl (fun M1 hb1 => ?_)
  have hC1 := hC.bgn hb1
  have hnx := g_nx_lt c
  have hS1 : sh4 S (b + 139 + 2 + 134 * g_nx c) (F (g_nx c)) q_id := h8.2.1.2.2.2 _ hnx
  have hR1 := hb1.1
  have hq1 := hb1.2.2.2
  obtain ⟨a1, ha1⟩ : ∃ a1, a1 = b + 139 + 2 + 134 * g_nx c := ⟨_, rfl⟩
  rw [← ha1] at hS1 hR1 ⊢
  refine qw_cvi [] (k_X4_settleOwed hS1 hR1 hW) mX8_243 dX8_makeGood_7 hS1.1 rfl rfl rfl (Nat.le_of_ble_eq_true rfl) (by omega) (by decide) rfl (fun x2 M2 h2 => ?_)
  obtain ⟨hx2, hR2, hq2⟩ := h2
  exact qw_ireturn rfl rfl dX8_makeGood_10 ⟨rfl, rfl, rfl, _, rfl, hx2, ⟨g_nx c, hC1.wr (by rw [← ha1]; exact hR2) (hW.mkg) (hF.imp id (fun q => ⟨(hW.mgs (H 0 5) (Nat.le_refl _)).2.1.trans q.1, (hW.mgs (H 0 5) (Nat.le_refl _)).2.2.1.trans q.2⟩)) (by rw [← ha1]; exact hq2)⟩, fun x hx => by rw [hq2 x (by omega), hq1 x (by omega) (by omega)]⟩
theorem k_X8_campaign {b : Nat} {F : Nat → Nat → Option Nat} {fp fb : Nat → Option Nat} (h8 : sh8 S b F fp fb) {u : Nat} {H : Nat → Nat → Nat} {tk : Nat → Nat → Nat × Nat} {n : Nat → Nat} (hH : q_hi M (b + 139) u H tk n) {s l m : Int32} : LM G YX8_campaign 6 3 18 [.ref b, .int s, .int l, .int m] z S M N (lq_mi z S N (fun x M1 => ∃ ks kl km, ks < H 0 1 ∧ 5 ≤ kl ∧ kl ≤ 60 ∧ 1 ≤ km ∧ km ≤ 20 ∧ s = nI ks ∧ l = nI kl ∧ m = nI km ∧ x = nI (g_camp (tk 0) (n 0) ks kl km (H 0)).2 ∧ q_hi M1 (b + 139) (min (u + 1) 8) (q_nw (g_camp (tk 0) (n 0) ks kl km (H 0)).1 H) (q_sh tk) (q_sh n) ∧ q_fr (b + 139) (b + 1607) M M1)) (lq_xs S M N (fun E => (E = eIO ∧ ¬ q_ix s (H 0 1)) ∨ (E = eIA ∧ q_ix s (H 0 1) ∧ ¬ (q_rg l 5 60 ∧ q_rg m 1 20)))) := by
  obtain ⟨c, hC⟩ := hH
  have hC2 := hC
  obtain ⟨h9, hc, hu, hu8, hp⟩ := hC2
  have hR : q_pl M (b + 139 + 2 + 134 * c) q_id (H 0) (tk 0) (n 0) := (hp 0 (Nat.zero_le u)).1
  obtain ⟨hW, hF, hn⟩ := (hp 0 (Nat.zero_le u)).2
  have hS : sh4 S (b + 139 + 2 + 134 * c) (F c) q_id := h8.2.1.2.2.2 c h9
  have hA := h8.2.2.1
  obtain ⟨a, ha⟩ : ∃ a, a = b + 139 + 2 + 134 * c := ⟨_, rfl⟩
  rw [← ha] at hR hS
  have h20 := hW.nb
  have hs8 := hW.ns
  have h160 := hW.no
  have e0 := hR.nb
  have e1 := hR.ns
  refine LM.of (by decide) rfl [some (.ref b), some (.int s), some (.int l), some (.int m)] rfl (Nat.le_of_ble_eq_true rfl) ?_
  refine qw_aload_n 0 dX8_campaign_0 rfl rfl ?_
  refine qw_getr fX8_37 dX8_campaign_1 h8.1 rfl ?_
  refine qw_cvp [] (k_X3_latest h8.2.1 hc h9) mX8_80 dX8_campaign_4 h8.2.1.1 rfl rfl rfl (Nat.le_of_ble_eq_true rfl) (by omega) (by decide) rfl ?_
  rw [← ha]
  refine qw_iload_n 1 dX8_campaign_7 rfl rfl ?_
  refine qw_csx [_, _] (k_X8_checkSponsor hS (by omega)) mX8_135 dX8_campaign_8 rfl rfl (Nat.le_of_ble_eq_true rfl) (by omega) (by decide) rfl (by omega) (by omega) (fun E z9 h9 => ⟨rfl, rfl, rfl, by rw [e1] at h9; exact Or.inl h9⟩) (fun v1 => ?_)
  rw [e1] at v1
  refine qw_iload_n 2 dX8_campaign_11 rfl rfl ?_
  refine qw_iconst (nI 5) dX8_campaign_12 (by decide) ?_
  refine qw_bipush (nI 60) dX8_campaign_13 (by decide) ?_
  refine qw_csx [_, _, _] (k_X8_checkRange (by decide) (by decide)) mX8_90 dX8_campaign_15 rfl rfl (Nat.le_of_ble_eq_true rfl) (by omega) (by decide) rfl (by omega) (by omega) (fun E z9 h9 => ⟨rfl, rfl, rfl, Or.inr ⟨h9.1, v1, fun q => h9.2 q.1⟩⟩) (fun v2 => ?_)
  refine qw_iload_n 3 dX8_campaign_18 rfl rfl ?_
  refine qw_iconst (nI 1) dX8_campaign_19 (by decide) ?_
  refine qw_bipush (nI 20) dX8_campaign_20 (by decide) ?_
  refine qw_csx [_, _, _] (k_X8_checkRange (by decide) (by decide)) mX8_90 dX8_campaign_22 rfl rfl (Nat.le_of_ble_eq_true rfl) (by omega) (by decide) rfl (by omega) (by omega) (fun E z9 h9 => ⟨rfl, rfl, rfl, Or.inr ⟨h9.1, v1, fun q => h9.2 q.2⟩⟩) (fun v3 => ?_)
  obtain ⟨ks, hs, rfl⟩ := v1
  obtain ⟨kl, hl1, hl2, rfl⟩ := v2
  obtain ⟨km, hm1, hm2, rfl⟩ := v3
  refine qw_aload_n 0 dX8_campaign_25 rfl rfl ?_
  refine qw_getr fX8_37 dX8_campaign_26 h8.1 rfl ?_
  refine qw_cvo [] (k_X3_beginChange h8.2.1 hc h9 hu hu8 (by rw [← ha]; exact hR) hW hn) mX8_69 dX8_campaign_29 h8.2.1.1 rfl rfl rfl (Nat.le_of_ble_eq_true rfl) (by omega) (by decide) rfl (fun M1 hb1 => ?_)
  have hC1 := hC.bgn hb1
  have hnx := g_nx_lt c
  have hS1 : sh4 S (b + 139 + 2 + 134 * g_nx c) (F (g_nx c)) q_id := h8.2.1.2.2.2 _ hnx
  have hR1 := hb1.1
  have hq1 := hb1.2.2.2
  obtain ⟨a1, ha1⟩ : ∃ a1, a1 = b + 139 + 2 + 134 * g_nx c := ⟨_, rfl⟩
  rw [← ha1] at hS1 hR1 ⊢
  refine qw_iload_n 1 dX8_campaign_32 rfl rfl ?_
  refine qw_iload_n 2 dX8_campaign_33 rfl rfl ?_
  refine qw_iload_n 3 dX8_campaign_34 rfl rfl ?_
  refine qw_cvi [_, _, _] (k_X4_bookCheapest hS1 hR1 hW (hF.resolve_right (fun q => by omega)) hn hs hl2 hm2) mX8_246 dX8_campaign_35 hS1.1 rfl rfl rfl (Nat.le_of_ble_eq_true rfl) (by omega) (by decide) rfl (fun x2 M2 h2 => ?_)
  obtain ⟨hx2, hR2, hq2⟩ := h2
  exact qw_ireturn rfl rfl dX8_campaign_38 ⟨rfl, rfl, rfl, _, rfl, ks, kl, km, hs, hl1, hl2, hm1, hm2, rfl, rfl, rfl, hx2, ⟨g_nx c, hC1.wr (by rw [← ha1]; exact hR2) (g_wf.camp hl2 km hW hs) (Or.inl (hF.resolve_right (fun q => by omega))) (by rw [← ha1]; exact hq2)⟩, fun x hx => by rw [hq2 x (by omega), hq1 x (by omega) (by omega)]⟩
theorem k_X8_setCap {b : Nat} {F : Nat → Nat → Option Nat} {fp fb : Nat → Option Nat} (h8 : sh8 S b F fp fb) {u : Nat} {H : Nat → Nat → Nat} {tk : Nat → Nat → Nat × Nat} {n : Nat → Nat} (hH : q_hi M (b + 139) u H tk n) {s w : Int32} : LM G YX8_setCap 6 2 12 [.ref b, .int s, .int w] z S M N (lq_mi z S N (fun x M1 => ∃ k v, k < H 0 1 ∧ 1 ≤ v ∧ v ≤ 9 ∧ s = nI k ∧ w = nI v ∧ x = nI (H 0 (608 + 2 * k)) ∧ q_hi M1 (b + 139) (min (u + 1) 8) (q_nw (g_one (H 0) (608 + 2 * k) v) H) (q_sh tk) (q_sh n) ∧ q_fr (b + 139) (b + 1607) M M1)) (lq_xs S M N (fun E => (E = eIO ∧ ¬ q_ix s (H 0 1)) ∨ (E = eIA ∧ q_ix s (H 0 1) ∧ ¬ q_rg w 1 9))) := by
  obtain ⟨c, hC⟩ := hH
  have hC2 := hC
  obtain ⟨h9, hc, hu, hu8, hp⟩ := hC2
  have hR : q_pl M (b + 139 + 2 + 134 * c) q_id (H 0) (tk 0) (n 0) := (hp 0 (Nat.zero_le u)).1
  obtain ⟨hW, hF, hn⟩ := (hp 0 (Nat.zero_le u)).2
  have hS : sh4 S (b + 139 + 2 + 134 * c) (F c) q_id := h8.2.1.2.2.2 c h9
  have hA := h8.2.2.1
  obtain ⟨a, ha⟩ : ∃ a, a = b + 139 + 2 + 134 * c := ⟨_, rfl⟩
  rw [← ha] at hR hS
  have h20 := hW.nb
  have hs8 := hW.ns
  have h160 := hW.no
  have e0 := hR.nb
  have e1 := hR.ns
  refine LM.of (by decide) rfl [some (.ref b), some (.int s), some (.int w), none, none] rfl (Nat.le_of_ble_eq_true rfl) ?_
  refine qw_aload_n 0 dX8_setCap_0 rfl rfl ?_
  refine qw_getr fX8_37 dX8_setCap_1 h8.1 rfl ?_
  refine qw_cvp [] (k_X3_latest h8.2.1 hc h9) mX8_80 dX8_setCap_4 h8.2.1.1 rfl rfl rfl (Nat.le_of_ble_eq_true rfl) (by omega) (by decide) rfl ?_
  rw [← ha]
  refine qw_iload_n 1 dX8_setCap_7 rfl rfl ?_
  refine qw_csx [_, _] (k_X8_checkSponsor hS (by omega)) mX8_135 dX8_setCap_8 rfl rfl (Nat.le_of_ble_eq_true rfl) (by omega) (by decide) rfl (by omega) (by omega) (fun E z9 h9 => ⟨rfl, rfl, rfl, by rw [e1] at h9; exact Or.inl h9⟩) (fun v1 => ?_)
  rw [e1] at v1
  refine qw_iload_n 2 dX8_setCap_11 rfl rfl ?_
  refine qw_iconst (nI 1) dX8_setCap_12 (by decide) ?_
  refine qw_bipush (nI 9) dX8_setCap_13 (by decide) ?_
  refine qw_csx [_, _, _] (k_X8_checkRange (by decide) (by decide)) mX8_90 dX8_setCap_15 rfl rfl (Nat.le_of_ble_eq_true rfl) (by omega) (by decide) rfl (by omega) (by omega) (fun E z9 h9 => ⟨rfl, rfl, rfl, Or.inr ⟨h9.1, v1, h9.2⟩⟩) (fun v2 => ?_)
  obtain ⟨k, hk, rfl⟩ := v1
  obtain ⟨v, hv1, hv2, rfl⟩ := v2
  refine qw_aload_n 0 dX8_setCap_18 rfl rfl ?_
  refine qw_getr fX8_37 dX8_setCap_19 h8.1 rfl ?_
  refine qw_cvo [] (k_X3_beginChange h8.2.1 hc h9 hu hu8 (by rw [← ha]; exact hR) hW hn) mX8_69 dX8_setCap_22 h8.2.1.1 rfl rfl rfl (Nat.le_of_ble_eq_true rfl) (by omega) (by decide) rfl (fun M1 hb1 => ?_)
  have hC1 := hC.bgn hb1
  have hnx := g_nx_lt c
  have hS1 : sh4 S (b + 139 + 2 + 134 * g_nx c) (F (g_nx c)) q_id := h8.2.1.2.2.2 _ hnx
  have hR1 := hb1.1
  have hq1 := hb1.2.2.2
  obtain ⟨a1, ha1⟩ : ∃ a1, a1 = b + 139 + 2 + 134 * g_nx c := ⟨_, rfl⟩
  rw [← ha1] at hS1 hR1 ⊢
  refine qw_astore_n 3 dX8_setCap_25 rfl rfl (by decide) ?_
  refine qw_aload_n 3 dX8_setCap_26 rfl rfl ?_
  refine qw_getr fX8_142 dX8_setCap_27 hS1.1 rfl ?_
  refine qw_iload_n 1 dX8_setCap_30 rfl rfl ?_
  refine qw_iald dX8_setCap_31 hS1.cap (by omega) (by omega) ?_
  refine qw_istore dX8_setCap_32 rfl (by decide) ?_
  refine qw_aload_n 3 dX8_setCap_34 rfl rfl ?_
  refine qw_getr fX8_142 dX8_setCap_35 hS1.1 rfl ?_
  refine qw_iload_n 1 dX8_setCap_38 rfl rfl ?_
  refine qw_iload_n 2 dX8_setCap_39 rfl rfl ?_
  refine qw_iast dX8_setCap_40 hS1.cap (by omega) (by omega) ?_
  refine qw_iload dX8_setCap_41 rfl ?_
  exact qw_ireturn rfl rfl dX8_setCap_43 ⟨rfl, rfl, rfl, _, rfl, k, v, hk, hv1, hv2, rfl, rfl, by rw [(hR1.cat hk).2], ⟨g_nx c, hC1.wr (by rw [← ha1]; exact hR1.capd hS1 hW (by omega)) (hW.capd (by omega) hv2) (Or.inl (hF.resolve_right (fun q => by omega))) (by rw [← ha1]; exact fun x hx => lq_up_n _ _ _ (by omega))⟩, fun x hx => by rw [lq_up_n _ _ _ (by omega), hq1 x (by omega) (by omega)]⟩
theorem k_X8_cancel {b : Nat} {F : Nat → Nat → Option Nat} {fp fb : Nat → Option Nat} (h8 : sh8 S b F fp fb) {u : Nat} {H : Nat → Nat → Nat} {tk : Nat → Nat → Nat × Nat} {n : Nat → Nat} (hH : q_hi M (b + 139) u H tk n) {i : Int32} : LM G YX8_cancel 6 2 12 [.ref b, .int i] z S M N (lq_mi z S N (fun x M1 => ∃ k, k < H 0 0 ∧ i = nI k ∧ H 0 (11 + 30 * k) = 0 ∧ x = nI (g_can2 (H 0) k 5) ∧ q_hi M1 (b + 139) (min (u + 1) 8) (q_nw (g_can2 (H 0) k) H) (q_sh tk) (q_sh n) ∧ q_fr (b + 139) (b + 1607) M M1)) (lq_xs S M N (fun E => (E = eIO ∧ ¬ q_ix i (H 0 0)) ∨ (E = eIS ∧ ∃ k, k < H 0 0 ∧ i = nI k ∧ H 0 (11 + 30 * k) ≠ 0))) := by
  obtain ⟨c, hC⟩ := hH
  have hC2 := hC
  obtain ⟨h9, hc, hu, hu8, hp⟩ := hC2
  have hR : q_pl M (b + 139 + 2 + 134 * c) q_id (H 0) (tk 0) (n 0) := (hp 0 (Nat.zero_le u)).1
  obtain ⟨hW, hF, hn⟩ := (hp 0 (Nat.zero_le u)).2
  have hS : sh4 S (b + 139 + 2 + 134 * c) (F c) q_id := h8.2.1.2.2.2 c h9
  have hA := h8.2.2.1
  obtain ⟨a, ha⟩ : ∃ a, a = b + 139 + 2 + 134 * c := ⟨_, rfl⟩
  rw [← ha] at hR hS
  have h20 := hW.nb
  have hs8 := hW.ns
  have h160 := hW.no
  have e0 := hR.nb
  have e1 := hR.ns
  refine LM.of (by decide) rfl [some (.ref b), some (.int i), none] rfl (Nat.le_of_ble_eq_true rfl) ?_
  refine qw_aload_n 0 dX8_cancel_0 rfl rfl ?_
  refine qw_getr fX8_37 dX8_cancel_1 h8.1 rfl ?_
  refine qw_cvp [] (k_X3_latest h8.2.1 hc h9) mX8_80 dX8_cancel_4 h8.2.1.1 rfl rfl rfl (Nat.le_of_ble_eq_true rfl) (by omega) (by decide) rfl ?_
  rw [← ha]
  refine qw_astore_n 2 dX8_cancel_7 rfl rfl (by decide) ?_
  refine qw_aload_n 2 dX8_cancel_8 rfl rfl ?_
  refine qw_iload_n 1 dX8_cancel_9 rfl rfl ?_
  refine qw_csx [_, _] (k_X8_checkBreak hS (by omega)) mX8_86 dX8_cancel_10 rfl rfl (Nat.le_of_ble_eq_true rfl) (by omega) (by decide) rfl (by omega) (by omega) (fun E z9 h9 => ⟨rfl, rfl, rfl, by rw [e0] at h9; exact Or.inl h9⟩) (fun v1 => ?_)
  rw [e0] at v1
  obtain ⟨k, hk, rfl⟩ := v1
  have hb := hR.br hk
  have hbw := hW.br hk
  refine qw_aload_n 2 dX8_cancel_13 rfl rfl ?_
  refine qw_getr fX8_94 dX8_cancel_14 hS.1 rfl ?_
  refine qw_iload_n 1 dX8_cancel_17 rfl rfl ?_
  refine qw_aald dX8_cancel_18 hS.l rfl rfl (by omega) (by omega) (hS.el (by omega)) ?_
  refine qw_geti fX8_111 dX8_cancel_19 (hS.b (i := k) (by omega)).1 rfl ?_
  rw [hb.2.2.2.2.1]
  refine qw_if_eqN 35 dX8_cancel_22 (by decide) (by omega) (fun c22 => ?_) (fun c22 => ?_)
  · refine qw_aload_n 0 dX8_cancel_35 rfl rfl ?_
    refine qw_getr fX8_37 dX8_cancel_36 h8.1 rfl ?_
    refine qw_cvo [] (k_X3_beginChange h8.2.1 hc h9 hu hu8 (by rw [← ha]; exact hR) hW hn) mX8_69 dX8_cancel_39 h8.2.1.1 rfl rfl rfl (Nat.le_of_ble_eq_true rfl) (by omega) (by decide) rfl (fun M1 hb1 => ?_)
    have hC1 := hC.bgn hb1
    have hnx := g_nx_lt c
    have hS1 : sh4 S (b + 139 + 2 + 134 * g_nx c) (F (g_nx c)) q_id := h8.2.1.2.2.2 _ hnx
    have hR1 := hb1.1
    have hq1 := hb1.2.2.2
    obtain ⟨a1, ha1⟩ : ∃ a1, a1 = b + 139 + 2 + 134 * g_nx c := ⟨_, rfl⟩
    rw [← ha1] at hS1 hR1 ⊢
    refine qw_astore_n 2 dX8_cancel_42 rfl rfl (by decide) ?_
    refine qw_aload_n 2 dX8_cancel_43 rfl rfl ?_
    refine qw_iload_n 1 dX8_cancel_44 rfl rfl ?_
    refine qw_cvv [_] (k_X4_cancelBreak hS1 hR1 hW hk c22) mX8_240 dX8_cancel_45 hS1.1 rfl rfl rfl (Nat.le_of_ble_eq_true rfl) (by omega) (by decide) rfl (fun M2 h2 => ?_)
    obtain ⟨hR2, hq2⟩ := h2
    refine qw_aload_n 2 dX8_cancel_48 rfl rfl ?_
    refine qw_getr fX8_152 dX8_cancel_49 hS1.1 rfl ?_
    refine qw_geti fX8_118 dX8_cancel_52 hS1.ow.1 rfl ?_
    exact qw_ireturn rfl rfl dX8_cancel_55 ⟨rfl, rfl, rfl, _, rfl, k, hk, rfl, c22, by rw [hR2.ow.1], ⟨g_nx c, hC1.wr (by rw [← ha1]; exact hR2) (hW.can2 hk c22) (Or.inl (hF.resolve_right (fun q => by omega))) (by rw [← ha1]; exact hq2)⟩, fun x hx => by rw [hq2 x (by omega), hq1 x (by omega) (by omega)]⟩
  · exact qw_throwL (ci := 13)  4 rfl rfl tF_ISE tN (by decide) tK_ISE tI_ISE rfl tA_ISE tB_ISE dX8_cancel_25 dX8_cancel_28 dX8_cancel_29 dX8_cancel_31 dX8_cancel_34 (by decide) (by omega) (by omega) (fun z9 => ⟨rfl, rfl, rfl, Or.inr ⟨rfl, k, hk, rfl, c22⟩⟩)
theorem k_X8_remove {b : Nat} {F : Nat → Nat → Option Nat} {fp fb : Nat → Option Nat} (h8 : sh8 S b F fp fb) {u : Nat} {H : Nat → Nat → Nat} {tk : Nat → Nat → Nat × Nat} {n : Nat → Nat} (hH : q_hi M (b + 139) u H tk n) {i p : Int32} : LM G YX8_remove 6 3 18 [.ref b, .int i, .int p] z S M N (lq_mi z S N (fun x M1 => ∃ k q, k < H 0 0 ∧ q < H 0 (12 + 30 * k) ∧ i = nI k ∧ p = nI q ∧ g_can (H 0) k q ≠ 0 ∧ x = nI (H 0 (15 + 30 * k + 3 * q) / 2) ∧ q_hi M1 (b + 139) (min (u + 1) 8) (q_nw (g_rem (H 0) k q) H) (q_sh tk) (q_sh n) ∧ q_fr (b + 139) (b + 1607) M M1)) (lq_xs S M N (fun E => (E = eIO ∧ ¬ q_ix i (H 0 0)) ∨ (E = eNS ∧ ∃ k, k < H 0 0 ∧ i = nI k ∧ ¬ q_ix p (H 0 (12 + 30 * k))) ∨ (E = eIS ∧ ∃ k q, k < H 0 0 ∧ q < H 0 (12 + 30 * k) ∧ i = nI k ∧ p = nI q ∧ g_can (H 0) k q = 0))) := by
  obtain ⟨c, hC⟩ := hH
  have hC2 := hC
  obtain ⟨h9, hc, hu, hu8, hp⟩ := hC2
  have hR : q_pl M (b + 139 + 2 + 134 * c) q_id (H 0) (tk 0) (n 0) := (hp 0 (Nat.zero_le u)).1
  obtain ⟨hW, hF, hn⟩ := (hp 0 (Nat.zero_le u)).2
  have hS : sh4 S (b + 139 + 2 + 134 * c) (F c) q_id := h8.2.1.2.2.2 c h9
  have hA := h8.2.2.1
  obtain ⟨a, ha⟩ : ∃ a, a = b + 139 + 2 + 134 * c := ⟨_, rfl⟩
  rw [← ha] at hR hS
  have h20 := hW.nb
  have hs8 := hW.ns
  have h160 := hW.no
  have e0 := hR.nb
  have e1 := hR.ns
  refine LM.of (by decide) rfl [some (.ref b), some (.int i), some (.int p), none] rfl (Nat.le_of_ble_eq_true rfl) ?_
  refine qw_aload_n 0 dX8_remove_0 rfl rfl ?_
  refine qw_getr fX8_37 dX8_remove_1 h8.1 rfl ?_
  refine qw_cvp [] (k_X3_latest h8.2.1 hc h9) mX8_80 dX8_remove_4 h8.2.1.1 rfl rfl rfl (Nat.le_of_ble_eq_true rfl) (by omega) (by decide) rfl ?_
  rw [← ha]
  refine qw_astore_n 3 dX8_remove_7 rfl rfl (by decide) ?_
  refine qw_aload_n 3 dX8_remove_8 rfl rfl ?_
  refine qw_iload_n 1 dX8_remove_9 rfl rfl ?_
  refine qw_csx [_, _] (k_X8_checkBreak hS (by omega)) mX8_86 dX8_remove_10 rfl rfl (Nat.le_of_ble_eq_true rfl) (by omega) (by decide) rfl (by omega) (by omega) (fun E z9 h9 => ⟨rfl, rfl, rfl, by rw [e0] at h9; exact Or.inl h9⟩) (fun v1 => ?_)
  rw [e0] at v1
  obtain ⟨k, hk, rfl⟩ := v1
  have hb := hR.br hk
  have hbw := hW.br hk
  refine qw_aload_n 3 dX8_remove_13 rfl rfl ?_
  refine qw_getr fX8_94 dX8_remove_14 hS.1 rfl ?_
  refine qw_iload_n 1 dX8_remove_17 rfl rfl ?_
  refine qw_aald dX8_remove_18 hS.l rfl rfl (by omega) (by omega) (hS.el (by omega)) ?_
  refine qw_getr fX8_114 dX8_remove_19 (hS.b (i := k) (by omega)).1 rfl ?_
  refine qw_iload_n 2 dX8_remove_22 rfl rfl ?_
  refine qw_csx [_, _] (k_X8_checkPlace (hS.b (i := k) (by omega)).2 (by rw [hb.2.2.2.2.2.1]; omega)) mX8_127 dX8_remove_23 rfl rfl (Nat.le_of_ble_eq_true rfl) (by omega) (by decide) rfl (by omega) (by omega) (fun E z9 h9 => ⟨rfl, rfl, rfl, by rw [hb.2.2.2.2.2.1] at h9; exact Or.inr (Or.inl ⟨h9.1, k, hk, rfl, h9.2⟩)⟩) (fun v2 => ?_)
  rw [hb.2.2.2.2.2.1] at v2
  obtain ⟨q, hq, rfl⟩ := v2
  refine qw_aload_n 3 dX8_remove_26 rfl rfl ?_
  refine qw_iload_n 1 dX8_remove_27 rfl rfl ?_
  refine qw_iload_n 2 dX8_remove_28 rfl rfl ?_
  refine qw_cvp [_, _] (k_X4_canTakeOut hS hR hW hk hq) mX8_222 dX8_remove_29 hS.1 rfl rfl rfl (Nat.le_of_ble_eq_true rfl) (by omega) (by decide) rfl ?_
  have hcn : g_can (H 0) k q ≤ 1 := by unfold g_can; split <;> omega
  refine qw_if_neN 45 dX8_remove_32 (by decide) (by omega) (fun c32 => ?_) (fun c32 => ?_)
  · refine qw_aload_n 0 dX8_remove_45 rfl rfl ?_
    refine qw_getr fX8_37 dX8_remove_46 h8.1 rfl ?_
    refine qw_cvo [] (k_X3_beginChange h8.2.1 hc h9 hu hu8 (by rw [← ha]; exact hR) hW hn) mX8_69 dX8_remove_49 h8.2.1.1 rfl rfl rfl (Nat.le_of_ble_eq_true rfl) (by omega) (by decide) rfl (fun M1 hb1 => ?_)
    have hC1 := hC.bgn hb1
    have hnx := g_nx_lt c
    have hS1 : sh4 S (b + 139 + 2 + 134 * g_nx c) (F (g_nx c)) q_id := h8.2.1.2.2.2 _ hnx
    have hR1 := hb1.1
    have hq1 := hb1.2.2.2
    obtain ⟨a1, ha1⟩ : ∃ a1, a1 = b + 139 + 2 + 134 * g_nx c := ⟨_, rfl⟩
    rw [← ha1] at hS1 hR1 ⊢
    refine qw_iload_n 1 dX8_remove_52 rfl rfl ?_
    refine qw_iload_n 2 dX8_remove_53 rfl rfl ?_
    refine qw_cvi [_, _] (k_X4_takeOut hS1 hR1 hW hk hq) mX8_230 dX8_remove_54 hS1.1 rfl rfl rfl (Nat.le_of_ble_eq_true rfl) (by omega) (by decide) rfl (fun x2 M2 h2 => ?_)
    obtain ⟨hx2, hR2, hq2⟩ := h2
    exact qw_ireturn rfl rfl dX8_remove_57 ⟨rfl, rfl, rfl, _, rfl, k, q, hk, hq, rfl, rfl, c32, hx2, ⟨g_nx c, hC1.wr (by rw [← ha1]; exact hR2) (hW.del hk hq) (Or.inl (hF.resolve_right (fun q => by omega))) (by rw [← ha1]; exact hq2)⟩, fun x hx => by rw [hq2 x (by omega), hq1 x (by omega) (by omega)]⟩
  · exact qw_throwL (ci := 13)  2 rfl rfl tF_ISE tN (by decide) tK_ISE tI_ISE rfl tA_ISE tB_ISE dX8_remove_35 dX8_remove_38 dX8_remove_39 dX8_remove_41 dX8_remove_44 (by decide) (by omega) (by omega) (fun z9 => ⟨rfl, rfl, rfl, Or.inr (Or.inr ⟨rfl, k, q, hk, hq, rfl, rfl, c32⟩)⟩)
theorem k_X8_air {b : Nat} {F : Nat → Nat → Option Nat} {fp fb : Nat → Option Nat} (h8 : sh8 S b F fp fb) {u : Nat} {H : Nat → Nat → Nat} {tk : Nat → Nat → Nat × Nat} {n : Nat → Nat} (hH : q_hi M (b + 139) u H tk n) : LM G YX8_air 6 1 6 [.ref b] z S M N (lq_mi z S N (fun x M1 => g_eo (H 0) < H 0 0 ∧ x = nI (H 0 (12 + 30 * g_eo (H 0))) ∧ q_hi M1 (b + 139) (min (u + 1) 8) (q_nw (g_one (H 0) (11 + 30 * g_eo (H 0)) 1) H) (q_sh tk) (q_sh n) ∧ q_fr (b + 139) (b + 1607) M M1)) (lq_xs S M N (fun E => E = eIS ∧ ¬ g_eo (H 0) < H 0 0)) := by
  obtain ⟨c, hC⟩ := hH
  have hC2 := hC
  obtain ⟨h9, hc, hu, hu8, hp⟩ := hC2
  have hR : q_pl M (b + 139 + 2 + 134 * c) q_id (H 0) (tk 0) (n 0) := (hp 0 (Nat.zero_le u)).1
  obtain ⟨hW, hF, hn⟩ := (hp 0 (Nat.zero_le u)).2
  have hS : sh4 S (b + 139 + 2 + 134 * c) (F c) q_id := h8.2.1.2.2.2 c h9
  have hA := h8.2.2.1
  obtain ⟨a, ha⟩ : ∃ a, a = b + 139 + 2 + 134 * c := ⟨_, rfl⟩
  rw [← ha] at hR hS
  have h20 := hW.nb
  have hs8 := hW.ns
  have h160 := hW.no
  have e0 := hR.nb
  have e1 := hR.ns
  refine LM.of (by decide) rfl [some (.ref b), none, none] rfl (Nat.le_of_ble_eq_true rfl) ?_
  refine qw_aload_n 0 dX8_air_0 rfl rfl ?_
  refine qw_getr fX8_37 dX8_air_1 h8.1 rfl ?_
  refine qw_cvp [] (k_X3_latest h8.2.1 hc h9) mX8_80 dX8_air_4 h8.2.1.1 rfl rfl rfl (Nat.le_of_ble_eq_true rfl) (by omega) (by decide) rfl ?_
  rw [← ha]
  refine qw_cvp [] (k_X4_earliestOpen hS hR hW) mX8_233 dX8_air_7 hS.1 rfl rfl rfl (Nat.le_of_ble_eq_true rfl) (by omega) (by decide) rfl ?_
  by_cases hlt : g_eo (H 0) < H 0 0
  · rw [if_pos hlt]
    have h0 : H 0 (11 + 30 * g_eo (H 0)) = 0 := q_fst_yes _ _ _ hlt
    refine qw_istore_n 1 dX8_air_10 rfl rfl (by decide) ?_
    refine qw_iload_n 1 dX8_air_11 rfl rfl ?_
    refine qw_if_geN 25 dX8_air_12 (by decide) (by omega) ?_
    refine qw_aload_n 0 dX8_air_25 rfl rfl ?_
    refine qw_getr fX8_37 dX8_air_26 h8.1 rfl ?_
    refine qw_cvo [] (k_X3_beginChange h8.2.1 hc h9 hu hu8 (by rw [← ha]; exact hR) hW hn) mX8_69 dX8_air_29 h8.2.1.1 rfl rfl rfl (Nat.le_of_ble_eq_true rfl) (by omega) (by decide) rfl (fun M1 hb1 => ?_)
    have hC1 := hC.bgn hb1
    have hnx := g_nx_lt c
    have hS1 : sh4 S (b + 139 + 2 + 134 * g_nx c) (F (g_nx c)) q_id := h8.2.1.2.2.2 _ hnx
    have hR1 := hb1.1
    have hq1 := hb1.2.2.2
    obtain ⟨a1, ha1⟩ : ∃ a1, a1 = b + 139 + 2 + 134 * g_nx c := ⟨_, rfl⟩
    rw [← ha1] at hS1 hR1 ⊢
    refine qw_getr fX8_94 dX8_air_32 hS1.1 rfl ?_
    refine qw_iload_n 1 dX8_air_35 rfl rfl ?_
    refine qw_aald dX8_air_36 hS1.l rfl rfl (by omega) (by omega) (hS1.el (i := g_eo (H 0)) (by omega)) ?_
    refine qw_astore_n 2 dX8_air_37 rfl rfl (by decide) ?_
    refine qw_aload_n 2 dX8_air_38 rfl rfl ?_
    refine qw_iconst (nI 1) dX8_air_39 (by decide) ?_
    refine qw_puti fX8_111 dX8_air_40 (hS1.b (i := g_eo (H 0)) (by omega)).1 rfl ?_
    refine qw_aload_n 2 dX8_air_43 rfl rfl ?_
    refine qw_getr fX8_114 dX8_air_44 (hS1.b (i := g_eo (H 0)) (by omega)).1 rfl ?_
    refine qw_geti fX8_118 dX8_air_47 (hS1.b (i := g_eo (H 0)) (by omega)).2.1 rfl ?_
    exact qw_ireturn rfl rfl dX8_air_50 ⟨rfl, rfl, rfl, _, rfl, hlt, by rw [lq_up_n _ _ _ (by omega), (hR1.br hlt).2.2.2.2.2.1], ⟨g_nx c, hC1.wr (by rw [← ha1]; exact hR1.air hS1 hW hlt) (hW.air hlt h0) (Or.inl (hF.resolve_right (fun q => by omega))) (by rw [← ha1]; exact fun x hx => lq_up_n _ _ _ (by have := hS1.s (i := g_eo (H 0)) (by omega); omega))⟩, fun x hx => by rw [lq_up_n _ _ _ (by have := hS1.s (i := g_eo (H 0)) (by omega); omega), hq1 x (by omega) (by omega)]⟩
  · rw [if_neg hlt]
    refine qw_istore_n 1 dX8_air_10 rfl rfl (by decide) ?_
    refine qw_iload_n 1 dX8_air_11 rfl rfl ?_
    refine qw_if_ge 25 dX8_air_12 (by decide) (fun c12 => absurd c12 (by decide)) (fun c12 => ?_)
    exact qw_throwL (ci := 13)  3 rfl rfl tF_ISE tN (by decide) tK_ISE tI_ISE rfl tA_ISE tB_ISE dX8_air_15 dX8_air_18 dX8_air_19 dX8_air_21 dX8_air_24 (by decide) (by omega) (by omega) (fun z9 => ⟨rfl, rfl, rfl, rfl, hlt⟩)
theorem k_X8_undo {b : Nat} {F : Nat → Nat → Option Nat} {fp fb : Nat → Option Nat} (h8 : sh8 S b F fp fb) {u : Nat} {H : Nat → Nat → Nat} {tk : Nat → Nat → Nat × Nat} {n : Nat → Nat} (hH : q_hi M (b + 139) u H tk n) : LM G YX8_undo 6 0 0 [.ref b] z S M N (lq_mi z S N (fun x M1 => (u = 0 ∧ x = -1 ∧ M1 = M) ∨ (0 < u ∧ x = nI (u - 1) ∧ q_hi M1 (b + 139) (u - 1) (fun j => H (j + 1)) (fun j => tk (j + 1)) (fun j => n (j + 1)) ∧ q_fr (b + 139) (b + 1607) M M1))) lq_no := by
  obtain ⟨c, hC⟩ := hH
  have hC2 := hC
  obtain ⟨h9, hc, hu, hu8, hp⟩ := hC2
  have hR : q_pl M (b + 139 + 2 + 134 * c) q_id (H 0) (tk 0) (n 0) := (hp 0 (Nat.zero_le u)).1
  obtain ⟨hW, hF, hn⟩ := (hp 0 (Nat.zero_le u)).2
  have hS : sh4 S (b + 139 + 2 + 134 * c) (F c) q_id := h8.2.1.2.2.2 c h9
  have hA := h8.2.2.1
  obtain ⟨a, ha⟩ : ∃ a, a = b + 139 + 2 + 134 * c := ⟨_, rfl⟩
  rw [← ha] at hR hS
  have h20 := hW.nb
  have hs8 := hW.ns
  have h160 := hW.no
  have e0 := hR.nb
  have e1 := hR.ns
  refine LM.of (by decide) rfl [some (.ref b)] rfl (Nat.le_of_ble_eq_true rfl) ?_
  refine qw_aload_n 0 dX8_undo_0 rfl rfl ?_
  refine qw_getr fX8_37 dX8_undo_1 h8.1 rfl ?_
  refine qw_cvi [] (k_X3_stepBack h8.2.1 hc h9 hu hu8) mX8_249 dX8_undo_4 h8.2.1.1 rfl rfl rfl (Nat.le_of_ble_eq_true rfl) (by omega) (by decide) rfl (fun x2 M2 h2 => ?_)
  obtain ⟨hz1, hz2⟩ := h2
  exact qw_ireturn rfl rfl dX8_undo_7 ⟨rfl, rfl, rfl, _, rfl, by
    rcases Nat.eq_zero_or_pos u with q | q
    · exact Or.inl ⟨q, (hz1 q).1, (hz1 q).2⟩
    · refine Or.inr ⟨q, (hz2 q).1, ⟨g_pv c, by rw [(hz2 q).2]; exact hC.pop q⟩, fun x hx => ?_⟩
      rw [(hz2 q).2, lq_up_n _ _ _ (by omega), lq_up_n _ _ _ (by omega)]⟩
end PU2
