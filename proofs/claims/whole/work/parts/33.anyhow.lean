/-! booking anyhow -/
section BA
variable {g : Nat → Nat} {s l i : Nat}
theorem g_rs_le5 : g_rs g s l i ≤ 5 := by
  unfold g_rs
  repeat' split
  all_goals omega
theorem g_rs_is5 (h : g_rs g s l i = 5) : g (11 + 30 * i) = 0 ∧ ¬ 0 < g_hs g i s := by
  unfold g_rs at h
  by_cases h1 : g (11 + 30 * i) ≠ 0
  · rw [if_pos h1] at h; exact absurd h (by decide)
  · rw [if_neg h1] at h
    by_cases h2 : 0 < g_hs g i s
    · rw [if_pos h2] at h; exact absurd h (by decide)
    · exact ⟨by omega, h2⟩
def g_set (g : Nat → Nat) (i s : Nat) : Nat := q_ss (fun p => g (13 + 30 * i + 3 * p)) (g (12 + 30 * i)) ||| 2 ^ s
def g_bah (g : Nat → Nat) (tk : Nat → Nat × Nat) (n s l i : Nat) : Nat → Nat := g_inc (g_put g i (g (12 + 30 * i)) s l (g_pc g tk n s l i)) (g_pc g tk n s l i)
noncomputable def g_ord (g : Nat → Nat) (set : Nat) : Nat → Nat := fun j => (g_fs g set (j + 1)).2
noncomputable def g_ba (g : Nat → Nat) (tk : Nat → Nat × Nat) (n s l i : Nat) : Nat → Nat := if g_rs g s l i ≠ 5 then g_bk g tk n s l i else if g_co g (g_set g i s) = 0 then g else g_reo (g_bah g tk n s l i) i (g_ord g (g_set g i s))
noncomputable def g_bar (g : Nat → Nat) (tk : Nat → Nat × Nat) (n s l i : Nat) : Int32 := if g_rs g s l i ≠ 5 then g_bkr g s l i else if g_co g (g_set g i s) = 0 then -5 else q_plv (fun p => g_ba g tk n s l i (13 + 30 * i + 3 * p)) s (g_ba g tk n s l i (12 + 30 * i))
theorem g_bah_c {tk : Nat → Nat × Nat} {n : Nat} : g_bah g tk n s l i (12 + 30 * i) = g (12 + 30 * i) + 1 := by unfold g_bah; rw [g_inc_o (by omega), g_put_c]
theorem g_bah_s {tk : Nat → Nat × Nat} {n q : Nat} (hq : q ≤ g (12 + 30 * i)) : g_bah g tk n s l i (13 + 30 * i + 3 * q) = if q < g (12 + 30 * i) then g (13 + 30 * i + 3 * q) else s := by
  unfold g_bah
  rw [g_inc_o (by omega), g_put_1 hq]
  unfold q_in
  by_cases e : q < g (12 + 30 * i)
  · rw [if_pos e, if_pos e]
  · rw [if_neg e, if_neg e, if_pos (by omega)]
theorem g_set_e {tk : Nat → Nat × Nat} {n : Nat} : g_set g i s = q_ss (fun p => g_bah g tk n s l i (13 + 30 * i + 3 * p)) (g_bah g tk n s l i (12 + 30 * i)) := by
  rw [g_bah_c, q_ss, Nat.one_mul, g_bah_s (Nat.le_refl _), if_neg (Nat.lt_irrefl _)]
  unfold g_set
  rw [q_ss_cong (f := fun p => g_bah g tk n s l i (13 + 30 * i + 3 * p)) (g := fun p => g (13 + 30 * i + 3 * p)) (g (12 + 30 * i)) (fun j hj => by
    show g_bah g tk n s l i (13 + 30 * i + 3 * j) = _
    rw [g_bah_s (by omega), if_pos hj])]
/-- all that is needed of the order in which a break is laid anew -/
theorem g_ba_ok {tk : Nat → Nat × Nat} {n : Nat} (hW : g_wf g) (hs : s < g 1) (hl : l ≤ 60) (hi : i < g 0) (h5 : g_rs g s l i = 5) (hco : g_co g (g_set g i s) ≠ 0) : g_wf (g_bah g tk n s l i) ∧ g_bah g tk n s l i 0 = g 0 ∧ g_set g i s < 2 ^ g 1 ∧ q_pc (g_set g i s) = g_bah g tk n s l i (12 + 30 * i) ∧
    (∀ j, j < g_bah g tk n s l i (12 + 30 * i) → ∃ q, q < g_bah g tk n s l i (12 + 30 * i) ∧ g_bah g tk n s l i (13 + 30 * i + 3 * q) = g_ord g (g_set g i s) j) ∧ (∀ x y, x < g_bah g tk n s l i (12 + 30 * i) → y < g_bah g tk n s l i (12 + 30 * i) → g_ord g (g_set g i s) x = g_ord g (g_set g i s) y → x = y) ∧
    g_wf (g_reo (g_bah g tk n s l i) i (g_ord g (g_set g i s))) := by
  have h20 := hW.nb
  have h8 := hW.ns
  obtain ⟨r1, r2⟩ := g_rs_is5 h5
  have h7 := hW.seven hi hs r2
  have hw : g_wf (g_bah g tk n s l i) := hW.put hi hs hl (g_pc_le g tk n s l i) (Nat.le_refl _) r2 r1
  have b0 : g_bah g tk n s l i 0 = g 0 := by unfold g_bah; rw [g_inc_o (by omega), g_put_o (by omega) (Nat.le_refl _) h7]
  have b1 : g_bah g tk n s l i 1 = g 1 := by unfold g_bah; rw [g_inc_o (by omega), g_put_o (by omega) (Nat.le_refl _) h7]
  have hib : i < g_bah g tk n s l i 0 := by rw [b0]; exact hi
  have hf : ∀ j, j < g_bah g tk n s l i (12 + 30 * i) → g_bah g tk n s l i (13 + 30 * i + 3 * j) < g 1 := fun j hj => by
    have := (hw.sp hib hj).1
    rw [b1] at this
    exact this
  have hlt : g_set g i s < 2 ^ g 1 := by rw [g_set_e (tk := tk) (n := n) (l := l)]; exact q_ss_lt h8 hf
  have hs8 : g_set g i s < 256 := Nat.lt_of_lt_of_le hlt (Nat.pow_le_pow_right (n := 2) (by decide) h8)
  have hpc : q_pc (g_set g i s) = g_bah g tk n s l i (12 + 30 * i) := by
    rw [g_set_e (tk := tk) (n := n) (l := l)]
    exact q_ss_pc (fun j hj => Nat.lt_of_lt_of_le (hf j hj) h8) (fun x y hx hy e => hw.ne hib hx hy e)
  have hm : g_set g i s ≠ 0 → g_more g (g_set g i s) 8 := fun q => (g_co_more q).mp hco
  have hbits : ∀ {t}, g_set g i s / 2 ^ t % 2 = 1 ↔ ∃ q, q < g_bah g tk n s l i (12 + 30 * i) ∧ g_bah g tk n s l i (13 + 30 * i + 3 * q) = t := fun {t} => by
    rw [g_set_e (tk := tk) (n := n) (l := l)]
    exact q_ss_bit
  have hord : ∀ j, j < g_bah g tk n s l i (12 + 30 * i) → ∃ q, q < g_bah g tk n s l i (12 + 30 * i) ∧ g_bah g tk n s l i (13 + 30 * i + 3 * q) = g_ord g (g_set g i s) j := fun j hj => hbits.mp (q_lay.bit hs8 hm (by rw [hpc]; exact hj))
  have hinj : ∀ x y, x < g_bah g tk n s l i (12 + 30 * i) → y < g_bah g tk n s l i (12 + 30 * i) → g_ord g (g_set g i s) x = g_ord g (g_set g i s) y → x = y := fun x y hx hy e => q_lay.inj hs8 hm (by rw [hpc]; exact hx) (by rw [hpc]; exact hy) e
  refine ⟨hw, b0, hlt, hpc, hord, hinj, hw.prm hib ⟨fun j hj => ?_, fun x y hx hy e => ?_, fun q hq => ?_⟩⟩
  · obtain ⟨q, q1, q2⟩ := hord j hj
    exact q_fst_lt.mpr ⟨q, q1, q2⟩
  · obtain ⟨qx, x1, x2⟩ := hord x hx
    obtain ⟨qy, y1, y2⟩ := hord y hy
    have e1 := q_fst_yes (fun q => g_bah g tk n s l i (13 + 30 * i + 3 * q)) (g_ord g (g_set g i s) x) (g_bah g tk n s l i (12 + 30 * i)) (q_fst_lt.mpr ⟨qx, x1, x2⟩)
    have e2 := q_fst_yes (fun q => g_bah g tk n s l i (13 + 30 * i + 3 * q)) (g_ord g (g_set g i s) y) (g_bah g tk n s l i (12 + 30 * i)) (q_fst_lt.mpr ⟨qy, y1, y2⟩)
    exact hinj x y hx hy (by rw [← e1, ← e2]; exact congrArg (fun q => g_bah g tk n s l i (13 + 30 * i + 3 * q)) e)
  · obtain ⟨j, j1, j2⟩ := q_lay.onto hs8 hm (Nat.lt_of_lt_of_le (hf q hq) h8) (hbits.mpr ⟨q, hq, rfl⟩)
    refine ⟨j, by rw [← hpc]; exact j1, ?_⟩
    exact q_fst_hit hq j2.symm (fun q2 hq2 e => by
      have := hw.ne hib (Nat.lt_trans hq2 hq) hq (e.trans j2)
      omega)
end BA
theorem q_nw_id {α : Type} (f : Nat → α) : q_nw (f 0) f = q_sh f := by
  funext j
  unfold q_nw q_sh
  by_cases e : j = 0
  · rw [if_pos e, e]
  · rw [if_neg e]
section PU4
variable {G : lq_G} {z : Nat} {S : lq_S} {N : lq_N} {M : lq_M}
theorem k_X8_bookAnyhow {b : Nat} {F : Nat → Nat → Option Nat} {fp fb : Nat → Option Nat} (h8 : sh8 S b F fp fb) {u : Nat} {H : Nat → Nat → Nat} {tk : Nat → Nat → Nat × Nat} {n : Nat → Nat} (hH : q_hi M (b + 139) u H tk n) {s l i : Int32} : LM G YX8_bookAnyhow 6 3 18 [.ref b, .int s, .int l, .int i] z S M N (lq_mi z S N (fun x M1 => ∃ ks kl ki, ks < H 0 1 ∧ 5 ≤ kl ∧ kl ≤ 60 ∧ ki < H 0 0 ∧ s = nI ks ∧ l = nI kl ∧ i = nI ki ∧ x = g_bar (H 0) (tk 0) (n 0) ks kl ki ∧ q_hi M1 (b + 139) (min (u + 1) 8) (q_nw (g_ba (H 0) (tk 0) (n 0) ks kl ki) H) (q_sh tk) (q_sh n) ∧ q_fr (b + 139) (b + 1607) M M1)) (lq_xs S M N (fun E => (E = eIO ∧ ¬ (q_ix s (H 0 1) ∧ q_ix i (H 0 0))) ∨ (E = eIA ∧ q_ix s (H 0 1) ∧ q_ix i (H 0 0) ∧ ¬ q_rg l 5 60))) := by
  obtain ⟨c, hC⟩ := hH
  have hC2 := hC
  obtain ⟨h9, hc, hu, hu8, hp⟩ := hC2
  have hR : q_pl M (b + 139 + 2 + 134 * c) q_id (H 0) (tk 0) (n 0) := (hp 0 (Nat.zero_le u)).1
  obtain ⟨hW, hF, hn⟩ := (hp 0 (Nat.zero_le u)).2
  have hS : sh4 S (b + 139 + 2 + 134 * c) (F c) q_id := h8.2.1.2.2.2 c h9
  have hA := h8.2.2.1
  obtain ⟨a, ha⟩ : ∃ a, a = b + 139 + 2 + 134 * c := ⟨_, rfl⟩
  rw [← ha] at hR hS
  have h20 := hW.nb
  have hs8 := hW.ns
  have h160 := hW.no
  have e0 := hR.nb
  have e1 := hR.ns
  refine LM.of (by decide) rfl [some (.ref b), some (.int s), some (.int l), some (.int i), none, none] rfl (Nat.le_of_ble_eq_true rfl) ?_
  refine qw_aload_n 0 dX8_bookAnyhow_0 rfl rfl ?_
  refine qw_getr fX8_37 dX8_bookAnyhow_1 h8.1 rfl ?_
  refine qw_cvp [] (k_X3_latest h8.2.1 hc h9) mX8_80 dX8_bookAnyhow_4 h8.2.1.1 rfl rfl rfl (Nat.le_of_ble_eq_true rfl) (by omega) (by decide) rfl ?_
  rw [← ha]
  refine qw_iload_n 1 dX8_bookAnyhow_7 rfl rfl ?_
  refine qw_iload_n 2 dX8_bookAnyhow_8 rfl rfl ?_
  refine qw_iload_n 3 dX8_bookAnyhow_9 rfl rfl ?_
  refine qw_csx [_, _, _, _] (k_X8_checkSpotIn hS (by omega) (by omega)) mX8_165 dX8_bookAnyhow_10 rfl rfl (Nat.le_of_ble_eq_true rfl) (by omega) (by decide) rfl (by omega) (by omega) (fun E z9 h9 => ⟨rfl, rfl, rfl, by unfold q_sinX at h9; rw [e0, e1] at h9; exact h9⟩) (fun v1 => ?_)
  unfold q_sin at v1
  rw [e0, e1] at v1
  obtain ⟨⟨ks, hs, rfl⟩, ⟨ki, hi, rfl⟩, ⟨kl, hl1, hl2, rfl⟩⟩ := v1
  refine qw_aload_n 0 dX8_bookAnyhow_13 rfl rfl ?_
  refine qw_getr fX8_37 dX8_bookAnyhow_14 h8.1 rfl ?_
  refine qw_cvo [] (k_X3_beginChange h8.2.1 hc h9 hu hu8 (by rw [← ha]; exact hR) hW hn) mX8_69 dX8_bookAnyhow_17 h8.2.1.1 rfl rfl rfl (Nat.le_of_ble_eq_true rfl) (by omega) (by decide) rfl (fun M1 hb1 => ?_)
  have hC1 := hC.bgn hb1
  have hnx := g_nx_lt c
  have hS1 : sh4 S (b + 139 + 2 + 134 * g_nx c) (F (g_nx c)) q_id := h8.2.1.2.2.2 _ hnx
  have hR1 := hb1.1
  have hq1 := hb1.2.2.2
  obtain ⟨a1, ha1⟩ : ∃ a1, a1 = b + 139 + 2 + 134 * g_nx c := ⟨_, rfl⟩
  rw [← ha1] at hS1 hR1 ⊢
  refine qw_astore dX8_bookAnyhow_20 rfl (by decide) ?_
  refine qw_aload dX8_bookAnyhow_22 rfl ?_
  refine qw_iload_n 1 dX8_bookAnyhow_24 rfl rfl ?_
  refine qw_iload_n 2 dX8_bookAnyhow_25 rfl rfl ?_
  refine qw_iload_n 3 dX8_bookAnyhow_26 rfl rfl ?_
  refine qw_cvp [_, _, _] (k_X4_refusal hS1 hR1 hW hs hl2 hi) mX8_169 dX8_bookAnyhow_27 hS1.1 rfl rfl rfl (Nat.le_of_ble_eq_true rfl) (by omega) (by decide) rfl ?_
  have hrs := g_rs_le5 (g := H 0) (s := ks) (l := kl) (i := ki)
  refine qw_iconst (nI 5) dX8_bookAnyhow_30 (by decide) ?_
  refine qw_icmp_eqN 43 dX8_bookAnyhow_31 (by decide) (by omega) (by omega) (fun c31 => ?_) (fun c31 => ?_)
  · obtain ⟨r1, r2⟩ := g_rs_is5 c31
    have hb1i := hR1.br hi
    have hbw := hW.br hi
    have hcn := hb1i.2.2.2.2.2.1
    have hse : q_ss (M1 (a1 + 2 + 6 * q_id ki + 1 + 1)) (M1 (a1 + 2 + 6 * q_id ki + 1) 4) = q_ss (fun p => H 0 (13 + 30 * ki + 3 * p)) (H 0 (12 + 30 * ki)) := by
      rw [hcn]
      exact q_ss_cong _ (fun p hp => (hb1i.2.2.2.2.2.2 p hp).1)
    have hki : q_id ki < 20 := hS1.s (i := ki) (by omega)
    have hsl : g_set (H 0) ki ks < 2 ^ H 0 1 := by
      unfold g_set
      exact Nat.or_lt_two_pow (q_ss_lt hs8 (fun j hj => (hW.sp hi hj).1)) (Nat.pow_lt_pow_right (by decide) hs)
    refine qw_aload dX8_bookAnyhow_43 rfl ?_
    refine qw_getr fX8_94 dX8_bookAnyhow_45 hS1.1 rfl ?_
    refine qw_iload_n 3 dX8_bookAnyhow_48 rfl rfl ?_
    refine qw_aald dX8_bookAnyhow_49 hS1.l rfl rfl (by omega) (by omega) (hS1.el (i := ki) (by omega)) ?_
    refine qw_getr fX8_114 dX8_bookAnyhow_50 (hS1.b (i := ki) (by omega)).1 rfl ?_
    refine qw_cvp [] (k_X6_sponsorSet (hS1.b (i := ki) (by omega)).2 (by rw [hcn]; exact hbw.2.2.2.2.2.1) (by decide) (fun j hj => by rw [hcn] at hj; rw [(hb1i.2.2.2.2.2.2 j hj).1]; have := (hW.sp hi hj).1; omega)) mX8_212 dX8_bookAnyhow_53 (hS1.b (i := ki) (by omega)).2.1 rfl rfl rfl (Nat.le_of_ble_eq_true rfl) (by omega) (by decide) rfl ?_
    rw [hse]
    refine qw_iconst (nI 1) dX8_bookAnyhow_56 (by decide) ?_
    refine qw_iload_n 1 dX8_bookAnyhow_57 rfl rfl ?_
    refine qw_shlN (by omega) (by have := q_pw9 (f := ks) (by omega); omega) dX8_bookAnyhow_58 ?_
    refine qw_orN dX8_bookAnyhow_59 ?_
    rw [Nat.one_mul, show q_ss (fun p => H 0 (13 + 30 * ki + 3 * p)) (H 0 (12 + 30 * ki)) ||| 2 ^ ks = g_set (H 0) ki ks from rfl]
    refine qw_istore dX8_bookAnyhow_60 rfl (by decide) ?_
    refine qw_aload_n 0 dX8_bookAnyhow_62 rfl rfl ?_
    refine qw_getr fX8_44 dX8_bookAnyhow_63 h8.1 rfl ?_
    refine qw_aload dX8_bookAnyhow_66 rfl ?_
    refine qw_iload dX8_bookAnyhow_68 rfl ?_
    refine qw_cvi [_, _] (k_X1_findFirst hA hS1 hR1 hW (by omega) hsl) mX8_202 dX8_bookAnyhow_70 h8.2.2.1.1 rfl rfl rfl (Nat.le_of_ble_eq_true rfl) (by omega) (by decide) rfl (fun x2 M2 h2 => ?_)
    obtain ⟨hx2, hord, hm2⟩ := h2
    subst hx2
    have hle : (if g_co (H 0) (g_set (H 0) ki ks) = 0 then 0 else 1) ≤ 1 := by split <;> omega
    refine qw_if_neN 79 dX8_bookAnyhow_73 (by decide) (by omega) (fun c73 => ?_) (fun c73 => ?_)
    · have hc0 : g_co (H 0) (g_set (H 0) ki ks) ≠ 0 := fun z => c73 (by rw [if_pos z])
      obtain ⟨k1, k2, k3, k4, k5, k6, k7⟩ := g_ba_ok (tk := tk 0) (n := n 0) hW hs hl2 hi c31 hc0
      have hR2 : q_pl M2 a1 q_id (H 0) (tk 0) (n 0) := hR1.eqM (fun j hj => by show j < 20; omega) (fun x x1 x2 => hm2 x (by omega))
      refine qw_aload dX8_bookAnyhow_79 rfl ?_
      refine qw_iload_n 1 dX8_bookAnyhow_81 rfl rfl ?_
      refine qw_iload_n 2 dX8_bookAnyhow_82 rfl rfl ?_
      refine qw_iload_n 3 dX8_bookAnyhow_83 rfl rfl ?_
      refine qw_aload_n 0 dX8_bookAnyhow_84 rfl rfl ?_
      refine qw_getr fX8_44 dX8_bookAnyhow_85 h8.1 rfl ?_
      refine qw_getr fX8_206 dX8_bookAnyhow_88 h8.2.2.1.1 rfl ?_
      refine qw_cvv [_, _, _, _] (k_X4_bookInOrder (ord := g_ord (H 0) (g_set (H 0) ki ks)) (h := g_bah (H 0) (tk 0) (n 0) ks kl ki) hS1 hR2 hW (hF.resolve_right (fun q => by omega)) hn hs hl2 hi r1 r2 hA.2.2.2.2.2 (by omega) rfl (fun j hj => hord hc0 j (by rw [k4]; exact hj)) k5 k6) mX8_215 dX8_bookAnyhow_91 hS1.1 rfl rfl rfl (Nat.le_of_ble_eq_true rfl) (by omega) (by decide) rfl (fun M3 h3 => ?_)
      obtain ⟨hR3, hq3⟩ := h3
      have hib : ki < g_reo (g_bah (H 0) (tk 0) (n 0) ks kl ki) ki (g_ord (H 0) (g_set (H 0) ki ks)) 0 := by unfold g_reo; rw [g_prm_o (by omega), k2]; exact hi
      have hb3 := hR3.br hib
      have hbw3 := k7.br hib
      have hcn3 := hb3.2.2.2.2.2.1
      refine qw_aload dX8_bookAnyhow_94 rfl ?_
      refine qw_getr fX8_94 dX8_bookAnyhow_96 hS1.1 rfl ?_
      refine qw_iload_n 3 dX8_bookAnyhow_99 rfl rfl ?_
      refine qw_aald dX8_bookAnyhow_100 hS1.l rfl rfl (by omega) (by omega) (hS1.el (i := ki) (by omega)) ?_
      refine qw_getr fX8_114 dX8_bookAnyhow_101 (hS1.b (i := ki) (by omega)).1 rfl ?_
      refine qw_iload_n 1 dX8_bookAnyhow_104 rfl rfl ?_
      refine qw_cvp [_] (k_X6_placeOf (hS1.b (i := ki) (by omega)).2 (by rw [hcn3]; exact hbw3.2.2.2.2.2.1) (by decide) (by omega) (fun j hj => by rw [hcn3] at hj; rw [(hb3.2.2.2.2.2.2 j hj).1]; have := (k7.sp hib hj).1; have := k7.ns; omega)) mX8_219 dX8_bookAnyhow_105 (hS1.b (i := ki) (by omega)).2.1 rfl rfl rfl (Nat.le_of_ble_eq_true rfl) (by omega) (by decide) rfl ?_
      exact qw_ireturn rfl rfl dX8_bookAnyhow_108 ⟨rfl, rfl, rfl, _, rfl, ks, kl, ki, hs, hl1, hl2, hi, rfl, rfl, rfl, by
        rw [g_bar, if_neg (fun q => q c31), if_neg hc0, g_ba, if_neg (fun q => q c31), if_neg hc0, hcn3]
        unfold q_plv
        rw [q_fst_cong ks _ (fun j hj => (hb3.2.2.2.2.2.2 j hj).1)], by
        rw [g_ba, if_neg (fun q => q c31), if_neg hc0]
        exact ⟨g_nx c, (hC1.arr (a1 := b + 1347) (by omega) hm2).wr (by rw [← ha1]; exact hR3) k7 (Or.inl (hF.resolve_right (fun q => by omega))) (by rw [← ha1]; exact hq3)⟩, fun x hx => by rw [hq3 x (by omega), hm2 x (by omega), hq1 x (by omega) (by omega)]⟩
    · have hc0 : g_co (H 0) (g_set (H 0) ki ks) = 0 := Decidable.byContradiction fun z => by rw [if_neg z] at c73; exact absurd c73 (by decide)
      refine qw_bipush (-5) dX8_bookAnyhow_76 (by decide) ?_
      exact qw_ireturn rfl rfl dX8_bookAnyhow_78 ⟨rfl, rfl, rfl, _, rfl, ks, kl, ki, hs, hl1, hl2, hi, rfl, rfl, rfl, by rw [g_bar, if_neg (fun q => q c31), if_pos hc0], by
        rw [g_ba, if_neg (fun q => q c31), if_pos hc0, q_nw_id]
        exact ⟨g_nx c, hC1.arr (by omega) hm2⟩, fun x hx => by rw [hm2 x (by omega), hq1 x (by omega) (by omega)]⟩
  · refine qw_aload dX8_bookAnyhow_34 rfl ?_
    refine qw_iload_n 1 dX8_bookAnyhow_36 rfl rfl ?_
    refine qw_iload_n 2 dX8_bookAnyhow_37 rfl rfl ?_
    refine qw_iload_n 3 dX8_bookAnyhow_38 rfl rfl ?_
    refine qw_cvi [_, _, _] (k_X4_bookSpot hS1 hR1 hW (hF.resolve_right (fun q => by omega)) hn hs hl2 hi) mX8_209 dX8_bookAnyhow_39 hS1.1 rfl rfl rfl (Nat.le_of_ble_eq_true rfl) (by omega) (by decide) rfl (fun x2 M2 h2 => ?_)
    obtain ⟨hx2, hR2, hq2⟩ := h2
    exact qw_ireturn rfl rfl dX8_bookAnyhow_42 ⟨rfl, rfl, rfl, _, rfl, ks, kl, ki, hs, hl1, hl2, hi, rfl, rfl, rfl, by rw [g_bar, if_pos c31]; exact hx2, by rw [g_ba, if_pos c31]; exact ⟨g_nx c, hC1.wr (by rw [← ha1]; exact hR2) (hW.bk hs hl2 hi) (Or.inl (hF.resolve_right (fun q => by omega))) (by rw [← ha1]; exact hq2)⟩, fun x hx => by rw [hq2 x (by omega), hq1 x (by omega) (by omega)]⟩
end PU4
