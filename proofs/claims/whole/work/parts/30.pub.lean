/-! the class as a whole: its history stands for a row of states; reading it -/
def q_h0 {α : Type} (x : α) (f : Nat → α) : Nat → α := fun j => if j = 0 then x else f j
def q_sh {α : Type} (f : Nat → α) : Nat → α := fun j => f (j - 1)
def q_nw {α : Type} (x : α) (f : Nat → α) : Nat → α := fun j => if j = 0 then x else f (j - 1)
theorem q_h0_sh {α : Type} (x : α) (f : Nat → α) : q_h0 x (q_sh f) = q_nw x f := rfl
theorem q_h0_id {α : Type} (f : Nat → α) : q_h0 (f 0) f = f := by
  funext j
  unfold q_h0
  by_cases e : j = 0
  · rw [if_pos e, e]
  · rw [if_neg e]
def q_ri (c : Nat) : Nat → Nat
  | 0 => c
  | j + 1 => g_pv (q_ri c j)
theorem q_ri0 : ∀ c i j : Fin 9, q_ri c.1 i.1 = q_ri c.1 j.1 → i = j := by decide +kernel
theorem q_ri1 : ∀ c j : Fin 9, q_ri (g_nx c.1) (j.1 + 1) = q_ri c.1 j.1 := by decide +kernel
theorem q_ri2 : ∀ c j : Fin 9, q_ri (g_pv c.1) j.1 = q_ri c.1 (j.1 + 1) := by decide +kernel
theorem q_ri_lt {c : Nat} (h : c < 9) : ∀ j, q_ri c j < 9
  | 0 => h
  | j + 1 => g_pv_lt (q_ri_lt h j)
theorem q_ri_inj {c i j : Nat} (h : c < 9) (hi : i < 9) (hj : j < 9) (e : q_ri c i = q_ri c j) : i = j := congrArg Fin.val (q_ri0 ⟨c, h⟩ ⟨i, hi⟩ ⟨j, hj⟩ e)
def q_st (g : Nat → Nat) (tk : Nat → Nat × Nat) (n : Nat) : Prop := g_wf g ∧ (q_fwf tk n ∨ (g 0 = 0 ∧ g 1 = 0)) ∧ n ≤ 800
/-- the ring h stands at c, u changes can be undone; H j is the state j changes ago -/
def q_hc (M : lq_M) (h c u : Nat) (H : Nat → Nat → Nat) (tk : Nat → Nat → Nat × Nat) (n : Nat → Nat) : Prop := c < 9 ∧ M h 1 = c ∧ M h 2 = u ∧ u ≤ 8 ∧ ∀ j, j ≤ u → q_pl M (h + 2 + 134 * q_ri c j) q_id (H j) (tk j) (n j) ∧ q_st (H j) (tk j) (n j)
def q_hi (M : lq_M) (h u : Nat) (H : Nat → Nat → Nat) (tk : Nat → Nat → Nat × Nat) (n : Nat → Nat) : Prop := ∃ c, q_hc M h c u H tk n
theorem q_hc.mut {M M1 : lq_M} {h c u n1 : Nat} {H : Nat → Nat → Nat} {tk : Nat → Nat → Nat × Nat} {n : Nat → Nat} {g : Nat → Nat} {t1 : Nat → Nat × Nat} (hC : q_hc M h c u H tk n) (hp : q_pl M1 (h + 2 + 134 * c) q_id g t1 n1) (hs : q_st g t1 n1) (hq : ∀ b, (b < h + 2 + 134 * c ∨ h + 2 + 134 * c + 134 ≤ b) → M1 b = M b) : q_hc M1 h c u (q_h0 g H) (q_h0 t1 tk) (q_h0 n1 n) := by
  obtain ⟨h9, c1, c2, c3, c4⟩ := hC
  refine ⟨h9, by rw [hq h (by omega)]; exact c1, by rw [hq h (by omega)]; exact c2, c3, fun j hj => ?_⟩
  unfold q_h0
  by_cases e : j = 0
  · rw [if_pos e, if_pos e, if_pos e, e]
    exact ⟨hp, hs⟩
  · rw [if_neg e, if_neg e, if_neg e]
    obtain ⟨d1, d2⟩ := c4 j hj
    have hw := d2.1.nb
    have hne : q_ri c j ≠ c := fun q => e (q_ri_inj h9 (by omega) (by omega) (show q_ri c j = q_ri c 0 from q))
    exact ⟨d1.eqM (fun i hi => by show i < 20; omega) (fun x x1 x2 => hq x (by omega)), d2⟩
theorem q_hc.fq {M M1 : lq_M} {h c u : Nat} {H : Nat → Nat → Nat} {tk : Nat → Nat → Nat × Nat} {n : Nat → Nat} (hC : q_hc M h c u H tk n) (hq : q_fq (h + 2 + 134 * c) M M1) : q_hc M1 h c u H tk n := by
  have h0 := hC.2.2.2.2 0 (Nat.zero_le u)
  have hw := h0.2.1.nb
  have z := hC.mut (h0.1.fq (fun i hi => by show i < 20; omega) (fun b b1 b2 => hq b b1 b2)) h0.2 (fun b hb => hq b (by omega) (by omega))
  rw [q_h0_id, q_h0_id, q_h0_id] at z
  exact z
theorem q_hc.bgn {M M1 : lq_M} {h c u : Nat} {H : Nat → Nat → Nat} {tk : Nat → Nat → Nat × Nat} {n : Nat → Nat} (hC : q_hc M h c u H tk n) (hb : q_bgn h c u (H 0) (tk 0) (n 0) M M1) : q_hc M1 h (g_nx c) (min (u + 1) 8) (q_sh H) (q_sh tk) (q_sh n) := by
  obtain ⟨h9, c1, c2, c3, c4⟩ := hC
  obtain ⟨b1, b2, b3, b4⟩ := hb
  refine ⟨g_nx_lt c, b2, b3, Nat.min_le_right _ _, fun j hj => ?_⟩
  unfold q_sh
  cases j with
  | zero => exact ⟨b1, (c4 0 (Nat.zero_le u)).2⟩
  | succ i =>
    have hi : i ≤ u ∧ i < 8 := by omega
    obtain ⟨d1, d2⟩ := c4 i hi.1
    have hw := d2.1.nb
    have e := q_ri1 ⟨c, h9⟩ ⟨i, by omega⟩
    have e : q_ri (g_nx c) (i + 1) = q_ri c i := e
    have hne : q_ri c i ≠ g_nx c := fun q => by
      rw [← e] at q
      have := q_ri_inj (g_nx_lt c) (show i + 1 < 9 by omega) (show 0 < 9 by omega) (show q_ri (g_nx c) (i + 1) = q_ri (g_nx c) 0 from q)
      omega
    rw [e]
    exact ⟨d1.eqM (fun k hk => by show k < 20; omega) (fun x x1 x2 => b4 x (by omega) (by omega)), d2⟩
theorem q_hc.pop {M : lq_M} {h c u : Nat} {H : Nat → Nat → Nat} {tk : Nat → Nat → Nat × Nat} {n : Nat → Nat} (hC : q_hc M h c u H tk n) (h0 : 0 < u) : q_hc (lq_up (lq_up M h 1 (g_pv c)) h 2 (u - 1)) h (g_pv c) (u - 1) (fun j => H (j + 1)) (fun j => tk (j + 1)) (fun j => n (j + 1)) := by
  obtain ⟨h9, c1, c2, c3, c4⟩ := hC
  refine ⟨g_pv_lt h9, by rw [lq_up_c _ _ (by decide), lq_up_s], by rw [lq_up_s], by omega, fun j hj => ?_⟩
  obtain ⟨d1, d2⟩ := c4 (j + 1) (by omega)
  have hw := d2.1.nb
  have e := q_ri2 ⟨c, h9⟩ ⟨j, by omega⟩
  have e : q_ri (g_pv c) j = q_ri c (j + 1) := e
  rw [e]
  exact ⟨d1.eqM (fun k hk => by show k < 20; omega) (fun x x1 x2 => by rw [lq_up_n _ _ _ (by omega), lq_up_n _ _ _ (by omega)]), d2⟩
def sh8 (S : lq_S) (b : Nat) (F : Nat → Nat → Option Nat) (fp fb : Nat → Option Nat) : Prop := S b = some (.inl (8, [some (some (b + 1)), none, none, some (some (b + 2)), some (some (b + 5)), some (some (b + 139)), some (some (b + 1347))])) ∧ sh3 S (b + 139) F fp ∧ sh1 S (b + 1347) fb ∧ S (b + 1) = some (.inr (.inl (1, 800)))
theorem q_hc.arr {M M1 : lq_M} {h c u a1 : Nat} {H : Nat → Nat → Nat} {tk : Nat → Nat → Nat × Nat} {n : Nat → Nat} (hC : q_hc M h c u H tk n) (ha : h + 1208 ≤ a1) (hq : q_fr a1 (a1 + 260) M M1) : q_hc M1 h c u H tk n := by
  obtain ⟨h9, c1, c2, c3, c4⟩ := hC
  refine ⟨h9, by rw [hq h (by omega)]; exact c1, by rw [hq h (by omega)]; exact c2, c3, fun j hj => ?_⟩
  obtain ⟨d1, d2⟩ := c4 j hj
  have hw := d2.1.nb
  have hr := q_ri_lt h9 j
  exact ⟨d1.eqM (fun i hi => by show i < 20; omega) (fun x x1 x2 => hq x (by omega)), d2⟩
section PU1
variable {G : lq_G} {z : Nat} {S : lq_S} {N : lq_N} {M : lq_M}
theorem k_X8_breaks {b : Nat} {F : Nat → Nat → Option Nat} {fp fb : Nat → Option Nat} (h8 : sh8 S b F fp fb) {u : Nat} {H : Nat → Nat → Nat} {tk : Nat → Nat → Nat × Nat} {n : Nat → Nat} (hH : q_hi M (b + 139) u H tk n) : LM G YX8_breaks 6 0 0 [.ref b] z S M N (lq_mi z S N (fun x M1 => x = nI (H 0 0) ∧ q_hi M1 (b + 139) u H tk n ∧ q_fr (b + 139) (b + 1607) M M1)) lq_no := by
  obtain ⟨c, hC⟩ := hH
  have hC2 := hC
  obtain ⟨h9, hc, hu, hu8, hp⟩ := hC2
  have hR : q_pl M (b + 139 + 2 + 134 * c) q_id (H 0) (tk 0) (n 0) := (hp 0 (Nat.zero_le u)).1
  obtain ⟨hW, hF, hn⟩ := (hp 0 (Nat.zero_le u)).2
  have hS : sh4 S (b + 139 + 2 + 134 * c) (F c) q_id := h8.2.1.2.2.2 c h9
  have hA := h8.2.2.1
  obtain ⟨a, ha⟩ : ∃ a, a = b + 139 + 2 + 134 * c := ⟨_, rfl⟩
  rw [← ha] at hR hS
  have h20 := hW.nb
  have hs8 := hW.ns
  have h160 := hW.no
  have e0 := hR.nb
  have e1 := hR.ns
  refine LM.of (by decide) rfl [some (.ref b)] rfl (Nat.le_of_ble_eq_true rfl) ?_
  refine qw_aload_n 0 dX8_breaks_0 rfl rfl ?_
  refine qw_getr fX8_37 dX8_breaks_1 h8.1 rfl ?_
  refine qw_cvp [] (k_X3_latest h8.2.1 hc h9) mX8_80 dX8_breaks_4 h8.2.1.1 rfl rfl rfl (Nat.le_of_ble_eq_true rfl) (by omega) (by decide) rfl ?_
  rw [← ha]
  refine qw_geti fX8_77 dX8_breaks_7 hS.1 rfl ?_
  exact qw_ireturn rfl rfl dX8_breaks_10 ⟨rfl, rfl, rfl, _, rfl, by rw [e0], ⟨c, hC⟩, q_fr.rf⟩
theorem k_X8_sponsors {b : Nat} {F : Nat → Nat → Option Nat} {fp fb : Nat → Option Nat} (h8 : sh8 S b F fp fb) {u : Nat} {H : Nat → Nat → Nat} {tk : Nat → Nat → Nat × Nat} {n : Nat → Nat} (hH : q_hi M (b + 139) u H tk n) : LM G YX8_sponsors 6 0 0 [.ref b] z S M N (lq_mi z S N (fun x M1 => x = nI (H 0 1) ∧ q_hi M1 (b + 139) u H tk n ∧ q_fr (b + 139) (b + 1607) M M1)) lq_no := by
  obtain ⟨c, hC⟩ := hH
  have hC2 := hC
  obtain ⟨h9, hc, hu, hu8, hp⟩ := hC2
  have hR : q_pl M (b + 139 + 2 + 134 * c) q_id (H 0) (tk 0) (n 0) := (hp 0 (Nat.zero_le u)).1
  obtain ⟨hW, hF, hn⟩ := (hp 0 (Nat.zero_le u)).2
  have hS : sh4 S (b + 139 + 2 + 134 * c) (F c) q_id := h8.2.1.2.2.2 c h9
  have hA := h8.2.2.1
  obtain ⟨a, ha⟩ : ∃ a, a = b + 139 + 2 + 134 * c := ⟨_, rfl⟩
  rw [← ha] at hR hS
  have h20 := hW.nb
  have hs8 := hW.ns
  have h160 := hW.no
  have e0 := hR.nb
  have e1 := hR.ns
  refine LM.of (by decide) rfl [some (.ref b)] rfl (Nat.le_of_ble_eq_true rfl) ?_
  refine qw_aload_n 0 dX8_sponsors_0 rfl rfl ?_
  refine qw_getr fX8_37 dX8_sponsors_1 h8.1 rfl ?_
  refine qw_cvp [] (k_X3_latest h8.2.1 hc h9) mX8_80 dX8_sponsors_4 h8.2.1.1 rfl rfl rfl (Nat.le_of_ble_eq_true rfl) (by omega) (by decide) rfl ?_
  rw [← ha]
  refine qw_geti fX8_83 dX8_sponsors_7 hS.1 rfl ?_
  exact qw_ireturn rfl rfl dX8_sponsors_10 ⟨rfl, rfl, rfl, _, rfl, by rw [e1], ⟨c, hC⟩, q_fr.rf⟩
theorem k_X8_income {b : Nat} {F : Nat → Nat → Option Nat} {fp fb : Nat → Option Nat} (h8 : sh8 S b F fp fb) {u : Nat} {H : Nat → Nat → Nat} {tk : Nat → Nat → Nat × Nat} {n : Nat → Nat} (hH : q_hi M (b + 139) u H tk n) : LM G YX8_income 6 0 0 [.ref b] z S M N (lq_mi z S N (fun x M1 => x = nI (H 0 6) ∧ q_hi M1 (b + 139) u H tk n ∧ q_fr (b + 139) (b + 1607) M M1)) lq_no := by
  obtain ⟨c, hC⟩ := hH
  have hC2 := hC
  obtain ⟨h9, hc, hu, hu8, hp⟩ := hC2
  have hR : q_pl M (b + 139 + 2 + 134 * c) q_id (H 0) (tk 0) (n 0) := (hp 0 (Nat.zero_le u)).1
  obtain ⟨hW, hF, hn⟩ := (hp 0 (Nat.zero_le u)).2
  have hS : sh4 S (b + 139 + 2 + 134 * c) (F c) q_id := h8.2.1.2.2.2 c h9
  have hA := h8.2.2.1
  obtain ⟨a, ha⟩ : ∃ a, a = b + 139 + 2 + 134 * c := ⟨_, rfl⟩
  rw [← ha] at hR hS
  have h20 := hW.nb
  have hs8 := hW.ns
  have h160 := hW.no
  have e0 := hR.nb
  have e1 := hR.ns
  refine LM.of (by decide) rfl [some (.ref b)] rfl (Nat.le_of_ble_eq_true rfl) ?_
  refine qw_aload_n 0 dX8_income_0 rfl rfl ?_
  refine qw_getr fX8_37 dX8_income_1 h8.1 rfl ?_
  refine qw_cvp [] (k_X3_latest h8.2.1 hc h9) mX8_80 dX8_income_4 h8.2.1.1 rfl rfl rfl (Nat.le_of_ble_eq_true rfl) (by omega) (by decide) rfl ?_
  rw [← ha]
  refine qw_geti fX8_182 dX8_income_7 hS.1 rfl ?_
  exact qw_ireturn rfl rfl dX8_income_10 ⟨rfl, rfl, rfl, _, rfl, by rw [hR.inc], ⟨c, hC⟩, q_fr.rf⟩
theorem k_X8_owed {b : Nat} {F : Nat → Nat → Option Nat} {fp fb : Nat → Option Nat} (h8 : sh8 S b F fp fb) {u : Nat} {H : Nat → Nat → Nat} {tk : Nat → Nat → Nat × Nat} {n : Nat → Nat} (hH : q_hi M (b + 139) u H tk n) : LM G YX8_owed 6 0 0 [.ref b] z S M N (lq_mi z S N (fun x M1 => x = nI (H 0 5) ∧ q_hi M1 (b + 139) u H tk n ∧ q_fr (b + 139) (b + 1607) M M1)) lq_no := by
  obtain ⟨c, hC⟩ := hH
  have hC2 := hC
  obtain ⟨h9, hc, hu, hu8, hp⟩ := hC2
  have hR : q_pl M (b + 139 + 2 + 134 * c) q_id (H 0) (tk 0) (n 0) := (hp 0 (Nat.zero_le u)).1
  obtain ⟨hW, hF, hn⟩ := (hp 0 (Nat.zero_le u)).2
  have hS : sh4 S (b + 139 + 2 + 134 * c) (F c) q_id := h8.2.1.2.2.2 c h9
  have hA := h8.2.2.1
  obtain ⟨a, ha⟩ : ∃ a, a = b + 139 + 2 + 134 * c := ⟨_, rfl⟩
  rw [← ha] at hR hS
  have h20 := hW.nb
  have hs8 := hW.ns
  have h160 := hW.no
  have e0 := hR.nb
  have e1 := hR.ns
  refine LM.of (by decide) rfl [some (.ref b)] rfl (Nat.le_of_ble_eq_true rfl) ?_
  refine qw_aload_n 0 dX8_owed_0 rfl rfl ?_
  refine qw_getr fX8_37 dX8_owed_1 h8.1 rfl ?_
  refine qw_cvp [] (k_X3_latest h8.2.1 hc h9) mX8_80 dX8_owed_4 h8.2.1.1 rfl rfl rfl (Nat.le_of_ble_eq_true rfl) (by omega) (by decide) rfl ?_
  rw [← ha]
  refine qw_getr fX8_152 dX8_owed_7 hS.1 rfl ?_
  refine qw_geti fX8_118 dX8_owed_10 hS.ow.1 rfl ?_
  exact qw_ireturn rfl rfl dX8_owed_13 ⟨rfl, rfl, rfl, _, rfl, by rw [hR.ow.1], ⟨c, hC⟩, q_fr.rf⟩
theorem k_X8_breakOf {b : Nat} {F : Nat → Nat → Option Nat} {fp fb : Nat → Option Nat} (h8 : sh8 S b F fp fb) {u : Nat} {H : Nat → Nat → Nat} {tk : Nat → Nat → Nat × Nat} {n : Nat → Nat} (hH : q_hi M (b + 139) u H tk n) {i w : Int32} : LM G YX8_breakOf 6 2 12 [.ref b, .int i, .int w] z S M N (lq_mi z S N (fun x M1 => (∃ k v, k < H 0 0 ∧ v ≤ 6 ∧ i = nI k ∧ w = nI v ∧ x = nI (if v = 6 then g_us (H 0) k else H 0 (7 + v + 30 * k))) ∧ q_hi M1 (b + 139) u H tk n ∧ q_fr (b + 139) (b + 1607) M M1)) (lq_xs S M N (fun E => (E = eIO ∧ ¬ q_ix i (H 0 0)) ∨ (E = eIA ∧ q_ix i (H 0 0) ∧ ¬ q_rg w 0 6))) := by
  obtain ⟨c, hC⟩ := hH
  have hC2 := hC
  obtain ⟨h9, hc, hu, hu8, hp⟩ := hC2
  have hR : q_pl M (b + 139 + 2 + 134 * c) q_id (H 0) (tk 0) (n 0) := (hp 0 (Nat.zero_le u)).1
  obtain ⟨hW, hF, hn⟩ := (hp 0 (Nat.zero_le u)).2
  have hS : sh4 S (b + 139 + 2 + 134 * c) (F c) q_id := h8.2.1.2.2.2 c h9
  have hA := h8.2.2.1
  obtain ⟨a, ha⟩ : ∃ a, a = b + 139 + 2 + 134 * c := ⟨_, rfl⟩
  rw [← ha] at hR hS
  have h20 := hW.nb
  have hs8 := hW.ns
  have h160 := hW.no
  have e0 := hR.nb
  have e1 := hR.ns
  refine LM.of (by decide) rfl [some (.ref b), some (.int i), some (.int w), none, none] rfl (Nat.le_of_ble_eq_true rfl) ?_
  refine qw_aload_n 0 dX8_breakOf_0 rfl rfl ?_
  refine qw_getr fX8_37 dX8_breakOf_1 h8.1 rfl ?_
  refine qw_cvp [] (k_X3_latest h8.2.1 hc h9) mX8_80 dX8_breakOf_4 h8.2.1.1 rfl rfl rfl (Nat.le_of_ble_eq_true rfl) (by omega) (by decide) rfl ?_
  rw [← ha]
  refine qw_astore_n 3 dX8_breakOf_7 rfl rfl (by decide) ?_
  refine qw_aload_n 3 dX8_breakOf_8 rfl rfl ?_
  refine qw_iload_n 1 dX8_breakOf_9 rfl rfl ?_
  refine qw_csx [_, _] (k_X8_checkBreak hS (by omega)) mX8_86 dX8_breakOf_10 rfl rfl (Nat.le_of_ble_eq_true rfl) (by omega) (by decide) rfl (by omega) (by omega) (fun E z9 h9 => ⟨rfl, rfl, rfl, by rw [e0] at h9; exact Or.inl h9⟩) (fun v1 => ?_)
  rw [e0] at v1
  refine qw_iload_n 2 dX8_breakOf_13 rfl rfl ?_
  refine qw_iconst (nI 0) dX8_breakOf_14 (by decide) ?_
  refine qw_bipush (nI 6) dX8_breakOf_15 (by decide) ?_
  refine qw_csx [_, _, _] (k_X8_checkRange (by decide) (by decide)) mX8_90 dX8_breakOf_17 rfl rfl (Nat.le_of_ble_eq_true rfl) (by omega) (by decide) rfl (by omega) (by omega) (fun E z9 h9 => ⟨rfl, rfl, rfl, Or.inr ⟨h9.1, v1, h9.2⟩⟩) (fun v2 => ?_)
  obtain ⟨k, hk, rfl⟩ := v1
  obtain ⟨v, -, hv6, rfl⟩ := v2
  have hb := hR.br hk
  have hbw := hW.br hk
  refine qw_aload_n 3 dX8_breakOf_20 rfl rfl ?_
  refine qw_getr fX8_94 dX8_breakOf_21 hS.1 rfl ?_
  refine qw_iload_n 1 dX8_breakOf_24 rfl rfl ?_
  refine qw_aald dX8_breakOf_25 hS.l rfl rfl (by omega) (by omega) (hS.el (by omega)) ?_
  refine qw_astore dX8_breakOf_26 rfl (by decide) ?_
  refine qw_iload_n 2 dX8_breakOf_28 rfl rfl ?_
  rcases (show v = 0 ∨ v = 1 ∨ v = 2 ∨ v = 3 ∨ v = 4 ∨ v = 5 ∨ 6 ≤ v by omega) with rfl | rfl | rfl | rfl | rfl | rfl | hw
  · refine qw_tabIn 68 dX8_breakOf_29 (by decide) (by decide) rfl (by decide) ?_
    refine qw_aload dX8_breakOf_68 rfl ?_
    refine qw_geti fX8_98 dX8_breakOf_70 (hS.b (i := k) (by omega)).1 rfl ?_
    exact qw_ireturn rfl rfl dX8_breakOf_73 ⟨rfl, rfl, rfl, _, rfl, ⟨k, 0, hk, by decide, rfl, rfl, by rw [hb.1]; rfl⟩, ⟨c, hC⟩, q_fr.rf⟩
  · refine qw_tabIn 74 dX8_breakOf_29 (by decide) (by decide) rfl (by decide) ?_
    refine qw_aload dX8_breakOf_74 rfl ?_
    refine qw_geti fX8_103 dX8_breakOf_76 (hS.b (i := k) (by omega)).1 rfl ?_
    exact qw_ireturn rfl rfl dX8_breakOf_79 ⟨rfl, rfl, rfl, _, rfl, ⟨k, 1, hk, by decide, rfl, rfl, by rw [hb.2.1]; rfl⟩, ⟨c, hC⟩, q_fr.rf⟩
  · refine qw_tabIn 80 dX8_breakOf_29 (by decide) (by decide) rfl (by decide) ?_
    refine qw_aload dX8_breakOf_80 rfl ?_
    refine qw_geti fX8_106 dX8_breakOf_82 (hS.b (i := k) (by omega)).1 rfl ?_
    exact qw_ireturn rfl rfl dX8_breakOf_85 ⟨rfl, rfl, rfl, _, rfl, ⟨k, 2, hk, by decide, rfl, rfl, by rw [hb.2.2.1]; rfl⟩, ⟨c, hC⟩, q_fr.rf⟩
  · refine qw_tabIn 86 dX8_breakOf_29 (by decide) (by decide) rfl (by decide) ?_
    refine qw_aload dX8_breakOf_86 rfl ?_
    refine qw_geti fX8_108 dX8_breakOf_88 (hS.b (i := k) (by omega)).1 rfl ?_
    exact qw_ireturn rfl rfl dX8_breakOf_91 ⟨rfl, rfl, rfl, _, rfl, ⟨k, 3, hk, by decide, rfl, rfl, by rw [hb.2.2.2.1]; rfl⟩, ⟨c, hC⟩, q_fr.rf⟩
  · refine qw_tabIn 92 dX8_breakOf_29 (by decide) (by decide) rfl (by decide) ?_
    refine qw_aload dX8_breakOf_92 rfl ?_
    refine qw_geti fX8_111 dX8_breakOf_94 (hS.b (i := k) (by omega)).1 rfl ?_
    exact qw_ireturn rfl rfl dX8_breakOf_97 ⟨rfl, rfl, rfl, _, rfl, ⟨k, 4, hk, by decide, rfl, rfl, by rw [hb.2.2.2.2.1]; rfl⟩, ⟨c, hC⟩, q_fr.rf⟩
  · refine qw_tabIn 98 dX8_breakOf_29 (by decide) (by decide) rfl (by decide) ?_
    refine qw_aload dX8_breakOf_98 rfl ?_
    refine qw_getr fX8_114 dX8_breakOf_100 (hS.b (i := k) (by omega)).1 rfl ?_
    refine qw_geti fX8_118 dX8_breakOf_103 (hS.b (i := k) (by omega)).2.1 rfl ?_
    exact qw_ireturn rfl rfl dX8_breakOf_106 ⟨rfl, rfl, rfl, _, rfl, ⟨k, 5, hk, by decide, rfl, rfl, by rw [hb.2.2.2.2.2.1]; rfl⟩, ⟨c, hC⟩, q_fr.rf⟩
  · refine qw_tabOut 107 dX8_breakOf_29 (Or.inr (by rw [nI_toInt (by omega)]; omega)) (by decide) ?_
    refine qw_aload dX8_breakOf_107 rfl ?_
    refine qw_getr fX8_114 dX8_breakOf_109 (hS.b (i := k) (by omega)).1 rfl ?_
    refine qw_cvp [] (k_X6_secondsTogether (hS.b (i := k) (by omega)).2 (by rw [hb.2.2.2.2.2.1]; exact hbw.2.2.2.2.2.1) (by decide)) mX8_123 dX8_breakOf_112 (hS.b (i := k) (by omega)).2.1 rfl rfl rfl (Nat.le_of_ble_eq_true rfl) (by omega) (by decide) rfl ?_
    exact qw_ireturn rfl rfl dX8_breakOf_115 ⟨rfl, rfl, rfl, _, rfl, ⟨k, v, hk, hv6, rfl, rfl, by rw [if_pos (by omega), hb.us]⟩, ⟨c, hC⟩, q_fr.rf⟩
theorem k_X8_spot {b : Nat} {F : Nat → Nat → Option Nat} {fp fb : Nat → Option Nat} (h8 : sh8 S b F fp fb) {u : Nat} {H : Nat → Nat → Nat} {tk : Nat → Nat → Nat × Nat} {n : Nat → Nat} (hH : q_hi M (b + 139) u H tk n) {i p w : Int32} : LM G YX8_spot 6 3 18 [.ref b, .int i, .int p, .int w] z S M N (lq_mi z S N (fun x M1 => (∃ k q v, k < H 0 0 ∧ q < H 0 (12 + 30 * k) ∧ v ≤ 2 ∧ i = nI k ∧ p = nI q ∧ w = nI v ∧ x = nI (H 0 (13 + v + 30 * k + 3 * q))) ∧ q_hi M1 (b + 139) u H tk n ∧ q_fr (b + 139) (b + 1607) M M1)) (lq_xs S M N (fun E => (E = eIO ∧ ¬ q_ix i (H 0 0)) ∨ (E = eNS ∧ ∃ k, k < H 0 0 ∧ i = nI k ∧ ¬ q_ix p (H 0 (12 + 30 * k))) ∨ (E = eIA ∧ ∃ k, k < H 0 0 ∧ i = nI k ∧ q_ix p (H 0 (12 + 30 * k)) ∧ ¬ q_rg w 0 2))) := by
  obtain ⟨c, hC⟩ := hH
  have hC2 := hC
  obtain ⟨h9, hc, hu, hu8, hp⟩ := hC2
  have hR : q_pl M (b + 139 + 2 + 134 * c) q_id (H 0) (tk 0) (n 0) := (hp 0 (Nat.zero_le u)).1
  obtain ⟨hW, hF, hn⟩ := (hp 0 (Nat.zero_le u)).2
  have hS : sh4 S (b + 139 + 2 + 134 * c) (F c) q_id := h8.2.1.2.2.2 c h9
  have hA := h8.2.2.1
  obtain ⟨a, ha⟩ : ∃ a, a = b + 139 + 2 + 134 * c := ⟨_, rfl⟩
  rw [← ha] at hR hS
  have h20 := hW.nb
  have hs8 := hW.ns
  have h160 := hW.no
  have e0 := hR.nb
  have e1 := hR.ns
  refine LM.of (by decide) rfl [some (.ref b), some (.int i), some (.int p), some (.int w), none, none] rfl (Nat.le_of_ble_eq_true rfl) ?_
  refine qw_aload_n 0 dX8_spot_0 rfl rfl ?_
  refine qw_getr fX8_37 dX8_spot_1 h8.1 rfl ?_
  refine qw_cvp [] (k_X3_latest h8.2.1 hc h9) mX8_80 dX8_spot_4 h8.2.1.1 rfl rfl rfl (Nat.le_of_ble_eq_true rfl) (by omega) (by decide) rfl ?_
  rw [← ha]
  refine qw_astore dX8_spot_7 rfl (by decide) ?_
  refine qw_aload dX8_spot_9 rfl ?_
  refine qw_iload_n 1 dX8_spot_11 rfl rfl ?_
  refine qw_csx [_, _] (k_X8_checkBreak hS (by omega)) mX8_86 dX8_spot_12 rfl rfl (Nat.le_of_ble_eq_true rfl) (by omega) (by decide) rfl (by omega) (by omega) (fun E z9 h9 => ⟨rfl, rfl, rfl, by rw [e0] at h9; exact Or.inl h9⟩) (fun v1 => ?_)
  rw [e0] at v1
  obtain ⟨k, hk, rfl⟩ := v1
  have hb := hR.br hk
  have hbw := hW.br hk
  refine qw_aload dX8_spot_15 rfl ?_
  refine qw_getr fX8_94 dX8_spot_17 hS.1 rfl ?_
  refine qw_iload_n 1 dX8_spot_20 rfl rfl ?_
  refine qw_aald dX8_spot_21 hS.l rfl rfl (by omega) (by omega) (hS.el (by omega)) ?_
  refine qw_getr fX8_114 dX8_spot_22 (hS.b (i := k) (by omega)).1 rfl ?_
  refine qw_astore dX8_spot_25 rfl (by decide) ?_
  refine qw_aload dX8_spot_27 rfl ?_
  refine qw_iload_n 2 dX8_spot_29 rfl rfl ?_
  refine qw_csx [_, _] (k_X8_checkPlace (hS.b (i := k) (by omega)).2 (by rw [hb.2.2.2.2.2.1]; omega)) mX8_127 dX8_spot_30 rfl rfl (Nat.le_of_ble_eq_true rfl) (by omega) (by decide) rfl (by omega) (by omega) (fun E z9 h9 => ⟨rfl, rfl, rfl, by rw [hb.2.2.2.2.2.1] at h9; exact Or.inr (Or.inl ⟨h9.1, k, hk, rfl, h9.2⟩)⟩) (fun v2 => ?_)
  rw [hb.2.2.2.2.2.1] at v2
  refine qw_iload_n 3 dX8_spot_33 rfl rfl ?_
  refine qw_iconst (nI 0) dX8_spot_34 (by decide) ?_
  refine qw_iconst (nI 2) dX8_spot_35 (by decide) ?_
  refine qw_csx [_, _, _] (k_X8_checkRange (by decide) (by decide)) mX8_90 dX8_spot_36 rfl rfl (Nat.le_of_ble_eq_true rfl) (by omega) (by decide) rfl (by omega) (by omega) (fun E z9 h9 => ⟨rfl, rfl, rfl, Or.inr (Or.inr ⟨h9.1, k, hk, rfl, v2, h9.2⟩)⟩) (fun v3 => ?_)
  obtain ⟨q, hq, rfl⟩ := v2
  obtain ⟨v, -, hv2, rfl⟩ := v3
  refine qw_aload dX8_spot_39 rfl ?_
  refine qw_iload_n 2 dX8_spot_41 rfl rfl ?_
  refine qw_iload_n 3 dX8_spot_42 rfl rfl ?_
  refine qw_cvp [_, _] (k_X6_tell (hS.b (i := k) (by omega)).2 (by rw [hb.2.2.2.2.2.1]; omega) (by decide) v (by rw [hb.2.2.2.2.2.1]; exact hq) (by omega)) mX8_131 dX8_spot_43 (hS.b (i := k) (by omega)).2.1 rfl rfl rfl (Nat.le_of_ble_eq_true rfl) (by omega) (by decide) rfl ?_
  exact qw_ireturn rfl rfl dX8_spot_46 ⟨rfl, rfl, rfl, _, rfl, ⟨k, q, v, hk, hq, hv2, rfl, rfl, rfl, by
    rcases (show v = 0 ∨ v = 1 ∨ v = 2 by omega) with e | e | e
    · subst e; exact congrArg nI (hb.2.2.2.2.2.2 q hq).1
    · subst e; exact congrArg nI (hb.2.2.2.2.2.2 q hq).2.1
    · subst e; exact congrArg nI (hb.2.2.2.2.2.2 q hq).2.2⟩, ⟨c, hC⟩, q_fr.rf⟩
theorem k_X8_isBanned {b : Nat} {F : Nat → Nat → Option Nat} {fp fb : Nat → Option Nat} (h8 : sh8 S b F fp fb) {u : Nat} {H : Nat → Nat → Nat} {tk : Nat → Nat → Nat × Nat} {n : Nat → Nat} (hH : q_hi M (b + 139) u H tk n) {i w : Int32} : LM G YX8_isBanned 6 2 12 [.ref b, .int i, .int w] z S M N (lq_mi z S N (fun x M1 => (∃ k v, k ≤ 9 ∧ v ≤ 9 ∧ i = nI k ∧ w = nI v ∧ x = nI (H 0 (623 + 10 * k + v))) ∧ q_hi M1 (b + 139) u H tk n ∧ q_fr (b + 139) (b + 1607) M M1)) (lq_xs S M N (fun E => E = eIA ∧ ¬ (q_rg i 0 9 ∧ q_rg w 0 9))) := by
  obtain ⟨c, hC⟩ := hH
  have hC2 := hC
  obtain ⟨h9, hc, hu, hu8, hp⟩ := hC2
  have hR : q_pl M (b + 139 + 2 + 134 * c) q_id (H 0) (tk 0) (n 0) := (hp 0 (Nat.zero_le u)).1
  obtain ⟨hW, hF, hn⟩ := (hp 0 (Nat.zero_le u)).2
  have hS : sh4 S (b + 139 + 2 + 134 * c) (F c) q_id := h8.2.1.2.2.2 c h9
  have hA := h8.2.2.1
  obtain ⟨a, ha⟩ : ∃ a, a = b + 139 + 2 + 134 * c := ⟨_, rfl⟩
  rw [← ha] at hR hS
  have h20 := hW.nb
  have hs8 := hW.ns
  have h160 := hW.no
  have e0 := hR.nb
  have e1 := hR.ns
  refine LM.of (by decide) rfl [some (.ref b), some (.int i), some (.int w)] rfl (Nat.le_of_ble_eq_true rfl) ?_
  refine qw_iload_n 1 dX8_isBanned_0 rfl rfl ?_
  refine qw_iconst (nI 0) dX8_isBanned_1 (by decide) ?_
  refine qw_bipush (nI 9) dX8_isBanned_2 (by decide) ?_
  refine qw_csx [_, _, _] (k_X8_checkRange (by decide) (by decide)) mX8_90 dX8_isBanned_4 rfl rfl (Nat.le_of_ble_eq_true rfl) (by omega) (by decide) rfl (by omega) (by omega) (fun E z9 h9 => ⟨rfl, rfl, rfl, h9.1, fun q => h9.2 q.1⟩) (fun v1 => ?_)
  refine qw_iload_n 2 dX8_isBanned_7 rfl rfl ?_
  refine qw_iconst (nI 0) dX8_isBanned_8 (by decide) ?_
  refine qw_bipush (nI 9) dX8_isBanned_9 (by decide) ?_
  refine qw_csx [_, _, _] (k_X8_checkRange (by decide) (by decide)) mX8_90 dX8_isBanned_11 rfl rfl (Nat.le_of_ble_eq_true rfl) (by omega) (by decide) rfl (by omega) (by omega) (fun E z9 h9 => ⟨rfl, rfl, rfl, h9.1, fun q => h9.2 q.2⟩) (fun v2 => ?_)
  obtain ⟨k, -, hk, rfl⟩ := v1
  obtain ⟨v, -, hv, rfl⟩ := v2
  refine qw_aload_n 0 dX8_isBanned_14 rfl rfl ?_
  refine qw_getr fX8_37 dX8_isBanned_15 h8.1 rfl ?_
  refine qw_cvp [] (k_X3_latest h8.2.1 hc h9) mX8_80 dX8_isBanned_18 h8.2.1.1 rfl rfl rfl (Nat.le_of_ble_eq_true rfl) (by omega) (by decide) rfl ?_
  rw [← ha]
  refine qw_iload_n 1 dX8_isBanned_21 rfl rfl ?_
  refine qw_iload_n 2 dX8_isBanned_22 rfl rfl ?_
  refine qw_cvp [_, _] (k_X4_hasBan hS hR (by omega) (by omega)) mX8_158 dX8_isBanned_23 hS.1 rfl rfl rfl (Nat.le_of_ble_eq_true rfl) (by omega) (by decide) rfl ?_
  exact qw_ireturn rfl (q_z01 (hW.ban (by omega) (by omega)).1) dX8_isBanned_26 ⟨rfl, rfl, rfl, _, rfl, ⟨k, v, hk, hv, rfl, rfl, rfl⟩, ⟨c, hC⟩, q_fr.rf⟩
theorem k_X8_spotsOn {b : Nat} {F : Nat → Nat → Option Nat} {fp fb : Nat → Option Nat} (h8 : sh8 S b F fp fb) {u : Nat} {H : Nat → Nat → Nat} {tk : Nat → Nat → Nat × Nat} {n : Nat → Nat} (hH : q_hi M (b + 139) u H tk n) {s w : Int32} : LM G YX8_spotsOn 6 2 12 [.ref b, .int s, .int w] z S M N (lq_mi z S N (fun x M1 => (∃ k v, k < H 0 1 ∧ v ≤ 6 ∧ s = nI k ∧ w = nI v ∧ x = nI (g_sd (H 0) k v)) ∧ q_hi M1 (b + 139) u H tk n ∧ q_fr (b + 139) (b + 1607) M M1)) (lq_xs S M N (fun E => (E = eIO ∧ ¬ q_ix s (H 0 1)) ∨ (E = eIA ∧ q_ix s (H 0 1) ∧ ¬ q_rg w 0 6))) := by
  obtain ⟨c, hC⟩ := hH
  have hC2 := hC
  obtain ⟨h9, hc, hu, hu8, hp⟩ := hC2
  have hR : q_pl M (b + 139 + 2 + 134 * c) q_id (H 0) (tk 0) (n 0) := (hp 0 (Nat.zero_le u)).1
  obtain ⟨hW, hF, hn⟩ := (hp 0 (Nat.zero_le u)).2
  have hS : sh4 S (b + 139 + 2 + 134 * c) (F c) q_id := h8.2.1.2.2.2 c h9
  have hA := h8.2.2.1
  obtain ⟨a, ha⟩ : ∃ a, a = b + 139 + 2 + 134 * c := ⟨_, rfl⟩
  rw [← ha] at hR hS
  have h20 := hW.nb
  have hs8 := hW.ns
  have h160 := hW.no
  have e0 := hR.nb
  have e1 := hR.ns
  refine LM.of (by decide) rfl [some (.ref b), some (.int s), some (.int w), none] rfl (Nat.le_of_ble_eq_true rfl) ?_
  refine qw_aload_n 0 dX8_spotsOn_0 rfl rfl ?_
  refine qw_getr fX8_37 dX8_spotsOn_1 h8.1 rfl ?_
  refine qw_cvp [] (k_X3_latest h8.2.1 hc h9) mX8_80 dX8_spotsOn_4 h8.2.1.1 rfl rfl rfl (Nat.le_of_ble_eq_true rfl) (by omega) (by decide) rfl ?_
  rw [← ha]
  refine qw_astore_n 3 dX8_spotsOn_7 rfl rfl (by decide) ?_
  refine qw_aload_n 3 dX8_spotsOn_8 rfl rfl ?_
  refine qw_iload_n 1 dX8_spotsOn_9 rfl rfl ?_
  refine qw_csx [_, _] (k_X8_checkSponsor hS (by omega)) mX8_135 dX8_spotsOn_10 rfl rfl (Nat.le_of_ble_eq_true rfl) (by omega) (by decide) rfl (by omega) (by omega) (fun E z9 h9 => ⟨rfl, rfl, rfl, by rw [e1] at h9; exact Or.inl h9⟩) (fun v1 => ?_)
  rw [e1] at v1
  refine qw_iload_n 2 dX8_spotsOn_13 rfl rfl ?_
  refine qw_iconst (nI 0) dX8_spotsOn_14 (by decide) ?_
  refine qw_bipush (nI 6) dX8_spotsOn_15 (by decide) ?_
  refine qw_csx [_, _, _] (k_X8_checkRange (by decide) (by decide)) mX8_90 dX8_spotsOn_17 rfl rfl (Nat.le_of_ble_eq_true rfl) (by omega) (by decide) rfl (by omega) (by omega) (fun E z9 h9 => ⟨rfl, rfl, rfl, Or.inr ⟨h9.1, v1, h9.2⟩⟩) (fun v2 => ?_)
  obtain ⟨k, hk, rfl⟩ := v1
  obtain ⟨v, hv1, hv2, rfl⟩ := v2
  refine qw_aload_n 3 dX8_spotsOn_20 rfl rfl ?_
  refine qw_iload_n 1 dX8_spotsOn_21 rfl rfl ?_
  refine qw_iload_n 2 dX8_spotsOn_22 rfl rfl ?_
  refine qw_cvp [_, _] (k_X4_spotsOfDay hS hR hW (by omega) (by omega)) mX8_162 dX8_spotsOn_23 hS.1 rfl rfl rfl (Nat.le_of_ble_eq_true rfl) (by omega) (by decide) rfl ?_
  exact qw_ireturn rfl rfl dX8_spotsOn_26 ⟨rfl, rfl, rfl, _, rfl, ⟨k, v, hk, hv2, rfl, rfl, rfl⟩, ⟨c, hC⟩, q_fr.rf⟩
theorem k_X8_cheapest {b : Nat} {F : Nat → Nat → Option Nat} {fp fb : Nat → Option Nat} (h8 : sh8 S b F fp fb) {u : Nat} {H : Nat → Nat → Nat} {tk : Nat → Nat → Nat × Nat} {n : Nat → Nat} (hH : q_hi M (b + 139) u H tk n) {s w : Int32} : LM G YX8_cheapest 6 2 12 [.ref b, .int s, .int w] z S M N (lq_mi z S N (fun x M1 => (∃ k v, k < H 0 1 ∧ 5 ≤ v ∧ v ≤ 60 ∧ s = nI k ∧ w = nI v ∧ x = q_m1 (g_chp (H 0) (tk 0) (n 0) k v (H 0 0)).1) ∧ q_hi M1 (b + 139) u H tk n ∧ q_fr (b + 139) (b + 1607) M M1)) (lq_xs S M N (fun E => (E = eIO ∧ ¬ q_ix s (H 0 1)) ∨ (E = eIA ∧ q_ix s (H 0 1) ∧ ¬ q_rg w 5 60))) := by
  obtain ⟨c, hC⟩ := hH
  have hC2 := hC
  obtain ⟨h9, hc, hu, hu8, hp⟩ := hC2
  have hR : q_pl M (b + 139 + 2 + 134 * c) q_id (H 0) (tk 0) (n 0) := (hp 0 (Nat.zero_le u)).1
  obtain ⟨hW, hF, hn⟩ := (hp 0 (Nat.zero_le u)).2
  have hS : sh4 S (b + 139 + 2 + 134 * c) (F c) q_id := h8.2.1.2.2.2 c h9
  have hA := h8.2.2.1
  obtain ⟨a, ha⟩ : ∃ a, a = b + 139 + 2 + 134 * c := ⟨_, rfl⟩
  rw [← ha] at hR hS
  have h20 := hW.nb
  have hs8 := hW.ns
  have h160 := hW.no
  have e0 := hR.nb
  have e1 := hR.ns
  refine LM.of (by decide) rfl [some (.ref b), some (.int s), some (.int w), none] rfl (Nat.le_of_ble_eq_true rfl) ?_
  refine qw_aload_n 0 dX8_cheapest_0 rfl rfl ?_
  refine qw_getr fX8_37 dX8_cheapest_1 h8.1 rfl ?_
  refine qw_cvp [] (k_X3_latest h8.2.1 hc h9) mX8_80 dX8_cheapest_4 h8.2.1.1 rfl rfl rfl (Nat.le_of_ble_eq_true rfl) (by omega) (by decide) rfl ?_
  rw [← ha]
  refine qw_astore_n 3 dX8_cheapest_7 rfl rfl (by decide) ?_
  refine qw_aload_n 3 dX8_cheapest_8 rfl rfl ?_
  refine qw_iload_n 1 dX8_cheapest_9 rfl rfl ?_
  refine qw_csx [_, _] (k_X8_checkSponsor hS (by omega)) mX8_135 dX8_cheapest_10 rfl rfl (Nat.le_of_ble_eq_true rfl) (by omega) (by decide) rfl (by omega) (by omega) (fun E z9 h9 => ⟨rfl, rfl, rfl, by rw [e1] at h9; exact Or.inl h9⟩) (fun v1 => ?_)
  rw [e1] at v1
  refine qw_iload_n 2 dX8_cheapest_13 rfl rfl ?_
  refine qw_iconst (nI 5) dX8_cheapest_14 (by decide) ?_
  refine qw_bipush (nI 60) dX8_cheapest_15 (by decide) ?_
  refine qw_csx [_, _, _] (k_X8_checkRange (by decide) (by decide)) mX8_90 dX8_cheapest_17 rfl rfl (Nat.le_of_ble_eq_true rfl) (by omega) (by decide) rfl (by omega) (by omega) (fun E z9 h9 => ⟨rfl, rfl, rfl, Or.inr ⟨h9.1, v1, h9.2⟩⟩) (fun v2 => ?_)
  obtain ⟨k, hk, rfl⟩ := v1
  obtain ⟨v, hv1, hv2, rfl⟩ := v2
  refine qw_aload_n 3 dX8_cheapest_20 rfl rfl ?_
  refine qw_iload_n 1 dX8_cheapest_21 rfl rfl ?_
  refine qw_iload_n 2 dX8_cheapest_22 rfl rfl ?_
  refine qw_cvi [_, _] (k_X4_cheapestBreak hS hR hW (hF.resolve_right (fun q => by omega)) hn hk (by omega)) mX8_176 dX8_cheapest_23 hS.1 rfl rfl rfl (Nat.le_of_ble_eq_true rfl) (by omega) (by decide) rfl (fun x1 M1 h1 => ?_)
  obtain ⟨hx1, hm1⟩ := h1
  subst hx1
  exact qw_ireturn rfl rfl dX8_cheapest_26 ⟨rfl, rfl, rfl, _, rfl, ⟨k, v, hk, hv1, hv2, rfl, rfl, rfl⟩, ⟨c, hC.fq (by rw [← ha]; exact hm1)⟩, fun x hx => hm1 x (by omega) (by omega)⟩
theorem k_X8_widest {b : Nat} {F : Nat → Nat → Option Nat} {fp fb : Nat → Option Nat} (h8 : sh8 S b F fp fb) {u : Nat} {H : Nat → Nat → Nat} {tk : Nat → Nat → Nat × Nat} {n : Nat → Nat} (hH : q_hi M (b + 139) u H tk n) {s w : Int32} : LM G YX8_widest 6 2 12 [.ref b, .int s, .int w] z S M N (lq_mi z S N (fun x M1 => (∃ k v, k < H 0 1 ∧ 5 ≤ v ∧ v ≤ 60 ∧ s = nI k ∧ w = nI v ∧ x = q_m1 (g_wip (H 0) k v (H 0 0))) ∧ q_hi M1 (b + 139) u H tk n ∧ q_fr (b + 139) (b + 1607) M M1)) (lq_xs S M N (fun E => (E = eIO ∧ ¬ q_ix s (H 0 1)) ∨ (E = eIA ∧ q_ix s (H 0 1) ∧ ¬ q_rg w 5 60))) := by
  obtain ⟨c, hC⟩ := hH
  have hC2 := hC
  obtain ⟨h9, hc, hu, hu8, hp⟩ := hC2
  have hR : q_pl M (b + 139 + 2 + 134 * c) q_id (H 0) (tk 0) (n 0) := (hp 0 (Nat.zero_le u)).1
  obtain ⟨hW, hF, hn⟩ := (hp 0 (Nat.zero_le u)).2
  have hS : sh4 S (b + 139 + 2 + 134 * c) (F c) q_id := h8.2.1.2.2.2 c h9
  have hA := h8.2.2.1
  obtain ⟨a, ha⟩ : ∃ a, a = b + 139 + 2 + 134 * c := ⟨_, rfl⟩
  rw [← ha] at hR hS
  have h20 := hW.nb
  have hs8 := hW.ns
  have h160 := hW.no
  have e0 := hR.nb
  have e1 := hR.ns
  refine LM.of (by decide) rfl [some (.ref b), some (.int s), some (.int w), none] rfl (Nat.le_of_ble_eq_true rfl) ?_
  refine qw_aload_n 0 dX8_widest_0 rfl rfl ?_
  refine qw_getr fX8_37 dX8_widest_1 h8.1 rfl ?_
  refine qw_cvp [] (k_X3_latest h8.2.1 hc h9) mX8_80 dX8_widest_4 h8.2.1.1 rfl rfl rfl (Nat.le_of_ble_eq_true rfl) (by omega) (by decide) rfl ?_
  rw [← ha]
  refine qw_astore_n 3 dX8_widest_7 rfl rfl (by decide) ?_
  refine qw_aload_n 3 dX8_widest_8 rfl rfl ?_
  refine qw_iload_n 1 dX8_widest_9 rfl rfl ?_
  refine qw_csx [_, _] (k_X8_checkSponsor hS (by omega)) mX8_135 dX8_widest_10 rfl rfl (Nat.le_of_ble_eq_true rfl) (by omega) (by decide) rfl (by omega) (by omega) (fun E z9 h9 => ⟨rfl, rfl, rfl, by rw [e1] at h9; exact Or.inl h9⟩) (fun v1 => ?_)
  rw [e1] at v1
  refine qw_iload_n 2 dX8_widest_13 rfl rfl ?_
  refine qw_iconst (nI 5) dX8_widest_14 (by decide) ?_
  refine qw_bipush (nI 60) dX8_widest_15 (by decide) ?_
  refine qw_csx [_, _, _] (k_X8_checkRange (by decide) (by decide)) mX8_90 dX8_widest_17 rfl rfl (Nat.le_of_ble_eq_true rfl) (by omega) (by decide) rfl (by omega) (by omega) (fun E z9 h9 => ⟨rfl, rfl, rfl, Or.inr ⟨h9.1, v1, h9.2⟩⟩) (fun v2 => ?_)
  obtain ⟨k, hk, rfl⟩ := v1
  obtain ⟨v, hv1, hv2, rfl⟩ := v2
  refine qw_aload_n 3 dX8_widest_20 rfl rfl ?_
  refine qw_iload_n 1 dX8_widest_21 rfl rfl ?_
  refine qw_iload_n 2 dX8_widest_22 rfl rfl ?_
  refine qw_cvp [_, _] (k_X4_widestBreak hS hR hW hk (by omega)) mX8_179 dX8_widest_23 hS.1 rfl rfl rfl (Nat.le_of_ble_eq_true rfl) (by omega) (by decide) rfl ?_
  exact qw_ireturn rfl rfl dX8_widest_26 ⟨rfl, rfl, rfl, _, rfl, ⟨k, v, hk, hv1, hv2, rfl, rfl, rfl⟩, ⟨c, hC⟩, q_fr.rf⟩
def g_owc (g : Nat → Nat) (s : Nat) : Nat := q_cnt (fun k => g (723 + 4 * k)) s (g 5)
def g_spo (g : Nat → Nat) (s v : Nat) : Nat := if v = 0 then g (607 + 2 * s) else if v = 1 then g (608 + 2 * s) else if v = 2 then g_sa g s else if v = 3 then g_s1 g s else g_owc g s
theorem k_X8_sponsor {b : Nat} {F : Nat → Nat → Option Nat} {fp fb : Nat → Option Nat} (h8 : sh8 S b F fp fb) {u : Nat} {H : Nat → Nat → Nat} {tk : Nat → Nat → Nat × Nat} {n : Nat → Nat} (hH : q_hi M (b + 139) u H tk n) {s w : Int32} : LM G YX8_sponsor 6 2 12 [.ref b, .int s, .int w] z S M N (lq_mi z S N (fun x M1 => (∃ k v, k < H 0 1 ∧ v ≤ 4 ∧ s = nI k ∧ w = nI v ∧ x = nI (g_spo (H 0) k v)) ∧ q_hi M1 (b + 139) u H tk n ∧ q_fr (b + 139) (b + 1607) M M1)) (lq_xs S M N (fun E => (E = eIO ∧ ¬ q_ix s (H 0 1)) ∨ (E = eIA ∧ q_ix s (H 0 1) ∧ ¬ q_rg w 0 4))) := by
  obtain ⟨c, hC⟩ := hH
  have hC2 := hC
  obtain ⟨h9, hc, hu, hu8, hp⟩ := hC2
  have hR : q_pl M (b + 139 + 2 + 134 * c) q_id (H 0) (tk 0) (n 0) := (hp 0 (Nat.zero_le u)).1
  obtain ⟨hW, hF, hn⟩ := (hp 0 (Nat.zero_le u)).2
  have hS : sh4 S (b + 139 + 2 + 134 * c) (F c) q_id := h8.2.1.2.2.2 c h9
  have hA := h8.2.2.1
  obtain ⟨a, ha⟩ : ∃ a, a = b + 139 + 2 + 134 * c := ⟨_, rfl⟩
  rw [← ha] at hR hS
  have h20 := hW.nb
  have hs8 := hW.ns
  have h160 := hW.no
  have e0 := hR.nb
  have e1 := hR.ns
  refine LM.of (by decide) rfl [some (.ref b), some (.int s), some (.int w), none] rfl (Nat.le_of_ble_eq_true rfl) ?_
  refine qw_aload_n 0 dX8_sponsor_0 rfl rfl ?_
  refine qw_getr fX8_37 dX8_sponsor_1 h8.1 rfl ?_
  refine qw_cvp [] (k_X3_latest h8.2.1 hc h9) mX8_80 dX8_sponsor_4 h8.2.1.1 rfl rfl rfl (Nat.le_of_ble_eq_true rfl) (by omega) (by decide) rfl ?_
  rw [← ha]
  refine qw_astore_n 3 dX8_sponsor_7 rfl rfl (by decide) ?_
  refine qw_aload_n 3 dX8_sponsor_8 rfl rfl ?_
  refine qw_iload_n 1 dX8_sponsor_9 rfl rfl ?_
  refine qw_csx [_, _] (k_X8_checkSponsor hS (by omega)) mX8_135 dX8_sponsor_10 rfl rfl (Nat.le_of_ble_eq_true rfl) (by omega) (by decide) rfl (by omega) (by omega) (fun E z9 h9 => ⟨rfl, rfl, rfl, by rw [e1] at h9; exact Or.inl h9⟩) (fun v1 => ?_)
  rw [e1] at v1
  refine qw_iload_n 2 dX8_sponsor_13 rfl rfl ?_
  refine qw_iconst (nI 0) dX8_sponsor_14 (by decide) ?_
  refine qw_iconst (nI 4) dX8_sponsor_15 (by decide) ?_
  refine qw_csx [_, _, _] (k_X8_checkRange (by decide) (by decide)) mX8_90 dX8_sponsor_16 rfl rfl (Nat.le_of_ble_eq_true rfl) (by omega) (by decide) rfl (by omega) (by omega) (fun E z9 h9 => ⟨rfl, rfl, rfl, Or.inr ⟨h9.1, v1, h9.2⟩⟩) (fun v2 => ?_)
  obtain ⟨k, hk, rfl⟩ := v1
  obtain ⟨v, hv1, hv2, rfl⟩ := v2
  refine qw_iload_n 2 dX8_sponsor_19 rfl rfl ?_
  rcases (show v = 0 ∨ v = 1 ∨ v = 2 ∨ v = 3 ∨ 4 ≤ v by omega) with rfl | rfl | rfl | rfl | hw
  · refine qw_tabIn 52 dX8_sponsor_20 (by decide) (by decide) rfl (by decide) ?_
    refine qw_aload_n 3 dX8_sponsor_52 rfl rfl ?_
    refine qw_getr fX8_138 dX8_sponsor_53 hS.1 rfl ?_
    refine qw_iload_n 1 dX8_sponsor_56 rfl rfl ?_
    refine qw_iald dX8_sponsor_57 hS.cat (by omega) (by omega) ?_
    exact qw_ireturn rfl rfl dX8_sponsor_58 ⟨rfl, rfl, rfl, _, rfl, ⟨k, 0, hk, by omega, rfl, rfl, by rw [(hR.cat hk).1]; rfl⟩, ⟨c, hC⟩, q_fr.rf⟩
  · refine qw_tabIn 59 dX8_sponsor_20 (by decide) (by decide) rfl (by decide) ?_
    refine qw_aload_n 3 dX8_sponsor_59 rfl rfl ?_
    refine qw_getr fX8_142 dX8_sponsor_60 hS.1 rfl ?_
    refine qw_iload_n 1 dX8_sponsor_63 rfl rfl ?_
    refine qw_iald dX8_sponsor_64 hS.cap (by omega) (by omega) ?_
    exact qw_ireturn rfl rfl dX8_sponsor_65 ⟨rfl, rfl, rfl, _, rfl, ⟨k, 1, hk, by omega, rfl, rfl, by rw [(hR.cat hk).2]; rfl⟩, ⟨c, hC⟩, q_fr.rf⟩
  · refine qw_tabIn 66 dX8_sponsor_20 (by decide) (by decide) rfl (by decide) ?_
    refine qw_aload_n 3 dX8_sponsor_66 rfl rfl ?_
    refine qw_iload_n 1 dX8_sponsor_67 rfl rfl ?_
    refine qw_cvp [_] (k_X4_spotsOf hS hR hW (by omega)) mX8_145 dX8_sponsor_68 hS.1 rfl rfl rfl (Nat.le_of_ble_eq_true rfl) (by omega) (by decide) rfl ?_
    exact qw_ireturn rfl rfl dX8_sponsor_71 ⟨rfl, rfl, rfl, _, rfl, ⟨k, 2, hk, by omega, rfl, rfl, rfl⟩, ⟨c, hC⟩, q_fr.rf⟩
  · refine qw_tabIn 72 dX8_sponsor_20 (by decide) (by decide) rfl (by decide) ?_
    refine qw_aload_n 3 dX8_sponsor_72 rfl rfl ?_
    refine qw_iload_n 1 dX8_sponsor_73 rfl rfl ?_
    refine qw_cvp [_] (k_X4_airedSpotsOf hS hR hW (by omega)) mX8_149 dX8_sponsor_74 hS.1 rfl rfl rfl (Nat.le_of_ble_eq_true rfl) (by omega) (by decide) rfl ?_
    exact qw_ireturn rfl rfl dX8_sponsor_77 ⟨rfl, rfl, rfl, _, rfl, ⟨k, 3, hk, by omega, rfl, rfl, rfl⟩, ⟨c, hC⟩, q_fr.rf⟩
  · refine qw_tabOut 78 dX8_sponsor_20 (Or.inr (by rw [nI_toInt (by omega)]; omega)) (by decide) ?_
    refine qw_aload_n 3 dX8_sponsor_78 rfl rfl ?_
    refine qw_getr fX8_152 dX8_sponsor_79 hS.1 rfl ?_
    refine qw_iload_n 1 dX8_sponsor_82 rfl rfl ?_
    refine qw_cvp [_] (k_X6_countOf hS.ow (by rw [hR.ow.1]; exact h160) (by decide) (by omega) (fun j hj => by rw [hR.ow.1] at hj; rw [(hR.ow.2 j hj).1]; have := (hW.ow hj).1; omega)) mX8_155 dX8_sponsor_83 hS.ow.1 rfl rfl rfl (Nat.le_of_ble_eq_true rfl) (by omega) (by decide) rfl ?_
    exact qw_ireturn rfl rfl dX8_sponsor_86 ⟨rfl, rfl, rfl, _, rfl, ⟨k, v, hk, by omega, rfl, rfl, by rw [g_spo, if_neg (by omega), if_neg (by omega), if_neg (by omega), if_neg (by omega), hR.ow.1]; exact congrArg nI (q_cnt_cong _ _ (fun j hj => (hR.ow.2 j hj).1))⟩, ⟨c, hC⟩, q_fr.rf⟩
theorem k_X8_reason {b : Nat} {F : Nat → Nat → Option Nat} {fp fb : Nat → Option Nat} (h8 : sh8 S b F fp fb) {u : Nat} {H : Nat → Nat → Nat} {tk : Nat → Nat → Nat × Nat} {n : Nat → Nat} (hH : q_hi M (b + 139) u H tk n) {s l i : Int32} : LM G YX8_reason 6 3 18 [.ref b, .int s, .int l, .int i] z S M N (lq_mi z S N (fun x M1 => (∃ ks kl ki, ks < H 0 1 ∧ 5 ≤ kl ∧ kl ≤ 60 ∧ ki < H 0 0 ∧ s = nI ks ∧ l = nI kl ∧ i = nI ki ∧ x = nI (g_rs (H 0) ks kl ki)) ∧ q_hi M1 (b + 139) u H tk n ∧ q_fr (b + 139) (b + 1607) M M1)) (lq_xs S M N (fun E => (E = eIO ∧ ¬ (q_ix s (H 0 1) ∧ q_ix i (H 0 0))) ∨ (E = eIA ∧ q_ix s (H 0 1) ∧ q_ix i (H 0 0) ∧ ¬ q_rg l 5 60))) := by
  obtain ⟨c, hC⟩ := hH
  have hC2 := hC
  obtain ⟨h9, hc, hu, hu8, hp⟩ := hC2
  have hR : q_pl M (b + 139 + 2 + 134 * c) q_id (H 0) (tk 0) (n 0) := (hp 0 (Nat.zero_le u)).1
  obtain ⟨hW, hF, hn⟩ := (hp 0 (Nat.zero_le u)).2
  have hS : sh4 S (b + 139 + 2 + 134 * c) (F c) q_id := h8.2.1.2.2.2 c h9
  have hA := h8.2.2.1
  obtain ⟨a, ha⟩ : ∃ a, a = b + 139 + 2 + 134 * c := ⟨_, rfl⟩
  rw [← ha] at hR hS
  have h20 := hW.nb
  have hs8 := hW.ns
  have h160 := hW.no
  have e0 := hR.nb
  have e1 := hR.ns
  refine LM.of (by decide) rfl [some (.ref b), some (.int s), some (.int l), some (.int i), none] rfl (Nat.le_of_ble_eq_true rfl) ?_
  refine qw_aload_n 0 dX8_reason_0 rfl rfl ?_
  refine qw_getr fX8_37 dX8_reason_1 h8.1 rfl ?_
  refine qw_cvp [] (k_X3_latest h8.2.1 hc h9) mX8_80 dX8_reason_4 h8.2.1.1 rfl rfl rfl (Nat.le_of_ble_eq_true rfl) (by omega) (by decide) rfl ?_
  rw [← ha]
  refine qw_astore dX8_reason_7 rfl (by decide) ?_
  refine qw_aload dX8_reason_9 rfl ?_
  refine qw_iload_n 1 dX8_reason_11 rfl rfl ?_
  refine qw_iload_n 2 dX8_reason_12 rfl rfl ?_
  refine qw_iload_n 3 dX8_reason_13 rfl rfl ?_
  refine qw_csx [_, _, _, _] (k_X8_checkSpotIn hS (by omega) (by omega)) mX8_165 dX8_reason_14 rfl rfl (Nat.le_of_ble_eq_true rfl) (by omega) (by decide) rfl (by omega) (by omega) (fun E z9 h9 => ⟨rfl, rfl, rfl, by unfold q_sinX at h9; rw [e0, e1] at h9; exact h9⟩) (fun v1 => ?_)
  unfold q_sin at v1
  rw [e0, e1] at v1
  obtain ⟨⟨ks, hs, rfl⟩, ⟨ki, hi, rfl⟩, ⟨kl, hl1, hl2, rfl⟩⟩ := v1
  refine qw_aload dX8_reason_17 rfl ?_
  refine qw_iload_n 1 dX8_reason_19 rfl rfl ?_
  refine qw_iload_n 2 dX8_reason_20 rfl rfl ?_
  refine qw_iload_n 3 dX8_reason_21 rfl rfl ?_
  refine qw_cvp [_, _, _] (k_X4_refusal hS hR hW hs hl2 hi) mX8_169 dX8_reason_22 hS.1 rfl rfl rfl (Nat.le_of_ble_eq_true rfl) (by omega) (by decide) rfl ?_
  exact qw_ireturn rfl rfl dX8_reason_25 ⟨rfl, rfl, rfl, _, rfl, ⟨ks, kl, ki, hs, hl1, hl2, hi, rfl, rfl, rfl, rfl⟩, ⟨c, hC⟩, q_fr.rf⟩
theorem k_X8_price {b : Nat} {F : Nat → Nat → Option Nat} {fp fb : Nat → Option Nat} (h8 : sh8 S b F fp fb) {u : Nat} {H : Nat → Nat → Nat} {tk : Nat → Nat → Nat × Nat} {n : Nat → Nat} (hH : q_hi M (b + 139) u H tk n) {s l i : Int32} : LM G YX8_price 6 3 18 [.ref b, .int s, .int l, .int i] z S M N (lq_mi z S N (fun x M1 => (∃ ks kl ki, ks < H 0 1 ∧ 5 ≤ kl ∧ kl ≤ 60 ∧ ki < H 0 0 ∧ s = nI ks ∧ l = nI kl ∧ i = nI ki ∧ x = nI (g_pc (H 0) (tk 0) (n 0) ks kl ki)) ∧ q_hi M1 (b + 139) u H tk n ∧ q_fr (b + 139) (b + 1607) M M1)) (lq_xs S M N (fun E => (E = eIO ∧ ¬ (q_ix s (H 0 1) ∧ q_ix i (H 0 0))) ∨ (E = eIA ∧ q_ix s (H 0 1) ∧ q_ix i (H 0 0) ∧ ¬ q_rg l 5 60))) := by
  obtain ⟨c, hC⟩ := hH
  have hC2 := hC
  obtain ⟨h9, hc, hu, hu8, hp⟩ := hC2
  have hR : q_pl M (b + 139 + 2 + 134 * c) q_id (H 0) (tk 0) (n 0) := (hp 0 (Nat.zero_le u)).1
  obtain ⟨hW, hF, hn⟩ := (hp 0 (Nat.zero_le u)).2
  have hS : sh4 S (b + 139 + 2 + 134 * c) (F c) q_id := h8.2.1.2.2.2 c h9
  have hA := h8.2.2.1
  obtain ⟨a, ha⟩ : ∃ a, a = b + 139 + 2 + 134 * c := ⟨_, rfl⟩
  rw [← ha] at hR hS
  have h20 := hW.nb
  have hs8 := hW.ns
  have h160 := hW.no
  have e0 := hR.nb
  have e1 := hR.ns
  refine LM.of (by decide) rfl [some (.ref b), some (.int s), some (.int l), some (.int i), none] rfl (Nat.le_of_ble_eq_true rfl) ?_
  refine qw_aload_n 0 dX8_price_0 rfl rfl ?_
  refine qw_getr fX8_37 dX8_price_1 h8.1 rfl ?_
  refine qw_cvp [] (k_X3_latest h8.2.1 hc h9) mX8_80 dX8_price_4 h8.2.1.1 rfl rfl rfl (Nat.le_of_ble_eq_true rfl) (by omega) (by decide) rfl ?_
  rw [← ha]
  refine qw_astore dX8_price_7 rfl (by decide) ?_
  refine qw_aload dX8_price_9 rfl ?_
  refine qw_iload_n 1 dX8_price_11 rfl rfl ?_
  refine qw_iload_n 2 dX8_price_12 rfl rfl ?_
  refine qw_iload_n 3 dX8_price_13 rfl rfl ?_
  refine qw_csx [_, _, _, _] (k_X8_checkSpotIn hS (by omega) (by omega)) mX8_165 dX8_price_14 rfl rfl (Nat.le_of_ble_eq_true rfl) (by omega) (by decide) rfl (by omega) (by omega) (fun E z9 h9 => ⟨rfl, rfl, rfl, by unfold q_sinX at h9; rw [e0, e1] at h9; exact h9⟩) (fun v1 => ?_)
  unfold q_sin at v1
  rw [e0, e1] at v1
  obtain ⟨⟨ks, hs, rfl⟩, ⟨ki, hi, rfl⟩, ⟨kl, hl1, hl2, rfl⟩⟩ := v1
  refine qw_aload dX8_price_17 rfl ?_
  refine qw_iload_n 1 dX8_price_19 rfl rfl ?_
  refine qw_iload_n 2 dX8_price_20 rfl rfl ?_
  refine qw_iload_n 3 dX8_price_21 rfl rfl ?_
  refine qw_cvi [_, _, _] (k_X4_priceOf hS hR hW (hF.resolve_right (fun q => by omega)) hn hs hl2 hi) mX8_173 dX8_price_22 hS.1 rfl rfl rfl (Nat.le_of_ble_eq_true rfl) (by omega) (by decide) rfl (fun x1 M1 h1 => ?_)
  obtain ⟨hx1, hm1⟩ := h1
  subst hx1
  exact qw_ireturn rfl rfl dX8_price_25 ⟨rfl, rfl, rfl, _, rfl, ⟨ks, kl, ki, hs, hl1, hl2, hi, rfl, rfl, rfl, rfl⟩, ⟨c, hC.fq (by rw [← ha]; exact hm1)⟩, fun x hx => hm1 x (by omega) (by omega)⟩
theorem k_X8_owedSpot {b : Nat} {F : Nat → Nat → Option Nat} {fp fb : Nat → Option Nat} (h8 : sh8 S b F fp fb) {u : Nat} {H : Nat → Nat → Nat} {tk : Nat → Nat → Nat × Nat} {n : Nat → Nat} (hH : q_hi M (b + 139) u H tk n) {i w : Int32} : LM G YX8_owedSpot 6 2 12 [.ref b, .int i, .int w] z S M N (lq_mi z S N (fun x M1 => (∃ k v, k < H 0 5 ∧ v ≤ 3 ∧ i = nI k ∧ w = nI v ∧ x = nI (H 0 (723 + v + 4 * k))) ∧ q_hi M1 (b + 139) u H tk n ∧ q_fr (b + 139) (b + 1607) M M1)) (lq_xs S M N (fun E => (E = eNS ∧ ¬ q_ix i (H 0 5)) ∨ (E = eIA ∧ q_ix i (H 0 5) ∧ ¬ q_rg w 0 3))) := by
  obtain ⟨c, hC⟩ := hH
  have hC2 := hC
  obtain ⟨h9, hc, hu, hu8, hp⟩ := hC2
  have hR : q_pl M (b + 139 + 2 + 134 * c) q_id (H 0) (tk 0) (n 0) := (hp 0 (Nat.zero_le u)).1
  obtain ⟨hW, hF, hn⟩ := (hp 0 (Nat.zero_le u)).2
  have hS : sh4 S (b + 139 + 2 + 134 * c) (F c) q_id := h8.2.1.2.2.2 c h9
  have hA := h8.2.2.1
  obtain ⟨a, ha⟩ : ∃ a, a = b + 139 + 2 + 134 * c := ⟨_, rfl⟩
  rw [← ha] at hR hS
  have h20 := hW.nb
  have hs8 := hW.ns
  have h160 := hW.no
  have e0 := hR.nb
  have e1 := hR.ns
  refine LM.of (by decide) rfl [some (.ref b), some (.int i), some (.int w), none] rfl (Nat.le_of_ble_eq_true rfl) ?_
  refine qw_aload_n 0 dX8_owedSpot_0 rfl rfl ?_
  refine qw_getr fX8_37 dX8_owedSpot_1 h8.1 rfl ?_
  refine qw_cvp [] (k_X3_latest h8.2.1 hc h9) mX8_80 dX8_owedSpot_4 h8.2.1.1 rfl rfl rfl (Nat.le_of_ble_eq_true rfl) (by omega) (by decide) rfl ?_
  rw [← ha]
  refine qw_getr fX8_152 dX8_owedSpot_7 hS.1 rfl ?_
  refine qw_astore_n 3 dX8_owedSpot_10 rfl rfl (by decide) ?_
  refine qw_aload_n 3 dX8_owedSpot_11 rfl rfl ?_
  refine qw_iload_n 1 dX8_owedSpot_12 rfl rfl ?_
  refine qw_csx [_, _] (k_X8_checkPlace hS.ow (by rw [hR.ow.1]; omega)) mX8_127 dX8_owedSpot_13 rfl rfl (Nat.le_of_ble_eq_true rfl) (by omega) (by decide) rfl (by omega) (by omega) (fun E z9 h9 => ⟨rfl, rfl, rfl, by rw [hR.ow.1] at h9; exact Or.inl h9⟩) (fun v1 => ?_)
  rw [hR.ow.1] at v1
  refine qw_iload_n 2 dX8_owedSpot_16 rfl rfl ?_
  refine qw_iconst (nI 0) dX8_owedSpot_17 (by decide) ?_
  refine qw_iconst (nI 3) dX8_owedSpot_18 (by decide) ?_
  refine qw_csx [_, _, _] (k_X8_checkRange (by decide) (by decide)) mX8_90 dX8_owedSpot_19 rfl rfl (Nat.le_of_ble_eq_true rfl) (by omega) (by decide) rfl (by omega) (by omega) (fun E z9 h9 => ⟨rfl, rfl, rfl, Or.inr ⟨h9.1, v1, h9.2⟩⟩) (fun v2 => ?_)
  obtain ⟨k, hk, rfl⟩ := v1
  obtain ⟨v, -, hv, rfl⟩ := v2
  refine qw_aload_n 3 dX8_owedSpot_22 rfl rfl ?_
  refine qw_iload_n 1 dX8_owedSpot_23 rfl rfl ?_
  refine qw_iload_n 2 dX8_owedSpot_24 rfl rfl ?_
  refine qw_cvp [_, _] (k_X6_tell hS.ow (by rw [hR.ow.1]; exact h160) (by decide) v (by rw [hR.ow.1]; exact hk) (by omega)) mX8_131 dX8_owedSpot_25 hS.ow.1 rfl rfl rfl (Nat.le_of_ble_eq_true rfl) (by omega) (by decide) rfl ?_
  exact qw_ireturn rfl rfl dX8_owedSpot_28 ⟨rfl, rfl, rfl, _, rfl, ⟨k, v, hk, hv, rfl, rfl, by
    have q := hR.ow.2 k hk
    rcases (show v = 0 ∨ v = 1 ∨ v = 2 ∨ v = 3 by omega) with e | e | e | e
    · subst e; exact congrArg nI q.1
    · subst e; exact congrArg nI q.2.1
    · subst e; exact congrArg nI q.2.2.1
    · subst e; exact congrArg nI q.2.2.2⟩, ⟨c, hC⟩, q_fr.rf⟩
theorem k_X8_arrangements {b : Nat} {F : Nat → Nat → Option Nat} {fp fb : Nat → Option Nat} (h8 : sh8 S b F fp fb) {u : Nat} {H : Nat → Nat → Nat} {tk : Nat → Nat → Nat × Nat} {n : Nat → Nat} (hH : q_hi M (b + 139) u H tk n) {i : Int32} : LM G YX8_arrangements 6 1 6 [.ref b, .int i] z S M N (lq_mi z S N (fun x M1 => (∃ k, k < 2 ^ H 0 1 ∧ i = nI k ∧ x = nI (g_co (H 0) k)) ∧ q_hi M1 (b + 139) u H tk n ∧ q_fr (b + 139) (b + 1607) M M1)) (lq_xs S M N (fun E => E = eIA ∧ ¬ q_ix i (2 ^ H 0 1))) := by
  obtain ⟨c, hC⟩ := hH
  have hC2 := hC
  obtain ⟨h9, hc, hu, hu8, hp⟩ := hC2
  have hR : q_pl M (b + 139 + 2 + 134 * c) q_id (H 0) (tk 0) (n 0) := (hp 0 (Nat.zero_le u)).1
  obtain ⟨hW, hF, hn⟩ := (hp 0 (Nat.zero_le u)).2
  have hS : sh4 S (b + 139 + 2 + 134 * c) (F c) q_id := h8.2.1.2.2.2 c h9
  have hA := h8.2.2.1
  obtain ⟨a, ha⟩ : ∃ a, a = b + 139 + 2 + 134 * c := ⟨_, rfl⟩
  rw [← ha] at hR hS
  have h20 := hW.nb
  have hs8 := hW.ns
  have h160 := hW.no
  have e0 := hR.nb
  have e1 := hR.ns
  refine LM.of (by decide) rfl [some (.ref b), some (.int i), none] rfl (Nat.le_of_ble_eq_true rfl) ?_
  refine qw_aload_n 0 dX8_arrangements_0 rfl rfl ?_
  refine qw_getr fX8_37 dX8_arrangements_1 h8.1 rfl ?_
  refine qw_cvp [] (k_X3_latest h8.2.1 hc h9) mX8_80 dX8_arrangements_4 h8.2.1.1 rfl rfl rfl (Nat.le_of_ble_eq_true rfl) (by omega) (by decide) rfl ?_
  rw [← ha]
  refine qw_astore_n 2 dX8_arrangements_7 rfl rfl (by decide) ?_
  refine qw_aload_n 2 dX8_arrangements_8 rfl rfl ?_
  refine qw_iload_n 1 dX8_arrangements_9 rfl rfl ?_
  refine qw_csx [_, _] (k_X8_checkSet hS (by omega)) mX8_185 dX8_arrangements_10 rfl rfl (Nat.le_of_ble_eq_true rfl) (by omega) (by decide) rfl (by omega) (by omega) (fun E z9 h9 => ⟨rfl, rfl, rfl, by rw [e1] at h9; exact h9⟩) (fun v1 => ?_)
  rw [e1] at v1
  obtain ⟨k, hk, rfl⟩ := v1
  refine qw_aload_n 0 dX8_arrangements_13 rfl rfl ?_
  refine qw_getr fX8_44 dX8_arrangements_14 h8.1 rfl ?_
  refine qw_aload_n 2 dX8_arrangements_17 rfl rfl ?_
  refine qw_iload_n 1 dX8_arrangements_18 rfl rfl ?_
  refine qw_cvi [_, _] (k_X1_countOrders hA hS hR hW (by omega) hk) mX8_188 dX8_arrangements_19 h8.2.2.1.1 rfl rfl rfl (Nat.le_of_ble_eq_true rfl) (by omega) (by decide) rfl (fun x1 M1 h1 => ?_)
  obtain ⟨hx1, hm1⟩ := h1
  subst hx1
  exact qw_ireturn rfl rfl dX8_arrangements_22 ⟨rfl, rfl, rfl, _, rfl, ⟨k, hk, rfl, rfl⟩, ⟨c, hC.arr (by omega) hm1⟩, fun x hx => hm1 x (by omega)⟩
end PU1
