/-! the history: a ring of nine plans -/
def q_id : Nat → Nat := fun i => i
def sh3 (S : lq_S) (h : Nat) (F : Nat → Nat → Option Nat) (fp : Nat → Option Nat) : Prop := S h = some (.inl (3, [some (some (h + 1)), none, none])) ∧ S (h + 1) = some (.inr (.inr (5, 9, fp))) ∧ (∀ k, k < 9 → fp k = some (h + 2 + 134 * k)) ∧ ∀ k, k < 9 → sh4 S (h + 2 + 134 * k) (F k) q_id
def g_nx (c : Nat) : Nat := if c + 1 < 9 then c + 1 else 0
def g_pv (c : Nat) : Nat := if 0 < c then c - 1 else 8
theorem g_nx_lt (c : Nat) : g_nx c < 9 := by
  unfold g_nx
  split <;> omega
theorem g_nx_ne {c : Nat} (h : c < 9) : g_nx c ≠ c := by
  unfold g_nx
  split <;> omega
theorem g_pv_lt {c : Nat} (h : c < 9) : g_pv c < 9 := by
  unfold g_pv
  split <;> omega
section HI1
variable {G : lq_G} {z : Nat} {S : lq_S} {N : lq_N}
theorem k_X3_latest {M : lq_M} {h : Nat} {F : Nat → Nat → Option Nat} {fp : Nat → Option Nat} {c : Nat} (hS : sh3 S h F fp) (hc : M h 1 = c) (h9 : c < 9) : LM G YX3_latest 0 0 0 [.ref h] z S M N (lq_pu z S M N (.ref (h + 2 + 134 * c))) lq_no := by
  refine LM.of (by decide) rfl [some (.ref h)] rfl (Nat.le_of_ble_eq_true rfl) ?_
  refine qw_aload_n 0 dX3_latest_0 rfl rfl ?_
  refine qw_getr fX3_11 dX3_latest_1 hS.1 rfl ?_
  refine qw_aload_n 0 dX3_latest_4 rfl rfl ?_
  refine qw_geti fX3_18 dX3_latest_5 hS.1 rfl ?_
  rw [hc]
  refine qw_aald dX3_latest_8 hS.2.1 rfl rfl h9 (by omega) (hS.2.2.1 c h9) ?_
  exact qw_areturn rfl dX3_latest_9 ⟨rfl, rfl, rfl, rfl, rfl⟩
/-- what a change begins with -/
def q_bgn (h c u : Nat) (g : Nat → Nat) (tk : Nat → Nat × Nat) (n : Nat) (M M1 : lq_M) : Prop := q_pl M1 (h + 2 + 134 * g_nx c) q_id g tk n ∧ M1 h 1 = g_nx c ∧ M1 h 2 = min (u + 1) 8 ∧ ∀ b, b ≠ h → (b < h + 2 + 134 * g_nx c ∨ h + 2 + 134 * g_nx c + 134 ≤ b) → M1 b = M b
theorem k_X3_beginChange {M : lq_M} {h : Nat} {F : Nat → Nat → Option Nat} {fp : Nat → Option Nat} {c : Nat} (hS : sh3 S h F fp) (hc : M h 1 = c) (h9 : c < 9) {u : Nat} (hu : M h 2 = u) (h8 : u ≤ 8) {g : Nat → Nat} {tk : Nat → Nat × Nat} {n : Nat} (hR : q_pl M (h + 2 + 134 * c) q_id g tk n) (hW : g_wf g) (hn : n ≤ 800) : LM G YX3_beginChange 4 0 0 [.ref h] z S M N (fun r z1 S1 M1 N1 => z1 = z ∧ S1 = S ∧ N1 = N ∧ r = some (.ref (h + 2 + 134 * g_nx c)) ∧ q_bgn h c u g tk n M M1) lq_no := by
  have h20 := hW.nb
  have hnx := g_nx_lt c
  have hnn := g_nx_ne h9
  refine LM.of (by decide) rfl [some (.ref h), none] rfl (Nat.le_of_ble_eq_true rfl) ?_
  refine qw_aload_n 0 dX3_beginChange_0 rfl rfl ?_
  refine qw_geti fX3_18 dX3_beginChange_1 hS.1 rfl ?_
  rw [hc]
  refine qw_iconst (nI 1) dX3_beginChange_4 (by decide) ?_
  refine qw_addN dX3_beginChange_5 ?_
  refine qw_aload_n 0 dX3_beginChange_6 rfl rfl ?_
  refine qw_getr fX3_11 dX3_beginChange_7 hS.1 rfl ?_
  refine qw_alenr dX3_beginChange_10 hS.2.1 rfl ?_
  refine qw_icmp_geN 23 dX3_beginChange_11 (by decide) (by omega) (by omega) (fun c11 => ?_) (fun c11 => ?_)
  · refine qw_iconst (nI 0) dX3_beginChange_23 (by decide) ?_
    have hnv : 0 = g_nx c := by unfold g_nx; rw [if_neg (by omega)]
    rw [show nI (0) = nI (g_nx c) from congrArg nI hnv]
    refine qw_istore_n 1 dX3_beginChange_24 rfl rfl (by decide) ?_
    refine qw_aload_n 0 dX3_beginChange_25 rfl rfl ?_
    refine qw_getr fX3_11 dX3_beginChange_26 hS.1 rfl ?_
    refine qw_iload_n 1 dX3_beginChange_29 rfl rfl ?_
    refine qw_aald dX3_beginChange_30 hS.2.1 rfl rfl hnx (by omega) (hS.2.2.1 _ hnx) ?_
    refine qw_aload_n 0 dX3_beginChange_31 rfl rfl ?_
    refine qw_getr fX3_11 dX3_beginChange_32 hS.1 rfl ?_
    refine qw_aload_n 0 dX3_beginChange_35 rfl rfl ?_
    refine qw_geti fX3_18 dX3_beginChange_36 hS.1 rfl ?_
    rw [hc]
    refine qw_aald dX3_beginChange_39 hS.2.1 rfl rfl h9 (by omega) (hS.2.2.1 c h9) ?_
    refine qw_cvv [_] (k_X4_copyFrom (hS.2.2.2 _ hnx) (hS.2.2.2 c h9) hR hW hn (by omega)) mX3_25 dX3_beginChange_40 (hS.2.2.2 _ hnx).1 rfl rfl rfl (Nat.le_of_ble_eq_true rfl) (by omega) (by decide) rfl (fun M1 h1 => ?_)
    obtain ⟨hR1, hq⟩ := h1
    refine qw_aload_n 0 dX3_beginChange_43 rfl rfl ?_
    refine qw_iload_n 1 dX3_beginChange_44 rfl rfl ?_
    refine qw_puti fX3_18 dX3_beginChange_45 hS.1 rfl ?_
    refine qw_aload_n 0 dX3_beginChange_48 rfl rfl ?_
    refine qw_aload_n 0 dX3_beginChange_49 rfl rfl ?_
    refine qw_geti fX3_22 dX3_beginChange_50 hS.1 rfl ?_
    refine qw_iconst (nI 1) dX3_beginChange_53 (by decide) ?_
    refine qw_addN dX3_beginChange_54 ?_
    rw [lq_up_c _ _ (by decide), hq h (by omega), hu]
    refine qw_bipush (nI 8) dX3_beginChange_55 (by decide) ?_
    refine qw_minN mmX3_29 (by omega) (by omega) dX3_beginChange_57 (Nat.le_of_ble_eq_true rfl) ?_
    refine qw_puti fX3_22 dX3_beginChange_60 hS.1 rfl ?_
    refine qw_aload_n 0 dX3_beginChange_63 rfl rfl ?_
    refine qw_getr fX3_11 dX3_beginChange_64 hS.1 rfl ?_
    refine qw_aload_n 0 dX3_beginChange_67 rfl rfl ?_
    refine qw_geti fX3_18 dX3_beginChange_68 hS.1 rfl ?_
    rw [lq_up_c _ _ (by decide), lq_up_s]
    refine qw_aald dX3_beginChange_71 hS.2.1 rfl rfl hnx (by omega) (hS.2.2.1 _ hnx) ?_
    exact qw_areturn rfl dX3_beginChange_72 ⟨rfl, rfl, rfl, rfl, hR1.eqM (fun i hi => by show i < 20; omega) (fun x x1 x2 => by rw [lq_up_n _ _ _ (by omega), lq_up_n _ _ _ (by omega)]), by rw [lq_up_c _ _ (by decide), lq_up_s], by rw [lq_up_s], fun b b1 b2 => by rw [lq_up_n _ _ _ b1, lq_up_n _ _ _ b1]; exact hq b b2⟩
  · refine qw_aload_n 0 dX3_beginChange_14 rfl rfl ?_
    refine qw_geti fX3_18 dX3_beginChange_15 hS.1 rfl ?_
    rw [hc]
    refine qw_iconst (nI 1) dX3_beginChange_18 (by decide) ?_
    refine qw_addN dX3_beginChange_19 ?_
    refine qw_goto 24 dX3_beginChange_20 (by decide) ?_
    have hnv : c + 1 = g_nx c := by unfold g_nx; rw [if_pos (by omega)]
    rw [show nI (c + 1) = nI (g_nx c) from congrArg nI hnv]
    refine qw_istore_n 1 dX3_beginChange_24 rfl rfl (by decide) ?_
    refine qw_aload_n 0 dX3_beginChange_25 rfl rfl ?_
    refine qw_getr fX3_11 dX3_beginChange_26 hS.1 rfl ?_
    refine qw_iload_n 1 dX3_beginChange_29 rfl rfl ?_
    refine qw_aald dX3_beginChange_30 hS.2.1 rfl rfl hnx (by omega) (hS.2.2.1 _ hnx) ?_
    refine qw_aload_n 0 dX3_beginChange_31 rfl rfl ?_
    refine qw_getr fX3_11 dX3_beginChange_32 hS.1 rfl ?_
    refine qw_aload_n 0 dX3_beginChange_35 rfl rfl ?_
    refine qw_geti fX3_18 dX3_beginChange_36 hS.1 rfl ?_
    rw [hc]
    refine qw_aald dX3_beginChange_39 hS.2.1 rfl rfl h9 (by omega) (hS.2.2.1 c h9) ?_
    refine qw_cvv [_] (k_X4_copyFrom (hS.2.2.2 _ hnx) (hS.2.2.2 c h9) hR hW hn (by omega)) mX3_25 dX3_beginChange_40 (hS.2.2.2 _ hnx).1 rfl rfl rfl (Nat.le_of_ble_eq_true rfl) (by omega) (by decide) rfl (fun M1 h1 => ?_)
    obtain ⟨hR1, hq⟩ := h1
    refine qw_aload_n 0 dX3_beginChange_43 rfl rfl ?_
    refine qw_iload_n 1 dX3_beginChange_44 rfl rfl ?_
    refine qw_puti fX3_18 dX3_beginChange_45 hS.1 rfl ?_
    refine qw_aload_n 0 dX3_beginChange_48 rfl rfl ?_
    refine qw_aload_n 0 dX3_beginChange_49 rfl rfl ?_
    refine qw_geti fX3_22 dX3_beginChange_50 hS.1 rfl ?_
    refine qw_iconst (nI 1) dX3_beginChange_53 (by decide) ?_
    refine qw_addN dX3_beginChange_54 ?_
    rw [lq_up_c _ _ (by decide), hq h (by omega), hu]
    refine qw_bipush (nI 8) dX3_beginChange_55 (by decide) ?_
    refine qw_minN mmX3_29 (by omega) (by omega) dX3_beginChange_57 (Nat.le_of_ble_eq_true rfl) ?_
    refine qw_puti fX3_22 dX3_beginChange_60 hS.1 rfl ?_
    refine qw_aload_n 0 dX3_beginChange_63 rfl rfl ?_
    refine qw_getr fX3_11 dX3_beginChange_64 hS.1 rfl ?_
    refine qw_aload_n 0 dX3_beginChange_67 rfl rfl ?_
    refine qw_geti fX3_18 dX3_beginChange_68 hS.1 rfl ?_
    rw [lq_up_c _ _ (by decide), lq_up_s]
    refine qw_aald dX3_beginChange_71 hS.2.1 rfl rfl hnx (by omega) (hS.2.2.1 _ hnx) ?_
    exact qw_areturn rfl dX3_beginChange_72 ⟨rfl, rfl, rfl, rfl, hR1.eqM (fun i hi => by show i < 20; omega) (fun x x1 x2 => by rw [lq_up_n _ _ _ (by omega), lq_up_n _ _ _ (by omega)]), by rw [lq_up_c _ _ (by decide), lq_up_s], by rw [lq_up_s], fun b b1 b2 => by rw [lq_up_n _ _ _ b1, lq_up_n _ _ _ b1]; exact hq b b2⟩
theorem k_X3_stepBack {M : lq_M} {h : Nat} {F : Nat → Nat → Option Nat} {fp : Nat → Option Nat} {c : Nat} (hS : sh3 S h F fp) (hc : M h 1 = c) (h9 : c < 9) {u : Nat} (hu : M h 2 = u) (h8 : u ≤ 8) : LM G YX3_stepBack 0 0 0 [.ref h] z S M N (lq_mi z S N (fun x M1 => (u = 0 → x = -1 ∧ M1 = M) ∧ (0 < u → x = nI (u - 1) ∧ M1 = lq_up (lq_up M h 1 (g_pv c)) h 2 (u - 1)))) lq_no := by
  refine LM.of (by decide) rfl [some (.ref h)] rfl (Nat.le_of_ble_eq_true rfl) ?_
  refine qw_aload_n 0 dX3_stepBack_0 rfl rfl ?_
  refine qw_geti fX3_22 dX3_stepBack_1 hS.1 rfl ?_
  rw [hu]
  refine qw_if_neN 9 dX3_stepBack_4 (by decide) (by omega) (fun c4 => ?_) (fun c4 => ?_)
  · refine qw_aload_n 0 dX3_stepBack_9 rfl rfl ?_
    refine qw_aload_n 0 dX3_stepBack_10 rfl rfl ?_
    refine qw_geti fX3_18 dX3_stepBack_11 hS.1 rfl ?_
    rw [hc]
    refine qw_if_leN 26 dX3_stepBack_14 (by decide) (by omega) (fun c14 => ?_) (fun c14 => ?_)
    · refine qw_aload_n 0 dX3_stepBack_26 rfl rfl ?_
      refine qw_getr fX3_11 dX3_stepBack_27 hS.1 rfl ?_
      refine qw_alenr dX3_stepBack_30 hS.2.1 rfl ?_
      refine qw_iconst (nI 1) dX3_stepBack_31 (by decide) ?_
      refine qw_subN (by omega) dX3_stepBack_32 ?_
      refine qw_puti fX3_18 dX3_stepBack_33 hS.1 rfl ?_
      refine qw_aload_n 0 dX3_stepBack_36 rfl rfl ?_
      refine qw_dup dX3_stepBack_37 rfl ?_
      refine qw_geti fX3_22 dX3_stepBack_38 hS.1 rfl ?_
      rw [lq_up_c _ _ (by decide), hu]
      refine qw_iconst (nI 1) dX3_stepBack_41 (by decide) ?_
      refine qw_subN (by omega) dX3_stepBack_42 ?_
      refine qw_puti fX3_22 dX3_stepBack_43 hS.1 rfl ?_
      refine qw_aload_n 0 dX3_stepBack_46 rfl rfl ?_
      refine qw_geti fX3_22 dX3_stepBack_47 hS.1 rfl ?_
      exact qw_ireturn rfl rfl dX3_stepBack_50 ⟨rfl, rfl, rfl, _, rfl, fun q => absurd q (by omega), fun _ => ⟨by rw [lq_up_s], by rw [show g_pv c = 8 from by unfold g_pv; rw [if_neg (by omega)]]⟩⟩
    · refine qw_aload_n 0 dX3_stepBack_17 rfl rfl ?_
      refine qw_geti fX3_18 dX3_stepBack_18 hS.1 rfl ?_
      rw [hc]
      refine qw_iconst (nI 1) dX3_stepBack_21 (by decide) ?_
      refine qw_subN (by omega) dX3_stepBack_22 ?_
      refine qw_goto 33 dX3_stepBack_23 (by decide) ?_
      refine qw_puti fX3_18 dX3_stepBack_33 hS.1 rfl ?_
      refine qw_aload_n 0 dX3_stepBack_36 rfl rfl ?_
      refine qw_dup dX3_stepBack_37 rfl ?_
      refine qw_geti fX3_22 dX3_stepBack_38 hS.1 rfl ?_
      rw [lq_up_c _ _ (by decide), hu]
      refine qw_iconst (nI 1) dX3_stepBack_41 (by decide) ?_
      refine qw_subN (by omega) dX3_stepBack_42 ?_
      refine qw_puti fX3_22 dX3_stepBack_43 hS.1 rfl ?_
      refine qw_aload_n 0 dX3_stepBack_46 rfl rfl ?_
      refine qw_geti fX3_22 dX3_stepBack_47 hS.1 rfl ?_
      exact qw_ireturn rfl rfl dX3_stepBack_50 ⟨rfl, rfl, rfl, _, rfl, fun q => absurd q (by omega), fun _ => ⟨by rw [lq_up_s], by rw [show g_pv c = c - 1 from by unfold g_pv; rw [if_pos (by omega)]]⟩⟩
  · refine qw_iconst (-1) dX3_stepBack_7 (by decide) ?_
    exact qw_ireturn rfl rfl dX3_stepBack_8 ⟨rfl, rfl, rfl, _, rfl, fun _ => ⟨rfl, rfl⟩, fun q => absurd q (by omega)⟩
end HI1
