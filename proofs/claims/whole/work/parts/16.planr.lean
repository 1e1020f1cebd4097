/-! a plan: reads -/
theorem q_bit {x b : Nat} : x / 2 ^ b &&& 1 = x / 2 ^ b % 2 := Nat.and_one_is_mod _
theorem q_z01 {x : Nat} (h : x ≤ 1) : narrow .boolean (.int (nI x)) = .int (nI x) := by
  rcases (show x = 0 ∨ x = 1 by omega) with rfl | rfl <;> decide
section PR1
variable {G : lq_G} {z : Nat} {S : lq_S} {N : lq_N}
theorem k_X4_hasBan {M : lq_M} {a : Nat} {f : Nat → Option Nat} {σ g : Nat → Nat} {tk : Nat → Nat × Nat} {n : Nat} (hS : sh4 S a f σ) (hR : q_pl M a σ g tk n) {c b : Nat} (hc : c < 10) (hb : b < 10) : LM G YX4_hasBan 0 0 0 [.ref a, .int (nI c), .int (nI b)] z S M N (lq_pu z S M N (.int (nI (g (623 + 10 * c + b))))) lq_no := by
  have hx := hR.ban hc
  have hy := hx.2 b hb
  refine LM.of (by decide) rfl [some (.ref a), some (.int (nI c)), some (.int (nI b))] rfl (Nat.le_of_ble_eq_true rfl) ?_
  refine qw_aload_n 0 dX4_hasBan_0 rfl rfl ?_
  refine qw_getr fX4_25 dX4_hasBan_1 hS.1 rfl ?_
  refine qw_iload_n 1 dX4_hasBan_4 rfl rfl ?_
  refine qw_iald dX4_hasBan_5 hS.ban (by omega) (by omega) ?_
  refine qw_iload_n 2 dX4_hasBan_6 rfl rfl ?_
  refine qw_shrN (by omega) (by omega) dX4_hasBan_7 ?_
  refine qw_iconst (nI 1) dX4_hasBan_8 (by decide) ?_
  refine qw_andN dX4_hasBan_9 ?_
  rw [q_bit]
  refine qw_if_eqN 17 dX4_hasBan_10 (by decide) (by omega) (fun c10 => ?_) (fun c10 => ?_)
  · refine qw_iconst (nI 0) dX4_hasBan_17 (by decide) ?_
    exact qw_ireturn rfl (by decide) dX4_hasBan_18 ⟨by first | (rw [show g (623 + 10 * c + b) = 0 by omega]; done) | (rw [show g (623 + 10 * c + b) = 1 by omega]; done), rfl, rfl, rfl, rfl⟩
  · refine qw_iconst (nI 1) dX4_hasBan_13 (by decide) ?_
    refine qw_goto 18 dX4_hasBan_14 (by decide) ?_
    exact qw_ireturn rfl (by decide) dX4_hasBan_18 ⟨by first | (rw [show g (623 + 10 * c + b) = 0 by omega]; done) | (rw [show g (623 + 10 * c + b) = 1 by omega]; done), rfl, rfl, rfl, rfl⟩
theorem k_X4_clash {M : lq_M} {a : Nat} {f : Nat → Option Nat} {σ g : Nat → Nat} {tk : Nat → Nat × Nat} {n : Nat} (hS : sh4 S a f σ) (hR : q_pl M a σ g tk n) (hW : g_wf g) {s t : Nat} (hs : s < g 1) (ht : t < g 1) : LM G YX4_clash 1 0 0 [.ref a, .int (nI s), .int (nI t)] z S M N (lq_pu z S M N (.int (nI (g_cl g s t)))) lq_no := by
  have h8 := hW.ns
  have hcs := hR.cat hs
  have hct := hR.cat ht
  have hb1 := (hW.cat (s := s) (by omega)).1
  have hb2 := (hW.cat (s := t) (by omega)).1
  refine LM.of (by decide) rfl [some (.ref a), some (.int (nI s)), some (.int (nI t))] rfl (Nat.le_of_ble_eq_true rfl) ?_
  refine qw_aload_n 0 dX4_clash_0 rfl rfl ?_
  refine qw_aload_n 0 dX4_clash_1 rfl rfl ?_
  refine qw_getr fX4_18 dX4_clash_2 hS.1 rfl ?_
  refine qw_iload_n 1 dX4_clash_5 rfl rfl ?_
  refine qw_iald dX4_clash_6 hS.cat (by omega) (by omega) ?_
  rw [hcs.1]
  refine qw_aload_n 0 dX4_clash_7 rfl rfl ?_
  refine qw_getr fX4_18 dX4_clash_8 hS.1 rfl ?_
  refine qw_iload_n 2 dX4_clash_11 rfl rfl ?_
  refine qw_iald dX4_clash_12 hS.cat (by omega) (by omega) ?_
  rw [hct.1]
  refine qw_cvp [_, _] (k_X4_hasBan hS hR (by omega) (by omega)) mX4_84 dX4_clash_13 hS.1 rfl rfl rfl (Nat.le_of_ble_eq_true rfl) (by omega) (by decide) rfl ?_
  exact qw_ireturn rfl (q_z01 (hW.cl (by omega) (by omega)).1) dX4_clash_16 ⟨rfl, rfl, rfl, rfl, rfl⟩
theorem l_X4_spotsOf {M : lq_M} {a : Nat} {f : Nat → Option Nat} {σ g : Nat → Nat} {tk : Nat → Nat × Nat} {n : Nat} (hS : sh4 S a f σ) (hR : q_pl M a σ g tk n) (hW : g_wf g) {s : Nat} (hs : s < 8) : ∀ (n9 i : Nat), i ≤ g 0 → g 0 - i < n9 → LW G YX4_spotsOf 1 0 0 (lq_pu z S M N (.int (nI (g_sa g s)))) lq_no z S M N 4 [some (.ref a), some (.int (nI s)), some (.int (nI (g_so g s (fun _ => true) i))), some (.int (nI i))] [] := by
  intro n9
  induction n9 with
  | zero => intro _ _ _; omega
  | succ n9 ih =>
    intro i hi hn9
    have h20 := hW.nb
    have hnb := hR.nb
    refine qw_iload_n 3 dX4_spotsOf_4 rfl rfl ?_
    refine qw_aload_n 0 dX4_spotsOf_5 rfl rfl ?_
    refine qw_geti fX4_44 dX4_spotsOf_6 hS.1 rfl ?_
    rw [hnb]
    refine qw_icmp_geN 34 dX4_spotsOf_9 (by decide) (by omega) (by omega) (fun c9 => ?_) (fun c9 => ?_)
    · refine qw_iload_n 2 dX4_spotsOf_34 rfl rfl ?_
      exact qw_ireturn rfl rfl dX4_spotsOf_35 ⟨by rw [show i = g 0 by omega]; rfl, rfl, rfl, rfl, rfl⟩
    · have hbr := hR.br (i := i) (by omega)
      have hbw := hW.br (i := i) (by omega)
      refine qw_iload_n 2 dX4_spotsOf_12 rfl rfl ?_
      refine qw_aload_n 0 dX4_spotsOf_13 rfl rfl ?_
      refine qw_getr fX4_11 dX4_spotsOf_14 hS.1 rfl ?_
      refine qw_iload_n 3 dX4_spotsOf_17 rfl rfl ?_
      refine qw_aald dX4_spotsOf_18 hS.l rfl rfl (by omega) (by omega) (hS.el (by omega)) ?_
      refine qw_getr fX4_87 dX4_spotsOf_19 (hS.b (i := i) (by omega)).1 rfl ?_
      refine qw_iload_n 1 dX4_spotsOf_22 rfl rfl ?_
      refine qw_cvp [_] (k_X6_countOf (hS.b (by omega)).2 (by rw [hbr.2.2.2.2.2.1]; exact (hW.br (by omega)).2.2.2.2.2.1) (by decide) (by omega) (fun j hj => by have := (hW.sp (i := i) (by omega) (by rw [← hbr.2.2.2.2.2.1]; exact hj)).1; have := hW.ns; rw [(hbr.2.2.2.2.2.2 j (by rw [← hbr.2.2.2.2.2.1]; exact hj)).1]; omega)) mX4_90 dX4_spotsOf_23 (hS.b (i := i) (by omega)).2.1 rfl rfl rfl (Nat.le_of_ble_eq_true rfl) (by omega) (by decide) rfl ?_
      rw [hbr.hs]
      refine qw_addN dX4_spotsOf_26 ?_
      refine qw_istore_n 2 dX4_spotsOf_27 rfl rfl (by decide) ?_
      refine qw_iincN 1 dX4_spotsOf_28 rfl (by decide) rfl (by decide) ?_
      refine qw_goto 4 dX4_spotsOf_31 (by decide) ?_
      have h := ih (i + 1) (by omega) (by omega)
      simp [g_so] at h
      exact h
theorem k_X4_spotsOf {M : lq_M} {a : Nat} {f : Nat → Option Nat} {σ g : Nat → Nat} {tk : Nat → Nat × Nat} {n : Nat} (hS : sh4 S a f σ) (hR : q_pl M a σ g tk n) (hW : g_wf g) {s : Nat} (hs : s < 8) : LM G YX4_spotsOf 1 0 0 [.ref a, .int (nI s)] z S M N (lq_pu z S M N (.int (nI (g_sa g s)))) lq_no := by
  refine LM.of (by decide) rfl [some (.ref a), some (.int (nI s)), none, none] rfl (Nat.le_of_ble_eq_true rfl) ?_
  refine qw_iconst (nI 0) dX4_spotsOf_0 (by decide) ?_
  refine qw_istore_n 2 dX4_spotsOf_1 rfl rfl (by decide) ?_
  refine qw_iconst (nI 0) dX4_spotsOf_2 (by decide) ?_
  refine qw_istore_n 3 dX4_spotsOf_3 rfl rfl (by decide) ?_
  exact l_X4_spotsOf hS hR hW hs (g 0 + 1) 0 (Nat.zero_le _) (by omega)
theorem l_X4_airedSpotsOf {M : lq_M} {a : Nat} {f : Nat → Option Nat} {σ g : Nat → Nat} {tk : Nat → Nat × Nat} {n : Nat} (hS : sh4 S a f σ) (hR : q_pl M a σ g tk n) (hW : g_wf g) {s : Nat} (hs : s < 8) : ∀ (n9 i : Nat), i ≤ g 0 → g 0 - i < n9 → LW G YX4_airedSpotsOf 1 0 0 (lq_pu z S M N (.int (nI (g_s1 g s)))) lq_no z S M N 4 [some (.ref a), some (.int (nI s)), some (.int (nI (g_so g s (fun i => decide (g (11 + 30 * i) = 1)) i))), some (.int (nI i))] [] := by
  intro n9
  induction n9 with
  | zero => intro _ _ _; omega
  | succ n9 ih =>
    intro i hi hn9
    have h20 := hW.nb
    have hnb := hR.nb
    refine qw_iload_n 3 dX4_airedSpotsOf_4 rfl rfl ?_
    refine qw_aload_n 0 dX4_airedSpotsOf_5 rfl rfl ?_
    refine qw_geti fX4_44 dX4_airedSpotsOf_6 hS.1 rfl ?_
    rw [hnb]
    refine qw_icmp_geN 47 dX4_airedSpotsOf_9 (by decide) (by omega) (by omega) (fun c9 => ?_) (fun c9 => ?_)
    · refine qw_iload_n 2 dX4_airedSpotsOf_47 rfl rfl ?_
      exact qw_ireturn rfl rfl dX4_airedSpotsOf_48 ⟨by rw [show i = g 0 by omega]; rfl, rfl, rfl, rfl, rfl⟩
    · have hbr := hR.br (i := i) (by omega)
      have hbw := hW.br (i := i) (by omega)
      refine qw_aload_n 0 dX4_airedSpotsOf_12 rfl rfl ?_
      refine qw_getr fX4_11 dX4_airedSpotsOf_13 hS.1 rfl ?_
      refine qw_iload_n 3 dX4_airedSpotsOf_16 rfl rfl ?_
      refine qw_aald dX4_airedSpotsOf_17 hS.l rfl rfl (by omega) (by omega) (hS.el (by omega)) ?_
      refine qw_geti fX4_94 dX4_airedSpotsOf_18 (hS.b (i := i) (by omega)).1 rfl ?_
      rw [hbr.2.2.2.2.1]
      refine qw_iconst (nI 1) dX4_airedSpotsOf_21 (by decide) ?_
      refine qw_icmp_neN 41 dX4_airedSpotsOf_22 (by decide) (by omega) (by omega) (fun c22 => ?_) (fun c22 => ?_)
      · refine qw_iincN 1 dX4_airedSpotsOf_41 rfl (by decide) rfl (by decide) ?_
        refine qw_goto 4 dX4_airedSpotsOf_44 (by decide) ?_
        have h := ih (i + 1) (by omega) (by omega)
        simp [g_so, c22] at h
        exact h
      · refine qw_iload_n 2 dX4_airedSpotsOf_25 rfl rfl ?_
        refine qw_aload_n 0 dX4_airedSpotsOf_26 rfl rfl ?_
        refine qw_getr fX4_11 dX4_airedSpotsOf_27 hS.1 rfl ?_
        refine qw_iload_n 3 dX4_airedSpotsOf_30 rfl rfl ?_
        refine qw_aald dX4_airedSpotsOf_31 hS.l rfl rfl (by omega) (by omega) (hS.el (by omega)) ?_
        refine qw_getr fX4_87 dX4_airedSpotsOf_32 (hS.b (i := i) (by omega)).1 rfl ?_
        refine qw_iload_n 1 dX4_airedSpotsOf_35 rfl rfl ?_
        refine qw_cvp [_] (k_X6_countOf (hS.b (by omega)).2 (by rw [hbr.2.2.2.2.2.1]; exact (hW.br (by omega)).2.2.2.2.2.1) (by decide) (by omega) (fun j hj => by have := (hW.sp (i := i) (by omega) (by rw [← hbr.2.2.2.2.2.1]; exact hj)).1; have := hW.ns; rw [(hbr.2.2.2.2.2.2 j (by rw [← hbr.2.2.2.2.2.1]; exact hj)).1]; omega)) mX4_90 dX4_airedSpotsOf_36 (hS.b (i := i) (by omega)).2.1 rfl rfl rfl (Nat.le_of_ble_eq_true rfl) (by omega) (by decide) rfl ?_
        rw [hbr.hs]
        refine qw_addN dX4_airedSpotsOf_39 ?_
        refine qw_istore_n 2 dX4_airedSpotsOf_40 rfl rfl (by decide) ?_
        refine qw_iincN 1 dX4_airedSpotsOf_41 rfl (by decide) rfl (by decide) ?_
        refine qw_goto 4 dX4_airedSpotsOf_44 (by decide) ?_
        have h := ih (i + 1) (by omega) (by omega)
        simp [g_so, c22] at h
        exact h
theorem k_X4_airedSpotsOf {M : lq_M} {a : Nat} {f : Nat → Option Nat} {σ g : Nat → Nat} {tk : Nat → Nat × Nat} {n : Nat} (hS : sh4 S a f σ) (hR : q_pl M a σ g tk n) (hW : g_wf g) {s : Nat} (hs : s < 8) : LM G YX4_airedSpotsOf 1 0 0 [.ref a, .int (nI s)] z S M N (lq_pu z S M N (.int (nI (g_s1 g s)))) lq_no := by
  refine LM.of (by decide) rfl [some (.ref a), some (.int (nI s)), none, none] rfl (Nat.le_of_ble_eq_true rfl) ?_
  refine qw_iconst (nI 0) dX4_airedSpotsOf_0 (by decide) ?_
  refine qw_istore_n 2 dX4_airedSpotsOf_1 rfl rfl (by decide) ?_
  refine qw_iconst (nI 0) dX4_airedSpotsOf_2 (by decide) ?_
  refine qw_istore_n 3 dX4_airedSpotsOf_3 rfl rfl (by decide) ?_
  exact l_X4_airedSpotsOf hS hR hW hs (g 0 + 1) 0 (Nat.zero_le _) (by omega)
theorem l_X4_spotsOfDay {M : lq_M} {a : Nat} {f : Nat → Option Nat} {σ g : Nat → Nat} {tk : Nat → Nat × Nat} {n : Nat} (hS : sh4 S a f σ) (hR : q_pl M a σ g tk n) (hW : g_wf g) {s : Nat} (hs : s < 8) {dd : Nat} (hdd : dd < 2 ^ 31) : ∀ (n9 i : Nat), i ≤ g 0 → g 0 - i < n9 → LW G YX4_spotsOfDay 1 0 0 (lq_pu z S M N (.int (nI (g_sd g s dd)))) lq_no z S M N 5 [some (.ref a), some (.int (nI s)), some (.int (nI dd)), some (.int (nI (g_so g s (fun i => decide (g (7 + 30 * i) = dd)) i))), some (.int (nI i))] [] := by
  intro n9
  induction n9 with
  | zero => intro _ _ _; omega
  | succ n9 ih =>
    intro i hi hn9
    have h20 := hW.nb
    have hnb := hR.nb
    refine qw_iload dX4_spotsOfDay_5 rfl ?_
    refine qw_aload_n 0 dX4_spotsOfDay_7 rfl rfl ?_
    refine qw_geti fX4_44 dX4_spotsOfDay_8 hS.1 rfl ?_
    rw [hnb]
    refine qw_icmp_geN 51 dX4_spotsOfDay_11 (by decide) (by omega) (by omega) (fun c11 => ?_) (fun c11 => ?_)
    · refine qw_iload_n 3 dX4_spotsOfDay_51 rfl rfl ?_
      exact qw_ireturn rfl rfl dX4_spotsOfDay_52 ⟨by rw [show i = g 0 by omega]; rfl, rfl, rfl, rfl, rfl⟩
    · have hbr := hR.br (i := i) (by omega)
      have hbw := hW.br (i := i) (by omega)
      refine qw_aload_n 0 dX4_spotsOfDay_14 rfl rfl ?_
      refine qw_getr fX4_11 dX4_spotsOfDay_15 hS.1 rfl ?_
      refine qw_iload dX4_spotsOfDay_18 rfl ?_
      refine qw_aald dX4_spotsOfDay_20 hS.l rfl rfl (by omega) (by omega) (hS.el (by omega)) ?_
      refine qw_geti fX4_70 dX4_spotsOfDay_21 (hS.b (i := i) (by omega)).1 rfl ?_
      rw [hbr.1]
      refine qw_iload_n 2 dX4_spotsOfDay_24 rfl rfl ?_
      refine qw_icmp_neN 45 dX4_spotsOfDay_25 (by decide) (by omega) (by omega) (fun c25 => ?_) (fun c25 => ?_)
      · refine qw_iincN 1 dX4_spotsOfDay_45 rfl (by decide) rfl (by decide) ?_
        refine qw_goto 5 dX4_spotsOfDay_48 (by decide) ?_
        have h := ih (i + 1) (by omega) (by omega)
        simp [g_so, c25] at h
        exact h
      · refine qw_iload_n 3 dX4_spotsOfDay_28 rfl rfl ?_
        refine qw_aload_n 0 dX4_spotsOfDay_29 rfl rfl ?_
        refine qw_getr fX4_11 dX4_spotsOfDay_30 hS.1 rfl ?_
        refine qw_iload dX4_spotsOfDay_33 rfl ?_
        refine qw_aald dX4_spotsOfDay_35 hS.l rfl rfl (by omega) (by omega) (hS.el (by omega)) ?_
        refine qw_getr fX4_87 dX4_spotsOfDay_36 (hS.b (i := i) (by omega)).1 rfl ?_
        refine qw_iload_n 1 dX4_spotsOfDay_39 rfl rfl ?_
        refine qw_cvp [_] (k_X6_countOf (hS.b (by omega)).2 (by rw [hbr.2.2.2.2.2.1]; exact (hW.br (by omega)).2.2.2.2.2.1) (by decide) (by omega) (fun j hj => by have := (hW.sp (i := i) (by omega) (by rw [← hbr.2.2.2.2.2.1]; exact hj)).1; have := hW.ns; rw [(hbr.2.2.2.2.2.2 j (by rw [← hbr.2.2.2.2.2.1]; exact hj)).1]; omega)) mX4_90 dX4_spotsOfDay_40 (hS.b (i := i) (by omega)).2.1 rfl rfl rfl (Nat.le_of_ble_eq_true rfl) (by omega) (by decide) rfl ?_
        rw [hbr.hs]
        refine qw_addN dX4_spotsOfDay_43 ?_
        refine qw_istore_n 3 dX4_spotsOfDay_44 rfl rfl (by decide) ?_
        refine qw_iincN 1 dX4_spotsOfDay_45 rfl (by decide) rfl (by decide) ?_
        refine qw_goto 5 dX4_spotsOfDay_48 (by decide) ?_
        have h := ih (i + 1) (by omega) (by omega)
        simp [g_so, c25] at h
        exact h
theorem k_X4_spotsOfDay {M : lq_M} {a : Nat} {f : Nat → Option Nat} {σ g : Nat → Nat} {tk : Nat → Nat × Nat} {n : Nat} (hS : sh4 S a f σ) (hR : q_pl M a σ g tk n) (hW : g_wf g) {s : Nat} (hs : s < 8) {dd : Nat} (hdd : dd < 2 ^ 31) : LM G YX4_spotsOfDay 1 0 0 [.ref a, .int (nI s), .int (nI dd)] z S M N (lq_pu z S M N (.int (nI (g_sd g s dd)))) lq_no := by
  refine LM.of (by decide) rfl [some (.ref a), some (.int (nI s)), some (.int (nI dd)), none, none] rfl (Nat.le_of_ble_eq_true rfl) ?_
  refine qw_iconst (nI 0) dX4_spotsOfDay_0 (by decide) ?_
  refine qw_istore_n 3 dX4_spotsOfDay_1 rfl rfl (by decide) ?_
  refine qw_iconst (nI 0) dX4_spotsOfDay_2 (by decide) ?_
  refine qw_istore dX4_spotsOfDay_3 rfl (by decide) ?_
  exact l_X4_spotsOfDay hS hR hW hs hdd (g 0 + 1) 0 (Nat.zero_le _) (by omega)
theorem l_X4_placeFor {M : lq_M} {a : Nat} {f : Nat → Option Nat} {σ g : Nat → Nat} {tk : Nat → Nat × Nat} {n : Nat} (hS : sh4 S a f σ) (hR : q_pl M a σ g tk n) (hW : g_wf g) {s i : Nat} (hs : s < g 1) (hi : i < g 0) : ∀ (n9 p : Nat), p ≤ g (12 + 30 * i) + 1 → g (12 + 30 * i) + 1 - p < n9 → (∀ q, q < p → ¬ g_fit g s i q) → LW G YX4_placeFor 2 0 0 (lq_pu z S M N (.int (if g_pf g s i = g (12 + 30 * i) + 1 then -1 else nI (g_pf g s i)))) lq_no z S M N 2 [some (.ref a), some (.int (nI s)), some (.ref (a + 2 + 6 * σ i + 1)), some (.int (nI p)), none, none] [] := by
  intro n9
  induction n9 with
  | zero => intro _ _ _ _; omega
  | succ n9 ih =>
    intro p hp hn9 hno
    have h20 := hW.nb
    have h8 := hW.ns
    have hbr := hR.br hi
    have hc8 := (hW.br hi).2.2.2.2.2.1
    have hcn := hbr.2.2.2.2.2.1
    refine qw_iload_n 3 dX4_placeFor_2 rfl rfl ?_
    refine qw_aload_n 2 dX4_placeFor_3 rfl rfl ?_
    refine qw_geti fX4_54 dX4_placeFor_4 (hS.b (i := i) (by omega)).2.1 rfl ?_
    rw [hcn]
    refine qw_icmp_gtN 84 dX4_placeFor_7 (by decide) (by omega) (by omega) (fun c7 => ?_) (fun c7 => ?_)
    · refine qw_iconst (-1) dX4_placeFor_84 (by decide) ?_
      exact qw_ireturn rfl rfl dX4_placeFor_85 ⟨by rw [g_pf, q_fst_miss (fun j hj q => hno j (by omega) (g_fiN_1.mp q)), if_pos rfl], rfl, rfl, rfl, rfl⟩
    · refine qw_iload_n 3 dX4_placeFor_10 rfl rfl ?_
      refine qw_if_eqN 30 dX4_placeFor_11 (by decide) (by omega) (fun c11 => ?_) (fun c11 => ?_)
      · refine qw_iconst (nI 1) dX4_placeFor_30 (by decide) ?_
        refine qw_goto 35 dX4_placeFor_31 (by decide) ?_
        refine qw_istore dX4_placeFor_35 rfl (by decide) ?_
        refine qw_iload_n 3 dX4_placeFor_37 rfl rfl ?_
        refine qw_aload_n 2 dX4_placeFor_38 rfl rfl ?_
        refine qw_geti fX4_54 dX4_placeFor_39 (hS.b (i := i) (by omega)).2.1 rfl ?_
        rw [hcn]
        refine qw_icmp_eqN 59 dX4_placeFor_42 (by decide) (by omega) (by omega) (fun c42 => ?_) (fun c42 => ?_)
        · refine qw_iconst (nI 1) dX4_placeFor_59 (by decide) ?_
          refine qw_goto 64 dX4_placeFor_60 (by decide) ?_
          refine qw_istore dX4_placeFor_64 rfl (by decide) ?_
          refine qw_iload dX4_placeFor_66 rfl ?_
          refine qw_if_eqN 78 dX4_placeFor_68 (by decide) (by decide) (fun q => absurd q (by decide)) (fun _ => ?_)
          refine qw_iload dX4_placeFor_71 rfl ?_
          refine qw_if_eqN 78 dX4_placeFor_73 (by decide) (by decide) (fun q => absurd q (by decide)) (fun _ => ?_)
          have hfit : g_fit g s i p := ⟨by first | (exact Or.inl (by omega)) | (exact Or.inr (by omega)), by first | (exact Or.inl (by omega)) | (exact Or.inr (by omega))⟩
          refine qw_iload_n 3 dX4_placeFor_76 rfl rfl ?_
          exact qw_ireturn rfl rfl dX4_placeFor_77 ⟨by rw [g_pf, q_fst_hit (i := p) (by omega) (g_fiN_1.mpr hfit) (fun j hj q => hno j hj (g_fiN_1.mp q)), if_neg (by omega)], rfl, rfl, rfl, rfl⟩
        · have hspp := (hbr.2.2.2.2.2.2 p (by omega)).1
          have hsbp := (hW.sp hi (p := p) (by omega)).1
          refine qw_aload_n 0 dX4_placeFor_45 rfl rfl ?_
          refine qw_iload_n 1 dX4_placeFor_46 rfl rfl ?_
          refine qw_aload_n 2 dX4_placeFor_47 rfl rfl ?_
          refine qw_getr fX4_115 dX4_placeFor_48 (hS.b (i := i) (by omega)).2.1 rfl ?_
          refine qw_iload_n 3 dX4_placeFor_51 rfl rfl ?_
          refine qw_iald dX4_placeFor_52 (hS.b (i := i) (by omega)).2.2.1 (by omega) (by omega) ?_
          rw [hspp]
          refine qw_cvp [_, _] (k_X4_clash hS hR hW hs hsbp) mX4_118 dX4_placeFor_53 hS.1 rfl rfl rfl (Nat.le_of_ble_eq_true rfl) (by omega) (by decide) rfl ?_
          have hclp := (hW.cl (s := s) (t := g (13 + 30 * i + 3 * p)) (by omega) (by omega)).1
          refine qw_if_neN 63 dX4_placeFor_56 (by decide) (by omega) (fun c56 => ?_) (fun c56 => ?_)
          · refine qw_iconst (nI 0) dX4_placeFor_63 (by decide) ?_
            refine qw_istore dX4_placeFor_64 rfl (by decide) ?_
            refine qw_iload dX4_placeFor_66 rfl ?_
            refine qw_if_eqN 78 dX4_placeFor_68 (by decide) (by decide) (fun q => absurd q (by decide)) (fun _ => ?_)
            refine qw_iload dX4_placeFor_71 rfl ?_
            refine qw_if_eqN 78 dX4_placeFor_73 (by decide) (by decide) (fun _ => ?_) (fun q => absurd rfl q)
            have hbad : ¬ g_fit g s i p := fun q => by rcases q.2 with q1 | q1 <;> omega
            refine qw_iincN 1 dX4_placeFor_78 rfl (by decide) rfl (by decide) ?_
            refine qw_goto 2 dX4_placeFor_81 (by decide) ?_
            exact qw_weak _ (by simp [lq_le]) (ih (p + 1) (by omega) (by omega) (fun q hq => by
              rcases Nat.lt_or_ge q p with h9 | h9
              · exact hno q h9
              · rw [show q = p by omega]; exact hbad))
          · refine qw_iconst (nI 1) dX4_placeFor_59 (by decide) ?_
            refine qw_goto 64 dX4_placeFor_60 (by decide) ?_
            refine qw_istore dX4_placeFor_64 rfl (by decide) ?_
            refine qw_iload dX4_placeFor_66 rfl ?_
            refine qw_if_eqN 78 dX4_placeFor_68 (by decide) (by decide) (fun q => absurd q (by decide)) (fun _ => ?_)
            refine qw_iload dX4_placeFor_71 rfl ?_
            refine qw_if_eqN 78 dX4_placeFor_73 (by decide) (by decide) (fun q => absurd q (by decide)) (fun _ => ?_)
            have hfit : g_fit g s i p := ⟨by first | (exact Or.inl (by omega)) | (exact Or.inr (by omega)), by first | (exact Or.inl (by omega)) | (exact Or.inr (by omega))⟩
            refine qw_iload_n 3 dX4_placeFor_76 rfl rfl ?_
            exact qw_ireturn rfl rfl dX4_placeFor_77 ⟨by rw [g_pf, q_fst_hit (i := p) (by omega) (g_fiN_1.mpr hfit) (fun j hj q => hno j hj (g_fiN_1.mp q)), if_neg (by omega)], rfl, rfl, rfl, rfl⟩
      · have hspm := (hbr.2.2.2.2.2.2 (p - 1) (by omega)).1
        have hsbm := (hW.sp hi (p := p - 1) (by omega)).1
        refine qw_aload_n 0 dX4_placeFor_14 rfl rfl ?_
        refine qw_iload_n 1 dX4_placeFor_15 rfl rfl ?_
        refine qw_aload_n 2 dX4_placeFor_16 rfl rfl ?_
        refine qw_getr fX4_115 dX4_placeFor_17 (hS.b (i := i) (by omega)).2.1 rfl ?_
        refine qw_iload_n 3 dX4_placeFor_20 rfl rfl ?_
        refine qw_iconst (nI 1) dX4_placeFor_21 (by decide) ?_
        refine qw_subN (by omega) dX4_placeFor_22 ?_
        refine qw_iald dX4_placeFor_23 (hS.b (i := i) (by omega)).2.2.1 (by omega) (by omega) ?_
        rw [hspm]
        refine qw_cvp [_, _] (k_X4_clash hS hR hW hs hsbm) mX4_118 dX4_placeFor_24 hS.1 rfl rfl rfl (Nat.le_of_ble_eq_true rfl) (by omega) (by decide) rfl ?_
        have hclm := (hW.cl (s := s) (t := g (13 + 30 * i + 3 * (p - 1))) (by omega) (by omega)).1
        refine qw_if_neN 34 dX4_placeFor_27 (by decide) (by omega) (fun c27 => ?_) (fun c27 => ?_)
        · refine qw_iconst (nI 0) dX4_placeFor_34 (by decide) ?_
          refine qw_istore dX4_placeFor_35 rfl (by decide) ?_
          refine qw_iload_n 3 dX4_placeFor_37 rfl rfl ?_
          refine qw_aload_n 2 dX4_placeFor_38 rfl rfl ?_
          refine qw_geti fX4_54 dX4_placeFor_39 (hS.b (i := i) (by omega)).2.1 rfl ?_
          rw [hcn]
          refine qw_icmp_eqN 59 dX4_placeFor_42 (by decide) (by omega) (by omega) (fun c42 => ?_) (fun c42 => ?_)
          · refine qw_iconst (nI 1) dX4_placeFor_59 (by decide) ?_
            refine qw_goto 64 dX4_placeFor_60 (by decide) ?_
            refine qw_istore dX4_placeFor_64 rfl (by decide) ?_
            refine qw_iload dX4_placeFor_66 rfl ?_
            refine qw_if_eqN 78 dX4_placeFor_68 (by decide) (by decide) (fun _ => ?_) (fun q => absurd rfl q)
            have hbad : ¬ g_fit g s i p := fun q => by rcases q.1 with q1 | q1 <;> omega
            refine qw_iincN 1 dX4_placeFor_78 rfl (by decide) rfl (by decide) ?_
            refine qw_goto 2 dX4_placeFor_81 (by decide) ?_
            exact qw_weak _ (by simp [lq_le]) (ih (p + 1) (by omega) (by omega) (fun q hq => by
              rcases Nat.lt_or_ge q p with h9 | h9
              · exact hno q h9
              · rw [show q = p by omega]; exact hbad))
          · have hspp := (hbr.2.2.2.2.2.2 p (by omega)).1
            have hsbp := (hW.sp hi (p := p) (by omega)).1
            refine qw_aload_n 0 dX4_placeFor_45 rfl rfl ?_
            refine qw_iload_n 1 dX4_placeFor_46 rfl rfl ?_
            refine qw_aload_n 2 dX4_placeFor_47 rfl rfl ?_
            refine qw_getr fX4_115 dX4_placeFor_48 (hS.b (i := i) (by omega)).2.1 rfl ?_
            refine qw_iload_n 3 dX4_placeFor_51 rfl rfl ?_
            refine qw_iald dX4_placeFor_52 (hS.b (i := i) (by omega)).2.2.1 (by omega) (by omega) ?_
            rw [hspp]
            refine qw_cvp [_, _] (k_X4_clash hS hR hW hs hsbp) mX4_118 dX4_placeFor_53 hS.1 rfl rfl rfl (Nat.le_of_ble_eq_true rfl) (by omega) (by decide) rfl ?_
            have hclp := (hW.cl (s := s) (t := g (13 + 30 * i + 3 * p)) (by omega) (by omega)).1
            refine qw_if_neN 63 dX4_placeFor_56 (by decide) (by omega) (fun c56 => ?_) (fun c56 => ?_)
            · refine qw_iconst (nI 0) dX4_placeFor_63 (by decide) ?_
              refine qw_istore dX4_placeFor_64 rfl (by decide) ?_
              refine qw_iload dX4_placeFor_66 rfl ?_
              refine qw_if_eqN 78 dX4_placeFor_68 (by decide) (by decide) (fun _ => ?_) (fun q => absurd rfl q)
              have hbad : ¬ g_fit g s i p := fun q => by rcases q.1 with q1 | q1 <;> omega
              refine qw_iincN 1 dX4_placeFor_78 rfl (by decide) rfl (by decide) ?_
              refine qw_goto 2 dX4_placeFor_81 (by decide) ?_
              exact qw_weak _ (by simp [lq_le]) (ih (p + 1) (by omega) (by omega) (fun q hq => by
                rcases Nat.lt_or_ge q p with h9 | h9
                · exact hno q h9
                · rw [show q = p by omega]; exact hbad))
            · refine qw_iconst (nI 1) dX4_placeFor_59 (by decide) ?_
              refine qw_goto 64 dX4_placeFor_60 (by decide) ?_
              refine qw_istore dX4_placeFor_64 rfl (by decide) ?_
              refine qw_iload dX4_placeFor_66 rfl ?_
              refine qw_if_eqN 78 dX4_placeFor_68 (by decide) (by decide) (fun _ => ?_) (fun q => absurd rfl q)
              have hbad : ¬ g_fit g s i p := fun q => by rcases q.1 with q1 | q1 <;> omega
              refine qw_iincN 1 dX4_placeFor_78 rfl (by decide) rfl (by decide) ?_
              refine qw_goto 2 dX4_placeFor_81 (by decide) ?_
              exact qw_weak _ (by simp [lq_le]) (ih (p + 1) (by omega) (by omega) (fun q hq => by
                rcases Nat.lt_or_ge q p with h9 | h9
                · exact hno q h9
                · rw [show q = p by omega]; exact hbad))
        · refine qw_iconst (nI 1) dX4_placeFor_30 (by decide) ?_
          refine qw_goto 35 dX4_placeFor_31 (by decide) ?_
          refine qw_istore dX4_placeFor_35 rfl (by decide) ?_
          refine qw_iload_n 3 dX4_placeFor_37 rfl rfl ?_
          refine qw_aload_n 2 dX4_placeFor_38 rfl rfl ?_
          refine qw_geti fX4_54 dX4_placeFor_39 (hS.b (i := i) (by omega)).2.1 rfl ?_
          rw [hcn]
          refine qw_icmp_eqN 59 dX4_placeFor_42 (by decide) (by omega) (by omega) (fun c42 => ?_) (fun c42 => ?_)
          · refine qw_iconst (nI 1) dX4_placeFor_59 (by decide) ?_
            refine qw_goto 64 dX4_placeFor_60 (by decide) ?_
            refine qw_istore dX4_placeFor_64 rfl (by decide) ?_
            refine qw_iload dX4_placeFor_66 rfl ?_
            refine qw_if_eqN 78 dX4_placeFor_68 (by decide) (by decide) (fun q => absurd q (by decide)) (fun _ => ?_)
            refine qw_iload dX4_placeFor_71 rfl ?_
            refine qw_if_eqN 78 dX4_placeFor_73 (by decide) (by decide) (fun q => absurd q (by decide)) (fun _ => ?_)
            have hfit : g_fit g s i p := ⟨by first | (exact Or.inl (by omega)) | (exact Or.inr (by omega)), by first | (exact Or.inl (by omega)) | (exact Or.inr (by omega))⟩
            refine qw_iload_n 3 dX4_placeFor_76 rfl rfl ?_
            exact qw_ireturn rfl rfl dX4_placeFor_77 ⟨by rw [g_pf, q_fst_hit (i := p) (by omega) (g_fiN_1.mpr hfit) (fun j hj q => hno j hj (g_fiN_1.mp q)), if_neg (by omega)], rfl, rfl, rfl, rfl⟩
          · have hspp := (hbr.2.2.2.2.2.2 p (by omega)).1
            have hsbp := (hW.sp hi (p := p) (by omega)).1
            refine qw_aload_n 0 dX4_placeFor_45 rfl rfl ?_
            refine qw_iload_n 1 dX4_placeFor_46 rfl rfl ?_
            refine qw_aload_n 2 dX4_placeFor_47 rfl rfl ?_
            refine qw_getr fX4_115 dX4_placeFor_48 (hS.b (i := i) (by omega)).2.1 rfl ?_
            refine qw_iload_n 3 dX4_placeFor_51 rfl rfl ?_
            refine qw_iald dX4_placeFor_52 (hS.b (i := i) (by omega)).2.2.1 (by omega) (by omega) ?_
            rw [hspp]
            refine qw_cvp [_, _] (k_X4_clash hS hR hW hs hsbp) mX4_118 dX4_placeFor_53 hS.1 rfl rfl rfl (Nat.le_of_ble_eq_true rfl) (by omega) (by decide) rfl ?_
            have hclp := (hW.cl (s := s) (t := g (13 + 30 * i + 3 * p)) (by omega) (by omega)).1
            refine qw_if_neN 63 dX4_placeFor_56 (by decide) (by omega) (fun c56 => ?_) (fun c56 => ?_)
            · refine qw_iconst (nI 0) dX4_placeFor_63 (by decide) ?_
              refine qw_istore dX4_placeFor_64 rfl (by decide) ?_
              refine qw_iload dX4_placeFor_66 rfl ?_
              refine qw_if_eqN 78 dX4_placeFor_68 (by decide) (by decide) (fun q => absurd q (by decide)) (fun _ => ?_)
              refine qw_iload dX4_placeFor_71 rfl ?_
              refine qw_if_eqN 78 dX4_placeFor_73 (by decide) (by decide) (fun _ => ?_) (fun q => absurd rfl q)
              have hbad : ¬ g_fit g s i p := fun q => by rcases q.2 with q1 | q1 <;> omega
              refine qw_iincN 1 dX4_placeFor_78 rfl (by decide) rfl (by decide) ?_
              refine qw_goto 2 dX4_placeFor_81 (by decide) ?_
              exact qw_weak _ (by simp [lq_le]) (ih (p + 1) (by omega) (by omega) (fun q hq => by
                rcases Nat.lt_or_ge q p with h9 | h9
                · exact hno q h9
                · rw [show q = p by omega]; exact hbad))
            · refine qw_iconst (nI 1) dX4_placeFor_59 (by decide) ?_
              refine qw_goto 64 dX4_placeFor_60 (by decide) ?_
              refine qw_istore dX4_placeFor_64 rfl (by decide) ?_
              refine qw_iload dX4_placeFor_66 rfl ?_
              refine qw_if_eqN 78 dX4_placeFor_68 (by decide) (by decide) (fun q => absurd q (by decide)) (fun _ => ?_)
              refine qw_iload dX4_placeFor_71 rfl ?_
              refine qw_if_eqN 78 dX4_placeFor_73 (by decide) (by decide) (fun q => absurd q (by decide)) (fun _ => ?_)
              have hfit : g_fit g s i p := ⟨by first | (exact Or.inl (by omega)) | (exact Or.inr (by omega)), by first | (exact Or.inl (by omega)) | (exact Or.inr (by omega))⟩
              refine qw_iload_n 3 dX4_placeFor_76 rfl rfl ?_
              exact qw_ireturn rfl rfl dX4_placeFor_77 ⟨by rw [g_pf, q_fst_hit (i := p) (by omega) (g_fiN_1.mpr hfit) (fun j hj q => hno j hj (g_fiN_1.mp q)), if_neg (by omega)], rfl, rfl, rfl, rfl⟩
theorem k_X4_placeFor {M : lq_M} {a : Nat} {f : Nat → Option Nat} {σ g : Nat → Nat} {tk : Nat → Nat × Nat} {n : Nat} (hS : sh4 S a f σ) (hR : q_pl M a σ g tk n) (hW : g_wf g) {s i : Nat} (hs : s < g 1) (hi : i < g 0) : LM G YX4_placeFor 2 0 0 [.ref a, .int (nI s), .ref (a + 2 + 6 * σ i + 1)] z S M N (lq_pu z S M N (.int (if g_pf g s i = g (12 + 30 * i) + 1 then -1 else nI (g_pf g s i)))) lq_no := by
  refine LM.of (by decide) rfl [some (.ref a), some (.int (nI s)), some (.ref (a + 2 + 6 * σ i + 1)), none, none, none] rfl (Nat.le_of_ble_eq_true rfl) ?_
  refine qw_iconst (nI 0) dX4_placeFor_0 (by decide) ?_
  refine qw_istore_n 3 dX4_placeFor_1 rfl rfl (by decide) ?_
  exact l_X4_placeFor hS hR hW hs hi (g (12 + 30 * i) + 2) 0 (Nat.zero_le _) (by omega) (fun q hq => absurd hq (Nat.not_lt_zero q))
end PR1
