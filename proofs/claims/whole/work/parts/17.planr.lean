/-! a plan: what refuses a spot, prices, choices -/
section RS
variable {g : Nat → Nat} {s l i : Nat}
theorem g_rs_1 (h : g (11 + 30 * i) ≠ 0) : g_rs g s l i = 1 := by rw [g_rs, if_pos h]
theorem g_rs_2 (h : g (11 + 30 * i) = 0) (h2 : 0 < g_hs g i s) : g_rs g s l i = 2 := by rw [g_rs, if_neg (by omega), if_pos h2]
theorem g_rs_3 (h : g (11 + 30 * i) = 0) (h2 : ¬ 0 < g_hs g i s) (h3 : g (608 + 2 * s) ≤ g_sd g s (g (7 + 30 * i))) : g_rs g s l i = 3 := by rw [g_rs, if_neg (by omega), if_neg h2, if_pos h3]
theorem g_rs_4 (h : g (11 + 30 * i) = 0) (h2 : ¬ 0 < g_hs g i s) (h3 : ¬ g (608 + 2 * s) ≤ g_sd g s (g (7 + 30 * i))) (h4 : g (9 + 30 * i) < g_us g i + l) : g_rs g s l i = 4 := by rw [g_rs, if_neg (by omega), if_neg h2, if_neg h3, if_pos h4]
theorem g_rs_5 (h : g (11 + 30 * i) = 0) (h2 : ¬ 0 < g_hs g i s) (h3 : ¬ g (608 + 2 * s) ≤ g_sd g s (g (7 + 30 * i))) (h4 : ¬ g (9 + 30 * i) < g_us g i + l) (h5 : g_pf g s i = g (12 + 30 * i) + 1) : g_rs g s l i = 5 := by rw [g_rs, if_neg (by omega), if_neg h2, if_neg h3, if_neg h4, if_pos h5]
theorem g_rs_0 (h : g (11 + 30 * i) = 0) (h2 : ¬ 0 < g_hs g i s) (h3 : ¬ g (608 + 2 * s) ≤ g_sd g s (g (7 + 30 * i))) (h4 : ¬ g (9 + 30 * i) < g_us g i + l) (h5 : ¬ g_pf g s i = g (12 + 30 * i) + 1) : g_rs g s l i = 0 := by rw [g_rs, if_neg (by omega), if_neg h2, if_neg h3, if_neg h4, if_neg h5]
theorem g_rs_le : g_rs g s l i ≤ 5 := by
  unfold g_rs
  repeat' split
  all_goals omega
theorem g_rs_ok (h : g_rs g s l i = 0) : g (11 + 30 * i) = 0 ∧ ¬ 0 < g_hs g i s ∧ ¬ g (608 + 2 * s) ≤ g_sd g s (g (7 + 30 * i)) ∧ ¬ g (9 + 30 * i) < g_us g i + l ∧ ¬ g_pf g s i = g (12 + 30 * i) + 1 := by
  by_cases h1 : g (11 + 30 * i) = 0
  · by_cases h2 : 0 < g_hs g i s
    · rw [g_rs_2 h1 h2] at h; omega
    · by_cases h3 : g (608 + 2 * s) ≤ g_sd g s (g (7 + 30 * i))
      · rw [g_rs_3 h1 h2 h3] at h; omega
      · by_cases h4 : g (9 + 30 * i) < g_us g i + l
        · rw [g_rs_4 h1 h2 h3 h4] at h; omega
        · by_cases h5 : g_pf g s i = g (12 + 30 * i) + 1
          · rw [g_rs_5 h1 h2 h3 h4 h5] at h; omega
          · exact ⟨h1, h2, h3, h4, h5⟩
  · rw [g_rs_1 h1] at h; omega
end RS
theorem g_pf_le (g : Nat → Nat) (s i : Nat) : g_pf g s i ≤ g (12 + 30 * i) + 1 := q_fst_le _ _ _
/-- -1 for 0, k for k + 1 -/
def q_m1 (k : Nat) : Int32 := if k = 0 then -1 else nI (k - 1)
theorem q_m1_neg {k : Nat} (h : k < 2 ^ 31) : q_m1 k < 0 ↔ k = 0 := by
  unfold q_m1
  by_cases e : k = 0
  · rw [if_pos e]
    exact ⟨fun _ => e, fun _ => by decide⟩
  · rw [if_neg e]
    exact ⟨fun q => absurd q (nI_pos (by omega)), fun q => absurd q e⟩
theorem q_br.plv {M : lq_M} {b i s : Nat} {g : Nat → Nat} (h : q_br M b g i) (hc : g (12 + 30 * i) ≤ 8) : q_plv (M (b + 1 + 1)) s (M (b + 1) 4) < 0 ↔ ¬ 0 < g_hs g i s := by
  have e : (q_fst (M (b + 1 + 1)) s (M (b + 1) 4) < M (b + 1) 4) ↔ 0 < g_hs g i s := by
    rw [← h.hs s, q_fst_lt]
    exact ⟨fun ⟨j, h1, h2⟩ => q_cnt_of h1 h2, fun q => q_cnt_pos q⟩
  have hn := h.2.2.2.2.2.1
  unfold q_plv
  by_cases q : q_fst (M (b + 1 + 1)) s (M (b + 1) 4) < M (b + 1) 4
  · rw [if_pos q]
    exact ⟨fun z => absurd z (nI_pos (by omega)), fun z => absurd (e.mp q) z⟩
  · rw [if_neg q]
    exact ⟨fun _ z => q (e.mpr z), fun _ => by decide⟩
theorem q_pfv {x c : Nat} (h : x ≤ c + 1) (hc : c ≤ 100) : (0 ≤ (if x = c + 1 then (-1 : Int32) else nI x)) ↔ ¬ x = c + 1 := by
  by_cases e : x = c + 1
  · rw [if_pos e]
    exact ⟨fun q => absurd q (by decide), fun q => absurd e q⟩
  · rw [if_neg e]
    exact ⟨fun _ => e, fun _ => nI_pos' (by omega)⟩
theorem q_clampI {v : Int} (h : q_big v) : (if 0 < (if Int32.ofInt v < 99999 then Int32.ofInt v else 99999) then (if Int32.ofInt v < 99999 then Int32.ofInt v else 99999) else (0 : Int32)) = nI (max 0 (min 99999 v)).toNat := by
  unfold q_big at h
  have e : (Int32.ofInt v).toInt = v := Int32.toInt_ofInt_of_le (by omega) (by omega)
  have l1 : Int32.ofInt v < 99999 ↔ v < 99999 := by rw [Int32.lt_iff_toInt_lt, e]; rfl
  have l2 : 0 < Int32.ofInt v ↔ 0 < v := by rw [Int32.lt_iff_toInt_lt, e]; rfl
  by_cases h1 : v < 99999
  · rw [if_pos (l1.mpr h1)]
    by_cases h2 : 0 < v
    · rw [if_pos (l2.mpr h2), show max 0 (min 99999 v) = v by omega]
      obtain ⟨k, rfl⟩ : ∃ k : Nat, v = (k : Int) := ⟨v.toNat, by omega⟩
      rfl
    · rw [if_neg (fun q => h2 (l2.mp q)), show max 0 (min 99999 v) = 0 by omega]
      rfl
  · rw [if_neg (fun q => h1 (l1.mp q)), if_pos (by decide), show max 0 (min 99999 v) = 99999 by omega]
    rfl
def q_fq (a : Nat) (M M1 : lq_M) : Prop := ∀ b, b ≠ a + 125 + 2 → b ≠ a + 125 + 3 → M1 b = M b
theorem q_fq.rf {a : Nat} {M : lq_M} : q_fq a M M := fun _ _ _ => rfl
theorem q_fq.tr {a : Nat} {M M1 M2 : lq_M} (h : q_fq a M M1) (h2 : q_fq a M1 M2) : q_fq a M M2 := fun b b1 b2 => (h2 b b1 b2).trans (h b b1 b2)
/-- the cheapest so far: one more than its index (0: none), and its price -/
noncomputable def g_chp (g : Nat → Nat) (tk : Nat → Nat × Nat) (n s l : Nat) : Nat → Nat × Nat
  | 0 => (0, 0)
  | k + 1 => if g_rs g s l k = 0 ∧ ((g_chp g tk n s l k).1 = 0 ∨ g_pc g tk n s l k < (g_chp g tk n s l k).2) then (k + 1, g_pc g tk n s l k) else g_chp g tk n s l k
noncomputable def g_wip (g : Nat → Nat) (s l : Nat) : Nat → Nat
  | 0 => 0
  | k + 1 => if (g_wip g s l k = 0 ∨ g (10 + 30 * (g_wip g s l k - 1)) < g (10 + 30 * k)) ∧ g_rs g s l k = 0 then k + 1 else g_wip g s l k
theorem g_chp_le (g : Nat → Nat) (tk : Nat → Nat × Nat) (n s l : Nat) : ∀ k, (g_chp g tk n s l k).1 ≤ k
  | 0 => Nat.le_refl 0
  | k + 1 => by
    have := g_chp_le g tk n s l k
    rw [g_chp]
    split
    · exact Nat.le_refl _
    · omega
theorem g_pc_le (g : Nat → Nat) (tk : Nat → Nat × Nat) (n s l i : Nat) : g_pc g tk n s l i ≤ 99999 := by
  unfold g_pc
  omega
theorem g_chp_pr (g : Nat → Nat) (tk : Nat → Nat × Nat) (n s l : Nat) : ∀ k, (g_chp g tk n s l k).2 ≤ 99999
  | 0 => Nat.zero_le _
  | k + 1 => by
    have := g_chp_pr g tk n s l k
    have h2 := g_pc_le g tk n s l k
    rw [g_chp]
    split
    · exact h2
    · exact this
theorem g_wip_le (g : Nat → Nat) (s l : Nat) : ∀ k, g_wip g s l k ≤ k
  | 0 => Nat.le_refl 0
  | k + 1 => by
    have := g_wip_le g s l k
    rw [g_wip]
    split <;> omega
theorem g_chp_ok {g : Nat → Nat} {tk : Nat → Nat × Nat} {n s l : Nat} : ∀ {k j}, (g_chp g tk n s l k).1 = j + 1 → g_rs g s l j = 0
  | 0, j, h => by simp [g_chp] at h
  | k + 1, j, h => by
    rw [g_chp] at h
    split at h
    · rename_i h1
      simp at h
      rw [← h]
      exact h1.1
    · exact g_chp_ok h
noncomputable def g_gdN (g : Nat → Nat) (k i : Nat) : Nat := if g (726 + 4 * k) ≤ g (10 + 30 * i) ∧ g_rs g (g (723 + 4 * k)) (g (724 + 4 * k)) i = 0 then 1 else 0
theorem g_gdN_1 {g : Nat → Nat} {k i : Nat} : g_gdN g k i = 1 ↔ g (726 + 4 * k) ≤ g (10 + 30 * i) ∧ g_rs g (g (723 + 4 * k)) (g (724 + 4 * k)) i = 0 := by
  unfold g_gdN
  split
  · simp_all
  · simp_all
/-- the earliest break that takes the owed spot k; the number of breaks if there is none -/
noncomputable def g_gf (g : Nat → Nat) (k : Nat) : Nat := q_fst (g_gdN g k) 1 (g 0)
def g_eo (g : Nat → Nat) : Nat := q_fst (fun i => g (11 + 30 * i)) 0 (g 0)
def g_can (g : Nat → Nat) (i p : Nat) : Nat := if g (11 + 30 * i) = 0 ∧ (p = 0 ∨ g (12 + 30 * i) ≤ p + 1 ∨ g_cl g (g (13 + 30 * i + 3 * (p - 1))) (g (13 + 30 * i + 3 * (p + 1))) = 0) then 1 else 0
section PR2
variable {G : lq_G} {z : Nat} {S : lq_S} {N : lq_N}
theorem k_X4_refusal {M : lq_M} {a : Nat} {f : Nat → Option Nat} {σ g : Nat → Nat} {tk : Nat → Nat × Nat} {n : Nat} (hS : sh4 S a f σ) (hR : q_pl M a σ g tk n) (hW : g_wf g) {s l i : Nat} (hs : s < g 1) (hl : l ≤ 60) (hi : i < g 0) : LM G YX4_refusal 3 0 0 [.ref a, .int (nI s), .int (nI l), .int (nI i)] z S M N (lq_pu z S M N (.int (nI (g_rs g s l i)))) lq_no := by
  have h20 := hW.nb
  have h8 := hW.ns
  have hbr := hR.br hi
  have hbw := hW.br hi
  have hcn := hbr.2.2.2.2.2.1
  have hus := hW.us hi
  have hcap := (hR.cat hs).2
  have hcw := (hW.cat (s := s) (by omega)).2
  have hsd : g_sd g s (g (7 + 30 * i)) ≤ g 0 := g_so_le hW _ _ _ (Nat.le_refl _)
  have hplv := hbr.plv (s := s) hbw.2.2.2.2.2.1
  have hpfv := q_pfv (g_pf_le g s i) (by omega)
  refine LM.of (by decide) rfl [some (.ref a), some (.int (nI s)), some (.int (nI l)), some (.int (nI i)), none] rfl (Nat.le_of_ble_eq_true rfl) ?_
  refine qw_aload_n 0 dX4_refusal_0 rfl rfl ?_
  refine qw_getr fX4_11 dX4_refusal_1 hS.1 rfl ?_
  refine qw_iload_n 3 dX4_refusal_4 rfl rfl ?_
  refine qw_aald dX4_refusal_5 hS.l rfl rfl (by omega) (by omega) (hS.el (by omega)) ?_
  refine qw_astore dX4_refusal_6 rfl (by decide) ?_
  refine qw_aload dX4_refusal_8 rfl ?_
  refine qw_geti fX4_94 dX4_refusal_10 (hS.b (i := i) (by omega)).1 rfl ?_
  rw [hbr.2.2.2.2.1]
  refine qw_if_eqN 18 dX4_refusal_13 (by decide) (by omega) (fun c13 => ?_) (fun c13 => ?_)
  · refine qw_aload dX4_refusal_18 rfl ?_
    refine qw_getr fX4_87 dX4_refusal_20 (hS.b (i := i) (by omega)).1 rfl ?_
    refine qw_iload_n 1 dX4_refusal_23 rfl rfl ?_
    refine qw_cvp [_] (k_X6_placeOf (x := s) (hS.b (i := i) (by omega)).2 (by rw [hcn]; omega) (by decide) (by omega) (fun j hj => by have := (hW.sp hi (by rw [← hcn]; exact hj)).1; rw [(hbr.2.2.2.2.2.2 j (by rw [← hcn]; exact hj)).1]; omega)) mX4_97 dX4_refusal_24 (hS.b (i := i) (by omega)).2.1 rfl rfl rfl (Nat.le_of_ble_eq_true rfl) (by omega) (by decide) rfl ?_
    refine qw_if_lt 32 dX4_refusal_27 (by decide) (fun c27 => ?_) (fun c27 => ?_)
    · refine qw_aload_n 0 dX4_refusal_32 rfl rfl ?_
      refine qw_iload_n 1 dX4_refusal_33 rfl rfl ?_
      refine qw_aload dX4_refusal_34 rfl ?_
      refine qw_geti fX4_70 dX4_refusal_36 (hS.b (i := i) (by omega)).1 rfl ?_
      rw [hbr.1]
      refine qw_cvp [_, _] (k_X4_spotsOfDay hS hR hW (by omega) (by omega)) mX4_100 dX4_refusal_39 hS.1 rfl rfl rfl (Nat.le_of_ble_eq_true rfl) (by omega) (by decide) rfl ?_
      refine qw_aload_n 0 dX4_refusal_42 rfl rfl ?_
      refine qw_getr fX4_22 dX4_refusal_43 hS.1 rfl ?_
      refine qw_iload_n 1 dX4_refusal_46 rfl rfl ?_
      refine qw_iald dX4_refusal_47 hS.cap (by omega) (by omega) ?_
      rw [hcap]
      refine qw_icmp_ltN 53 dX4_refusal_48 (by decide) (by omega) (by omega) (fun c48 => ?_) (fun c48 => ?_)
      · refine qw_aload dX4_refusal_53 rfl ?_
        refine qw_getr fX4_87 dX4_refusal_55 (hS.b (i := i) (by omega)).1 rfl ?_
        refine qw_cvp [] (k_X6_secondsTogether (hS.b (i := i) (by omega)).2 (by rw [hcn]; omega) (by decide)) mX4_104 dX4_refusal_58 (hS.b (i := i) (by omega)).2.1 rfl rfl rfl (Nat.le_of_ble_eq_true rfl) (by omega) (by decide) rfl ?_
        rw [hbr.us]
        refine qw_iload_n 2 dX4_refusal_61 rfl rfl ?_
        refine qw_addN dX4_refusal_62 ?_
        refine qw_aload dX4_refusal_63 rfl ?_
        refine qw_geti fX4_108 dX4_refusal_65 (hS.b (i := i) (by omega)).1 rfl ?_
        rw [hbr.2.2.1]
        refine qw_icmp_leN 73 dX4_refusal_68 (by decide) (by omega) (by omega) (fun c68 => ?_) (fun c68 => ?_)
        · refine qw_aload_n 0 dX4_refusal_73 rfl rfl ?_
          refine qw_iload_n 1 dX4_refusal_74 rfl rfl ?_
          refine qw_aload dX4_refusal_75 rfl ?_
          refine qw_getr fX4_87 dX4_refusal_77 (hS.b (i := i) (by omega)).1 rfl ?_
          refine qw_cvp [_, _] (k_X4_placeFor hS hR hW hs hi) mX4_111 dX4_refusal_80 hS.1 rfl rfl rfl (Nat.le_of_ble_eq_true rfl) (by omega) (by decide) rfl ?_
          refine qw_if_ge 90 dX4_refusal_83 (by decide) (fun c83 => ?_) (fun c83 => ?_)
          · refine qw_iconst (nI 0) dX4_refusal_90 (by decide) ?_
            exact qw_ireturn rfl rfl dX4_refusal_91 ⟨by first | (rw [g_rs_0 c13 (hplv.mp c27) (by omega) (by omega) (hpfv.mp c83)]; done) | (rw [g_rs_5 c13 (hplv.mp c27) (by omega) (by omega) (Decidable.byContradiction fun q => c83 (hpfv.mpr q))]; done), rfl, rfl, rfl, rfl⟩
          · refine qw_iconst (nI 5) dX4_refusal_86 (by decide) ?_
            refine qw_goto 91 dX4_refusal_87 (by decide) ?_
            exact qw_ireturn rfl rfl dX4_refusal_91 ⟨by first | (rw [g_rs_0 c13 (hplv.mp c27) (by omega) (by omega) (hpfv.mp c83)]; done) | (rw [g_rs_5 c13 (hplv.mp c27) (by omega) (by omega) (Decidable.byContradiction fun q => c83 (hpfv.mpr q))]; done), rfl, rfl, rfl, rfl⟩
        · refine qw_iconst (nI 4) dX4_refusal_71 (by decide) ?_
          exact qw_ireturn rfl rfl dX4_refusal_72 ⟨by rw [g_rs_4 c13 (hplv.mp c27) (by omega) c68], rfl, rfl, rfl, rfl⟩
      · refine qw_iconst (nI 3) dX4_refusal_51 (by decide) ?_
        exact qw_ireturn rfl rfl dX4_refusal_52 ⟨by rw [g_rs_3 c13 (hplv.mp c27) c48], rfl, rfl, rfl, rfl⟩
    · refine qw_iconst (nI 2) dX4_refusal_30 (by decide) ?_
      exact qw_ireturn rfl rfl dX4_refusal_31 ⟨by rw [g_rs_2 c13 (Decidable.byContradiction fun q => c27 (hplv.mpr q))], rfl, rfl, rfl, rfl⟩
  · refine qw_iconst (nI 1) dX4_refusal_16 (by decide) ?_
    exact qw_ireturn rfl rfl dX4_refusal_17 ⟨by rw [g_rs_1 c13], rfl, rfl, rfl, rfl⟩
theorem k_X4_priceOf {M : lq_M} {a : Nat} {f : Nat → Option Nat} {σ g : Nat → Nat} {tk : Nat → Nat × Nat} {n : Nat} (hS : sh4 S a f σ) (hR : q_pl M a σ g tk n) (hW : g_wf g) (hF : q_fwf tk n) (hn : n ≤ 800) {s l i : Nat} (hs : s < g 1) (hl : l ≤ 60) (hi : i < g 0) : LM G YX4_priceOf 2 0 0 [.ref a, .int (nI s), .int (nI l), .int (nI i)] z S M N (lq_mi z S N (fun x M1 => x = nI (g_pc g tk n s l i) ∧ q_fq a M M1)) lq_no := by
  have h20 := hW.nb
  have h8 := hW.ns
  have hbr := hR.br hi
  have hbw := hW.br hi
  have hcn := hbr.2.2.2.2.2.1
  have hus := hW.us hi
  have hsa : g_sa g s ≤ g 0 := g_so_le hW _ _ _ (Nat.le_refl _)
  have hev : ∀ k, k < 5 → g_ev g s l i k ≤ 1000000 := by
    intro k hk
    rcases (show k = 0 ∨ k = 1 ∨ k = 2 ∨ k = 3 ∨ k = 4 by omega) with rfl | rfl | rfl | rfl | rfl
    · show g (10 + 30 * i) ≤ _; omega
    · show g (8 + 30 * i) ≤ _; omega
    · show l ≤ _; omega
    · show g_us g i ≤ _; omega
    · show g_sa g s ≤ _; omega
  refine LM.of (by decide) rfl [some (.ref a), some (.int (nI s)), some (.int (nI l)), some (.int (nI i)), none, none, none] rfl (Nat.le_of_ble_eq_true rfl) ?_
  refine qw_aload_n 0 dX4_priceOf_0 rfl rfl ?_
  refine qw_getr fX4_11 dX4_priceOf_1 hS.1 rfl ?_
  refine qw_iload_n 3 dX4_priceOf_4 rfl rfl ?_
  refine qw_aald dX4_priceOf_5 hS.l rfl rfl (by omega) (by omega) (hS.el (by omega)) ?_
  refine qw_astore dX4_priceOf_6 rfl (by decide) ?_
  refine qw_aload dX4_priceOf_8 rfl ?_
  refine qw_getr fX4_87 dX4_priceOf_10 (hS.b (i := i) (by omega)).1 rfl ?_
  refine qw_cvp [] (k_X6_secondsTogether (hS.b (i := i) (by omega)).2 (by rw [hcn]; omega) (by decide)) mX4_104 dX4_priceOf_13 (hS.b (i := i) (by omega)).2.1 rfl rfl rfl (Nat.le_of_ble_eq_true rfl) (by omega) (by decide) rfl ?_
  rw [hbr.us]
  refine qw_istore dX4_priceOf_16 rfl (by decide) ?_
  refine qw_aload_n 0 dX4_priceOf_18 rfl rfl ?_
  refine qw_getr fX4_31 dX4_priceOf_19 hS.1 rfl ?_
  refine qw_aload dX4_priceOf_22 rfl ?_
  refine qw_geti fX4_121 dX4_priceOf_24 (hS.b (i := i) (by omega)).1 rfl ?_
  rw [hbr.2.2.2.1]
  refine qw_aload dX4_priceOf_27 rfl ?_
  refine qw_geti fX4_73 dX4_priceOf_29 (hS.b (i := i) (by omega)).1 rfl ?_
  rw [hbr.2.1]
  refine qw_iload_n 2 dX4_priceOf_32 rfl rfl ?_
  refine qw_iload dX4_priceOf_33 rfl ?_
  refine qw_aload_n 0 dX4_priceOf_35 rfl rfl ?_
  refine qw_iload_n 1 dX4_priceOf_36 rfl rfl ?_
  refine qw_cvp [_] (k_X4_spotsOf hS hR hW (by omega)) mX4_124 dX4_priceOf_37 hS.1 rfl rfl rfl (Nat.le_of_ble_eq_true rfl) (by omega) (by decide) rfl ?_
  refine qw_cvi [_, _, _, _, _] (k_X2_evaluate (e := g_ev g s l i) hS.fm hn hF hev hR.fm.1 hR.fm.2) mX4_127 dX4_priceOf_40 hS.fm.1 rfl rfl rfl (Nat.le_of_ble_eq_true rfl) (by omega) (by decide) rfl (fun x1 M1 h1 => ?_)
  obtain ⟨hx1, hm1⟩ := h1
  rw [hx1]
  refine qw_istore dX4_priceOf_43 rfl (by decide) ?_
  refine qw_iconst (nI 0) dX4_priceOf_45 (by decide) ?_
  refine qw_ldc dX4_priceOf_46 kX4_131 ?_
  refine qw_iload dX4_priceOf_48 rfl ?_
  refine qw_min mmX4_132 dX4_priceOf_50 (Nat.le_of_ble_eq_true rfl) ?_
  refine qw_max mmX4_137 dX4_priceOf_53 (Nat.le_of_ble_eq_true rfl) ?_
  exact qw_ireturn rfl rfl dX4_priceOf_56 ⟨rfl, rfl, rfl, _, rfl, q_clampI (q_evn_in hev hF.1 n (Nat.le_refl _) 0 (by rw [hF.2]; decide)), fun b b1 b2 => hm1 b b1 b2⟩
theorem l_X4_cheapestBreak {M0 : lq_M} {a : Nat} {f : Nat → Option Nat} {σ g : Nat → Nat} {tk : Nat → Nat × Nat} {n : Nat} (hS : sh4 S a f σ) (hR : q_pl M0 a σ g tk n) (hW : g_wf g) (hF : q_fwf tk n) (hn : n ≤ 800) {s l : Nat} (hs : s < g 1) (hl : l ≤ 60) : ∀ (n9 i : Nat) (M : lq_M), i ≤ g 0 → g 0 - i < n9 → q_fq a M0 M → LW G YX4_cheapestBreak 4 0 0 (lq_mi z S N (fun x M1 => x = q_m1 (g_chp g tk n s l (g 0)).1 ∧ q_fq a M0 M1)) lq_no z S M N 8 [some (.ref a), some (.int (nI s)), some (.int (nI l)), some (.int (q_m1 (g_chp g tk n s l i).1)), some (.int (nI (g_chp g tk n s l i).2)), some (.int (nI i)), none] [] := by
  intro n9
  induction n9 with
  | zero => intro _ _ _ _ _; omega
  | succ n9 ih =>
    intro i M hi hn9 hq
    have h20 := hW.nb
    have hs20 : ∀ i, i < g 0 → σ i < 20 := fun i hi => hS.s (by omega)
    have hR1 : q_pl M a σ g tk n := hR.fq hs20 hq
    have hnb := hR1.nb
    have hle := g_chp_le g tk n s l i
    have hpr := g_chp_pr g tk n s l i
    have hm := q_m1_neg (k := (g_chp g tk n s l i).1) (by omega)
    refine qw_iload dX4_cheapestBreak_8 rfl ?_
    refine qw_aload_n 0 dX4_cheapestBreak_10 rfl rfl ?_
    refine qw_geti fX4_44 dX4_cheapestBreak_11 hS.1 rfl ?_
    rw [hnb]
    refine qw_icmp_geN 62 dX4_cheapestBreak_14 (by decide) (by omega) (by omega) (fun c14 => ?_) (fun c14 => ?_)
    · refine qw_iload_n 3 dX4_cheapestBreak_62 rfl rfl ?_
      exact qw_ireturn rfl rfl dX4_cheapestBreak_63 ⟨rfl, rfl, rfl, _, rfl, by rw [show i = g 0 by omega], hq⟩
    · refine qw_aload_n 0 dX4_cheapestBreak_17 rfl rfl ?_
      refine qw_iload_n 1 dX4_cheapestBreak_18 rfl rfl ?_
      refine qw_iload_n 2 dX4_cheapestBreak_19 rfl rfl ?_
      refine qw_iload dX4_cheapestBreak_20 rfl ?_
      refine qw_cvp [_, _, _] (k_X4_refusal hS hR1 hW hs hl (by omega)) mX4_140 dX4_cheapestBreak_22 hS.1 rfl rfl rfl (Nat.le_of_ble_eq_true rfl) (by omega) (by decide) rfl ?_
      have hrl : g_rs g s l i ≤ 5 := g_rs_le
      refine qw_if_neN 56 dX4_cheapestBreak_25 (by decide) (by omega) (fun c25 => ?_) (fun c25 => ?_)
      · refine qw_iincN 1 dX4_cheapestBreak_56 rfl (by decide) rfl (by decide) ?_
        refine qw_goto 8 dX4_cheapestBreak_59 (by decide) ?_
        have h := ih (i + 1) _ (by omega) (by omega) hq
        rw [g_chp, if_neg (fun q => c25 q.1)] at h
        exact qw_weak _ (by simp [lq_le]) h
      · refine qw_aload_n 0 dX4_cheapestBreak_28 rfl rfl ?_
        refine qw_iload_n 1 dX4_cheapestBreak_29 rfl rfl ?_
        refine qw_iload_n 2 dX4_cheapestBreak_30 rfl rfl ?_
        refine qw_iload dX4_cheapestBreak_31 rfl ?_
        refine qw_cvi [_, _, _] (k_X4_priceOf hS hR1 hW hF hn hs hl (by omega)) mX4_144 dX4_cheapestBreak_33 hS.1 rfl rfl rfl (Nat.le_of_ble_eq_true rfl) (by omega) (by decide) rfl (fun x1 M1 h1 => ?_)
        obtain ⟨hx1, hm1⟩ := h1
        subst hx1
        have hpcl := g_pc_le g tk n s l i
        refine qw_istore dX4_cheapestBreak_36 rfl (by decide) ?_
        refine qw_iload_n 3 dX4_cheapestBreak_38 rfl rfl ?_
        refine qw_if_lt 49 dX4_cheapestBreak_39 (by decide) (fun c39 => ?_) (fun c39 => ?_)
        · refine qw_iload dX4_cheapestBreak_49 rfl ?_
          refine qw_istore_n 3 dX4_cheapestBreak_51 rfl rfl (by decide) ?_
          refine qw_iload dX4_cheapestBreak_52 rfl ?_
          refine qw_istore dX4_cheapestBreak_54 rfl (by decide) ?_
          refine qw_iincN 1 dX4_cheapestBreak_56 rfl (by decide) rfl (by decide) ?_
          refine qw_goto 8 dX4_cheapestBreak_59 (by decide) ?_
          have h := ih (i + 1) _ (by omega) (by omega) (hq.tr hm1)
          rw [g_chp, if_pos ⟨c25, Or.inl (hm.mp c39)⟩] at h
          exact qw_weak _ (by simp [lq_le, q_m1]) h
        · refine qw_iload dX4_cheapestBreak_42 rfl ?_
          refine qw_iload dX4_cheapestBreak_44 rfl ?_
          refine qw_icmp_geN 56 dX4_cheapestBreak_46 (by decide) (by omega) (by omega) (fun c46 => ?_) (fun c46 => ?_)
          · refine qw_iincN 1 dX4_cheapestBreak_56 rfl (by decide) rfl (by decide) ?_
            refine qw_goto 8 dX4_cheapestBreak_59 (by decide) ?_
            have h := ih (i + 1) _ (by omega) (by omega) (hq.tr hm1)
            rw [g_chp, if_neg (fun q => by rcases q.2 with q | q; exact c39 (hm.mpr q); omega)] at h
            exact qw_weak _ (by simp [lq_le]) h
          · refine qw_iload dX4_cheapestBreak_49 rfl ?_
            refine qw_istore_n 3 dX4_cheapestBreak_51 rfl rfl (by decide) ?_
            refine qw_iload dX4_cheapestBreak_52 rfl ?_
            refine qw_istore dX4_cheapestBreak_54 rfl (by decide) ?_
            refine qw_iincN 1 dX4_cheapestBreak_56 rfl (by decide) rfl (by decide) ?_
            refine qw_goto 8 dX4_cheapestBreak_59 (by decide) ?_
            have h := ih (i + 1) _ (by omega) (by omega) (hq.tr hm1)
            rw [g_chp, if_pos ⟨c25, Or.inr c46⟩] at h
            exact qw_weak _ (by simp [lq_le, q_m1]) h
theorem k_X4_cheapestBreak {M : lq_M} {a : Nat} {f : Nat → Option Nat} {σ g : Nat → Nat} {tk : Nat → Nat × Nat} {n : Nat} (hS : sh4 S a f σ) (hR : q_pl M a σ g tk n) (hW : g_wf g) (hF : q_fwf tk n) (hn : n ≤ 800) {s l : Nat} (hs : s < g 1) (hl : l ≤ 60) : LM G YX4_cheapestBreak 4 0 0 [.ref a, .int (nI s), .int (nI l)] z S M N (lq_mi z S N (fun x M1 => x = q_m1 (g_chp g tk n s l (g 0)).1 ∧ q_fq a M M1)) lq_no := by
  refine LM.of (by decide) rfl [some (.ref a), some (.int (nI s)), some (.int (nI l)), none, none, none, none] rfl (Nat.le_of_ble_eq_true rfl) ?_
  refine qw_iconst (-1) dX4_cheapestBreak_0 (by decide) ?_
  refine qw_istore_n 3 dX4_cheapestBreak_1 rfl rfl (by decide) ?_
  refine qw_iconst (nI 0) dX4_cheapestBreak_2 (by decide) ?_
  refine qw_istore dX4_cheapestBreak_3 rfl (by decide) ?_
  refine qw_iconst (nI 0) dX4_cheapestBreak_5 (by decide) ?_
  refine qw_istore dX4_cheapestBreak_6 rfl (by decide) ?_
  exact l_X4_cheapestBreak hS hR hW hF hn hs hl (g 0 + 1) 0 M (Nat.zero_le _) (by omega) q_fq.rf
theorem l_X4_widestBreak {M : lq_M} {a : Nat} {f : Nat → Option Nat} {σ g : Nat → Nat} {tk : Nat → Nat × Nat} {n : Nat} (hS : sh4 S a f σ) (hR : q_pl M a σ g tk n) (hW : g_wf g) {s l : Nat} (hs : s < g 1) (hl : l ≤ 60) : ∀ (n9 i : Nat), i ≤ g 0 → g 0 - i < n9 → LW G YX4_widestBreak 4 0 0 (lq_pu z S M N (.int (q_m1 (g_wip g s l (g 0))))) lq_no z S M N 5 [some (.ref a), some (.int (nI s)), some (.int (nI l)), some (.int (q_m1 (g_wip g s l i))), some (.int (nI i)), none] [] := by
  intro n9
  induction n9 with
  | zero => intro _ _ _; omega
  | succ n9 ih =>
    intro i hi hn9
    have h20 := hW.nb
    have hnb := hR.nb
    have hle := g_wip_le g s l i
    have hm := q_m1_neg (k := g_wip g s l i) (by omega)
    refine qw_iload dX4_widestBreak_5 rfl ?_
    refine qw_aload_n 0 dX4_widestBreak_7 rfl rfl ?_
    refine qw_geti fX4_44 dX4_widestBreak_8 hS.1 rfl ?_
    rw [hnb]
    refine qw_icmp_geN 72 dX4_widestBreak_11 (by decide) (by omega) (by omega) (fun c11 => ?_) (fun c11 => ?_)
    · refine qw_iload_n 3 dX4_widestBreak_72 rfl rfl ?_
      exact qw_ireturn rfl rfl dX4_widestBreak_73 ⟨by rw [show i = g 0 by omega], rfl, rfl, rfl, rfl⟩
    · refine qw_iload_n 3 dX4_widestBreak_14 rfl rfl ?_
      refine qw_if_lt 40 dX4_widestBreak_15 (by decide) (fun c15 => ?_) (fun c15 => ?_)
      · have hwd : g_wip g s l i = 0 ∨ g (10 + 30 * (g_wip g s l i - 1)) < g (10 + 30 * i) := by first | exact Or.inl (hm.mp c15) | exact Or.inr (by rw [hba, hbi] at c37; exact c37)
        refine qw_iconst (nI 1) dX4_widestBreak_40 (by decide) ?_
        refine qw_goto 45 dX4_widestBreak_41 (by decide) ?_
        refine qw_istore dX4_widestBreak_45 rfl (by decide) ?_
        refine qw_iload dX4_widestBreak_47 rfl ?_
        refine qw_if_eqN 66 dX4_widestBreak_49 (by decide) (by omega) (fun c49 => absurd c49 (by decide)) (fun c49 => ?_)
        refine qw_aload_n 0 dX4_widestBreak_52 rfl rfl ?_
        refine qw_iload_n 1 dX4_widestBreak_53 rfl rfl ?_
        refine qw_iload_n 2 dX4_widestBreak_54 rfl rfl ?_
        refine qw_iload dX4_widestBreak_55 rfl ?_
        refine qw_cvp [_, _, _] (k_X4_refusal hS hR hW hs hl (by omega)) mX4_140 dX4_widestBreak_57 hS.1 rfl rfl rfl (Nat.le_of_ble_eq_true rfl) (by omega) (by decide) rfl ?_
        have hrl : g_rs g s l i ≤ 5 := g_rs_le
        refine qw_if_neN 66 dX4_widestBreak_60 (by decide) (by omega) (fun c60 => ?_) (fun c60 => ?_)
        · refine qw_iincN 1 dX4_widestBreak_66 rfl (by decide) rfl (by decide) ?_
          refine qw_goto 5 dX4_widestBreak_69 (by decide) ?_
          have h := ih (i + 1) (by omega) (by omega)
          rw [g_wip, if_neg (fun q => c60 q.2)] at h
          exact qw_weak _ (by first | (simp [lq_le]; done) | (simp [lq_le, q_m1, hk0]; done)) h
        · refine qw_iload dX4_widestBreak_63 rfl ?_
          refine qw_istore_n 3 dX4_widestBreak_65 rfl rfl (by decide) ?_
          refine qw_iincN 1 dX4_widestBreak_66 rfl (by decide) rfl (by decide) ?_
          refine qw_goto 5 dX4_widestBreak_69 (by decide) ?_
          have h := ih (i + 1) (by omega) (by omega)
          rw [g_wip, if_pos ⟨hwd, c60⟩] at h
          exact qw_weak _ (by first | (simp [lq_le, q_m1]; done) | (simp [lq_le, q_m1, hk0]; done)) h
      · have hk0 : g_wip g s l i ≠ 0 := fun q => c15 (hm.mpr q)
        have hba := (hR.br (i := g_wip g s l i - 1) (by omega)).2.2.2.1
        have hbi := (hR.br (i := i) (by omega)).2.2.2.1
        have hwa := (hW.br (i := g_wip g s l i - 1) (by omega)).2.2.2.1
        have hwi := (hW.br (i := i) (by omega)).2.2.2.1
        refine qw_aload_n 0 dX4_widestBreak_18 rfl rfl ?_
        refine qw_getr fX4_11 dX4_widestBreak_19 hS.1 rfl ?_
        refine qw_iload dX4_widestBreak_22 rfl ?_
        refine qw_aald dX4_widestBreak_24 hS.l rfl rfl (by omega) (by omega) (hS.el (by omega)) ?_
        refine qw_geti fX4_121 dX4_widestBreak_25 (hS.b (i := i) (by omega)).1 rfl ?_
        refine qw_aload_n 0 dX4_widestBreak_28 rfl rfl ?_
        refine qw_getr fX4_11 dX4_widestBreak_29 hS.1 rfl ?_
        refine qw_iload_n 3 dX4_widestBreak_32 rfl rfl ?_
        rw [show q_m1 (g_wip g s l i) = nI (g_wip g s l i - 1) from if_neg hk0]
        refine qw_aald dX4_widestBreak_33 hS.l rfl rfl (by omega) (by omega) (hS.el (by omega)) ?_
        refine qw_geti fX4_121 dX4_widestBreak_34 (hS.b (i := g_wip g s l i - 1) (by omega)).1 rfl ?_
        refine qw_icmp_leN 44 dX4_widestBreak_37 (by decide) (by omega) (by omega) (fun c37 => ?_) (fun c37 => ?_)
        · have hwd : ¬ (g_wip g s l i = 0 ∨ g (10 + 30 * (g_wip g s l i - 1)) < g (10 + 30 * i)) := fun q => by rcases q with q | q; exact c15 (hm.mpr q); rw [hba, hbi] at c37; omega
          refine qw_iconst (nI 0) dX4_widestBreak_44 (by decide) ?_
          refine qw_istore dX4_widestBreak_45 rfl (by decide) ?_
          refine qw_iload dX4_widestBreak_47 rfl ?_
          refine qw_if_eqN 66 dX4_widestBreak_49 (by decide) (by omega) (fun c49 => ?_) (fun c49 => absurd rfl c49)
          refine qw_iincN 1 dX4_widestBreak_66 rfl (by decide) rfl (by decide) ?_
          refine qw_goto 5 dX4_widestBreak_69 (by decide) ?_
          have h := ih (i + 1) (by omega) (by omega)
          rw [g_wip, if_neg (fun q => hwd q.1)] at h
          exact qw_weak _ (by first | (simp [lq_le]; done) | (simp [lq_le, q_m1, hk0]; done)) h
        · have hwd : g_wip g s l i = 0 ∨ g (10 + 30 * (g_wip g s l i - 1)) < g (10 + 30 * i) := by first | exact Or.inl (hm.mp c15) | exact Or.inr (by rw [hba, hbi] at c37; exact c37)
          refine qw_iconst (nI 1) dX4_widestBreak_40 (by decide) ?_
          refine qw_goto 45 dX4_widestBreak_41 (by decide) ?_
          refine qw_istore dX4_widestBreak_45 rfl (by decide) ?_
          refine qw_iload dX4_widestBreak_47 rfl ?_
          refine qw_if_eqN 66 dX4_widestBreak_49 (by decide) (by omega) (fun c49 => absurd c49 (by decide)) (fun c49 => ?_)
          refine qw_aload_n 0 dX4_widestBreak_52 rfl rfl ?_
          refine qw_iload_n 1 dX4_widestBreak_53 rfl rfl ?_
          refine qw_iload_n 2 dX4_widestBreak_54 rfl rfl ?_
          refine qw_iload dX4_widestBreak_55 rfl ?_
          refine qw_cvp [_, _, _] (k_X4_refusal hS hR hW hs hl (by omega)) mX4_140 dX4_widestBreak_57 hS.1 rfl rfl rfl (Nat.le_of_ble_eq_true rfl) (by omega) (by decide) rfl ?_
          have hrl : g_rs g s l i ≤ 5 := g_rs_le
          refine qw_if_neN 66 dX4_widestBreak_60 (by decide) (by omega) (fun c60 => ?_) (fun c60 => ?_)
          · refine qw_iincN 1 dX4_widestBreak_66 rfl (by decide) rfl (by decide) ?_
            refine qw_goto 5 dX4_widestBreak_69 (by decide) ?_
            have h := ih (i + 1) (by omega) (by omega)
            rw [g_wip, if_neg (fun q => c60 q.2)] at h
            exact qw_weak _ (by first | (simp [lq_le]; done) | (simp [lq_le, q_m1, hk0]; done)) h
          · refine qw_iload dX4_widestBreak_63 rfl ?_
            refine qw_istore_n 3 dX4_widestBreak_65 rfl rfl (by decide) ?_
            refine qw_iincN 1 dX4_widestBreak_66 rfl (by decide) rfl (by decide) ?_
            refine qw_goto 5 dX4_widestBreak_69 (by decide) ?_
            have h := ih (i + 1) (by omega) (by omega)
            rw [g_wip, if_pos ⟨hwd, c60⟩] at h
            exact qw_weak _ (by first | (simp [lq_le, q_m1]; done) | (simp [lq_le, q_m1, hk0]; done)) h
theorem k_X4_widestBreak {M : lq_M} {a : Nat} {f : Nat → Option Nat} {σ g : Nat → Nat} {tk : Nat → Nat × Nat} {n : Nat} (hS : sh4 S a f σ) (hR : q_pl M a σ g tk n) (hW : g_wf g) {s l : Nat} (hs : s < g 1) (hl : l ≤ 60) : LM G YX4_widestBreak 4 0 0 [.ref a, .int (nI s), .int (nI l)] z S M N (lq_pu z S M N (.int (q_m1 (g_wip g s l (g 0))))) lq_no := by
  refine LM.of (by decide) rfl [some (.ref a), some (.int (nI s)), some (.int (nI l)), none, none, none] rfl (Nat.le_of_ble_eq_true rfl) ?_
  refine qw_iconst (-1) dX4_widestBreak_0 (by decide) ?_
  refine qw_istore_n 3 dX4_widestBreak_1 rfl rfl (by decide) ?_
  refine qw_iconst (nI 0) dX4_widestBreak_2 (by decide) ?_
  refine qw_istore dX4_widestBreak_3 rfl (by decide) ?_
  exact l_X4_widestBreak hS hR hW hs hl (g 0 + 1) 0 (Nat.zero_le _) (by omega)
theorem l_X4_earliestOpen {M : lq_M} {a : Nat} {f : Nat → Option Nat} {σ g : Nat → Nat} {tk : Nat → Nat × Nat} {n : Nat} (hS : sh4 S a f σ) (hR : q_pl M a σ g tk n) (hW : g_wf g) : ∀ (n9 i : Nat), i ≤ g 0 → g 0 - i < n9 → (∀ j, j < i → g (11 + 30 * j) ≠ 0) → LW G YX4_earliestOpen 0 0 0 (lq_pu z S M N (.int (if g_eo g < g 0 then nI (g_eo g) else -1))) lq_no z S M N 2 [some (.ref a), some (.int (nI i))] [] := by
  intro n9
  induction n9 with
  | zero => intro _ _ _ _; omega
  | succ n9 ih =>
    intro i hi hn9 hno
    have h20 := hW.nb
    have hnb := hR.nb
    refine qw_iload_n 1 dX4_earliestOpen_2 rfl rfl ?_
    refine qw_aload_n 0 dX4_earliestOpen_3 rfl rfl ?_
    refine qw_geti fX4_44 dX4_earliestOpen_4 hS.1 rfl ?_
    rw [hnb]
    refine qw_icmp_geN 30 dX4_earliestOpen_7 (by decide) (by omega) (by omega) (fun c7 => ?_) (fun c7 => ?_)
    · refine qw_iconst (-1) dX4_earliestOpen_30 (by decide) ?_
      exact qw_ireturn rfl rfl dX4_earliestOpen_31 ⟨by rw [g_eo, q_fst_miss (fun j hj => hno j (by omega)), if_neg (by omega)], rfl, rfl, rfl, rfl⟩
    · have hbr := hR.br (i := i) (by omega)
      have hbw := hW.br (i := i) (by omega)
      refine qw_aload_n 0 dX4_earliestOpen_10 rfl rfl ?_
      refine qw_getr fX4_11 dX4_earliestOpen_11 hS.1 rfl ?_
      refine qw_iload_n 1 dX4_earliestOpen_14 rfl rfl ?_
      refine qw_aald dX4_earliestOpen_15 hS.l rfl rfl (by omega) (by omega) (hS.el (by omega)) ?_
      refine qw_geti fX4_94 dX4_earliestOpen_16 (hS.b (i := i) (by omega)).1 rfl ?_
      rw [hbr.2.2.2.2.1]
      refine qw_if_neN 24 dX4_earliestOpen_19 (by decide) (by omega) (fun c19 => ?_) (fun c19 => ?_)
      · refine qw_iincN 1 dX4_earliestOpen_24 rfl (by decide) rfl (by decide) ?_
        refine qw_goto 2 dX4_earliestOpen_27 (by decide) ?_
        exact ih (i + 1) (by omega) (by omega) (fun j hj => by
          rcases Nat.lt_or_ge j i with q | q
          · exact hno j q
          · rw [show j = i by omega]; exact c19)
      · refine qw_iload_n 1 dX4_earliestOpen_22 rfl rfl ?_
        exact qw_ireturn rfl rfl dX4_earliestOpen_23 ⟨by rw [g_eo, q_fst_hit (i := i) (by omega) c19 hno, if_pos (by omega)], rfl, rfl, rfl, rfl⟩
theorem k_X4_earliestOpen {M : lq_M} {a : Nat} {f : Nat → Option Nat} {σ g : Nat → Nat} {tk : Nat → Nat × Nat} {n : Nat} (hS : sh4 S a f σ) (hR : q_pl M a σ g tk n) (hW : g_wf g) : LM G YX4_earliestOpen 0 0 0 [.ref a] z S M N (lq_pu z S M N (.int (if g_eo g < g 0 then nI (g_eo g) else -1))) lq_no := by
  refine LM.of (by decide) rfl [some (.ref a), none] rfl (Nat.le_of_ble_eq_true rfl) ?_
  refine qw_iconst (nI 0) dX4_earliestOpen_0 (by decide) ?_
  refine qw_istore_n 1 dX4_earliestOpen_1 rfl rfl (by decide) ?_
  exact l_X4_earliestOpen hS hR hW (g 0 + 1) 0 (Nat.zero_le _) (by omega) (fun j hj => absurd hj (Nat.not_lt_zero j))
theorem l_X4_breakForOwed {M : lq_M} {a : Nat} {f : Nat → Option Nat} {σ g : Nat → Nat} {tk : Nat → Nat × Nat} {n : Nat} (hS : sh4 S a f σ) (hR : q_pl M a σ g tk n) (hW : g_wf g) {k : Nat} (hk : k < g 5) : ∀ (n9 i : Nat), i ≤ g 0 → g 0 - i < n9 → (∀ j, j < i → g_gdN g k j ≠ 1) → LW G YX4_breakForOwed 4 0 0 (lq_pu z S M N (.int (if g_gf g k < g 0 then nI (g_gf g k) else -1))) lq_no z S M N 2 [some (.ref a), some (.int (nI k)), some (.int (nI i)), none] [] := by
  intro n9
  induction n9 with
  | zero => intro _ _ _ _; omega
  | succ n9 ih =>
    intro i hi hn9 hno
    have h20 := hW.nb
    have hnb := hR.nb
    have h160 := hW.no
    have hok := hR.ow.2 k hk
    have how := hW.ow hk
    refine qw_iload_n 2 dX4_breakForOwed_2 rfl rfl ?_
    refine qw_aload_n 0 dX4_breakForOwed_3 rfl rfl ?_
    refine qw_geti fX4_44 dX4_breakForOwed_4 hS.1 rfl ?_
    rw [hnb]
    refine qw_icmp_geN 75 dX4_breakForOwed_7 (by decide) (by omega) (by omega) (fun c7 => ?_) (fun c7 => ?_)
    · refine qw_iconst (-1) dX4_breakForOwed_75 (by decide) ?_
      exact qw_ireturn rfl rfl dX4_breakForOwed_76 ⟨by rw [g_gf, q_fst_miss (fun j hj => hno j (by omega)), if_neg (by omega)], rfl, rfl, rfl, rfl⟩
    · have hbr := hR.br (i := i) (by omega)
      have hbw := hW.br (i := i) (by omega)
      refine qw_aload_n 0 dX4_breakForOwed_10 rfl rfl ?_
      refine qw_getr fX4_11 dX4_breakForOwed_11 hS.1 rfl ?_
      refine qw_iload_n 2 dX4_breakForOwed_14 rfl rfl ?_
      refine qw_aald dX4_breakForOwed_15 hS.l rfl rfl (by omega) (by omega) (hS.el (by omega)) ?_
      refine qw_geti fX4_121 dX4_breakForOwed_16 (hS.b (i := i) (by omega)).1 rfl ?_
      refine qw_aload_n 0 dX4_breakForOwed_19 rfl rfl ?_
      refine qw_getr fX4_40 dX4_breakForOwed_20 hS.1 rfl ?_
      refine qw_getr fX4_174 dX4_breakForOwed_23 hS.ow.1 rfl ?_
      refine qw_iload_n 1 dX4_breakForOwed_26 rfl rfl ?_
      refine qw_iald dX4_breakForOwed_27 hS.ow.2.2.2.2 (by omega) (by omega) ?_
      rw [hok.2.2.2, hbr.2.2.2.1]
      refine qw_icmp_ltN 35 dX4_breakForOwed_28 (by decide) (by omega) (by omega) (fun c28 => ?_) (fun c28 => ?_)
      · have hbad : ¬ (g (726 + 4 * k) ≤ g (10 + 30 * i) ∧ g_rs g (g (723 + 4 * k)) (g (724 + 4 * k)) i = 0) := fun q => by omega
        refine qw_iconst (nI 0) dX4_breakForOwed_35 (by decide) ?_
        refine qw_istore_n 3 dX4_breakForOwed_36 rfl rfl (by decide) ?_
        refine qw_iload_n 3 dX4_breakForOwed_37 rfl rfl ?_
        refine qw_if_eqN 69 dX4_breakForOwed_38 (by decide) (by omega) (fun c38 => ?_) (fun c38 => absurd rfl c38)
        refine qw_iincN 1 dX4_breakForOwed_69 rfl (by decide) rfl (by decide) ?_
        refine qw_goto 2 dX4_breakForOwed_72 (by decide) ?_
        exact qw_weak _ (by simp [lq_le]) (ih (i + 1) (by omega) (by omega) (fun j hj => by
          rcases Nat.lt_or_ge j i with q | q
          · exact hno j q
          · rw [show j = i by omega]; exact fun q9 => hbad (g_gdN_1.mp q9)))
      · refine qw_iconst (nI 1) dX4_breakForOwed_31 (by decide) ?_
        refine qw_goto 36 dX4_breakForOwed_32 (by decide) ?_
        refine qw_istore_n 3 dX4_breakForOwed_36 rfl rfl (by decide) ?_
        refine qw_iload_n 3 dX4_breakForOwed_37 rfl rfl ?_
        refine qw_if_eqN 69 dX4_breakForOwed_38 (by decide) (by omega) (fun c38 => absurd c38 (by decide)) (fun c38 => ?_)
        refine qw_aload_n 0 dX4_breakForOwed_41 rfl rfl ?_
        refine qw_aload_n 0 dX4_breakForOwed_42 rfl rfl ?_
        refine qw_getr fX4_40 dX4_breakForOwed_43 hS.1 rfl ?_
        refine qw_getr fX4_115 dX4_breakForOwed_46 hS.ow.1 rfl ?_
        refine qw_iload_n 1 dX4_breakForOwed_49 rfl rfl ?_
        refine qw_iald dX4_breakForOwed_50 hS.ow.2.1 (by omega) (by omega) ?_
        refine qw_aload_n 0 dX4_breakForOwed_51 rfl rfl ?_
        refine qw_getr fX4_40 dX4_breakForOwed_52 hS.1 rfl ?_
        refine qw_getr fX4_177 dX4_breakForOwed_55 hS.ow.1 rfl ?_
        refine qw_iload_n 1 dX4_breakForOwed_58 rfl rfl ?_
        refine qw_iald dX4_breakForOwed_59 hS.ow.2.2.1 (by omega) (by omega) ?_
        refine qw_iload_n 2 dX4_breakForOwed_60 rfl rfl ?_
        rw [hok.1, hok.2.1]
        refine qw_cvp [_, _, _] (k_X4_refusal hS hR hW how.1 how.2.1 (by omega)) mX4_140 dX4_breakForOwed_61 hS.1 rfl rfl rfl (Nat.le_of_ble_eq_true rfl) (by omega) (by decide) rfl ?_
        have hrl : g_rs g (g (723 + 4 * k)) (g (724 + 4 * k)) i ≤ 5 := g_rs_le
        refine qw_if_neN 69 dX4_breakForOwed_64 (by decide) (by omega) (fun c64 => ?_) (fun c64 => ?_)
        · have hbad : ¬ (g (726 + 4 * k) ≤ g (10 + 30 * i) ∧ g_rs g (g (723 + 4 * k)) (g (724 + 4 * k)) i = 0) := fun q => c64 q.2
          refine qw_iincN 1 dX4_breakForOwed_69 rfl (by decide) rfl (by decide) ?_
          refine qw_goto 2 dX4_breakForOwed_72 (by decide) ?_
          exact qw_weak _ (by simp [lq_le]) (ih (i + 1) (by omega) (by omega) (fun j hj => by
            rcases Nat.lt_or_ge j i with q | q
            · exact hno j q
            · rw [show j = i by omega]; exact fun q9 => hbad (g_gdN_1.mp q9)))
        · refine qw_iload_n 2 dX4_breakForOwed_67 rfl rfl ?_
          exact qw_ireturn rfl rfl dX4_breakForOwed_68 ⟨by rw [g_gf, q_fst_hit (i := i) (by omega) (g_gdN_1.mpr ⟨by omega, c64⟩) hno, if_pos (by omega)], rfl, rfl, rfl, rfl⟩
theorem k_X4_breakForOwed {M : lq_M} {a : Nat} {f : Nat → Option Nat} {σ g : Nat → Nat} {tk : Nat → Nat × Nat} {n : Nat} (hS : sh4 S a f σ) (hR : q_pl M a σ g tk n) (hW : g_wf g) {k : Nat} (hk : k < g 5) : LM G YX4_breakForOwed 4 0 0 [.ref a, .int (nI k)] z S M N (lq_pu z S M N (.int (if g_gf g k < g 0 then nI (g_gf g k) else -1))) lq_no := by
  refine LM.of (by decide) rfl [some (.ref a), some (.int (nI k)), none, none] rfl (Nat.le_of_ble_eq_true rfl) ?_
  refine qw_iconst (nI 0) dX4_breakForOwed_0 (by decide) ?_
  refine qw_istore_n 2 dX4_breakForOwed_1 rfl rfl (by decide) ?_
  exact l_X4_breakForOwed hS hR hW hk (g 0 + 1) 0 (Nat.zero_le _) (by omega) (fun j hj => absurd hj (Nat.not_lt_zero j))
theorem k_X4_canTakeOut {M : lq_M} {a : Nat} {f : Nat → Option Nat} {σ g : Nat → Nat} {tk : Nat → Nat × Nat} {n : Nat} (hS : sh4 S a f σ) (hR : q_pl M a σ g tk n) (hW : g_wf g) {i p : Nat} (hi : i < g 0) (hp : p < g (12 + 30 * i)) : LM G YX4_canTakeOut 2 0 0 [.ref a, .int (nI i), .int (nI p)] z S M N (lq_pu z S M N (.int (nI (g_can g i p)))) lq_no := by
  have h20 := hW.nb
  have h8 := hW.ns
  have hbr := hR.br hi
  have hbw := hW.br hi
  have hcn := hbr.2.2.2.2.2.1
  refine LM.of (by decide) rfl [some (.ref a), some (.int (nI i)), some (.int (nI p)), none, none] rfl (Nat.le_of_ble_eq_true rfl) ?_
  refine qw_aload_n 0 dX4_canTakeOut_0 rfl rfl ?_
  refine qw_getr fX4_11 dX4_canTakeOut_1 hS.1 rfl ?_
  refine qw_iload_n 1 dX4_canTakeOut_4 rfl rfl ?_
  refine qw_aald dX4_canTakeOut_5 hS.l rfl rfl (by omega) (by omega) (hS.el (by omega)) ?_
  refine qw_getr fX4_87 dX4_canTakeOut_6 (hS.b (i := i) (by omega)).1 rfl ?_
  refine qw_astore_n 3 dX4_canTakeOut_9 rfl rfl (by decide) ?_
  refine qw_aload_n 0 dX4_canTakeOut_10 rfl rfl ?_
  refine qw_getr fX4_11 dX4_canTakeOut_11 hS.1 rfl ?_
  refine qw_iload_n 1 dX4_canTakeOut_14 rfl rfl ?_
  refine qw_aald dX4_canTakeOut_15 hS.l rfl rfl (by omega) (by omega) (hS.el (by omega)) ?_
  refine qw_geti fX4_94 dX4_canTakeOut_16 (hS.b (i := i) (by omega)).1 rfl ?_
  rw [hbr.2.2.2.2.1]
  refine qw_if_eqN 24 dX4_canTakeOut_19 (by decide) (by omega) (fun c19 => ?_) (fun c19 => ?_)
  · refine qw_iload_n 2 dX4_canTakeOut_24 rfl rfl ?_
    refine qw_if_leN 42 dX4_canTakeOut_25 (by decide) (by omega) (fun c25 => ?_) (fun c25 => ?_)
    · refine qw_iconst (nI 0) dX4_canTakeOut_42 (by decide) ?_
      refine qw_istore dX4_canTakeOut_43 rfl (by decide) ?_
      refine qw_iload dX4_canTakeOut_45 rfl ?_
      refine qw_if_eqN 73 dX4_canTakeOut_47 (by decide) (by omega) (fun c47 => ?_) (fun c47 => absurd rfl c47)
      refine qw_iconst (nI 1) dX4_canTakeOut_73 (by decide) ?_
      refine qw_goto 78 dX4_canTakeOut_74 (by decide) ?_
      exact qw_ireturn rfl (by decide) dX4_canTakeOut_78 ⟨by first | (rw [g_can, if_pos ⟨by omega, by first | exact Or.inl (by omega) | exact Or.inr (Or.inl (by omega)) | exact Or.inr (Or.inr (by omega))⟩]; done) | (rw [g_can, if_neg (fun q => by have q1 := q.1; rcases q.2 with q | q | q <;> omega)]; done), rfl, rfl, rfl, rfl⟩
    · refine qw_iload_n 2 dX4_canTakeOut_28 rfl rfl ?_
      refine qw_aload_n 3 dX4_canTakeOut_29 rfl rfl ?_
      refine qw_geti fX4_54 dX4_canTakeOut_30 (hS.b (i := i) (by omega)).2.1 rfl ?_
      rw [hcn]
      refine qw_iconst (nI 1) dX4_canTakeOut_33 (by decide) ?_
      refine qw_subN (by omega) dX4_canTakeOut_34 ?_
      refine qw_icmp_geN 42 dX4_canTakeOut_35 (by decide) (by omega) (by omega) (fun c35 => ?_) (fun c35 => ?_)
      · refine qw_iconst (nI 0) dX4_canTakeOut_42 (by decide) ?_
        refine qw_istore dX4_canTakeOut_43 rfl (by decide) ?_
        refine qw_iload dX4_canTakeOut_45 rfl ?_
        refine qw_if_eqN 73 dX4_canTakeOut_47 (by decide) (by omega) (fun c47 => ?_) (fun c47 => absurd rfl c47)
        refine qw_iconst (nI 1) dX4_canTakeOut_73 (by decide) ?_
        refine qw_goto 78 dX4_canTakeOut_74 (by decide) ?_
        exact qw_ireturn rfl (by decide) dX4_canTakeOut_78 ⟨by first | (rw [g_can, if_pos ⟨by omega, by first | exact Or.inl (by omega) | exact Or.inr (Or.inl (by omega)) | exact Or.inr (Or.inr (by omega))⟩]; done) | (rw [g_can, if_neg (fun q => by have q1 := q.1; rcases q.2 with q | q | q <;> omega)]; done), rfl, rfl, rfl, rfl⟩
      · refine qw_iconst (nI 1) dX4_canTakeOut_38 (by decide) ?_
        refine qw_goto 43 dX4_canTakeOut_39 (by decide) ?_
        refine qw_istore dX4_canTakeOut_43 rfl (by decide) ?_
        refine qw_iload dX4_canTakeOut_45 rfl ?_
        refine qw_if_eqN 73 dX4_canTakeOut_47 (by decide) (by omega) (fun c47 => absurd c47 (by decide)) (fun c47 => ?_)
        have hm := (hbr.2.2.2.2.2.2 (p - 1) (by omega)).1
        have hp1 := (hbr.2.2.2.2.2.2 (p + 1) (by omega)).1
        have wm := (hW.sp hi (p := p - 1) (by omega)).1
        have wp := (hW.sp hi (p := p + 1) (by omega)).1
        have hcl := (hW.cl (s := g (13 + 30 * i + 3 * (p - 1))) (t := g (13 + 30 * i + 3 * (p + 1))) (by omega) (by omega)).1
        refine qw_aload_n 0 dX4_canTakeOut_50 rfl rfl ?_
        refine qw_aload_n 3 dX4_canTakeOut_51 rfl rfl ?_
        refine qw_getr fX4_115 dX4_canTakeOut_52 (hS.b (i := i) (by omega)).2.1 rfl ?_
        refine qw_iload_n 2 dX4_canTakeOut_55 rfl rfl ?_
        refine qw_iconst (nI 1) dX4_canTakeOut_56 (by decide) ?_
        refine qw_subN (by omega) dX4_canTakeOut_57 ?_
        refine qw_iald dX4_canTakeOut_58 (hS.b (i := i) (by omega)).2.2.1 (by omega) (by omega) ?_
        refine qw_aload_n 3 dX4_canTakeOut_59 rfl rfl ?_
        refine qw_getr fX4_115 dX4_canTakeOut_60 (hS.b (i := i) (by omega)).2.1 rfl ?_
        refine qw_iload_n 2 dX4_canTakeOut_63 rfl rfl ?_
        refine qw_iconst (nI 1) dX4_canTakeOut_64 (by decide) ?_
        refine qw_addN dX4_canTakeOut_65 ?_
        refine qw_iald dX4_canTakeOut_66 (hS.b (i := i) (by omega)).2.2.1 (by omega) (by omega) ?_
        rw [hm, hp1]
        refine qw_cvp [_, _] (k_X4_clash hS hR hW wm wp) mX4_118 dX4_canTakeOut_67 hS.1 rfl rfl rfl (Nat.le_of_ble_eq_true rfl) (by omega) (by decide) rfl ?_
        refine qw_if_neN 77 dX4_canTakeOut_70 (by decide) (by omega) (fun c70 => ?_) (fun c70 => ?_)
        · refine qw_iconst (nI 0) dX4_canTakeOut_77 (by decide) ?_
          exact qw_ireturn rfl (by decide) dX4_canTakeOut_78 ⟨by first | (rw [g_can, if_pos ⟨by omega, by first | exact Or.inl (by omega) | exact Or.inr (Or.inl (by omega)) | exact Or.inr (Or.inr (by omega))⟩]; done) | (rw [g_can, if_neg (fun q => by have q1 := q.1; rcases q.2 with q | q | q <;> omega)]; done), rfl, rfl, rfl, rfl⟩
        · refine qw_iconst (nI 1) dX4_canTakeOut_73 (by decide) ?_
          refine qw_goto 78 dX4_canTakeOut_74 (by decide) ?_
          exact qw_ireturn rfl (by decide) dX4_canTakeOut_78 ⟨by first | (rw [g_can, if_pos ⟨by omega, by first | exact Or.inl (by omega) | exact Or.inr (Or.inl (by omega)) | exact Or.inr (Or.inr (by omega))⟩]; done) | (rw [g_can, if_neg (fun q => by have q1 := q.1; rcases q.2 with q | q | q <;> omega)]; done), rfl, rfl, rfl, rfl⟩
  · refine qw_iconst (nI 0) dX4_canTakeOut_22 (by decide) ?_
    exact qw_ireturn rfl (by decide) dX4_canTakeOut_23 ⟨by first | (rw [g_can, if_pos ⟨by omega, by first | exact Or.inl (by omega) | exact Or.inr (Or.inl (by omega)) | exact Or.inr (Or.inr (by omega))⟩]; done) | (rw [g_can, if_neg (fun q => by have q1 := q.1; rcases q.2 with q | q | q <;> omega)]; done), rfl, rfl, rfl, rfl⟩
end PR2
