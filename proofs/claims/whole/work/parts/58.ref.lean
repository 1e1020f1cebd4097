/-! THE REFERENCE: arrangements, arranged, bookAnyhow -/
theorem g_clr_x : True := trivial
def q_bs (x : Int32) : Nat → Int32
  | 0 => nI 0
  | k + 1 => q_bs x k + ((x >>> (nI k &&& 31)) &&& nI 1)
theorem q_bs_0 : ∀ s : Fin 256, q_bs (nI s.1) 8 = nI (q_pc s.1) := by decide +kernel
theorem q_bs_n {s : Nat} (h : s < 256) : q_bs (nI s) 8 = nI (q_pc s) := q_bs_0 ⟨s, h⟩
section R10
variable {G : lq_G} {z : Nat} {S : lq_S} {M : lq_M} {N : lq_N} {m : Nat} {fh fo : Nat → Option Nat}
theorem k_X9_arrangements (h9 : sh9 S m fh fo) (hW : g_wf (M (m + 2))) {i : Int32} : LM G YX9_arrangements 2 0 0 [.ref m, .int i] z S M N (lq_mi z S N (fun x M2 => q_rpw m M M2 (∃ k, k < 2 ^ M (m + 2) 1 ∧ i = nI k ∧ x = nI (g_co (M (m + 2)) k)) (fun e => e = 1 ∧ ¬ q_ix i (2 ^ M (m + 2) 1)))) lq_no := by
  refine LM.of (by decide) rfl [some (.ref m), some (.int i)] rfl (Nat.le_of_ble_eq_true rfl) ?_
  refine qw_aload_n 0 dX9_arrangements_0 rfl rfl ?_
  refine qw_iconst (nI 0) dX9_arrangements_1 (by decide) ?_
  refine qw_puti fX9_41 dX9_arrangements_2 h9.1 rfl ?_
  have hM0 := lq_up_s M m 0 0
  have hMd := lq_up_n M (a := m) (b := m + 2) 0 0 (by omega)
  have hMu := fun e => lq_up_up M m 0 0 e
  have hMr := fun b (hb : b ≠ m) => lq_up_n M (a := m) (b := b) 0 0 hb
  have hMm := fun j (hj : j ≠ 0) => lq_up_c M (a := m) (k := 0) (j := j) 0 hj
  revert hM0 hMd hMu hMr hMm
  generalize hM1 : lq_up M m 0 0 = M1
  intro h0 hMd hMu hMr hMm
  have hW1 : g_wf (M1 (m + 2)) := by rw [hMd]; exact hW
  have h20 := hW1.nb
  have h8 := hW1.ns
  have h160 := hW1.no
  refine qw_aload_n 0 dX9_arrangements_5 rfl rfl ?_
  refine qw_iload_n 1 dX9_arrangements_6 rfl rfl ?_
  refine qw_cvi [_] (k_X9_noSet h9 h0 (by omega)) mX9_250 dX9_arrangements_7 h9.1 rfl rfl rfl (Nat.le_of_ble_eq_true rfl) (by omega) (by decide) rfl (fun x1 M2 h1 => ?_)
  rcases h1 with ⟨v1, rfl, hz⟩ | ⟨v1, rfl, hz⟩ <;> rw [hz]
  · refine qw_if_eqN 15 dX9_arrangements_10 (by decide) (by omega) (fun c10 => ?_) (fun c10 => absurd rfl c10)
    obtain ⟨k, hk, rfl⟩ := v1
    have hp2 : 2 ^ M1 (m + 2) 1 ≤ 256 := by have := Nat.pow_le_pow_right (n := 2) (by decide) h8; exact this
    refine qw_aload_n 0 dX9_arrangements_15 rfl rfl ?_
    refine qw_cvv [] (k_X9_layOrders h9 hW1 rfl) mX9_253 dX9_arrangements_16 h9.1 rfl rfl rfl (Nat.le_of_ble_eq_true rfl) (by omega) (by decide) rfl (fun M3 h3 => ?_)
    refine qw_aload_n 0 dX9_arrangements_19 rfl rfl ?_
    refine qw_iload_n 1 dX9_arrangements_20 rfl rfl ?_
    refine qw_cvp [_] (k_X9_countOrders h9 (by omega) h3.1) mX9_256 dX9_arrangements_21 h9.1 rfl rfl rfl (Nat.le_of_ble_eq_true rfl) (by omega) (by decide) rfl ?_
    exact qw_ireturn rfl rfl dX9_arrangements_24 ⟨rfl, rfl, rfl, _, rfl, Or.inl ⟨by rw [← hMd]; exact ⟨k, hk, rfl, rfl⟩, by rw [h3.2 m (by omega)]; exact h0, fun j hj => by rw [h3.2 m (by omega)]; exact hMm j hj, fun b hb hb2 => by rw [h3.2 b (by omega)]; exact hMr b hb⟩⟩
  · refine qw_if_eqN 15 dX9_arrangements_10 (by decide) (by omega) (fun c10 => absurd c10 (by decide)) (fun c10 => ?_)
    refine qw_iconst (nI 0) dX9_arrangements_13 (by decide) ?_
    exact qw_ireturn rfl rfl dX9_arrangements_14 ⟨rfl, rfl, rfl, _, rfl, Or.inr ⟨1, by rw [← hMd]; exact ⟨rfl, v1⟩, hMu 1⟩⟩
theorem l_X9_arranged (h9 : sh9 S m fh fo) {x p : Int32} {Q : lq_P} (kk : LW G YX9_arranged 2 0 0 Q lq_no z S M N 32 [some (.ref m), some (.int x), some (.int p), some (.int (q_bs x 8)), none] []) : ∀ (n9 k : Nat), k ≤ 8 → 8 - k < n9 → LW G YX9_arranged 2 0 0 Q lq_no z S M N 10 [some (.ref m), some (.int x), some (.int p), some (.int (q_bs x k)), some (.int (nI k))] [] := by
  intro n9
  induction n9 with
  | zero => intro _ _ _; omega
  | succ n9 ih =>
    intro k hk hn9
    refine qw_iload dX9_arranged_10 rfl ?_
    refine qw_bipush (nI 8) dX9_arranged_12 (by decide) ?_
    refine qw_icmp_geN 32 dX9_arranged_14 (by decide) (by omega) (by omega) (fun c14 => ?_) (fun c14 => ?_)
    · rw [show k = 8 by omega]
      exact qw_weak _ (by simp [lq_le]) kk
    · refine qw_iload_n 3 dX9_arranged_17 rfl rfl ?_
      refine qw_iload_n 1 dX9_arranged_18 rfl rfl ?_
      refine qw_iload dX9_arranged_19 rfl ?_
      refine qw_ishr dX9_arranged_21 ?_
      refine qw_iconst (nI 1) dX9_arranged_22 (by decide) ?_
      refine qw_iand dX9_arranged_23 ?_
      refine qw_iadd dX9_arranged_24 ?_
      refine qw_istore_n 3 dX9_arranged_25 rfl rfl (by decide) ?_
      refine qw_iincN 1 dX9_arranged_26 rfl (by decide) rfl (by decide) ?_
      refine qw_goto 10 dX9_arranged_29 (by decide) ?_
      exact ih (k + 1) (by omega) (by omega)
theorem k_X9_arranged (h9 : sh9 S m fh fo) (hW : g_wf (M (m + 2))) {i p : Int32} : LM G YX9_arranged 2 0 0 [.ref m, .int i, .int p] z S M N (lq_mi z S N (fun x M2 => q_rpw m M M2 (∃ k q, k < 2 ^ M (m + 2) 1 ∧ q < q_pc k ∧ i = nI k ∧ p = nI q ∧ x = if g_co (M (m + 2)) k = 0 then -1 else nI (g_fs (M (m + 2)) k (q + 1)).2) (fun e => (e = 1 ∧ ¬ q_ix i (2 ^ M (m + 2) 1)) ∨ (e = 2 ∧ ∃ k, k < 2 ^ M (m + 2) 1 ∧ i = nI k ∧ ¬ q_ix p (q_pc k))))) lq_no := by
  refine LM.of (by decide) rfl [some (.ref m), some (.int i), some (.int p), none, none] rfl (Nat.le_of_ble_eq_true rfl) ?_
  refine qw_aload_n 0 dX9_arranged_0 rfl rfl ?_
  refine qw_iconst (nI 0) dX9_arranged_1 (by decide) ?_
  refine qw_puti fX9_41 dX9_arranged_2 h9.1 rfl ?_
  have hM0 := lq_up_s M m 0 0
  have hMd := lq_up_n M (a := m) (b := m + 2) 0 0 (by omega)
  have hMu := fun e => lq_up_up M m 0 0 e
  have hMr := fun b (hb : b ≠ m) => lq_up_n M (a := m) (b := b) 0 0 hb
  have hMm := fun j (hj : j ≠ 0) => lq_up_c M (a := m) (k := 0) (j := j) 0 hj
  revert hM0 hMd hMu hMr hMm
  generalize hM1 : lq_up M m 0 0 = M1
  intro h0 hMd hMu hMr hMm
  have hW1 : g_wf (M1 (m + 2)) := by rw [hMd]; exact hW
  have h20 := hW1.nb
  have h8 := hW1.ns
  have h160 := hW1.no
  refine qw_iconst (nI 0) dX9_arranged_5 (by decide) ?_
  refine qw_istore_n 3 dX9_arranged_6 rfl rfl (by decide) ?_
  refine qw_iconst (nI 0) dX9_arranged_7 (by decide) ?_
  refine qw_istore dX9_arranged_8 rfl (by decide) ?_
  refine l_X9_arranged h9 ?_ 9 0 (by decide) (by decide)
  refine qw_aload_n 0 dX9_arranged_32 rfl rfl ?_
  refine qw_iload_n 1 dX9_arranged_33 rfl rfl ?_
  refine qw_cvi [_] (k_X9_noSet h9 h0 (by omega)) mX9_250 dX9_arranged_34 h9.1 rfl rfl rfl (Nat.le_of_ble_eq_true rfl) (by omega) (by decide) rfl (fun x1 M2 h1 => ?_)
  rcases h1 with ⟨v1, rfl, hz⟩ | ⟨v1, rfl, hz⟩ <;> rw [hz]
  · refine qw_if_neN 64 dX9_arranged_37 (by decide) (by omega) (fun c37 => absurd rfl c37) (fun c37 => ?_)
    obtain ⟨k, hk, rfl⟩ := v1
    have hp2 : 2 ^ M1 (m + 2) 1 ≤ 256 := by have := Nat.pow_le_pow_right (n := 2) (by decide) h8; exact this
    have hpc8 : q_pc k ≤ 8 := q_pc8 ⟨k, by omega⟩
    rw [q_bs_n (by omega)]
    refine qw_aload_n 0 dX9_arranged_40 rfl rfl ?_
    refine qw_iload_n 2 dX9_arranged_41 rfl rfl ?_
    refine qw_iconst (nI 0) dX9_arranged_42 (by decide) ?_
    refine qw_iload_n 3 dX9_arranged_43 rfl rfl ?_
    refine qw_iconst (nI 1) dX9_arranged_44 (by decide) ?_
    refine qw_isub dX9_arranged_45 ?_
    refine qw_csp [_, _, _] (k_X9_in) mX9_66 dX9_arranged_46 rfl rfl (Nat.le_of_ble_eq_true rfl) (by omega) (by decide) rfl ?_
    rw [q_inix (by omega)]
    refine qw_if_neN 56 dX9_arranged_49 (by decide) (Nat.lt_of_le_of_lt q_b_le (by decide)) (fun c49 => ?_) (fun c49 => ?_)
    · refine qw_iconst (nI 0) dX9_arranged_56 (by decide) ?_
      refine qw_iconst (nI 2) dX9_arranged_57 (by decide) ?_
      refine qw_cvi [_, _] (k_X9_fails h9 (by decide) (by decide) h0) mX9_166 dX9_arranged_58 h9.1 rfl rfl rfl (Nat.le_of_ble_eq_true rfl) (by omega) (by decide) rfl (fun x1 M2 h1 => ?_)
      obtain ⟨-, rfl, hz⟩ := h1.resolve_right (fun q => absurd q.1 (by decide))
      rw [hz]
      refine qw_if_eqN 66 dX9_arranged_61 (by decide) (by omega) (fun c61 => ?_) (fun c61 => absurd rfl c61)
      obtain ⟨q, hq, rfl⟩ := q_b_ne c49
      refine qw_aload_n 0 dX9_arranged_66 rfl rfl ?_
      refine qw_cvv [] (k_X9_layOrders h9 hW1 rfl) mX9_253 dX9_arranged_67 h9.1 rfl rfl rfl (Nat.le_of_ble_eq_true rfl) (by omega) (by decide) rfl (fun M3 h3 => ?_)
      refine qw_aload_n 0 dX9_arranged_70 rfl rfl ?_
      refine qw_iload_n 1 dX9_arranged_71 rfl rfl ?_
      refine qw_cvp [_] (k_X9_countOrders h9 (by omega) h3.1) mX9_256 dX9_arranged_72 h9.1 rfl rfl rfl (Nat.le_of_ble_eq_true rfl) (by omega) (by decide) rfl ?_
      have hle9 : g_co (M1 (m + 2)) k < 2 ^ 31 := by
        unfold g_co
        split
        · decide
        · exact Nat.lt_of_le_of_lt (q_sm_le (c := 16777216) 8 (fun j _ => g_or_le _ _ _)) (by decide)
      refine qw_if_neN 80 dX9_arranged_75 (by decide) hle9 (fun c75 => ?_) (fun c75 => ?_)
      · refine qw_aload_n 0 dX9_arranged_80 rfl rfl ?_
        refine qw_iload_n 1 dX9_arranged_81 rfl rfl ?_
        refine qw_cvv [_] (k_X9_layFirst h9 hW1 (by omega) (fun q9 => (g_co_more q9).mp c75) ⟨by rw [h3.2 (m + 2) (by omega)]; exact hW1, fun _ _ _ _ => by rw [h3.2 (m + 2) (by omega)]⟩ h3.1) mX9_259 dX9_arranged_82 h9.1 rfl rfl rfl (Nat.le_of_ble_eq_true rfl) (by omega) (by decide) rfl (fun M4 h4 => ?_)
        refine qw_aload_n 0 dX9_arranged_85 rfl rfl ?_
        refine qw_getr fX9_35 dX9_arranged_86 h9.1 rfl ?_
        refine qw_iload_n 2 dX9_arranged_89 rfl rfl ?_
        refine qw_iald dX9_arranged_90 h9.rw (by omega) (by omega) ?_
        rw [h4.1 q hq]
        exact qw_ireturn rfl rfl dX9_arranged_91 ⟨rfl, rfl, rfl, _, rfl, Or.inl ⟨by rw [← hMd]; exact ⟨k, q, hk, hq, rfl, rfl, by rw [if_neg c75]⟩, by rw [h4.2 m (by omega), h3.2 m (by omega)]; exact h0, fun j hj => by rw [h4.2 m (by omega), h3.2 m (by omega)]; exact hMm j hj, fun b hb hb2 => by rw [h4.2 b (by omega), h3.2 b (by omega)]; exact hMr b hb⟩⟩
      · refine qw_iconst (-1) dX9_arranged_78 (by decide) ?_
        exact qw_ireturn rfl rfl dX9_arranged_79 ⟨rfl, rfl, rfl, _, rfl, Or.inl ⟨by rw [← hMd]; exact ⟨k, q, hk, hq, rfl, rfl, by rw [if_pos c75]⟩, by rw [h3.2 m (by omega)]; exact h0, fun j hj => by rw [h3.2 m (by omega)]; exact hMm j hj, fun b hb hb2 => by rw [h3.2 b (by omega)]; exact hMr b hb⟩⟩
    · refine qw_iconst (nI 1) dX9_arranged_52 (by decide) ?_
      refine qw_goto 57 dX9_arranged_53 (by decide) ?_
      refine qw_iconst (nI 2) dX9_arranged_57 (by decide) ?_
      refine qw_cvi [_, _] (k_X9_fails h9 (by decide) (by decide) h0) mX9_166 dX9_arranged_58 h9.1 rfl rfl rfl (Nat.le_of_ble_eq_true rfl) (by omega) (by decide) rfl (fun x1 M2 h1 => ?_)
      obtain ⟨-, rfl, hz⟩ := h1.resolve_left (fun q => absurd q.1 (by decide))
      rw [hz]
      refine qw_if_eqN 66 dX9_arranged_61 (by decide) (by omega) (fun c61 => absurd c61 (by decide)) (fun c61 => ?_)
      refine qw_iconst (nI 0) dX9_arranged_64 (by decide) ?_
      exact qw_ireturn rfl rfl dX9_arranged_65 ⟨rfl, rfl, rfl, _, rfl, Or.inr ⟨2, by rw [← hMd]; exact Or.inr ⟨rfl, k, hk, rfl, q_b_eq c49⟩, hMu 2⟩⟩
  · refine qw_if_neN 64 dX9_arranged_37 (by decide) (by omega) (fun c37 => ?_) (fun c37 => absurd c37 (by decide))
    refine qw_iconst (nI 0) dX9_arranged_64 (by decide) ?_
    exact qw_ireturn rfl rfl dX9_arranged_65 ⟨rfl, rfl, rfl, _, rfl, Or.inr ⟨1, by rw [← hMd]; exact Or.inl ⟨rfl, v1⟩, hMu 1⟩⟩
theorem l_X9_setOf (h9 : sh9 S m fh fo) (hW : g_wf (M (m + 2))) {i : Nat} (hi : i < M (m + 2) 0) : ∀ (n9 p : Nat), p ≤ M (m + 2) (12 + 30 * i) → M (m + 2) (12 + 30 * i) - p < n9 → LW G YX9_setOf 2 0 0 (lq_pu z S M N (.int (nI (q_ss (fun p => M (m + 2) (13 + 30 * i + 3 * p)) (M (m + 2) (12 + 30 * i)))))) lq_no z S M N 4 [some (.ref m), some (.int (nI i)), some (.int (nI (q_ss (fun p => M (m + 2) (13 + 30 * i + 3 * p)) (p)))), some (.int (nI p))] [] := by
  intro n9
  induction n9 with
  | zero => intro _ _ _; omega
  | succ n9 ih =>
    intro p hp hn9
    have h20 := hW.nb
    have h8 := hW.ns
    have hc8 := (hW.br hi).2.2.2.2.2.1
    refine qw_iload_n 3 dX9_setOf_4 rfl rfl ?_
    refine qw_aload_n 0 dX9_setOf_5 rfl rfl ?_
    refine qw_iload_n 1 dX9_setOf_6 rfl rfl ?_
    refine qw_cvp [_] (k_X9_countOf h9 (by omega)) mX9_185 dX9_setOf_7 h9.1 rfl rfl rfl (Nat.le_of_ble_eq_true rfl) (by omega) (by decide) rfl ?_
    refine qw_icmp_geN 34 dX9_setOf_10 (by decide) (by omega) (by omega) (fun c10 => ?_) (fun c10 => ?_)
    · refine qw_iload_n 2 dX9_setOf_34 rfl rfl ?_
      exact qw_ireturn rfl rfl dX9_setOf_35 ⟨by rw [show p = M (m + 2) (12 + 30 * i) by omega], rfl, rfl, rfl, rfl⟩
    · refine qw_iload_n 2 dX9_setOf_13 rfl rfl ?_
      refine qw_iconst (nI 1) dX9_setOf_14 (by decide) ?_
      refine qw_aload_n 0 dX9_setOf_15 rfl rfl ?_
      refine qw_getr fX9_17 dX9_setOf_16 h9.1 rfl ?_
      refine qw_iload_n 1 dX9_setOf_19 rfl rfl ?_
      refine qw_iload_n 3 dX9_setOf_20 rfl rfl ?_
      refine qw_csp [_, _] (k_X9_spotAt) mX9_188 dX9_setOf_21 rfl rfl (Nat.le_of_ble_eq_true rfl) (by omega) (by decide) rfl ?_
      refine qw_iald dX9_setOf_24 h9.da (by omega) (by omega) ?_
      have hsp := (hW.sp hi (p := p) (by omega)).1
      refine qw_shlN (by omega) (by have := q_pw9 (f := M (m + 2) (13 + 30 * i + 3 * p)) (by omega); omega) dX9_setOf_25 ?_
      refine qw_orN dX9_setOf_26 ?_
      refine qw_istore_n 2 dX9_setOf_27 rfl rfl (by decide) ?_
      refine qw_iincN 1 dX9_setOf_28 rfl (by decide) rfl (by decide) ?_
      refine qw_goto 4 dX9_setOf_31 (by decide) ?_
      exact ih (p + 1) (by omega) (by omega)
theorem k_X9_setOf (h9 : sh9 S m fh fo) (hW : g_wf (M (m + 2))) {i : Nat} (hi : i < M (m + 2) 0) : LM G YX9_setOf 2 0 0 [.ref m, .int (nI i)] z S M N (lq_pu z S M N (.int (nI (q_ss (fun p => M (m + 2) (13 + 30 * i + 3 * p)) (M (m + 2) (12 + 30 * i)))))) lq_no := by
  refine LM.of (by decide) rfl [some (.ref m), some (.int (nI i)), none, none] rfl (Nat.le_of_ble_eq_true rfl) ?_
  refine qw_iconst (nI 0) dX9_setOf_0 (by decide) ?_
  refine qw_istore_n 2 dX9_setOf_1 rfl rfl (by decide) ?_
  refine qw_iconst (nI 0) dX9_setOf_2 (by decide) ?_
  refine qw_istore_n 3 dX9_setOf_3 rfl rfl (by decide) ?_
  exact l_X9_setOf h9 hW hi (M (m + 2) (12 + 30 * i) + 1) 0 (Nat.zero_le _) (by omega)
theorem k_X9_setOf_g (h9 : sh9 S m fh fo) {g : Nat → Nat} (hg : M (m + 2) = g) (hW : g_wf (g)) {i : Nat} (hi : i < g 0) : LM G YX9_setOf 2 0 0 [.ref m, .int (nI i)] z S M N (lq_pu z S M N (.int (nI (q_ss (fun p => g (13 + 30 * i + 3 * p)) (g (12 + 30 * i)))))) lq_no := by
  subst hg
  exact k_X9_setOf h9 hW hi
theorem q_plv_s {f : Nat → Nat} {x p : Nat} (hinj : ∀ j, j < p → f j ≠ f p) : q_plv f x (p + 1) = if f p = x then nI p else q_plv f x p := by
  unfold q_plv
  by_cases e : f p = x
  · rw [if_pos e, q_fst_hit (i := p) (by omega) e (fun j hj q => hinj j hj (by rw [q, e])), if_pos (by omega)]
  · rw [if_neg e]
    by_cases q : q_fst f x p < p
    · have h : q_fst f x (p + 1) = q_fst f x p := by rw [q_fst, if_pos q]
      rw [h, if_pos q, if_pos (by omega)]
    · have h : q_fst f x (p + 1) = p + 1 := by rw [q_fst, if_neg q, if_neg e]
      rw [h, if_neg q, if_neg (by omega)]
theorem q_plv_cong {f g : Nat → Nat} {x n : Nat} (h : ∀ j, j < n → f j = g j) : q_plv f x n = q_plv g x n := by
  unfold q_plv
  rw [q_fst_cong x n h]
def g_ri (h : Nat → Nat) (i : Nat) (o : Nat → Nat) (j : Nat) : Nat := q_fst (fun q => h (13 + 30 * i + 3 * q)) (o j) (h (12 + 30 * i))
def g_rm (h : Nat → Nat) (i : Nat) (o : Nat → Nat) (x : Nat) : Nat := h (13 + 30 * i + 3 * g_ri h i o (x / 3) + x % 3)
theorem g_rm_e {h : Nat → Nat} {i : Nat} {o : Nat → Nat} : (fun y => if 13 + 30 * i ≤ y ∧ y < 13 + 30 * i + 3 * h (12 + 30 * i) then g_rm h i o (y - (13 + 30 * i)) else h y) = g_reo h i o := by
  funext y
  unfold g_rm g_reo g_prm g_ri
  rfl
theorem l0_X9_reorder (h9 : sh9 S m fh fo) {h : Nat → Nat} (hW : g_wf h) {i : Nat} (hi : i < h 0) {ord : Nat → Nat} (hord : ∀ j, j < h (12 + 30 * i) → ∃ q, q < h (12 + 30 * i) ∧ h (13 + 30 * i + 3 * q) = ord j) (hinj : ∀ x y, x < h (12 + 30 * i) → y < h (12 + 30 * i) → ord x = ord y → x = y) {s : Nat} (hs : s < 2 ^ 31) {Q : lq_P} {its : Int32} (hg : M (m + 2) = h) {p : Nat} (hp : p < h (12 + 30 * i)) (hr : M (m + 271) p = ord p) (kk : LW G YX9_reorder 2 0 0 Q lq_no z S M N 48 [some (.ref m), some (.int (nI i)), some (.int (nI s)), some (.int (nI (h (12 + 30 * i)))), some (.int (its)), some (.int (nI p)), some (.int (nI (g_ri h i ord p))), none] []) : ∀ (n9 q : Nat), q ≤ g_ri h i ord p → g_ri h i ord p - q < n9 → LW G YX9_reorder 2 0 0 Q lq_no z S M N 21 [some (.ref m), some (.int (nI i)), some (.int (nI s)), some (.int (nI (h (12 + 30 * i)))), some (.int (its)), some (.int (nI p)), some (.int (nI q)), none] [] := by
  intro n9
  induction n9 with
  | zero => intro _ _ _; omega
  | succ n9 ih =>
    intro q hq hn9
    have h20 := hW.nb
    have h8 := hW.ns
    have hc8 := (hW.br hi).2.2.2.2.2.1
    have hlt : g_ri h i ord p < h (12 + 30 * i) := q_fst_lt.mpr (hord p hp)
    have hyes : h (13 + 30 * i + 3 * g_ri h i ord p) = ord p := q_fst_yes _ _ _ hlt
    have hno : ∀ j, j < g_ri h i ord p → h (13 + 30 * i + 3 * j) ≠ ord p := fun j hj => q_fst_no _ _ _ j hj
    have hsq := (hW.sp hi (p := q) (by omega)).1
    have hsr := (hW.sp hi (p := g_ri h i ord p) hlt).1
    refine qw_aload_n 0 dX9_reorder_21 rfl rfl ?_
    refine qw_getr fX9_17 dX9_reorder_22 h9.1 rfl ?_
    refine qw_iload_n 1 dX9_reorder_25 rfl rfl ?_
    refine qw_iload dX9_reorder_26 rfl ?_
    refine qw_csp [_, _] (k_X9_spotAt) mX9_188 dX9_reorder_28 rfl rfl (Nat.le_of_ble_eq_true rfl) (by omega) (by decide) rfl ?_
    refine qw_iald dX9_reorder_31 h9.da (by omega) (by omega) ?_
    rw [hg]
    refine qw_aload_n 0 dX9_reorder_32 rfl rfl ?_
    refine qw_getr fX9_35 dX9_reorder_33 h9.1 rfl ?_
    refine qw_iload dX9_reorder_36 rfl ?_
    refine qw_iald dX9_reorder_38 h9.rw (by omega) (by omega) ?_
    rw [hr]
    refine qw_icmp_eqN 48 dX9_reorder_39 (by decide) (by omega) (by omega) (fun c39 => ?_) (fun c39 => ?_)
    · have he : q = g_ri h i ord p := by
        rcases Nat.lt_or_ge q (g_ri h i ord p) with z9 | z9
        · exact absurd c39 (hno q z9)
        · omega
      rw [he]
      exact kk
    · refine qw_iincN 1 dX9_reorder_42 rfl (by decide) rfl (by decide) ?_
      refine qw_goto 21 dX9_reorder_45 (by decide) ?_
      have hne : q ≠ g_ri h i ord p := fun e => c39 (by rw [e]; exact hyes)
      exact ih (q + 1) (by omega) (by omega)
theorem l1_X9_reorder (h9 : sh9 S m fh fo) {h : Nat → Nat} (hW : g_wf h) {i : Nat} (hi : i < h 0) {ord : Nat → Nat} (hord : ∀ j, j < h (12 + 30 * i) → ∃ q, q < h (12 + 30 * i) ∧ h (13 + 30 * i + 3 * q) = ord j) (hinj : ∀ x y, x < h (12 + 30 * i) → y < h (12 + 30 * i) → ord x = ord y → x = y) {s : Nat} (hs : s < 2 ^ 31) {M0 : lq_M} {Q : lq_P} (hg0 : M0 (m + 2) = h) (hr0 : ∀ j, j < h (12 + 30 * i) → M0 (m + 271) j = ord j) {its : Int32} {p : Nat} (hp : p < h (12 + 30 * i)) (kk : ∀ M1 : lq_M, (∀ x, x < 3 * (p + 1) → M1 (m + 272) x = g_rm h i ord x) → (∀ b, b ≠ m + 272 → M1 b = M0 b) → LW G YX9_reorder 2 0 0 Q lq_no z S M1 N 89 [some (.ref m), some (.int (nI i)), some (.int (nI s)), some (.int (nI (h (12 + 30 * i)))), some (.int (its)), some (.int (nI p)), none, none] []) : ∀ (n9 j : Nat) (M : lq_M), j ≤ 3 → 3 - j < n9 → (∀ x, x < 3 * p + j → M (m + 272) x = g_rm h i ord x) → (∀ b, b ≠ m + 272 → M b = M0 b) → LW G YX9_reorder 2 0 0 Q lq_no z S M N 51 [some (.ref m), some (.int (nI i)), some (.int (nI s)), some (.int (nI (h (12 + 30 * i)))), some (.int (its)), some (.int (nI p)), some (.int (nI (g_ri h i ord p))), some (.int (nI j))] [] := by
  intro n9
  induction n9 with
  | zero => intro _ _ _ _ _ _; omega
  | succ n9 ih =>
    intro j M hj hn9 hv hq
    have h20 := hW.nb
    have hc8 := (hW.br hi).2.2.2.2.2.1
    have hlt : g_ri h i ord p < h (12 + 30 * i) := q_fst_lt.mpr (hord p hp)
    have hg : M (m + 2) = h := by rw [hq (m + 2) (by omega)]; exact hg0
    refine qw_iload dX9_reorder_51 rfl ?_
    refine qw_iconst (nI 3) dX9_reorder_53 (by decide) ?_
    refine qw_icmp_geN 89 dX9_reorder_54 (by decide) (by omega) (by omega) (fun c54 => ?_) (fun c54 => ?_)
    · exact qw_weak _ (by simp [lq_le]) (kk M (fun x hx => hv x (by omega)) hq)
    · refine qw_aload_n 0 dX9_reorder_57 rfl rfl ?_
      refine qw_getr fX9_38 dX9_reorder_58 h9.1 rfl ?_
      refine qw_iconst (nI 3) dX9_reorder_61 (by decide) ?_
      refine qw_iload dX9_reorder_62 rfl ?_
      refine qw_mulN dX9_reorder_64 ?_
      refine qw_iload dX9_reorder_65 rfl ?_
      refine qw_addN dX9_reorder_67 ?_
      refine qw_aload_n 0 dX9_reorder_68 rfl rfl ?_
      refine qw_getr fX9_17 dX9_reorder_69 h9.1 rfl ?_
      refine qw_iload_n 1 dX9_reorder_72 rfl rfl ?_
      refine qw_iload dX9_reorder_73 rfl ?_
      refine qw_csp [_, _] (k_X9_spotAt) mX9_188 dX9_reorder_75 rfl rfl (Nat.le_of_ble_eq_true rfl) (by omega) (by decide) rfl ?_
      refine qw_iload dX9_reorder_78 rfl ?_
      refine qw_addN dX9_reorder_80 ?_
      refine qw_iald dX9_reorder_81 h9.da (by omega) (by omega) ?_
      rw [hg]
      refine qw_iast dX9_reorder_82 h9.mo (by omega) (by omega) ?_
      refine qw_iincN 1 dX9_reorder_83 rfl (by decide) rfl (by decide) ?_
      refine qw_goto 51 dX9_reorder_86 (by decide) ?_
      refine ih (j + 1) _ (by omega) (by omega) (fun x hx => ?_) (fun b hb => by rw [lq_up_n _ _ _ hb]; exact hq b hb)
      rw [lq_up_x]
      by_cases e : x = 3 * p + j
      · rw [if_pos e, g_rm, show x / 3 = p by omega, show x % 3 = j by omega]
      · rw [if_neg e]; exact hv x (by omega)
theorem l2_X9_reorder (h9 : sh9 S m fh fo) {h : Nat → Nat} (hW : g_wf h) {i : Nat} (hi : i < h 0) {ord : Nat → Nat} (hord : ∀ j, j < h (12 + 30 * i) → ∃ q, q < h (12 + 30 * i) ∧ h (13 + 30 * i + 3 * q) = ord j) (hinj : ∀ x y, x < h (12 + 30 * i) → y < h (12 + 30 * i) → ord x = ord y → x = y) {s : Nat} (hs : s < 2 ^ 31) {M0 : lq_M} {Q : lq_P} (hg0 : M0 (m + 2) = h) (hr0 : ∀ j, j < h (12 + 30 * i) → M0 (m + 271) j = ord j) (kk : ∀ M1 : lq_M, (∀ x, x < 3 * h (12 + 30 * i) → M1 (m + 272) x = g_rm h i ord x) → (∀ b, b ≠ m + 272 → M1 b = M0 b) → LW G YX9_reorder 2 0 0 Q lq_no z S M1 N 115 [some (.ref m), some (.int (nI i)), none, some (.int (nI (h (12 + 30 * i)))), some (.int (q_plv ord s (h (12 + 30 * i)))), none, none, none] []) : ∀ (n9 p : Nat) (M : lq_M), p ≤ h (12 + 30 * i) → h (12 + 30 * i) - p < n9 → (∀ x, x < 3 * p → M (m + 272) x = g_rm h i ord x) → (∀ b, b ≠ m + 272 → M b = M0 b) → LW G YX9_reorder 2 0 0 Q lq_no z S M N 12 [some (.ref m), some (.int (nI i)), some (.int (nI s)), some (.int (nI (h (12 + 30 * i)))), some (.int (q_plv ord s p)), some (.int (nI p)), none, none] [] := by
  intro n9
  induction n9 with
  | zero => intro _ _ _ _ _ _; omega
  | succ n9 ih =>
    intro p M hp hn9 hv hq
    have h20 := hW.nb
    have h8 := hW.ns
    have hc8 := (hW.br hi).2.2.2.2.2.1
    refine qw_iload dX9_reorder_12 rfl ?_
    refine qw_iload_n 3 dX9_reorder_14 rfl rfl ?_
    refine qw_icmp_geN 115 dX9_reorder_15 (by decide) (by omega) (by omega) (fun c15 => ?_) (fun c15 => ?_)
    · have e : p = h (12 + 30 * i) := by omega
      subst e
      exact qw_weak _ (by simp [lq_le]) (kk M hv hq)
    · refine qw_iconst (nI 0) dX9_reorder_18 (by decide) ?_
      refine qw_istore dX9_reorder_19 rfl (by decide) ?_
      have hpc : p < h (12 + 30 * i) := by omega
      refine l0_X9_reorder h9 hW hi hord hinj hs (by rw [hq (m + 2) (by omega)]; exact hg0) hpc (by rw [hq (m + 271) (by omega)]; exact hr0 p hpc) ?_ 9 0 (Nat.zero_le _) (by have : g_ri h i ord p ≤ h (12 + 30 * i) := q_fst_le _ _ _; omega)
      refine qw_iconst (nI 0) dX9_reorder_48 (by decide) ?_
      refine qw_istore dX9_reorder_49 rfl (by decide) ?_
      refine l1_X9_reorder h9 hW hi hord hinj hs hg0 hr0 hpc (fun M1 k1 k2 => ?_) 4 0 M (by decide) (by decide) (fun x hx => hv x (by omega)) hq
      have hr2 : M1 (m + 271) p = ord p := by rw [k2 (m + 271) (by omega)]; exact hr0 p hpc
      have hop : ord p < 8 := by obtain ⟨q9, k8, k9⟩ := hord p hpc; have := (hW.sp hi k8).1; omega
      refine qw_aload_n 0 dX9_reorder_89 rfl rfl ?_
      refine qw_getr fX9_35 dX9_reorder_90 h9.1 rfl ?_
      refine qw_iload dX9_reorder_93 rfl ?_
      refine qw_iald dX9_reorder_95 h9.rw (by omega) (by omega) ?_
      rw [hr2]
      refine qw_iload_n 2 dX9_reorder_96 rfl rfl ?_
      refine qw_icmp_neN 105 dX9_reorder_97 (by decide) (by omega) (by omega) (fun c97 => ?_) (fun c97 => ?_)
      · refine qw_iload dX9_reorder_105 rfl ?_
        refine qw_istore dX9_reorder_107 rfl (by decide) ?_
        refine qw_iincN 1 dX9_reorder_109 rfl (by decide) rfl (by decide) ?_
        refine qw_goto 12 dX9_reorder_112 (by decide) ?_
        have hps := q_plv_s (f := ord) (x := s) (p := p) (fun j hj q9 => by have := hinj j p (by omega) hpc q9; omega)
        rw [if_neg c97] at hps
        have hh := ih (p + 1) M1 (by omega) (by omega) k1 k2
        rw [hps] at hh
        exact qw_weak _ (by simp [lq_le]) hh
      · refine qw_iload dX9_reorder_100 rfl ?_
        refine qw_goto 107 dX9_reorder_102 (by decide) ?_
        refine qw_istore dX9_reorder_107 rfl (by decide) ?_
        refine qw_iincN 1 dX9_reorder_109 rfl (by decide) rfl (by decide) ?_
        refine qw_goto 12 dX9_reorder_112 (by decide) ?_
        have hps := q_plv_s (f := ord) (x := s) (p := p) (fun j hj q9 => by have := hinj j p (by omega) hpc q9; omega)
        rw [if_pos c97] at hps
        have hh := ih (p + 1) M1 (by omega) (by omega) k1 k2
        rw [hps] at hh
        exact qw_weak _ (by simp [lq_le]) hh
theorem l3_X9_reorder (h9 : sh9 S m fh fo) {h : Nat → Nat} (hW : g_wf h) {i : Nat} (hi : i < h 0) {ord : Nat → Nat} (hord : ∀ j, j < h (12 + 30 * i) → ∃ q, q < h (12 + 30 * i) ∧ h (13 + 30 * i + 3 * q) = ord j) (hinj : ∀ x y, x < h (12 + 30 * i) → y < h (12 + 30 * i) → ord x = ord y → x = y) {s : Nat} (hs : s < 2 ^ 31) {M0 : lq_M} {its : Int32} {Q : lq_P} (hm0 : ∀ x, x < 3 * h (12 + 30 * i) → M0 (m + 272) x = g_rm h i ord x) (kk : ∀ M1 : lq_M, M1 (m + 2) = g_reo h i ord → (∀ b, b ≠ m + 2 → M1 b = M0 b) → LW G YX9_reorder 2 0 0 Q lq_no z S M1 N 152 [some (.ref m), none, none, none, some (.int its), none, none, none] []) : ∀ (n9 x : Nat) (M : lq_M), x ≤ 3 * h (12 + 30 * i) → 3 * h (12 + 30 * i) - x < n9 → M (m + 2) = (fun y => if 13 + 30 * i ≤ y ∧ y < 13 + 30 * i + x then g_rm h i ord (y - (13 + 30 * i)) else h y) → (∀ b, b ≠ m + 2 → M b = M0 b) → LW G YX9_reorder 2 0 0 Q lq_no z S M N 118 [some (.ref m), some (.int (nI i)), none, some (.int (nI (h (12 + 30 * i)))), some (.int its), some (.int (nI x)), none, none] [] := by
  intro n9
  induction n9 with
  | zero => intro _ _ _ _ _ _; omega
  | succ n9 ih =>
    intro x M hx hn9 hv hq
    have h20 := hW.nb
    have hc8 := (hW.br hi).2.2.2.2.2.1
    refine qw_iload dX9_reorder_118 rfl ?_
    refine qw_iconst (nI 3) dX9_reorder_120 (by decide) ?_
    refine qw_iload_n 3 dX9_reorder_121 rfl rfl ?_
    refine qw_mulN dX9_reorder_122 ?_
    refine qw_icmp_geN 152 dX9_reorder_123 (by decide) (by omega) (by omega) (fun c123 => ?_) (fun c123 => ?_)
    · refine qw_weak _ (by simp [lq_le]) (kk M ?_ hq)
      rw [hv, show x = 3 * h (12 + 30 * i) by omega]
      exact g_rm_e
    · refine qw_aload_n 0 dX9_reorder_126 rfl rfl ?_
      refine qw_getr fX9_17 dX9_reorder_127 h9.1 rfl ?_
      refine qw_iload_n 1 dX9_reorder_130 rfl rfl ?_
      refine qw_iconst (nI 0) dX9_reorder_131 (by decide) ?_
      refine qw_csp [_, _] (k_X9_spotAt) mX9_188 dX9_reorder_132 rfl rfl (Nat.le_of_ble_eq_true rfl) (by omega) (by decide) rfl ?_
      refine qw_iload dX9_reorder_135 rfl ?_
      refine qw_addN dX9_reorder_137 ?_
      refine qw_aload_n 0 dX9_reorder_138 rfl rfl ?_
      refine qw_getr fX9_38 dX9_reorder_139 h9.1 rfl ?_
      refine qw_iload dX9_reorder_142 rfl ?_
      refine qw_iald dX9_reorder_144 h9.mo (by omega) (by omega) ?_
      rw [hq (m + 272) (by omega), hm0 x (by omega)]
      refine qw_iasj (13 + 30 * i + x) (by omega) dX9_reorder_145 h9.da (by omega) (by omega) ?_
      refine qw_iincN 1 dX9_reorder_146 rfl (by decide) rfl (by decide) ?_
      refine qw_goto 118 dX9_reorder_149 (by decide) ?_
      refine ih (x + 1) _ (by omega) (by omega) ?_ (fun b hb => by rw [lq_up_n _ _ _ hb]; exact hq b hb)
      rw [lq_up_a, hv]
      funext y
      show (if y = 13 + 30 * i + x then g_rm h i ord x else if 13 + 30 * i ≤ y ∧ y < 13 + 30 * i + x then g_rm h i ord (y - (13 + 30 * i)) else h y) = _
      by_cases e : y = 13 + 30 * i + x
      · rw [if_pos e, if_pos (by omega), show y - (13 + 30 * i) = x by omega]
      · rw [if_neg e]
        by_cases e2 : 13 + 30 * i ≤ y ∧ y < 13 + 30 * i + x
        · rw [if_pos e2, if_pos (by omega)]
        · rw [if_neg e2, if_neg (by omega)]
theorem k_X9_reorder (h9 : sh9 S m fh fo) {h : Nat → Nat} (hW : g_wf h) {i : Nat} (hi : i < h 0) {ord : Nat → Nat} (hord : ∀ j, j < h (12 + 30 * i) → ∃ q, q < h (12 + 30 * i) ∧ h (13 + 30 * i + 3 * q) = ord j) (hinj : ∀ x y, x < h (12 + 30 * i) → y < h (12 + 30 * i) → ord x = ord y → x = y) {s : Nat} (hs : s < 2 ^ 31) (hg : M (m + 2) = h) (hr : ∀ j, j < h (12 + 30 * i) → M (m + 271) j = ord j) : LM G YX9_reorder 2 0 0 [.ref m, .int (nI i), .int (nI s)] z S M N (lq_mi z S N (fun x M1 => x = q_plv ord s (h (12 + 30 * i)) ∧ M1 (m + 2) = g_reo h i ord ∧ q_dfr m M M1)) lq_no := by
  have h20 := hW.nb
  refine LM.of (by decide) rfl [some (.ref m), some (.int (nI i)), some (.int (nI s)), none, none, none, none, none] rfl (Nat.le_of_ble_eq_true rfl) ?_
  refine qw_aload_n 0 dX9_reorder_0 rfl rfl ?_
  refine qw_iload_n 1 dX9_reorder_1 rfl rfl ?_
  refine qw_cvp [_] (k_X9_countOf h9 (by omega)) mX9_185 dX9_reorder_2 h9.1 rfl rfl rfl (Nat.le_of_ble_eq_true rfl) (by omega) (by decide) rfl ?_
  rw [hg]
  refine qw_istore_n 3 dX9_reorder_5 rfl rfl (by decide) ?_
  refine qw_iconst (-1) dX9_reorder_6 (by decide) ?_
  refine qw_istore dX9_reorder_7 rfl (by decide) ?_
  refine qw_iconst (nI 0) dX9_reorder_9 (by decide) ?_
  refine qw_istore dX9_reorder_10 rfl (by decide) ?_
  refine qw_weak _ (by simp [lq_le, q_plv]) (l2_X9_reorder h9 hW hi hord hinj hs (M0 := M) hg hr (fun M1 k1 k2 => ?_) (h (12 + 30 * i) + 1) 0 M (Nat.zero_le _) (by omega) (fun x hx => absurd hx (by omega)) (fun b hb => rfl))
  refine qw_iconst (nI 0) dX9_reorder_115 (by decide) ?_
  refine qw_istore dX9_reorder_116 rfl (by decide) ?_
  refine qw_weak _ (by simp [lq_le]) (l3_X9_reorder h9 hW hi hord hinj hs (M0 := M1) (its := q_plv ord s (h (12 + 30 * i))) k1 (fun M2 k3 k4 => ?_) (3 * h (12 + 30 * i) + 1) 0 M1 (Nat.zero_le _) (by omega) ?_ (fun b hb => rfl))
  · refine qw_iload dX9_reorder_152 rfl ?_
    exact qw_ireturn rfl rfl dX9_reorder_154 ⟨rfl, rfl, rfl, _, rfl, rfl, k3, fun b b1 b2 => by rw [k4 b b1]; exact k2 b (by omega)⟩
  · rw [k2 (m + 2) (by omega), hg]
    funext y
    rw [if_neg (by omega)]
theorem g_bah_o {g : Nat → Nat} {tk : Nat → Nat × Nat} {n s l i x : Nat} (hi : i < 20) (h7 : g (12 + 30 * i) ≤ 7) (hx : x ≠ 6) (h : x < 12 + 30 * i ∨ 37 + 30 * i ≤ x) : g_bah g tk n s l i x = g x := by
  unfold g_bah
  rw [g_inc_o hx, g_put_o h (Nat.le_refl _) h7]
theorem g_bah_cl {g : Nat → Nat} (hW : g_wf g) {tk : Nat → Nat × Nat} {n s l i : Nat} (hi : i < 20) (h7 : g (12 + 30 * i) ≤ 7) {a b : Nat} (ha : a < 8) (hb : b < 8) : g_cl (g_bah g tk n s l i) a b = g_cl g a b := by
  have h1 := (hW.cat ha).1
  have h2 := (hW.cat hb).1
  unfold g_cl
  rw [g_bah_o hi h7 (x := 607 + 2 * a) (by omega) (by omega), g_bah_o hi h7 (x := 607 + 2 * b) (by omega) (by omega), g_bah_o hi h7 (by omega) (by omega)]
theorem g_reo_s {h : Nat → Nat} {i : Nat} {o : Nat → Nat} (ho : ∀ j, j < h (12 + 30 * i) → ∃ q, q < h (12 + 30 * i) ∧ h (13 + 30 * i + 3 * q) = o j) : g_reo h i o (12 + 30 * i) = h (12 + 30 * i) ∧ ∀ p, p < h (12 + 30 * i) → g_reo h i o (13 + 30 * i + 3 * p) = o p := by
  refine ⟨g_prm_o (by omega), fun p hp => ?_⟩
  have e := g_prm_j (h := h) (i := i) (π := fun j => q_fst (fun q => h (13 + 30 * i + 3 * q)) (o j) (h (12 + 30 * i))) 0 (by decide) hp
  rw [Nat.add_zero] at e
  exact e.trans (q_fst_yes _ _ _ (q_fst_lt.mpr (ho p hp)))
theorem k_X9_bookAnyhow (h9 : sh9 S m fh fo) (hW : g_wf (M (m + 2))) {tk : Nat → Nat × Nat} {n : Nat} (hF : q_fwf tk n) (hn : n ≤ 800) (hC : q_cd (M (m + 2)) tk n) {u : Nat} {H : Nat → Nat → Nat} (hH : q_hr M m u H) (hd : H 0 = M (m + 2)) {s l i : Int32} : LM G YX9_bookAnyhow 6 0 0 [.ref m, .int s, .int l, .int i] z S M N (lq_mn z S (fun x M3 N2 => ((∃ ks kl ki, ks < M (m + 2) 1 ∧ 5 ≤ kl ∧ kl ≤ 60 ∧ ki < M (m + 2) 0 ∧ s = nI ks ∧ l = nI kl ∧ i = nI ki ∧ x = g_bar (M (m + 2)) tk n ks kl ki ∧ q_mut m u H M M3 (g_ba (M (m + 2)) tk n ks kl ki)) ∨ ∃ e, (q_rqX (M (m + 2)) s l i e) ∧ M3 = lq_up M m 0 e) ∧ q_nf m N N2)) lq_no := by
  refine LM.of (by decide) rfl [some (.ref m), some (.int s), some (.int l), some (.int i), none, none, none] rfl (Nat.le_of_ble_eq_true rfl) ?_
  refine qw_aload_n 0 dX9_bookAnyhow_0 rfl rfl ?_
  refine qw_iconst (nI 0) dX9_bookAnyhow_1 (by decide) ?_
  refine qw_puti fX9_41 dX9_bookAnyhow_2 h9.1 rfl ?_
  have hM0 := lq_up_s M m 0 0
  have hMd := lq_up_n M (a := m) (b := m + 2) 0 0 (by omega)
  have hMu := fun e => lq_up_up M m 0 0 e
  have hMr := fun b (hb : b ≠ m) => lq_up_n M (a := m) (b := b) 0 0 hb
  have hMm := fun j (hj : j ≠ 0) => lq_up_c M (a := m) (k := 0) (j := j) 0 hj
  revert hM0 hMd hMu hMr hMm
  generalize hM1 : lq_up M m 0 0 = M1
  intro h0 hMd hMu hMr hMm
  have hW1 : g_wf (M1 (m + 2)) := by rw [hMd]; exact hW
  have h20 := hW1.nb
  have h8 := hW1.ns
  have h160 := hW1.no
  have hH1 : q_hr M1 m u H := hH.th hM1
  have hd1 : H 0 = M1 (m + 2) := by rw [hMd]; exact hd
  have hC1 : q_cd (M1 (m + 2)) tk n := by rw [hMd]; exact hC
  refine qw_aload_n 0 dX9_bookAnyhow_5 rfl rfl ?_
  refine qw_iload_n 1 dX9_bookAnyhow_6 rfl rfl ?_
  refine qw_iload_n 2 dX9_bookAnyhow_7 rfl rfl ?_
  refine qw_iload_n 3 dX9_bookAnyhow_8 rfl rfl ?_
  refine qw_cvi [_, _, _] (k_X9_noRequest h9 h0 (by omega) (by omega)) mX9_244 dX9_bookAnyhow_9 h9.1 rfl rfl rfl (Nat.le_of_ble_eq_true rfl) (by omega) (by decide) rfl (fun x1 M2 h1 => ?_)
  rcases h1 with ⟨v1, v2, v3, rfl, hz⟩ | ⟨e, v1, rfl, hz⟩ <;> rw [hz]
  · obtain ⟨ks, hs, rfl⟩ := v1
    obtain ⟨ki, hi, rfl⟩ := v2
    obtain ⟨kl, hl1, hl2, rfl⟩ := v3
    refine qw_if_eqN 17 dX9_bookAnyhow_12 (by decide) (by omega) (fun c12 => ?_) (fun c12 => absurd rfl c12)
    skip
    refine qw_aload_n 0 dX9_bookAnyhow_17 rfl rfl ?_
    refine qw_cvv [] (k_X9_remember h9 hH1 h0 hd1) mX9_178 dX9_bookAnyhow_18 h9.1 rfl rfl rfl (Nat.le_of_ble_eq_true rfl) (by omega) (by decide) rfl (fun M2 hmu => ?_)
    have e2 := hmu.1
    refine qw_aload_n 0 dX9_bookAnyhow_21 rfl rfl ?_
    refine qw_iload_n 1 dX9_bookAnyhow_22 rfl rfl ?_
    refine qw_iload_n 2 dX9_bookAnyhow_23 rfl rfl ?_
    refine qw_iload_n 3 dX9_bookAnyhow_24 rfl rfl ?_
    refine qw_cvp [_, _, _] (k_X9_reasonOf_g h9 e2 hW1 hi hs hl2) mX9_225 dX9_bookAnyhow_25 h9.1 rfl rfl rfl (Nat.le_of_ble_eq_true rfl) (by omega) (by decide) rfl ?_
    refine qw_istore dX9_bookAnyhow_28 rfl (by decide) ?_
    have hrl : g_rs (M1 (m + 2)) ks kl ki ≤ 5 := g_rs_le
    refine qw_iload dX9_bookAnyhow_30 rfl ?_
    refine qw_if_neN 43 dX9_bookAnyhow_32 (by decide) (by omega) (fun c32 => ?_) (fun c32 => ?_)
    · refine qw_aload_n 0 dX9_bookAnyhow_43 rfl rfl ?_
      refine qw_cvv [] (k_X9_layOrders h9 hW1 e2) mX9_253 dX9_bookAnyhow_44 h9.1 rfl rfl rfl (Nat.le_of_ble_eq_true rfl) (by omega) (by decide) rfl (fun M3 h3 => ?_)
      have e3 : M3 (m + 2) = M1 (m + 2) := by rw [h3.2 (m + 2) (by omega)]; exact e2
      refine qw_aload_n 0 dX9_bookAnyhow_47 rfl rfl ?_
      refine qw_iload_n 3 dX9_bookAnyhow_48 rfl rfl ?_
      refine qw_cvp [_] (k_X9_setOf_g h9 e3 hW1 hi) mX9_272 dX9_bookAnyhow_49 h9.1 rfl rfl rfl (Nat.le_of_ble_eq_true rfl) (by omega) (by decide) rfl ?_
      refine qw_iconst (nI 1) dX9_bookAnyhow_52 (by decide) ?_
      refine qw_iload_n 1 dX9_bookAnyhow_53 rfl rfl ?_
      refine qw_shlN (by omega) (by have := q_pw9 (f := ks) (by omega); omega) dX9_bookAnyhow_54 ?_
      refine qw_orN dX9_bookAnyhow_55 ?_
      rw [Nat.one_mul]
      refine qw_eqn (g_set (M1 (m + 2)) ki ks) rfl ?_
      have hset6 : g_set (M1 (m + 2)) ki ks < 256 := by
        have h1 : q_ss (fun p => M1 (m + 2) (13 + 30 * ki + 3 * p)) (M1 (m + 2) (12 + 30 * ki)) < 2 ^ 8 := q_ss_lt (by decide) (fun j hj => by have := (hW1.sp hi hj).1; omega)
        exact Nat.or_lt_two_pow h1 (Nat.pow_lt_pow_right (by decide) (by omega))
      have hle9 : g_co (M1 (m + 2)) (g_set (M1 (m + 2)) ki ks) < 2 ^ 31 := by
        unfold g_co
        split
        · decide
        · exact Nat.lt_of_le_of_lt (q_sm_le (c := 16777216) 8 (fun j _ => g_or_le _ _ _)) (by decide)
      refine qw_istore dX9_bookAnyhow_56 rfl (by decide) ?_
      refine qw_iload dX9_bookAnyhow_58 rfl ?_
      refine qw_iconst (nI 5) dX9_bookAnyhow_60 (by decide) ?_
      refine qw_icmp_neN 73 dX9_bookAnyhow_61 (by decide) (by omega) (by omega) (fun c61 => ?_) (fun c61 => ?_)
      · refine qw_iload dX9_bookAnyhow_73 rfl ?_
        refine qw_ineg dX9_bookAnyhow_75 ?_
        exact qw_ireturn rfl rfl dX9_bookAnyhow_76 ⟨rfl, rfl, _, rfl, Or.inl (by rw [← hMd]; exact ⟨ks, kl, ki, hs, hl1, hl2, hi, rfl, rfl, rfl, by rw [g_bar, if_pos c61, g_bkr, if_neg c32], (hmu.go (fun b b1 b2 => h3.2 b (by omega)) (by rw [g_ba, if_pos c61, g_bk, if_neg c32]; exact e3)).th hM1⟩), q_nf.rf⟩
      · refine qw_aload_n 0 dX9_bookAnyhow_64 rfl rfl ?_
        refine qw_iload dX9_bookAnyhow_65 rfl ?_
        refine qw_cvp [_] (k_X9_countOrders h9 hset6 h3.1) mX9_256 dX9_bookAnyhow_67 h9.1 rfl rfl rfl (Nat.le_of_ble_eq_true rfl) (by omega) (by decide) rfl ?_
        refine qw_if_neN 77 dX9_bookAnyhow_70 (by decide) hle9 (fun c70 => ?_) (fun c70 => ?_)
        · have hba := g_ba_ok (tk := tk) (n := n) hW1 hs hl2 hi c61 c70
          obtain ⟨r1, r2⟩ := g_rs_is5 c61
          have h7 := hW1.seven hi hs r2
          refine qw_aload_n 0 dX9_bookAnyhow_77 rfl rfl ?_
          refine qw_iload_n 1 dX9_bookAnyhow_78 rfl rfl ?_
          refine qw_iload_n 2 dX9_bookAnyhow_79 rfl rfl ?_
          refine qw_iload_n 3 dX9_bookAnyhow_80 rfl rfl ?_
          refine qw_cvn [_, _, _] (k_X9_priceOf_g h9 e3 hW1 hF hn hC1 hs hl2 hi) mX9_229 dX9_bookAnyhow_81 h9.1 rfl rfl rfl (Nat.le_of_ble_eq_true rfl) (by omega) (by decide) rfl (fun x1 M4 N4 h4 => ?_)
          obtain ⟨rfl, hz4, hnf⟩ := h4
          rw [hz4]
          refine qw_istore dX9_bookAnyhow_84 rfl (by decide) ?_
          refine qw_aload_n 0 dX9_bookAnyhow_86 rfl rfl ?_
          refine qw_iload_n 3 dX9_bookAnyhow_87 rfl rfl ?_
          refine qw_aload_n 0 dX9_bookAnyhow_88 rfl rfl ?_
          refine qw_iload_n 3 dX9_bookAnyhow_89 rfl rfl ?_
          refine qw_cvp [_] (k_X9_countOf h9 (by omega)) mX9_185 dX9_bookAnyhow_90 h9.1 rfl rfl rfl (Nat.le_of_ble_eq_true rfl) (by omega) (by decide) rfl ?_
          rw [e3]
          refine qw_iload_n 1 dX9_bookAnyhow_93 rfl rfl ?_
          refine qw_iload_n 2 dX9_bookAnyhow_94 rfl rfl ?_
          refine qw_iload dX9_bookAnyhow_95 rfl ?_
          refine qw_cvv [_, _, _, _, _] (k_X9_put h9 (by omega) (Nat.le_refl _) h7 e3) mX9_265 dX9_bookAnyhow_97 h9.1 rfl rfl rfl (Nat.le_of_ble_eq_true rfl) (by omega) (by decide) rfl (fun M5 h5 => ?_)
          refine qw_aload_n 0 dX9_bookAnyhow_100 rfl rfl ?_
          refine qw_getr fX9_17 dX9_bookAnyhow_101 h9.1 rfl ?_
          refine qw_bipush (nI 6) dX9_bookAnyhow_104 (by decide) ?_
          refine qw_dup2 dX9_bookAnyhow_106 rfl rfl ?_
          refine qw_iald dX9_bookAnyhow_107 h9.da (by omega) (by omega) ?_
          refine qw_iload dX9_bookAnyhow_108 rfl ?_
          refine qw_addN dX9_bookAnyhow_110 ?_
          refine qw_iast dX9_bookAnyhow_111 h9.da (by omega) (by omega) ?_
          have e6 : lq_up M5 (m + 2) 6 (M5 (m + 2) 6 + g_pc (M1 (m + 2)) tk n ks kl ki) (m + 2) = g_bah (M1 (m + 2)) tk n ks kl ki := by rw [lq_up_a, h5.1]; rfl
          refine qw_aload_n 0 dX9_bookAnyhow_112 rfl rfl ?_
          refine qw_iload dX9_bookAnyhow_113 rfl ?_
          refine qw_cvv [_] (k_X9_layFirst h9 hW1 hset6 (fun q9 => (g_co_more q9).mp c70) ⟨by rw [e6]; exact hba.1, fun a b ha hb => by rw [e6]; exact g_bah_cl hW1 (by omega) h7 ha hb⟩ (fun s1 k1 k2 f k3 => by rw [lq_up_n _ _ _ (by omega), h5.2 _ (by omega)]; exact h3.1 s1 k1 k2 f k3)) mX9_259 dX9_bookAnyhow_115 h9.1 rfl rfl rfl (Nat.le_of_ble_eq_true rfl) (by omega) (by decide) rfl (fun M7 h7r => ?_)
          have e7 : M7 (m + 2) = g_bah (M1 (m + 2)) tk n ks kl ki := by rw [h7r.2 (m + 2) (by omega)]; exact e6
          refine qw_aload_n 0 dX9_bookAnyhow_118 rfl rfl ?_
          refine qw_iload_n 3 dX9_bookAnyhow_119 rfl rfl ?_
          refine qw_iload_n 1 dX9_bookAnyhow_120 rfl rfl ?_
          refine qw_cvi [_, _] (k_X9_reorder h9 hba.1 (by rw [hba.2.1]; exact hi) hba.2.2.2.2.1 hba.2.2.2.2.2.1 (by omega) e7 (fun j hj => by rw [h7r.1 j (by rw [hba.2.2.2.1]; exact hj)]; rfl)) mX9_275 dX9_bookAnyhow_121 h9.1 rfl rfl rfl (Nat.le_of_ble_eq_true rfl) (by omega) (by decide) rfl (fun x1 M8 h8r => ?_)
          obtain ⟨rfl, h8g, h8q⟩ := h8r
          exact qw_ireturn rfl rfl dX9_bookAnyhow_124 ⟨rfl, rfl, _, rfl, Or.inl (by rw [← hMd]; exact ⟨ks, kl, ki, hs, hl1, hl2, hi, rfl, rfl, rfl, by
            have hre := g_reo_s hba.2.2.2.2.1
            have hbe : g_ba (M1 (m + 2)) tk n ks kl ki = g_reo (g_bah (M1 (m + 2)) tk n ks kl ki) ki (g_ord (M1 (m + 2)) (g_set (M1 (m + 2)) ki ks)) := by rw [g_ba, if_neg (fun q => q c61), if_neg c70]
            rw [g_bar, if_neg (fun q => q c61), if_neg c70, hbe, hre.1]
            exact (q_plv_cong (fun j hj => hre.2 j hj)).symm, (hmu.go (fun b b1 b2 => by rw [h8q b b1 b2, h7r.2 b (by omega), lq_up_n _ _ _ b1, h5.2 b b1]; exact h3.2 b (by omega)) (by rw [g_ba, if_neg (fun q => q c61), if_neg c70]; exact h8g)).th hM1⟩), hnf⟩
        · refine qw_iload dX9_bookAnyhow_73 rfl ?_
          refine qw_ineg dX9_bookAnyhow_75 ?_
          exact qw_ireturn rfl rfl dX9_bookAnyhow_76 ⟨rfl, rfl, _, rfl, Or.inl (by rw [← hMd]; exact ⟨ks, kl, ki, hs, hl1, hl2, hi, rfl, rfl, rfl, by rw [g_bar, if_neg (fun q => q c61), if_pos c70, c61]; rfl, (hmu.go (fun b b1 b2 => h3.2 b (by omega)) (by rw [g_ba, if_neg (fun q => q c61), if_pos c70]; exact e3)).th hM1⟩), q_nf.rf⟩
    · refine qw_aload_n 0 dX9_bookAnyhow_35 rfl rfl ?_
      refine qw_iload_n 1 dX9_bookAnyhow_36 rfl rfl ?_
      refine qw_iload_n 2 dX9_bookAnyhow_37 rfl rfl ?_
      refine qw_iload_n 3 dX9_bookAnyhow_38 rfl rfl ?_
      refine qw_cvn [_, _, _] (k_X9_books_g h9 e2 hW1 hF hn hC1 hs hl2 hi c32) mX9_269 dX9_bookAnyhow_39 h9.1 rfl rfl rfl (Nat.le_of_ble_eq_true rfl) (by omega) (by decide) rfl (fun x1 M3 N3 h3 => ?_)
      obtain ⟨rfl, h3g, h3q, hnf⟩ := h3
      exact qw_ireturn rfl rfl dX9_bookAnyhow_42 ⟨rfl, rfl, _, rfl, Or.inl (by rw [← hMd]; exact ⟨ks, kl, ki, hs, hl1, hl2, hi, rfl, rfl, rfl, by rw [g_bar, if_pos (by omega), g_bkr, if_pos c32], (hmu.go (q_dfr.of h3q) (by rw [g_ba, if_pos (by omega)]; exact h3g)).th hM1⟩), hnf⟩
  · refine qw_if_eqN 17 dX9_bookAnyhow_12 (by decide) (by omega) (fun c12 => absurd c12 (by decide)) (fun c12 => ?_)
    refine qw_iconst (nI 0) dX9_bookAnyhow_15 (by decide) ?_
    exact qw_ireturn rfl rfl dX9_bookAnyhow_16 ⟨rfl, rfl, _, rfl, Or.inr ⟨e, by rw [← hMd]; exact v1, hMu e⟩, q_nf.rf⟩
end R10
