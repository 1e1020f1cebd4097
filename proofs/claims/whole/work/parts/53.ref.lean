/-! THE REFERENCE: its reading methods -/
/-- what a public method of the reference leaves: a value, and thrown 0; or an exception's number, and nothing else moved -/
def q_rp (m : Nat) (M M2 : lq_M) (V : Prop) (E : Nat → Prop) : Prop := (V ∧ M2 = lq_up M m 0 0) ∨ ∃ e, E e ∧ M2 = lq_up M m 0 e
section R5
variable {G : lq_G} {z : Nat} {S : lq_S} {M : lq_M} {N : lq_N} {m : Nat} {fh fo : Nat → Option Nat}
theorem k_X9_thrown (h9 : sh9 S m fh fo) : LM G YX9_thrown 0 0 0 [.ref m] z S M N (lq_pu z S M N (.int (nI (M m 0)))) lq_no := by
  refine LM.of (by decide) rfl [some (.ref m)] rfl (Nat.le_of_ble_eq_true rfl) ?_
  refine qw_aload_n 0 dX9_thrown_0 rfl rfl ?_
  refine qw_geti fX9_41 dX9_thrown_1 h9.1 rfl ?_
  exact qw_ireturn rfl rfl dX9_thrown_4 ⟨rfl, rfl, rfl, rfl, rfl⟩
theorem k_X9_errorOffset (h9 : sh9 S m fh fo) : LM G YX9_errorOffset 0 0 0 [.ref m] z S M N (lq_mi z S N (fun x M2 => x = nI (M m 7) ∧ M2 = lq_up M m 0 0)) lq_no := by
  refine LM.of (by decide) rfl [some (.ref m)] rfl (Nat.le_of_ble_eq_true rfl) ?_
  refine qw_aload_n 0 dX9_errorOffset_0 rfl rfl ?_
  refine qw_iconst (nI 0) dX9_errorOffset_1 (by decide) ?_
  refine qw_puti fX9_41 dX9_errorOffset_2 h9.1 rfl ?_
  refine qw_aload_n 0 dX9_errorOffset_5 rfl rfl ?_
  refine qw_geti fX9_13 dX9_errorOffset_6 h9.1 rfl ?_
  exact qw_ireturn rfl rfl dX9_errorOffset_9 ⟨rfl, rfl, rfl, _, rfl, by rw [lq_up_c _ _ (by decide)], rfl⟩
theorem k_X9_breaks (h9 : sh9 S m fh fo) : LM G YX9_breaks 0 0 0 [.ref m] z S M N (lq_mi z S N (fun x M2 => x = nI (M (m + 2) 0) ∧ M2 = lq_up M m 0 0)) lq_no := by
  refine LM.of (by decide) rfl [some (.ref m)] rfl (Nat.le_of_ble_eq_true rfl) ?_
  refine qw_aload_n 0 dX9_breaks_0 rfl rfl ?_
  refine qw_iconst (nI 0) dX9_breaks_1 (by decide) ?_
  refine qw_puti fX9_41 dX9_breaks_2 h9.1 rfl ?_
  refine qw_aload_n 0 dX9_breaks_5 rfl rfl ?_
  refine qw_getr fX9_17 dX9_breaks_6 h9.1 rfl ?_
  refine qw_iconst (nI 0) dX9_breaks_9 (by decide) ?_
  refine qw_iald dX9_breaks_10 h9.da (by omega) (by omega) ?_
  exact qw_ireturn rfl rfl dX9_breaks_11 ⟨rfl, rfl, rfl, _, rfl, by rw [lq_up_n _ _ _ (by omega)], rfl⟩
theorem k_X9_sponsors (h9 : sh9 S m fh fo) : LM G YX9_sponsors 0 0 0 [.ref m] z S M N (lq_mi z S N (fun x M2 => x = nI (M (m + 2) 1) ∧ M2 = lq_up M m 0 0)) lq_no := by
  refine LM.of (by decide) rfl [some (.ref m)] rfl (Nat.le_of_ble_eq_true rfl) ?_
  refine qw_aload_n 0 dX9_sponsors_0 rfl rfl ?_
  refine qw_iconst (nI 0) dX9_sponsors_1 (by decide) ?_
  refine qw_puti fX9_41 dX9_sponsors_2 h9.1 rfl ?_
  refine qw_aload_n 0 dX9_sponsors_5 rfl rfl ?_
  refine qw_getr fX9_17 dX9_sponsors_6 h9.1 rfl ?_
  refine qw_iconst (nI 1) dX9_sponsors_9 (by decide) ?_
  refine qw_iald dX9_sponsors_10 h9.da (by omega) (by omega) ?_
  exact qw_ireturn rfl rfl dX9_sponsors_11 ⟨rfl, rfl, rfl, _, rfl, by rw [lq_up_n _ _ _ (by omega)], rfl⟩
theorem k_X9_income (h9 : sh9 S m fh fo) : LM G YX9_income 0 0 0 [.ref m] z S M N (lq_mi z S N (fun x M2 => x = nI (M (m + 2) 6) ∧ M2 = lq_up M m 0 0)) lq_no := by
  refine LM.of (by decide) rfl [some (.ref m)] rfl (Nat.le_of_ble_eq_true rfl) ?_
  refine qw_aload_n 0 dX9_income_0 rfl rfl ?_
  refine qw_iconst (nI 0) dX9_income_1 (by decide) ?_
  refine qw_puti fX9_41 dX9_income_2 h9.1 rfl ?_
  refine qw_aload_n 0 dX9_income_5 rfl rfl ?_
  refine qw_getr fX9_17 dX9_income_6 h9.1 rfl ?_
  refine qw_bipush (nI 6) dX9_income_9 (by decide) ?_
  refine qw_iald dX9_income_11 h9.da (by omega) (by omega) ?_
  exact qw_ireturn rfl rfl dX9_income_12 ⟨rfl, rfl, rfl, _, rfl, by rw [lq_up_n _ _ _ (by omega)], rfl⟩
theorem k_X9_owed (h9 : sh9 S m fh fo) : LM G YX9_owed 0 0 0 [.ref m] z S M N (lq_mi z S N (fun x M2 => x = nI (M (m + 2) 5) ∧ M2 = lq_up M m 0 0)) lq_no := by
  refine LM.of (by decide) rfl [some (.ref m)] rfl (Nat.le_of_ble_eq_true rfl) ?_
  refine qw_aload_n 0 dX9_owed_0 rfl rfl ?_
  refine qw_iconst (nI 0) dX9_owed_1 (by decide) ?_
  refine qw_puti fX9_41 dX9_owed_2 h9.1 rfl ?_
  refine qw_aload_n 0 dX9_owed_5 rfl rfl ?_
  refine qw_getr fX9_17 dX9_owed_6 h9.1 rfl ?_
  refine qw_iconst (nI 5) dX9_owed_9 (by decide) ?_
  refine qw_iald dX9_owed_10 h9.da (by omega) (by omega) ?_
  exact qw_ireturn rfl rfl dX9_owed_11 ⟨rfl, rfl, rfl, _, rfl, by rw [lq_up_n _ _ _ (by omega)], rfl⟩
theorem k_X9_breakOf (h9 : sh9 S m fh fo) (hW : g_wf (M (m + 2))) {i w : Int32} : LM G YX9_breakOf 3 0 0 [.ref m, .int i, .int w] z S M N (lq_mi z S N (fun x M2 => q_rp m M M2 (∃ k v, k < M (m + 2) 0 ∧ v ≤ 6 ∧ i = nI k ∧ w = nI v ∧ x = nI (if v = 6 then g_us (M (m + 2)) k else M (m + 2) (7 + v + 30 * k))) (fun e => (e = 1 ∧ ¬ q_ix i (M (m + 2) 0)) ∨ (e = 2 ∧ q_ix i (M (m + 2) 0) ∧ ¬ q_rg w 0 6)))) lq_no := by
  refine LM.of (by decide) rfl [some (.ref m), some (.int i), some (.int w)] rfl (Nat.le_of_ble_eq_true rfl) ?_
  refine qw_aload_n 0 dX9_breakOf_0 rfl rfl ?_
  refine qw_iconst (nI 0) dX9_breakOf_1 (by decide) ?_
  refine qw_puti fX9_41 dX9_breakOf_2 h9.1 rfl ?_
  have hM0 := lq_up_s M m 0 0
  have hMd := lq_up_n M (a := m) (b := m + 2) 0 0 (by omega)
  have hMu := fun e => lq_up_up M m 0 0 e
  have hMr := fun b (hb : b ≠ m) => lq_up_n M (a := m) (b := b) 0 0 hb
  have hMm := fun j (hj : j ≠ 0) => lq_up_c M (a := m) (k := 0) (j := j) 0 hj
  revert hM0 hMd hMu hMr hMm
  generalize hM1 : lq_up M m 0 0 = M1
  intro h0 hMd hMu hMr hMm
  have hW1 : g_wf (M1 (m + 2)) := by rw [hMd]; exact hW
  have h20 := hW1.nb
  have h8 := hW1.ns
  have h160 := hW1.no
  refine qw_aload_n 0 dX9_breakOf_5 rfl rfl ?_
  refine qw_iload_n 1 dX9_breakOf_6 rfl rfl ?_
  refine qw_cvi [_] (k_X9_noBreak h9 h0 (by omega)) mX9_235 dX9_breakOf_7 h9.1 rfl rfl rfl (Nat.le_of_ble_eq_true rfl) (by omega) (by decide) rfl (fun x1 M2 h1 => ?_)
  rcases h1 with ⟨v1, rfl, hz⟩ | ⟨v1, rfl, hz⟩ <;> rw [hz]
  · refine qw_if_neN 36 dX9_breakOf_10 (by decide) (by omega) (fun c10 => absurd rfl c10) (fun c10 => ?_)
    refine qw_aload_n 0 dX9_breakOf_13 rfl rfl ?_
    refine qw_iload_n 2 dX9_breakOf_14 rfl rfl ?_
    refine qw_iconst (nI 0) dX9_breakOf_15 (by decide) ?_
    refine qw_bipush (nI 6) dX9_breakOf_16 (by decide) ?_
    refine qw_csp [_, _, _] (k_X9_in) mX9_66 dX9_breakOf_18 rfl rfl (Nat.le_of_ble_eq_true rfl) (by omega) (by decide) rfl ?_
    rw [q_inrg (by decide) (by decide)]
    refine qw_if_neN 28 dX9_breakOf_21 (by decide) (Nat.lt_of_le_of_lt q_b_le (by decide)) (fun c21 => ?_) (fun c21 => ?_)
    · refine qw_iconst (nI 0) dX9_breakOf_28 (by decide) ?_
      refine qw_iconst (nI 2) dX9_breakOf_29 (by decide) ?_
      refine qw_cvi [_, _] (k_X9_fails h9 (by decide) (by decide) h0) mX9_166 dX9_breakOf_30 h9.1 rfl rfl rfl (Nat.le_of_ble_eq_true rfl) (by omega) (by decide) rfl (fun x1 M2 h1 => ?_)
      obtain ⟨-, rfl, hz⟩ := h1.resolve_right (fun q => absurd q.1 (by decide))
      rw [hz]
      refine qw_if_eqN 38 dX9_breakOf_33 (by decide) (by omega) (fun c33 => ?_) (fun c33 => absurd rfl c33)
      obtain ⟨k, hk, rfl⟩ := v1
      obtain ⟨v, -, hv, rfl⟩ := q_b_ne c21
      refine qw_iload_n 2 dX9_breakOf_38 rfl rfl ?_
      refine qw_bipush (nI 6) dX9_breakOf_39 (by decide) ?_
      refine qw_icmp_neN 52 dX9_breakOf_41 (by decide) (by omega) (by omega) (fun c41 => ?_) (fun c41 => ?_)
      · refine qw_aload_n 0 dX9_breakOf_52 rfl rfl ?_
        refine qw_getr fX9_17 dX9_breakOf_53 h9.1 rfl ?_
        refine qw_iload_n 1 dX9_breakOf_56 rfl rfl ?_
        refine qw_csp [_] (k_X9_at) mX9_44 dX9_breakOf_57 rfl rfl (Nat.le_of_ble_eq_true rfl) (by omega) (by decide) rfl ?_
        refine qw_iload_n 2 dX9_breakOf_60 rfl rfl ?_
        refine qw_addN dX9_breakOf_61 ?_
        refine qw_iaj (7 + v + 30 * k) (by omega) dX9_breakOf_62 h9.da (by omega) (by omega) ?_
        exact qw_ireturn rfl rfl dX9_breakOf_63 ⟨rfl, rfl, rfl, _, rfl, Or.inl ⟨by rw [← hMd]; exact ⟨k, v, hk, hv, rfl, rfl, by rw [if_neg c41]⟩, hM1.symm⟩⟩
      · refine qw_aload_n 0 dX9_breakOf_44 rfl rfl ?_
        refine qw_iload_n 1 dX9_breakOf_45 rfl rfl ?_
        refine qw_cvp [_] (k_X9_usedOf h9 hW1 hk) mX9_202 dX9_breakOf_46 h9.1 rfl rfl rfl (Nat.le_of_ble_eq_true rfl) (by omega) (by decide) rfl ?_
        refine qw_goto 63 dX9_breakOf_49 (by decide) ?_
        exact qw_ireturn rfl rfl dX9_breakOf_63 ⟨rfl, rfl, rfl, _, rfl, Or.inl ⟨by rw [← hMd]; exact ⟨k, v, hk, hv, rfl, rfl, by rw [if_pos c41]⟩, hM1.symm⟩⟩
    · refine qw_iconst (nI 1) dX9_breakOf_24 (by decide) ?_
      refine qw_goto 29 dX9_breakOf_25 (by decide) ?_
      refine qw_iconst (nI 2) dX9_breakOf_29 (by decide) ?_
      refine qw_cvi [_, _] (k_X9_fails h9 (by decide) (by decide) h0) mX9_166 dX9_breakOf_30 h9.1 rfl rfl rfl (Nat.le_of_ble_eq_true rfl) (by omega) (by decide) rfl (fun x1 M2 h1 => ?_)
      obtain ⟨-, rfl, hz⟩ := h1.resolve_left (fun q => absurd q.1 (by decide))
      rw [hz]
      refine qw_if_eqN 38 dX9_breakOf_33 (by decide) (by omega) (fun c33 => absurd c33 (by decide)) (fun c33 => ?_)
      refine qw_iconst (nI 0) dX9_breakOf_36 (by decide) ?_
      exact qw_ireturn rfl rfl dX9_breakOf_37 ⟨rfl, rfl, rfl, _, rfl, Or.inr ⟨2, by rw [← hMd]; exact Or.inr ⟨rfl, v1, q_b_eq c21⟩, hMu 2⟩⟩
  · refine qw_if_neN 36 dX9_breakOf_10 (by decide) (by omega) (fun c10 => ?_) (fun c10 => absurd c10 (by decide))
    refine qw_iconst (nI 0) dX9_breakOf_36 (by decide) ?_
    exact qw_ireturn rfl rfl dX9_breakOf_37 ⟨rfl, rfl, rfl, _, rfl, Or.inr ⟨1, by rw [← hMd]; exact Or.inl ⟨rfl, v1⟩, hMu 1⟩⟩
theorem k_X9_spot (h9 : sh9 S m fh fo) (hW : g_wf (M (m + 2))) {i p w : Int32} : LM G YX9_spot 3 0 0 [.ref m, .int i, .int p, .int w] z S M N (lq_mi z S N (fun x M2 => q_rp m M M2 (∃ k q v, k < M (m + 2) 0 ∧ q < M (m + 2) (12 + 30 * k) ∧ v ≤ 2 ∧ i = nI k ∧ p = nI q ∧ w = nI v ∧ x = nI (M (m + 2) (13 + v + 30 * k + 3 * q))) (fun e => (e = 1 ∧ ¬ q_ix i (M (m + 2) 0)) ∨ (e = 2 ∧ ∃ k, k < M (m + 2) 0 ∧ i = nI k ∧ ¬ q_ix p (M (m + 2) (12 + 30 * k))) ∨ (e = 3 ∧ ∃ k, k < M (m + 2) 0 ∧ i = nI k ∧ q_ix p (M (m + 2) (12 + 30 * k)) ∧ ¬ q_rg w 0 2)))) lq_no := by
  refine LM.of (by decide) rfl [some (.ref m), some (.int i), some (.int p), some (.int w)] rfl (Nat.le_of_ble_eq_true rfl) ?_
  refine qw_aload_n 0 dX9_spot_0 rfl rfl ?_
  refine qw_iconst (nI 0) dX9_spot_1 (by decide) ?_
  refine qw_puti fX9_41 dX9_spot_2 h9.1 rfl ?_
  have hM0 := lq_up_s M m 0 0
  have hMd := lq_up_n M (a := m) (b := m + 2) 0 0 (by omega)
  have hMu := fun e => lq_up_up M m 0 0 e
  have hMr := fun b (hb : b ≠ m) => lq_up_n M (a := m) (b := b) 0 0 hb
  have hMm := fun j (hj : j ≠ 0) => lq_up_c M (a := m) (k := 0) (j := j) 0 hj
  revert hM0 hMd hMu hMr hMm
  generalize hM1 : lq_up M m 0 0 = M1
  intro h0 hMd hMu hMr hMm
  have hW1 : g_wf (M1 (m + 2)) := by rw [hMd]; exact hW
  have h20 := hW1.nb
  have h8 := hW1.ns
  have h160 := hW1.no
  refine qw_aload_n 0 dX9_spot_5 rfl rfl ?_
  refine qw_iload_n 1 dX9_spot_6 rfl rfl ?_
  refine qw_cvi [_] (k_X9_noBreak h9 h0 (by omega)) mX9_235 dX9_spot_7 h9.1 rfl rfl rfl (Nat.le_of_ble_eq_true rfl) (by omega) (by decide) rfl (fun x1 M2 h1 => ?_)
  rcases h1 with ⟨v1, rfl, hz⟩ | ⟨v1, rfl, hz⟩ <;> rw [hz]
  · refine qw_if_neN 63 dX9_spot_10 (by decide) (by omega) (fun c10 => absurd rfl c10) (fun c10 => ?_)
    obtain ⟨k, hk, rfl⟩ := v1
    have hb := hW1.br hk
    refine qw_aload_n 0 dX9_spot_13 rfl rfl ?_
    refine qw_iload_n 2 dX9_spot_14 rfl rfl ?_
    refine qw_iconst (nI 0) dX9_spot_15 (by decide) ?_
    refine qw_aload_n 0 dX9_spot_16 rfl rfl ?_
    refine qw_iload_n 1 dX9_spot_17 rfl rfl ?_
    refine qw_cvp [_] (k_X9_countOf h9 (by omega)) mX9_185 dX9_spot_18 h9.1 rfl rfl rfl (Nat.le_of_ble_eq_true rfl) (by omega) (by decide) rfl ?_
    refine qw_iconst (nI 1) dX9_spot_21 (by decide) ?_
    refine qw_isub dX9_spot_22 ?_
    refine qw_csp [_, _, _] (k_X9_in) mX9_66 dX9_spot_23 rfl rfl (Nat.le_of_ble_eq_true rfl) (by omega) (by decide) rfl ?_
    rw [q_inix (by omega)]
    refine qw_if_neN 33 dX9_spot_26 (by decide) (Nat.lt_of_le_of_lt q_b_le (by decide)) (fun c26 => ?_) (fun c26 => ?_)
    · refine qw_iconst (nI 0) dX9_spot_33 (by decide) ?_
      refine qw_iconst (nI 2) dX9_spot_34 (by decide) ?_
      refine qw_cvi [_, _] (k_X9_fails h9 (by decide) (by decide) h0) mX9_166 dX9_spot_35 h9.1 rfl rfl rfl (Nat.le_of_ble_eq_true rfl) (by omega) (by decide) rfl (fun x1 M2 h1 => ?_)
      obtain ⟨-, rfl, hz⟩ := h1.resolve_right (fun q => absurd q.1 (by decide))
      rw [hz]
      refine qw_if_neN 63 dX9_spot_38 (by decide) (by omega) (fun c38 => absurd rfl c38) (fun c38 => ?_)
      refine qw_aload_n 0 dX9_spot_41 rfl rfl ?_
      refine qw_iload_n 3 dX9_spot_42 rfl rfl ?_
      refine qw_iconst (nI 0) dX9_spot_43 (by decide) ?_
      refine qw_iconst (nI 2) dX9_spot_44 (by decide) ?_
      refine qw_csp [_, _, _] (k_X9_in) mX9_66 dX9_spot_45 rfl rfl (Nat.le_of_ble_eq_true rfl) (by omega) (by decide) rfl ?_
      rw [q_inrg (by decide) (by decide)]
      refine qw_if_neN 55 dX9_spot_48 (by decide) (Nat.lt_of_le_of_lt q_b_le (by decide)) (fun c48 => ?_) (fun c48 => ?_)
      · refine qw_iconst (nI 0) dX9_spot_55 (by decide) ?_
        refine qw_iconst (nI 3) dX9_spot_56 (by decide) ?_
        refine qw_cvi [_, _] (k_X9_fails h9 (by decide) (by decide) h0) mX9_166 dX9_spot_57 h9.1 rfl rfl rfl (Nat.le_of_ble_eq_true rfl) (by omega) (by decide) rfl (fun x1 M2 h1 => ?_)
        obtain ⟨-, rfl, hz⟩ := h1.resolve_right (fun q => absurd q.1 (by decide))
        rw [hz]
        refine qw_if_eqN 65 dX9_spot_60 (by decide) (by omega) (fun c60 => ?_) (fun c60 => absurd rfl c60)
        obtain ⟨q, hq, rfl⟩ := q_b_ne c26
        obtain ⟨v, -, hv, rfl⟩ := q_b_ne c48
        refine qw_aload_n 0 dX9_spot_65 rfl rfl ?_
        refine qw_getr fX9_17 dX9_spot_66 h9.1 rfl ?_
        refine qw_iload_n 1 dX9_spot_69 rfl rfl ?_
        refine qw_iload_n 2 dX9_spot_70 rfl rfl ?_
        refine qw_csp [_, _] (k_X9_spotAt) mX9_188 dX9_spot_71 rfl rfl (Nat.le_of_ble_eq_true rfl) (by omega) (by decide) rfl ?_
        refine qw_iload_n 3 dX9_spot_74 rfl rfl ?_
        refine qw_addN dX9_spot_75 ?_
        refine qw_iaj (13 + v + 30 * k + 3 * q) (by omega) dX9_spot_76 h9.da (by omega) (by omega) ?_
        exact qw_ireturn rfl rfl dX9_spot_77 ⟨rfl, rfl, rfl, _, rfl, Or.inl ⟨by rw [← hMd]; exact ⟨k, q, v, hk, hq, hv, rfl, rfl, rfl, rfl⟩, hM1.symm⟩⟩
      · refine qw_iconst (nI 1) dX9_spot_51 (by decide) ?_
        refine qw_goto 56 dX9_spot_52 (by decide) ?_
        refine qw_iconst (nI 3) dX9_spot_56 (by decide) ?_
        refine qw_cvi [_, _] (k_X9_fails h9 (by decide) (by decide) h0) mX9_166 dX9_spot_57 h9.1 rfl rfl rfl (Nat.le_of_ble_eq_true rfl) (by omega) (by decide) rfl (fun x1 M2 h1 => ?_)
        obtain ⟨-, rfl, hz⟩ := h1.resolve_left (fun q => absurd q.1 (by decide))
        rw [hz]
        refine qw_if_eqN 65 dX9_spot_60 (by decide) (by omega) (fun c60 => absurd c60 (by decide)) (fun c60 => ?_)
        refine qw_iconst (nI 0) dX9_spot_63 (by decide) ?_
        exact qw_ireturn rfl rfl dX9_spot_64 ⟨rfl, rfl, rfl, _, rfl, Or.inr ⟨3, by rw [← hMd]; exact Or.inr (Or.inr ⟨rfl, k, hk, rfl, q_b_ne c26, q_b_eq c48⟩), hMu 3⟩⟩
    · refine qw_iconst (nI 1) dX9_spot_29 (by decide) ?_
      refine qw_goto 34 dX9_spot_30 (by decide) ?_
      refine qw_iconst (nI 2) dX9_spot_34 (by decide) ?_
      refine qw_cvi [_, _] (k_X9_fails h9 (by decide) (by decide) h0) mX9_166 dX9_spot_35 h9.1 rfl rfl rfl (Nat.le_of_ble_eq_true rfl) (by omega) (by decide) rfl (fun x1 M2 h1 => ?_)
      obtain ⟨-, rfl, hz⟩ := h1.resolve_left (fun q => absurd q.1 (by decide))
      rw [hz]
      refine qw_if_neN 63 dX9_spot_38 (by decide) (by omega) (fun c38 => ?_) (fun c38 => absurd c38 (by decide))
      refine qw_iconst (nI 0) dX9_spot_63 (by decide) ?_
      exact qw_ireturn rfl rfl dX9_spot_64 ⟨rfl, rfl, rfl, _, rfl, Or.inr ⟨2, by rw [← hMd]; exact Or.inr (Or.inl ⟨rfl, k, hk, rfl, q_b_eq c26⟩), hMu 2⟩⟩
  · refine qw_if_neN 63 dX9_spot_10 (by decide) (by omega) (fun c10 => ?_) (fun c10 => absurd c10 (by decide))
    refine qw_iconst (nI 0) dX9_spot_63 (by decide) ?_
    exact qw_ireturn rfl rfl dX9_spot_64 ⟨rfl, rfl, rfl, _, rfl, Or.inr ⟨1, by rw [← hMd]; exact Or.inl ⟨rfl, v1⟩, hMu 1⟩⟩
theorem l_X9_owedOf (h9 : sh9 S m fh fo) (hW : g_wf (M (m + 2))) {s : Nat} (hs : s < 2 ^ 31) : ∀ (n9 k : Nat), k ≤ M (m + 2) 5 → M (m + 2) 5 - k < n9 → LW G YX9_owedOf 0 0 0 (lq_pu z S M N (.int (nI (g_owc (M (m + 2)) s)))) lq_no z S M N 4 [some (.ref m), some (.int (nI s)), some (.int (nI (q_cnt (fun k => M (m + 2) (723 + 4 * k)) s k))), some (.int (nI k))] [] := by
  intro n9
  induction n9 with
  | zero => intro _ _ _; omega
  | succ n9 ih =>
    intro k hk hn9
    have h160 := hW.no
    have h8 := hW.ns
    refine qw_iload_n 3 dX9_owedOf_4 rfl rfl ?_
    refine qw_aload_n 0 dX9_owedOf_5 rfl rfl ?_
    refine qw_getr fX9_17 dX9_owedOf_6 h9.1 rfl ?_
    refine qw_iconst (nI 5) dX9_owedOf_9 (by decide) ?_
    refine qw_iald dX9_owedOf_10 h9.da (by omega) (by omega) ?_
    refine qw_icmp_geN 44 dX9_owedOf_11 (by decide) (by omega) (by omega) (fun c11 => ?_) (fun c11 => ?_)
    · refine qw_iload_n 2 dX9_owedOf_44 rfl rfl ?_
      exact qw_ireturn rfl rfl dX9_owedOf_45 ⟨by rw [show k = M (m + 2) 5 by omega]; rfl, rfl, rfl, rfl, rfl⟩
    · have how := (hW.ow (k := k) (by omega)).1
      refine qw_iload_n 2 dX9_owedOf_14 rfl rfl ?_
      refine qw_aload_n 0 dX9_owedOf_15 rfl rfl ?_
      refine qw_getr fX9_17 dX9_owedOf_16 h9.1 rfl ?_
      refine qw_sipush (nI 723) dX9_owedOf_19 (by decide) ?_
      refine qw_iconst (nI 4) dX9_owedOf_22 (by decide) ?_
      refine qw_iload_n 3 dX9_owedOf_23 rfl rfl ?_
      refine qw_mulN dX9_owedOf_24 ?_
      refine qw_addN dX9_owedOf_25 ?_
      refine qw_iald dX9_owedOf_26 h9.da (by omega) (by omega) ?_
      refine qw_iload_n 1 dX9_owedOf_27 rfl rfl ?_
      refine qw_icmp_neN 35 dX9_owedOf_28 (by decide) (by omega) (by omega) (fun c28 => ?_) (fun c28 => ?_)
      · refine qw_iconst (nI 0) dX9_owedOf_35 (by decide) ?_
        refine qw_addN dX9_owedOf_36 ?_
        refine qw_istore_n 2 dX9_owedOf_37 rfl rfl (by decide) ?_
        refine qw_iincN 1 dX9_owedOf_38 rfl (by decide) rfl (by decide) ?_
        refine qw_goto 4 dX9_owedOf_41 (by decide) ?_
        have h := ih (k + 1) (by omega) (by omega)
        rw [q_cnt, if_neg c28] at h
        exact h
      · refine qw_iconst (nI 1) dX9_owedOf_31 (by decide) ?_
        refine qw_goto 36 dX9_owedOf_32 (by decide) ?_
        refine qw_addN dX9_owedOf_36 ?_
        refine qw_istore_n 2 dX9_owedOf_37 rfl rfl (by decide) ?_
        refine qw_iincN 1 dX9_owedOf_38 rfl (by decide) rfl (by decide) ?_
        refine qw_goto 4 dX9_owedOf_41 (by decide) ?_
        have h := ih (k + 1) (by omega) (by omega)
        rw [q_cnt, if_pos c28] at h
        exact h
theorem k_X9_owedOf (h9 : sh9 S m fh fo) (hW : g_wf (M (m + 2))) {s : Nat} (hs : s < 2 ^ 31) : LM G YX9_owedOf 0 0 0 [.ref m, .int (nI s)] z S M N (lq_pu z S M N (.int (nI (g_owc (M (m + 2)) s)))) lq_no := by
  refine LM.of (by decide) rfl [some (.ref m), some (.int (nI s)), none, none] rfl (Nat.le_of_ble_eq_true rfl) ?_
  refine qw_iconst (nI 0) dX9_owedOf_0 (by decide) ?_
  refine qw_istore_n 2 dX9_owedOf_1 rfl rfl (by decide) ?_
  refine qw_iconst (nI 0) dX9_owedOf_2 (by decide) ?_
  refine qw_istore_n 3 dX9_owedOf_3 rfl rfl (by decide) ?_
  exact l_X9_owedOf h9 hW hs (M (m + 2) 5 + 1) 0 (Nat.zero_le _) (by omega)
theorem k_X9_sponsor (h9 : sh9 S m fh fo) (hW : g_wf (M (m + 2))) {s w : Int32} : LM G YX9_sponsor 4 0 0 [.ref m, .int s, .int w] z S M N (lq_mi z S N (fun x M2 => q_rp m M M2 (∃ k v, k < M (m + 2) 1 ∧ v ≤ 4 ∧ s = nI k ∧ w = nI v ∧ x = nI (g_spo (M (m + 2)) k v)) (fun e => (e = 1 ∧ ¬ q_ix s (M (m + 2) 1)) ∨ (e = 2 ∧ q_ix s (M (m + 2) 1) ∧ ¬ q_rg w 0 4)))) lq_no := by
  refine LM.of (by decide) rfl [some (.ref m), some (.int s), some (.int w)] rfl (Nat.le_of_ble_eq_true rfl) ?_
  refine qw_aload_n 0 dX9_sponsor_0 rfl rfl ?_
  refine qw_iconst (nI 0) dX9_sponsor_1 (by decide) ?_
  refine qw_puti fX9_41 dX9_sponsor_2 h9.1 rfl ?_
  have hM0 := lq_up_s M m 0 0
  have hMd := lq_up_n M (a := m) (b := m + 2) 0 0 (by omega)
  have hMu := fun e => lq_up_up M m 0 0 e
  have hMr := fun b (hb : b ≠ m) => lq_up_n M (a := m) (b := b) 0 0 hb
  have hMm := fun j (hj : j ≠ 0) => lq_up_c M (a := m) (k := 0) (j := j) 0 hj
  revert hM0 hMd hMu hMr hMm
  generalize hM1 : lq_up M m 0 0 = M1
  intro h0 hMd hMu hMr hMm
  have hW1 : g_wf (M1 (m + 2)) := by rw [hMd]; exact hW
  have h20 := hW1.nb
  have h8 := hW1.ns
  have h160 := hW1.no
  refine qw_aload_n 0 dX9_sponsor_5 rfl rfl ?_
  refine qw_iload_n 1 dX9_sponsor_6 rfl rfl ?_
  refine qw_cvi [_] (k_X9_noSponsor h9 h0 (by omega)) mX9_232 dX9_sponsor_7 h9.1 rfl rfl rfl (Nat.le_of_ble_eq_true rfl) (by omega) (by decide) rfl (fun x1 M2 h1 => ?_)
  rcases h1 with ⟨v1, rfl, hz⟩ | ⟨v1, rfl, hz⟩ <;> rw [hz]
  · refine qw_if_neN 35 dX9_sponsor_10 (by decide) (by omega) (fun c10 => absurd rfl c10) (fun c10 => ?_)
    refine qw_aload_n 0 dX9_sponsor_13 rfl rfl ?_
    refine qw_iload_n 2 dX9_sponsor_14 rfl rfl ?_
    refine qw_iconst (nI 0) dX9_sponsor_15 (by decide) ?_
    refine qw_iconst (nI 4) dX9_sponsor_16 (by decide) ?_
    refine qw_csp [_, _, _] (k_X9_in) mX9_66 dX9_sponsor_17 rfl rfl (Nat.le_of_ble_eq_true rfl) (by omega) (by decide) rfl ?_
    rw [q_inrg (by decide) (by decide)]
    refine qw_if_neN 27 dX9_sponsor_20 (by decide) (Nat.lt_of_le_of_lt q_b_le (by decide)) (fun c20 => ?_) (fun c20 => ?_)
    · refine qw_iconst (nI 0) dX9_sponsor_27 (by decide) ?_
      refine qw_iconst (nI 2) dX9_sponsor_28 (by decide) ?_
      refine qw_cvi [_, _] (k_X9_fails h9 (by decide) (by decide) h0) mX9_166 dX9_sponsor_29 h9.1 rfl rfl rfl (Nat.le_of_ble_eq_true rfl) (by omega) (by decide) rfl (fun x1 M2 h1 => ?_)
      obtain ⟨-, rfl, hz⟩ := h1.resolve_right (fun q => absurd q.1 (by decide))
      rw [hz]
      refine qw_if_eqN 37 dX9_sponsor_32 (by decide) (by omega) (fun c32 => ?_) (fun c32 => absurd rfl c32)
      obtain ⟨k, hk, rfl⟩ := v1
      obtain ⟨v, -, hv, rfl⟩ := q_b_ne c20
      refine qw_iload_n 2 dX9_sponsor_37 rfl rfl ?_
      refine qw_iconst (nI 2) dX9_sponsor_38 (by decide) ?_
      refine qw_icmp_geN 59 dX9_sponsor_39 (by decide) (by omega) (by omega) (fun c39 => ?_) (fun c39 => ?_)
      · refine qw_iload_n 2 dX9_sponsor_59 rfl rfl ?_
        refine qw_iconst (nI 2) dX9_sponsor_60 (by decide) ?_
        refine qw_icmp_neN 75 dX9_sponsor_61 (by decide) (by omega) (by omega) (fun c61 => ?_) (fun c61 => ?_)
        · refine qw_iload_n 2 dX9_sponsor_75 rfl rfl ?_
          refine qw_iconst (nI 3) dX9_sponsor_76 (by decide) ?_
          refine qw_icmp_neN 91 dX9_sponsor_77 (by decide) (by omega) (by omega) (fun c77 => ?_) (fun c77 => ?_)
          · refine qw_aload_n 0 dX9_sponsor_91 rfl rfl ?_
            refine qw_iload_n 1 dX9_sponsor_92 rfl rfl ?_
            refine qw_cvp [_] (k_X9_owedOf h9 hW1 (by omega)) mX9_241 dX9_sponsor_93 h9.1 rfl rfl rfl (Nat.le_of_ble_eq_true rfl) (by omega) (by decide) rfl ?_
            exact qw_ireturn rfl rfl dX9_sponsor_96 ⟨rfl, rfl, rfl, _, rfl, Or.inl ⟨by rw [← hMd]; exact ⟨k, v, hk, hv, rfl, rfl, by rw [show v = 4 by omega]; rfl⟩, hM1.symm⟩⟩
          · refine qw_aload_n 0 dX9_sponsor_80 rfl rfl ?_
            refine qw_iload_n 1 dX9_sponsor_81 rfl rfl ?_
            refine qw_iconst (-1) dX9_sponsor_82 (by decide) ?_
            refine qw_iconst (nI 1) dX9_sponsor_83 (by decide) ?_
            refine qw_iconst (nI 1) dX9_sponsor_84 (by decide) ?_
            refine qw_cvp [_, _, _, _] (k_X9_so_1 h9 hW1 (by omega)) mX9_198 dX9_sponsor_85 h9.1 rfl rfl rfl (Nat.le_of_ble_eq_true rfl) (by omega) (by decide) rfl ?_
            refine qw_goto 96 dX9_sponsor_88 (by decide) ?_
            exact qw_ireturn rfl rfl dX9_sponsor_96 ⟨rfl, rfl, rfl, _, rfl, Or.inl ⟨by rw [← hMd]; exact ⟨k, v, hk, hv, rfl, rfl, by subst c77; rfl⟩, hM1.symm⟩⟩
        · refine qw_aload_n 0 dX9_sponsor_64 rfl rfl ?_
          refine qw_iload_n 1 dX9_sponsor_65 rfl rfl ?_
          refine qw_iconst (-1) dX9_sponsor_66 (by decide) ?_
          refine qw_iconst (nI 0) dX9_sponsor_67 (by decide) ?_
          refine qw_iconst (nI 1) dX9_sponsor_68 (by decide) ?_
          refine qw_cvp [_, _, _, _] (k_X9_so_a h9 hW1 (by omega)) mX9_198 dX9_sponsor_69 h9.1 rfl rfl rfl (Nat.le_of_ble_eq_true rfl) (by omega) (by decide) rfl ?_
          refine qw_goto 96 dX9_sponsor_72 (by decide) ?_
          exact qw_ireturn rfl rfl dX9_sponsor_96 ⟨rfl, rfl, rfl, _, rfl, Or.inl ⟨by rw [← hMd]; exact ⟨k, v, hk, hv, rfl, rfl, by subst c61; rfl⟩, hM1.symm⟩⟩
      · refine qw_aload_n 0 dX9_sponsor_42 rfl rfl ?_
        refine qw_getr fX9_17 dX9_sponsor_43 h9.1 rfl ?_
        refine qw_sipush (nI 607) dX9_sponsor_46 (by decide) ?_
        refine qw_iconst (nI 2) dX9_sponsor_49 (by decide) ?_
        refine qw_iload_n 1 dX9_sponsor_50 rfl rfl ?_
        refine qw_mulN dX9_sponsor_51 ?_
        refine qw_addN dX9_sponsor_52 ?_
        refine qw_iload_n 2 dX9_sponsor_53 rfl rfl ?_
        refine qw_addN dX9_sponsor_54 ?_
        refine qw_iaj (607 + 2 * k + v) (by omega) dX9_sponsor_55 h9.da (by omega) (by omega) ?_
        refine qw_goto 96 dX9_sponsor_56 (by decide) ?_
        exact qw_ireturn rfl rfl dX9_sponsor_96 ⟨rfl, rfl, rfl, _, rfl, Or.inl ⟨by rw [← hMd]; exact ⟨k, v, hk, hv, rfl, rfl, by rcases (show v = 0 ∨ v = 1 by omega) with e | e; subst e; rfl; subst e; rw [g_spo, if_neg (by decide), if_pos rfl, show 607 + 2 * k + 1 = 608 + 2 * k by omega]⟩, hM1.symm⟩⟩
    · refine qw_iconst (nI 1) dX9_sponsor_23 (by decide) ?_
      refine qw_goto 28 dX9_sponsor_24 (by decide) ?_
      refine qw_iconst (nI 2) dX9_sponsor_28 (by decide) ?_
      refine qw_cvi [_, _] (k_X9_fails h9 (by decide) (by decide) h0) mX9_166 dX9_sponsor_29 h9.1 rfl rfl rfl (Nat.le_of_ble_eq_true rfl) (by omega) (by decide) rfl (fun x1 M2 h1 => ?_)
      obtain ⟨-, rfl, hz⟩ := h1.resolve_left (fun q => absurd q.1 (by decide))
      rw [hz]
      refine qw_if_eqN 37 dX9_sponsor_32 (by decide) (by omega) (fun c32 => absurd c32 (by decide)) (fun c32 => ?_)
      refine qw_iconst (nI 0) dX9_sponsor_35 (by decide) ?_
      exact qw_ireturn rfl rfl dX9_sponsor_36 ⟨rfl, rfl, rfl, _, rfl, Or.inr ⟨2, by rw [← hMd]; exact Or.inr ⟨rfl, v1, q_b_eq c20⟩, hMu 2⟩⟩
  · refine qw_if_neN 35 dX9_sponsor_10 (by decide) (by omega) (fun c10 => ?_) (fun c10 => absurd c10 (by decide))
    refine qw_iconst (nI 0) dX9_sponsor_35 (by decide) ?_
    exact qw_ireturn rfl rfl dX9_sponsor_36 ⟨rfl, rfl, rfl, _, rfl, Or.inr ⟨1, by rw [← hMd]; exact Or.inl ⟨rfl, v1⟩, hMu 1⟩⟩
theorem k_X9_isBanned (h9 : sh9 S m fh fo) (hW : g_wf (M (m + 2))) {i w : Int32} : LM G YX9_isBanned 1 0 0 [.ref m, .int i, .int w] z S M N (lq_mi z S N (fun x M2 => q_rp m M M2 (∃ k v, k ≤ 9 ∧ v ≤ 9 ∧ i = nI k ∧ w = nI v ∧ x = nI (M (m + 2) (623 + 10 * k + v))) (fun e => e = 1 ∧ ¬ (q_rg i 0 9 ∧ q_rg w 0 9)))) lq_no := by
  refine LM.of (by decide) rfl [some (.ref m), some (.int i), some (.int w)] rfl (Nat.le_of_ble_eq_true rfl) ?_
  refine qw_aload_n 0 dX9_isBanned_0 rfl rfl ?_
  refine qw_iconst (nI 0) dX9_isBanned_1 (by decide) ?_
  refine qw_puti fX9_41 dX9_isBanned_2 h9.1 rfl ?_
  have hM0 := lq_up_s M m 0 0
  have hMd := lq_up_n M (a := m) (b := m + 2) 0 0 (by omega)
  have hMu := fun e => lq_up_up M m 0 0 e
  have hMr := fun b (hb : b ≠ m) => lq_up_n M (a := m) (b := b) 0 0 hb
  have hMm := fun j (hj : j ≠ 0) => lq_up_c M (a := m) (k := 0) (j := j) 0 hj
  revert hM0 hMd hMu hMr hMm
  generalize hM1 : lq_up M m 0 0 = M1
  intro h0 hMd hMu hMr hMm
  have hW1 : g_wf (M1 (m + 2)) := by rw [hMd]; exact hW
  have h20 := hW1.nb
  have h8 := hW1.ns
  have h160 := hW1.no
  refine qw_aload_n 0 dX9_isBanned_5 rfl rfl ?_
  refine qw_iload_n 1 dX9_isBanned_6 rfl rfl ?_
  refine qw_iconst (nI 0) dX9_isBanned_7 (by decide) ?_
  refine qw_bipush (nI 9) dX9_isBanned_8 (by decide) ?_
  refine qw_csp [_, _, _] (k_X9_in) mX9_66 dX9_isBanned_10 rfl rfl (Nat.le_of_ble_eq_true rfl) (by omega) (by decide) rfl ?_
  rw [q_inrg (by decide) (by decide)]
  have hle1 := q_b_le (p := q_rg i 0 9)
  refine qw_if_eqN 26 dX9_isBanned_13 (by decide) (by omega) (fun c13 => ?_) (fun c13 => ?_)
  · refine qw_iconst (nI 1) dX9_isBanned_26 (by decide) ?_
    refine qw_goto 31 dX9_isBanned_27 (by decide) ?_
    refine qw_iconst (nI 1) dX9_isBanned_31 (by decide) ?_
    refine qw_cvi [_, _] (k_X9_fails h9 (by decide) (by decide) h0) mX9_166 dX9_isBanned_32 h9.1 rfl rfl rfl (Nat.le_of_ble_eq_true rfl) (by omega) (by decide) rfl (fun x1 M2 h1 => ?_)
    obtain ⟨-, rfl, hz⟩ := h1.resolve_left (fun q => absurd q.1 (by decide))
    rw [hz]
    refine qw_if_eqN 40 dX9_isBanned_35 (by decide) (by omega) (fun c35 => absurd c35 (by decide)) (fun c35 => ?_)
    refine qw_iconst (nI 0) dX9_isBanned_38 (by decide) ?_
    exact qw_ireturn rfl (by decide) dX9_isBanned_39 ⟨rfl, rfl, rfl, _, rfl, Or.inr ⟨1, ⟨rfl, fun q => q_b_eq c13 q.1⟩, hMu 1⟩⟩
  · refine qw_iload_n 2 dX9_isBanned_16 rfl rfl ?_
    refine qw_iconst (nI 0) dX9_isBanned_17 (by decide) ?_
    refine qw_bipush (nI 9) dX9_isBanned_18 (by decide) ?_
    refine qw_csp [_, _, _] (k_X9_in) mX9_66 dX9_isBanned_20 rfl rfl (Nat.le_of_ble_eq_true rfl) (by omega) (by decide) rfl ?_
    rw [q_inrg (by decide) (by decide)]
    have hle2 := q_b_le (p := q_rg w 0 9)
    refine qw_if_neN 30 dX9_isBanned_23 (by decide) (by omega) (fun c23 => ?_) (fun c23 => ?_)
    · refine qw_iconst (nI 0) dX9_isBanned_30 (by decide) ?_
      refine qw_iconst (nI 1) dX9_isBanned_31 (by decide) ?_
      refine qw_cvi [_, _] (k_X9_fails h9 (by decide) (by decide) h0) mX9_166 dX9_isBanned_32 h9.1 rfl rfl rfl (Nat.le_of_ble_eq_true rfl) (by omega) (by decide) rfl (fun x1 M2 h1 => ?_)
      obtain ⟨-, rfl, hz⟩ := h1.resolve_right (fun q => absurd q.1 (by decide))
      rw [hz]
      refine qw_if_eqN 40 dX9_isBanned_35 (by decide) (by omega) (fun c35 => ?_) (fun c35 => absurd rfl c35)
      obtain ⟨k, -, hk, rfl⟩ := q_b_ne c13
      obtain ⟨v, -, hv, rfl⟩ := q_b_ne c23
      have hbn := (hW1.ban (a := k) (b := v) (by omega) (by omega)).1
      refine qw_aload_n 0 dX9_isBanned_40 rfl rfl ?_
      refine qw_getr fX9_17 dX9_isBanned_41 h9.1 rfl ?_
      refine qw_sipush (nI 623) dX9_isBanned_44 (by decide) ?_
      refine qw_bipush (nI 10) dX9_isBanned_47 (by decide) ?_
      refine qw_iload_n 1 dX9_isBanned_49 rfl rfl ?_
      refine qw_mulN dX9_isBanned_50 ?_
      refine qw_addN dX9_isBanned_51 ?_
      refine qw_iload_n 2 dX9_isBanned_52 rfl rfl ?_
      refine qw_addN dX9_isBanned_53 ?_
      refine qw_iaj (623 + 10 * k + v) (by omega) dX9_isBanned_54 h9.da (by omega) (by omega) ?_
      refine qw_iconst (nI 1) dX9_isBanned_55 (by decide) ?_
      refine qw_icmp_neN 63 dX9_isBanned_56 (by decide) (by omega) (by omega) (fun c56 => ?_) (fun c56 => ?_)
      · refine qw_iconst (nI 0) dX9_isBanned_63 (by decide) ?_
        exact qw_ireturn rfl (by decide) dX9_isBanned_64 ⟨rfl, rfl, rfl, _, rfl, Or.inl ⟨by rw [← hMd]; exact ⟨k, v, hk, hv, rfl, rfl, by rw [show M1 (m + 2) (623 + 10 * k + v) = 0 by omega]⟩, hM1.symm⟩⟩
      · refine qw_iconst (nI 1) dX9_isBanned_59 (by decide) ?_
        refine qw_goto 64 dX9_isBanned_60 (by decide) ?_
        exact qw_ireturn rfl (by decide) dX9_isBanned_64 ⟨rfl, rfl, rfl, _, rfl, Or.inl ⟨by rw [← hMd]; exact ⟨k, v, hk, hv, rfl, rfl, by rw [c56]⟩, hM1.symm⟩⟩
    · refine qw_iconst (nI 1) dX9_isBanned_26 (by decide) ?_
      refine qw_goto 31 dX9_isBanned_27 (by decide) ?_
      refine qw_iconst (nI 1) dX9_isBanned_31 (by decide) ?_
      refine qw_cvi [_, _] (k_X9_fails h9 (by decide) (by decide) h0) mX9_166 dX9_isBanned_32 h9.1 rfl rfl rfl (Nat.le_of_ble_eq_true rfl) (by omega) (by decide) rfl (fun x1 M2 h1 => ?_)
      obtain ⟨-, rfl, hz⟩ := h1.resolve_left (fun q => absurd q.1 (by decide))
      rw [hz]
      refine qw_if_eqN 40 dX9_isBanned_35 (by decide) (by omega) (fun c35 => absurd c35 (by decide)) (fun c35 => ?_)
      refine qw_iconst (nI 0) dX9_isBanned_38 (by decide) ?_
      exact qw_ireturn rfl (by decide) dX9_isBanned_39 ⟨rfl, rfl, rfl, _, rfl, Or.inr ⟨1, ⟨rfl, fun q => q_b_eq c23 q.2⟩, hMu 1⟩⟩
theorem k_X9_spotsOn (h9 : sh9 S m fh fo) (hW : g_wf (M (m + 2))) {s w : Int32} : LM G YX9_spotsOn 4 0 0 [.ref m, .int s, .int w] z S M N (lq_mi z S N (fun x M2 => q_rp m M M2 (∃ k v, k < M (m + 2) 1 ∧ v ≤ 6 ∧ s = nI k ∧ w = nI v ∧ x = nI (g_sd (M (m + 2)) k v)) (fun e => (e = 1 ∧ ¬ q_ix s (M (m + 2) 1)) ∨ (e = 2 ∧ q_ix s (M (m + 2) 1) ∧ ¬ q_rg w 0 6)))) lq_no := by
  refine LM.of (by decide) rfl [some (.ref m), some (.int s), some (.int w)] rfl (Nat.le_of_ble_eq_true rfl) ?_
  refine qw_aload_n 0 dX9_spotsOn_0 rfl rfl ?_
  refine qw_iconst (nI 0) dX9_spotsOn_1 (by decide) ?_
  refine qw_puti fX9_41 dX9_spotsOn_2 h9.1 rfl ?_
  have hM0 := lq_up_s M m 0 0
  have hMd := lq_up_n M (a := m) (b := m + 2) 0 0 (by omega)
  have hMu := fun e => lq_up_up M m 0 0 e
  have hMr := fun b (hb : b ≠ m) => lq_up_n M (a := m) (b := b) 0 0 hb
  have hMm := fun j (hj : j ≠ 0) => lq_up_c M (a := m) (k := 0) (j := j) 0 hj
  revert hM0 hMd hMu hMr hMm
  generalize hM1 : lq_up M m 0 0 = M1
  intro h0 hMd hMu hMr hMm
  have hW1 : g_wf (M1 (m + 2)) := by rw [hMd]; exact hW
  have h20 := hW1.nb
  have h8 := hW1.ns
  have h160 := hW1.no
  refine qw_aload_n 0 dX9_spotsOn_5 rfl rfl ?_
  refine qw_iload_n 1 dX9_spotsOn_6 rfl rfl ?_
  refine qw_cvi [_] (k_X9_noSponsor h9 h0 (by omega)) mX9_232 dX9_spotsOn_7 h9.1 rfl rfl rfl (Nat.le_of_ble_eq_true rfl) (by omega) (by decide) rfl (fun x1 M2 h1 => ?_)
  rcases h1 with ⟨v1, rfl, hz⟩ | ⟨v1, rfl, hz⟩ <;> rw [hz]
  · refine qw_if_neN 36 dX9_spotsOn_10 (by decide) (by omega) (fun c10 => absurd rfl c10) (fun c10 => ?_)
    refine qw_aload_n 0 dX9_spotsOn_13 rfl rfl ?_
    refine qw_iload_n 2 dX9_spotsOn_14 rfl rfl ?_
    refine qw_iconst (nI 0) dX9_spotsOn_15 (by decide) ?_
    refine qw_bipush (nI 6) dX9_spotsOn_16 (by decide) ?_
    refine qw_csp [_, _, _] (k_X9_in) mX9_66 dX9_spotsOn_18 rfl rfl (Nat.le_of_ble_eq_true rfl) (by omega) (by decide) rfl ?_
    rw [q_inrg (by decide) (by decide)]
    refine qw_if_neN 28 dX9_spotsOn_21 (by decide) (Nat.lt_of_le_of_lt q_b_le (by decide)) (fun c21 => ?_) (fun c21 => ?_)
    · refine qw_iconst (nI 0) dX9_spotsOn_28 (by decide) ?_
      refine qw_iconst (nI 2) dX9_spotsOn_29 (by decide) ?_
      refine qw_cvi [_, _] (k_X9_fails h9 (by decide) (by decide) h0) mX9_166 dX9_spotsOn_30 h9.1 rfl rfl rfl (Nat.le_of_ble_eq_true rfl) (by omega) (by decide) rfl (fun x1 M2 h1 => ?_)
      obtain ⟨-, rfl, hz⟩ := h1.resolve_right (fun q => absurd q.1 (by decide))
      rw [hz]
      refine qw_if_eqN 40 dX9_spotsOn_33 (by decide) (by omega) (fun c33 => ?_) (fun c33 => absurd rfl c33)
      obtain ⟨k, hk, rfl⟩ := v1
      obtain ⟨v, -, hv, rfl⟩ := q_b_ne c21
      refine qw_aload_n 0 dX9_spotsOn_40 rfl rfl ?_
      refine qw_iload_n 1 dX9_spotsOn_41 rfl rfl ?_
      refine qw_iload_n 2 dX9_spotsOn_42 rfl rfl ?_
      refine qw_iconst (nI 0) dX9_spotsOn_43 (by decide) ?_
      refine qw_iconst (nI 1) dX9_spotsOn_44 (by decide) ?_
      refine qw_cvp [_, _, _, _] (k_X9_so_d h9 hW1 (by omega) (by omega)) mX9_198 dX9_spotsOn_45 h9.1 rfl rfl rfl (Nat.le_of_ble_eq_true rfl) (by omega) (by decide) rfl ?_
      exact qw_ireturn rfl rfl dX9_spotsOn_48 ⟨rfl, rfl, rfl, _, rfl, Or.inl ⟨by rw [← hMd]; exact ⟨k, v, hk, hv, rfl, rfl, rfl⟩, hM1.symm⟩⟩
    · refine qw_iconst (nI 1) dX9_spotsOn_24 (by decide) ?_
      refine qw_goto 29 dX9_spotsOn_25 (by decide) ?_
      refine qw_iconst (nI 2) dX9_spotsOn_29 (by decide) ?_
      refine qw_cvi [_, _] (k_X9_fails h9 (by decide) (by decide) h0) mX9_166 dX9_spotsOn_30 h9.1 rfl rfl rfl (Nat.le_of_ble_eq_true rfl) (by omega) (by decide) rfl (fun x1 M2 h1 => ?_)
      obtain ⟨-, rfl, hz⟩ := h1.resolve_left (fun q => absurd q.1 (by decide))
      rw [hz]
      refine qw_if_eqN 40 dX9_spotsOn_33 (by decide) (by omega) (fun c33 => absurd c33 (by decide)) (fun c33 => ?_)
      refine qw_iconst (nI 0) dX9_spotsOn_36 (by decide) ?_
      refine qw_goto 48 dX9_spotsOn_37 (by decide) ?_
      exact qw_ireturn rfl rfl dX9_spotsOn_48 ⟨rfl, rfl, rfl, _, rfl, Or.inr ⟨2, by rw [← hMd]; exact Or.inr ⟨rfl, v1, q_b_eq c21⟩, hMu 2⟩⟩
  · refine qw_if_neN 36 dX9_spotsOn_10 (by decide) (by omega) (fun c10 => ?_) (fun c10 => absurd c10 (by decide))
    refine qw_iconst (nI 0) dX9_spotsOn_36 (by decide) ?_
    refine qw_goto 48 dX9_spotsOn_37 (by decide) ?_
    exact qw_ireturn rfl rfl dX9_spotsOn_48 ⟨rfl, rfl, rfl, _, rfl, Or.inr ⟨1, by rw [← hMd]; exact Or.inl ⟨rfl, v1⟩, hMu 1⟩⟩
theorem k_X9_reason (h9 : sh9 S m fh fo) (hW : g_wf (M (m + 2))) {s l i : Int32} : LM G YX9_reason 5 0 0 [.ref m, .int s, .int l, .int i] z S M N (lq_mi z S N (fun x M2 => q_rp m M M2 (∃ ks kl ki, ks < M (m + 2) 1 ∧ 5 ≤ kl ∧ kl ≤ 60 ∧ ki < M (m + 2) 0 ∧ s = nI ks ∧ l = nI kl ∧ i = nI ki ∧ x = nI (g_rs (M (m + 2)) ks kl ki)) (fun e => q_rqX (M (m + 2)) s l i e))) lq_no := by
  refine LM.of (by decide) rfl [some (.ref m), some (.int s), some (.int l), some (.int i)] rfl (Nat.le_of_ble_eq_true rfl) ?_
  refine qw_aload_n 0 dX9_reason_0 rfl rfl ?_
  refine qw_iconst (nI 0) dX9_reason_1 (by decide) ?_
  refine qw_puti fX9_41 dX9_reason_2 h9.1 rfl ?_
  have hM0 := lq_up_s M m 0 0
  have hMd := lq_up_n M (a := m) (b := m + 2) 0 0 (by omega)
  have hMu := fun e => lq_up_up M m 0 0 e
  have hMr := fun b (hb : b ≠ m) => lq_up_n M (a := m) (b := b) 0 0 hb
  have hMm := fun j (hj : j ≠ 0) => lq_up_c M (a := m) (k := 0) (j := j) 0 hj
  revert hM0 hMd hMu hMr hMm
  generalize hM1 : lq_up M m 0 0 = M1
  intro h0 hMd hMu hMr hMm
  have hW1 : g_wf (M1 (m + 2)) := by rw [hMd]; exact hW
  have h20 := hW1.nb
  have h8 := hW1.ns
  have h160 := hW1.no
  refine qw_aload_n 0 dX9_reason_5 rfl rfl ?_
  refine qw_iload_n 1 dX9_reason_6 rfl rfl ?_
  refine qw_iload_n 2 dX9_reason_7 rfl rfl ?_
  refine qw_iload_n 3 dX9_reason_8 rfl rfl ?_
  refine qw_cvi [_, _, _] (k_X9_noRequest h9 h0 (by omega) (by omega)) mX9_244 dX9_reason_9 h9.1 rfl rfl rfl (Nat.le_of_ble_eq_true rfl) (by omega) (by decide) rfl (fun x1 M2 h1 => ?_)
  rcases h1 with ⟨v1, v2, v3, rfl, hz⟩ | ⟨e, v1, rfl, hz⟩ <;> rw [hz]
  · obtain ⟨ks, hs, rfl⟩ := v1
    obtain ⟨ki, hi, rfl⟩ := v2
    obtain ⟨kl, hl1, hl2, rfl⟩ := v3
    refine qw_if_eqN 19 dX9_reason_12 (by decide) (by omega) (fun c12 => ?_) (fun c12 => absurd rfl c12)
    skip
    refine qw_aload_n 0 dX9_reason_19 rfl rfl ?_
    refine qw_iload_n 1 dX9_reason_20 rfl rfl ?_
    refine qw_iload_n 2 dX9_reason_21 rfl rfl ?_
    refine qw_iload_n 3 dX9_reason_22 rfl rfl ?_
    refine qw_cvp [_, _, _] (k_X9_reasonOf h9 hW1 hi hs hl2) mX9_225 dX9_reason_23 h9.1 rfl rfl rfl (Nat.le_of_ble_eq_true rfl) (by omega) (by decide) rfl ?_
    exact qw_ireturn rfl rfl dX9_reason_26 ⟨rfl, rfl, rfl, _, rfl, Or.inl ⟨by rw [← hMd]; exact ⟨ks, kl, ki, hs, hl1, hl2, hi, rfl, rfl, rfl, rfl⟩, hM1.symm⟩⟩
  · refine qw_if_eqN 19 dX9_reason_12 (by decide) (by omega) (fun c12 => absurd c12 (by decide)) (fun c12 => ?_)
    refine qw_iconst (nI 0) dX9_reason_15 (by decide) ?_
    refine qw_goto 26 dX9_reason_16 (by decide) ?_
    exact qw_ireturn rfl rfl dX9_reason_26 ⟨rfl, rfl, rfl, _, rfl, Or.inr ⟨e, by rw [← hMd]; exact v1, hMu e⟩⟩
theorem k_X9_price (h9 : sh9 S m fh fo) (hW : g_wf (M (m + 2))) {tk : Nat → Nat × Nat} {n : Nat} (hF : q_fwf tk n) (hn : n ≤ 800) (hC : q_cd (M (m + 2)) tk n) {s l i : Int32} : LM G YX9_price 5 0 0 [.ref m, .int s, .int l, .int i] z S M N (lq_mn z S (fun x M2 N2 => q_rp m M M2 (∃ ks kl ki, ks < M (m + 2) 1 ∧ 5 ≤ kl ∧ kl ≤ 60 ∧ ki < M (m + 2) 0 ∧ s = nI ks ∧ l = nI kl ∧ i = nI ki ∧ x = nI (g_pc (M (m + 2)) tk n ks kl ki)) (fun e => q_rqX (M (m + 2)) s l i e) ∧ q_nf m N N2)) lq_no := by
  refine LM.of (by decide) rfl [some (.ref m), some (.int s), some (.int l), some (.int i)] rfl (Nat.le_of_ble_eq_true rfl) ?_
  refine qw_aload_n 0 dX9_price_0 rfl rfl ?_
  refine qw_iconst (nI 0) dX9_price_1 (by decide) ?_
  refine qw_puti fX9_41 dX9_price_2 h9.1 rfl ?_
  have hM0 := lq_up_s M m 0 0
  have hMd := lq_up_n M (a := m) (b := m + 2) 0 0 (by omega)
  have hMu := fun e => lq_up_up M m 0 0 e
  have hMr := fun b (hb : b ≠ m) => lq_up_n M (a := m) (b := b) 0 0 hb
  have hMm := fun j (hj : j ≠ 0) => lq_up_c M (a := m) (k := 0) (j := j) 0 hj
  revert hM0 hMd hMu hMr hMm
  generalize hM1 : lq_up M m 0 0 = M1
  intro h0 hMd hMu hMr hMm
  have hW1 : g_wf (M1 (m + 2)) := by rw [hMd]; exact hW
  have h20 := hW1.nb
  have h8 := hW1.ns
  have h160 := hW1.no
  have hC1 : q_cd (M1 (m + 2)) tk n := by rw [hMd]; exact hC
  refine qw_aload_n 0 dX9_price_5 rfl rfl ?_
  refine qw_iload_n 1 dX9_price_6 rfl rfl ?_
  refine qw_iload_n 2 dX9_price_7 rfl rfl ?_
  refine qw_iload_n 3 dX9_price_8 rfl rfl ?_
  refine qw_cvi [_, _, _] (k_X9_noRequest h9 h0 (by omega) (by omega)) mX9_244 dX9_price_9 h9.1 rfl rfl rfl (Nat.le_of_ble_eq_true rfl) (by omega) (by decide) rfl (fun x1 M2 h1 => ?_)
  rcases h1 with ⟨v1, v2, v3, rfl, hz⟩ | ⟨e, v1, rfl, hz⟩ <;> rw [hz]
  · obtain ⟨ks, hs, rfl⟩ := v1
    obtain ⟨ki, hi, rfl⟩ := v2
    obtain ⟨kl, hl1, hl2, rfl⟩ := v3
    refine qw_if_eqN 19 dX9_price_12 (by decide) (by omega) (fun c12 => ?_) (fun c12 => absurd rfl c12)
    skip
    refine qw_aload_n 0 dX9_price_19 rfl rfl ?_
    refine qw_iload_n 1 dX9_price_20 rfl rfl ?_
    refine qw_iload_n 2 dX9_price_21 rfl rfl ?_
    refine qw_iload_n 3 dX9_price_22 rfl rfl ?_
    refine qw_cvn [_, _, _] (k_X9_priceOf h9 hW1 hF hn hC1 hs hl2 hi) mX9_229 dX9_price_23 h9.1 rfl rfl rfl (Nat.le_of_ble_eq_true rfl) (by omega) (by decide) rfl (fun x1 M2 N2 h1 => ?_)
    obtain ⟨rfl, hz, hnf⟩ := h1
    rw [hz]
    exact qw_ireturn rfl rfl dX9_price_26 ⟨rfl, rfl, _, rfl, Or.inl ⟨by rw [← hMd]; exact ⟨ks, kl, ki, hs, hl1, hl2, hi, rfl, rfl, rfl, rfl⟩, hM1.symm⟩, hnf⟩
  · refine qw_if_eqN 19 dX9_price_12 (by decide) (by omega) (fun c12 => absurd c12 (by decide)) (fun c12 => ?_)
    refine qw_iconst (nI 0) dX9_price_15 (by decide) ?_
    refine qw_goto 26 dX9_price_16 (by decide) ?_
    exact qw_ireturn rfl rfl dX9_price_26 ⟨rfl, rfl, _, rfl, Or.inr ⟨e, by rw [← hMd]; exact v1, hMu e⟩, q_nf.rf⟩
theorem k_X9_cheapest (h9 : sh9 S m fh fo) (hW : g_wf (M (m + 2))) {tk : Nat → Nat × Nat} {n : Nat} (hF : q_fwf tk n) (hn : n ≤ 800) (hC : q_cd (M (m + 2)) tk n) {s w : Int32} : LM G YX9_cheapest 6 0 0 [.ref m, .int s, .int w] z S M N (lq_mn z S (fun x M2 N2 => q_rp m M M2 (∃ k v, k < M (m + 2) 1 ∧ 5 ≤ v ∧ v ≤ 60 ∧ s = nI k ∧ w = nI v ∧ x = q_m1 (g_chp (M (m + 2)) tk n k v (M (m + 2) 0)).1) (fun e => (e = 1 ∧ ¬ q_ix s (M (m + 2) 1)) ∨ (e = 2 ∧ q_ix s (M (m + 2) 1) ∧ ¬ q_rg w 5 60)) ∧ q_nf m N N2)) lq_no := by
  refine LM.of (by decide) rfl [some (.ref m), some (.int s), some (.int w)] rfl (Nat.le_of_ble_eq_true rfl) ?_
  refine qw_aload_n 0 dX9_cheapest_0 rfl rfl ?_
  refine qw_iconst (nI 0) dX9_cheapest_1 (by decide) ?_
  refine qw_puti fX9_41 dX9_cheapest_2 h9.1 rfl ?_
  have hM0 := lq_up_s M m 0 0
  have hMd := lq_up_n M (a := m) (b := m + 2) 0 0 (by omega)
  have hMu := fun e => lq_up_up M m 0 0 e
  have hMr := fun b (hb : b ≠ m) => lq_up_n M (a := m) (b := b) 0 0 hb
  have hMm := fun j (hj : j ≠ 0) => lq_up_c M (a := m) (k := 0) (j := j) 0 hj
  revert hM0 hMd hMu hMr hMm
  generalize hM1 : lq_up M m 0 0 = M1
  intro h0 hMd hMu hMr hMm
  have hW1 : g_wf (M1 (m + 2)) := by rw [hMd]; exact hW
  have h20 := hW1.nb
  have h8 := hW1.ns
  have h160 := hW1.no
  have hC1 : q_cd (M1 (m + 2)) tk n := by rw [hMd]; exact hC
  refine qw_aload_n 0 dX9_cheapest_5 rfl rfl ?_
  refine qw_iload_n 1 dX9_cheapest_6 rfl rfl ?_
  refine qw_cvi [_] (k_X9_noSponsor h9 h0 (by omega)) mX9_232 dX9_cheapest_7 h9.1 rfl rfl rfl (Nat.le_of_ble_eq_true rfl) (by omega) (by decide) rfl (fun x1 M2 h1 => ?_)
  rcases h1 with ⟨v1, rfl, hz⟩ | ⟨v1, rfl, hz⟩ <;> rw [hz]
  · refine qw_if_neN 21 dX9_cheapest_10 (by decide) (by omega) (fun c10 => absurd rfl c10) (fun c10 => ?_)
    refine qw_aload_n 0 dX9_cheapest_13 rfl rfl ?_
    refine qw_iload_n 2 dX9_cheapest_14 rfl rfl ?_
    refine qw_cvi [_] (k_X9_noSeconds h9 h0) mX9_238 dX9_cheapest_15 h9.1 rfl rfl rfl (Nat.le_of_ble_eq_true rfl) (by omega) (by decide) rfl (fun x1 M2 h1 => ?_)
    rcases h1 with ⟨v2, rfl, hz⟩ | ⟨v2, rfl, hz⟩ <;> rw [hz]
    · refine qw_if_eqN 25 dX9_cheapest_18 (by decide) (by omega) (fun c18 => ?_) (fun c18 => absurd rfl c18)
      obtain ⟨k, hk, rfl⟩ := v1
      obtain ⟨v, hv1, hv2, rfl⟩ := v2
      refine qw_aload_n 0 dX9_cheapest_25 rfl rfl ?_
      refine qw_iload_n 1 dX9_cheapest_26 rfl rfl ?_
      refine qw_iload_n 2 dX9_cheapest_27 rfl rfl ?_
      refine qw_cvn [_, _] (k_X9_findCheapest h9 hW1 hF hn hC1 hk hv2) mX9_247 dX9_cheapest_28 h9.1 rfl rfl rfl (Nat.le_of_ble_eq_true rfl) (by omega) (by decide) rfl (fun x1 M2 N2 h1 => ?_)
      obtain ⟨rfl, hz, hnf⟩ := h1
      rw [hz]
      exact qw_ireturn rfl rfl dX9_cheapest_31 ⟨rfl, rfl, _, rfl, Or.inl ⟨by rw [← hMd]; exact ⟨k, v, hk, hv1, hv2, rfl, rfl, rfl⟩, hM1.symm⟩, hnf⟩
    · refine qw_if_eqN 25 dX9_cheapest_18 (by decide) (by omega) (fun c18 => absurd c18 (by decide)) (fun c18 => ?_)
      refine qw_iconst (nI 0) dX9_cheapest_21 (by decide) ?_
      refine qw_goto 31 dX9_cheapest_22 (by decide) ?_
      exact qw_ireturn rfl rfl dX9_cheapest_31 ⟨rfl, rfl, _, rfl, Or.inr ⟨2, by rw [← hMd]; exact Or.inr ⟨rfl, v1, v2⟩, hMu 2⟩, q_nf.rf⟩
  · refine qw_if_neN 21 dX9_cheapest_10 (by decide) (by omega) (fun c10 => ?_) (fun c10 => absurd c10 (by decide))
    refine qw_iconst (nI 0) dX9_cheapest_21 (by decide) ?_
    refine qw_goto 31 dX9_cheapest_22 (by decide) ?_
    exact qw_ireturn rfl rfl dX9_cheapest_31 ⟨rfl, rfl, _, rfl, Or.inr ⟨1, by rw [← hMd]; exact Or.inl ⟨rfl, v1⟩, hMu 1⟩, q_nf.rf⟩
theorem l_X9_widest (h9 : sh9 S m fh fo) (hW : g_wf (M (m + 2))) {s l : Nat} (hs : s < M (m + 2) 1) (hl : l ≤ 60) {Q : lq_P} (hQ : Q (some (.int (q_m1 (g_wip (M (m + 2)) s l (M (m + 2) 0))))) z S M N) : ∀ (n9 i : Nat), i ≤ M (m + 2) 0 → M (m + 2) 0 - i < n9 → LW G YX9_widest 5 0 0 Q lq_no z S M N 28 [some (.ref m), some (.int (nI s)), some (.int (nI l)), some (.int (q_m1 (g_wip (M (m + 2)) s l i))), some (.int (nI i))] [] := by
  intro n9
  induction n9 with
  | zero => intro _ _ _; omega
  | succ n9 ih =>
    intro i hi hn9
    have h20 := hW.nb
    have hle := g_wip_le (M (m + 2)) s l i
    have hm := q_m1_eq (k := g_wip (M (m + 2)) s l i) (by omega)
    refine qw_iload dX9_widest_28 rfl ?_
    refine qw_aload_n 0 dX9_widest_30 rfl rfl ?_
    refine qw_getr fX9_17 dX9_widest_31 h9.1 rfl ?_
    refine qw_iconst (nI 0) dX9_widest_34 (by decide) ?_
    refine qw_iald dX9_widest_35 h9.da (by omega) (by omega) ?_
    refine qw_icmp_geN 90 dX9_widest_36 (by decide) (by omega) (by omega) (fun c36 => ?_) (fun c36 => ?_)
    · refine qw_iload_n 3 dX9_widest_90 rfl rfl ?_
      exact qw_ireturn rfl rfl dX9_widest_91 (by rw [show i = M (m + 2) 0 by omega]; exact hQ)
    · refine qw_aload_n 0 dX9_widest_39 rfl rfl ?_
      refine qw_iload_n 1 dX9_widest_40 rfl rfl ?_
      refine qw_iload_n 2 dX9_widest_41 rfl rfl ?_
      refine qw_iload dX9_widest_42 rfl ?_
      refine qw_cvp [_, _, _] (k_X9_reasonOf h9 hW (by omega) hs hl) mX9_225 dX9_widest_44 h9.1 rfl rfl rfl (Nat.le_of_ble_eq_true rfl) (by omega) (by decide) rfl ?_
      have hrl : g_rs (M (m + 2)) s l i ≤ 5 := g_rs_le
      refine qw_if_neN 84 dX9_widest_47 (by decide) (by omega) (fun c47 => ?_) (fun c47 => ?_)
      · refine qw_iincN 1 dX9_widest_84 rfl (by decide) rfl (by decide) ?_
        refine qw_goto 28 dX9_widest_87 (by decide) ?_
        have h := ih (i + 1) (by omega) (by omega)
        rw [g_wip, if_neg (fun q => c47 q.2)] at h
        exact qw_weak _ (by first | (simp [lq_le]; done) | (simp [lq_le, q_m1, hk0]; done)) h
      · refine qw_iload_n 3 dX9_widest_50 rfl rfl ?_
        refine qw_iconst (-1) dX9_widest_51 (by decide) ?_
        refine qw_icmp_eq 81 dX9_widest_52 (by decide) (fun c52 => ?_) (fun c52 => ?_)
        · refine qw_iload dX9_widest_81 rfl ?_
          refine qw_istore_n 3 dX9_widest_83 rfl rfl (by decide) ?_
          refine qw_iincN 1 dX9_widest_84 rfl (by decide) rfl (by decide) ?_
          refine qw_goto 28 dX9_widest_87 (by decide) ?_
          have h := ih (i + 1) (by omega) (by omega)
          rw [g_wip, if_pos ⟨Or.inl (hm.mp c52), c47⟩] at h
          exact qw_weak _ (by first | (simp [lq_le, q_m1]; done) | (simp [lq_le, q_m1, hk0]; done)) h
        · have hk0 : g_wip (M (m + 2)) s l i ≠ 0 := fun q => c52 (hm.mpr q)
          have hwa := (hW.br (i := g_wip (M (m + 2)) s l i - 1) (by omega)).2.2.2.1
          have hwi := (hW.br (i := i) (by omega)).2.2.2.1
          refine qw_aload_n 0 dX9_widest_55 rfl rfl ?_
          refine qw_getr fX9_17 dX9_widest_56 h9.1 rfl ?_
          refine qw_iload dX9_widest_59 rfl ?_
          refine qw_csp [_] (k_X9_at) mX9_44 dX9_widest_61 rfl rfl (Nat.le_of_ble_eq_true rfl) (by omega) (by decide) rfl ?_
          refine qw_iconst (nI 3) dX9_widest_64 (by decide) ?_
          refine qw_addN dX9_widest_65 ?_
          refine qw_iaj (10 + 30 * i) (by omega) dX9_widest_66 h9.da (by omega) (by omega) ?_
          refine qw_aload_n 0 dX9_widest_67 rfl rfl ?_
          refine qw_getr fX9_17 dX9_widest_68 h9.1 rfl ?_
          refine qw_iload_n 3 dX9_widest_71 rfl rfl ?_
          rw [show q_m1 (g_wip (M (m + 2)) s l i) = nI (g_wip (M (m + 2)) s l i - 1) from if_neg hk0]
          refine qw_csp [_] (k_X9_at) mX9_44 dX9_widest_72 rfl rfl (Nat.le_of_ble_eq_true rfl) (by omega) (by decide) rfl ?_
          refine qw_iconst (nI 3) dX9_widest_75 (by decide) ?_
          refine qw_addN dX9_widest_76 ?_
          refine qw_iaj (10 + 30 * (g_wip (M (m + 2)) s l i - 1)) (by omega) dX9_widest_77 h9.da (by omega) (by omega) ?_
          refine qw_icmp_leN 84 dX9_widest_78 (by decide) (by omega) (by omega) (fun c78 => ?_) (fun c78 => ?_)
          · refine qw_iincN 1 dX9_widest_84 rfl (by decide) rfl (by decide) ?_
            refine qw_goto 28 dX9_widest_87 (by decide) ?_
            have h := ih (i + 1) (by omega) (by omega)
            rw [g_wip, if_neg (fun q => by rcases q.1 with q9 | q9; exact c52 (hm.mpr q9); omega)] at h
            exact qw_weak _ (by first | (simp [lq_le]; done) | (simp [lq_le, q_m1, hk0]; done)) h
          · refine qw_iload dX9_widest_81 rfl ?_
            refine qw_istore_n 3 dX9_widest_83 rfl rfl (by decide) ?_
            refine qw_iincN 1 dX9_widest_84 rfl (by decide) rfl (by decide) ?_
            refine qw_goto 28 dX9_widest_87 (by decide) ?_
            have h := ih (i + 1) (by omega) (by omega)
            rw [g_wip, if_pos ⟨Or.inr c78, c47⟩] at h
            exact qw_weak _ (by first | (simp [lq_le, q_m1]; done) | (simp [lq_le, q_m1, hk0]; done)) h
theorem k_X9_widest (h9 : sh9 S m fh fo) (hW : g_wf (M (m + 2))) {s w : Int32} : LM G YX9_widest 5 0 0 [.ref m, .int s, .int w] z S M N (lq_mi z S N (fun x M2 => q_rp m M M2 (∃ k v, k < M (m + 2) 1 ∧ 5 ≤ v ∧ v ≤ 60 ∧ s = nI k ∧ w = nI v ∧ x = q_m1 (g_wip (M (m + 2)) k v (M (m + 2) 0))) (fun e => (e = 1 ∧ ¬ q_ix s (M (m + 2) 1)) ∨ (e = 2 ∧ q_ix s (M (m + 2) 1) ∧ ¬ q_rg w 5 60)))) lq_no := by
  refine LM.of (by decide) rfl [some (.ref m), some (.int s), some (.int w), none, none] rfl (Nat.le_of_ble_eq_true rfl) ?_
  refine qw_aload_n 0 dX9_widest_0 rfl rfl ?_
  refine qw_iconst (nI 0) dX9_widest_1 (by decide) ?_
  refine qw_puti fX9_41 dX9_widest_2 h9.1 rfl ?_
  have hM0 := lq_up_s M m 0 0
  have hMd := lq_up_n M (a := m) (b := m + 2) 0 0 (by omega)
  have hMu := fun e => lq_up_up M m 0 0 e
  have hMr := fun b (hb : b ≠ m) => lq_up_n M (a := m) (b := b) 0 0 hb
  have hMm := fun j (hj : j ≠ 0) => lq_up_c M (a := m) (k := 0) (j := j) 0 hj
  revert hM0 hMd hMu hMr hMm
  generalize hM1 : lq_up M m 0 0 = M1
  intro h0 hMd hMu hMr hMm
  have hW1 : g_wf (M1 (m + 2)) := by rw [hMd]; exact hW
  have h20 := hW1.nb
  have h8 := hW1.ns
  have h160 := hW1.no
  refine qw_aload_n 0 dX9_widest_5 rfl rfl ?_
  refine qw_iload_n 1 dX9_widest_6 rfl rfl ?_
  refine qw_cvi [_] (k_X9_noSponsor h9 h0 (by omega)) mX9_232 dX9_widest_7 h9.1 rfl rfl rfl (Nat.le_of_ble_eq_true rfl) (by omega) (by decide) rfl (fun x1 M2 h1 => ?_)
  rcases h1 with ⟨v1, rfl, hz⟩ | ⟨v1, rfl, hz⟩ <;> rw [hz]
  · refine qw_if_neN 21 dX9_widest_10 (by decide) (by omega) (fun c10 => absurd rfl c10) (fun c10 => ?_)
    refine qw_aload_n 0 dX9_widest_13 rfl rfl ?_
    refine qw_iload_n 2 dX9_widest_14 rfl rfl ?_
    refine qw_cvi [_] (k_X9_noSeconds h9 h0) mX9_238 dX9_widest_15 h9.1 rfl rfl rfl (Nat.le_of_ble_eq_true rfl) (by omega) (by decide) rfl (fun x1 M2 h1 => ?_)
    rcases h1 with ⟨v2, rfl, hz⟩ | ⟨v2, rfl, hz⟩ <;> rw [hz]
    · refine qw_if_eqN 23 dX9_widest_18 (by decide) (by omega) (fun c18 => ?_) (fun c18 => absurd rfl c18)
      obtain ⟨k, hk, rfl⟩ := v1
      obtain ⟨v, hv1, hv2, rfl⟩ := v2
      refine qw_iconst (-1) dX9_widest_23 (by decide) ?_
      refine qw_istore_n 3 dX9_widest_24 rfl rfl (by decide) ?_
      refine qw_iconst (nI 0) dX9_widest_25 (by decide) ?_
      refine qw_istore dX9_widest_26 rfl (by decide) ?_
      exact l_X9_widest h9 hW1 hk hv2 ⟨rfl, rfl, rfl, _, rfl, Or.inl ⟨by rw [← hMd]; exact ⟨k, v, hk, hv1, hv2, rfl, rfl, rfl⟩, hM1.symm⟩⟩ (M1 (m + 2) 0 + 1) 0 (Nat.zero_le _) (by omega)
    · refine qw_if_eqN 23 dX9_widest_18 (by decide) (by omega) (fun c18 => absurd c18 (by decide)) (fun c18 => ?_)
      refine qw_iconst (nI 0) dX9_widest_21 (by decide) ?_
      exact qw_ireturn rfl rfl dX9_widest_22 ⟨rfl, rfl, rfl, _, rfl, Or.inr ⟨2, by rw [← hMd]; exact Or.inr ⟨rfl, v1, v2⟩, hMu 2⟩⟩
  · refine qw_if_neN 21 dX9_widest_10 (by decide) (by omega) (fun c10 => ?_) (fun c10 => absurd c10 (by decide))
    refine qw_iconst (nI 0) dX9_widest_21 (by decide) ?_
    exact qw_ireturn rfl rfl dX9_widest_22 ⟨rfl, rfl, rfl, _, rfl, Or.inr ⟨1, by rw [← hMd]; exact Or.inl ⟨rfl, v1⟩, hMu 1⟩⟩
theorem k_X9_owedSpot (h9 : sh9 S m fh fo) (hW : g_wf (M (m + 2))) {i w : Int32} : LM G YX9_owedSpot 1 0 0 [.ref m, .int i, .int w] z S M N (lq_mi z S N (fun x M2 => q_rp m M M2 (∃ k v, k < M (m + 2) 5 ∧ v ≤ 3 ∧ i = nI k ∧ w = nI v ∧ x = nI (M (m + 2) (723 + v + 4 * k))) (fun e => (e = 1 ∧ ¬ q_ix i (M (m + 2) 5)) ∨ (e = 2 ∧ q_ix i (M (m + 2) 5) ∧ ¬ q_rg w 0 3)))) lq_no := by
  refine LM.of (by decide) rfl [some (.ref m), some (.int i), some (.int w)] rfl (Nat.le_of_ble_eq_true rfl) ?_
  refine qw_aload_n 0 dX9_owedSpot_0 rfl rfl ?_
  refine qw_iconst (nI 0) dX9_owedSpot_1 (by decide) ?_
  refine qw_puti fX9_41 dX9_owedSpot_2 h9.1 rfl ?_
  have hM0 := lq_up_s M m 0 0
  have hMd := lq_up_n M (a := m) (b := m + 2) 0 0 (by omega)
  have hMu := fun e => lq_up_up M m 0 0 e
  have hMr := fun b (hb : b ≠ m) => lq_up_n M (a := m) (b := b) 0 0 hb
  have hMm := fun j (hj : j ≠ 0) => lq_up_c M (a := m) (k := 0) (j := j) 0 hj
  revert hM0 hMd hMu hMr hMm
  generalize hM1 : lq_up M m 0 0 = M1
  intro h0 hMd hMu hMr hMm
  have hW1 : g_wf (M1 (m + 2)) := by rw [hMd]; exact hW
  have h20 := hW1.nb
  have h8 := hW1.ns
  have h160 := hW1.no
  refine qw_aload_n 0 dX9_owedSpot_5 rfl rfl ?_
  refine qw_iload_n 1 dX9_owedSpot_6 rfl rfl ?_
  refine qw_iconst (nI 0) dX9_owedSpot_7 (by decide) ?_
  refine qw_aload_n 0 dX9_owedSpot_8 rfl rfl ?_
  refine qw_getr fX9_17 dX9_owedSpot_9 h9.1 rfl ?_
  refine qw_iconst (nI 5) dX9_owedSpot_12 (by decide) ?_
  refine qw_iald dX9_owedSpot_13 h9.da (by omega) (by omega) ?_
  refine qw_iconst (nI 1) dX9_owedSpot_14 (by decide) ?_
  refine qw_isub dX9_owedSpot_15 ?_
  refine qw_csp [_, _, _] (k_X9_in) mX9_66 dX9_owedSpot_16 rfl rfl (Nat.le_of_ble_eq_true rfl) (by omega) (by decide) rfl ?_
  rw [q_inix (by omega)]
  refine qw_if_neN 26 dX9_owedSpot_19 (by decide) (Nat.lt_of_le_of_lt q_b_le (by decide)) (fun c19 => ?_) (fun c19 => ?_)
  · refine qw_iconst (nI 0) dX9_owedSpot_26 (by decide) ?_
    refine qw_iconst (nI 1) dX9_owedSpot_27 (by decide) ?_
    refine qw_cvi [_, _] (k_X9_fails h9 (by decide) (by decide) h0) mX9_166 dX9_owedSpot_28 h9.1 rfl rfl rfl (Nat.le_of_ble_eq_true rfl) (by omega) (by decide) rfl (fun x1 M2 h1 => ?_)
    obtain ⟨-, rfl, hz⟩ := h1.resolve_right (fun q => absurd q.1 (by decide))
    rw [hz]
    refine qw_if_neN 56 dX9_owedSpot_31 (by decide) (by omega) (fun c31 => absurd rfl c31) (fun c31 => ?_)
    refine qw_aload_n 0 dX9_owedSpot_34 rfl rfl ?_
    refine qw_iload_n 2 dX9_owedSpot_35 rfl rfl ?_
    refine qw_iconst (nI 0) dX9_owedSpot_36 (by decide) ?_
    refine qw_iconst (nI 3) dX9_owedSpot_37 (by decide) ?_
    refine qw_csp [_, _, _] (k_X9_in) mX9_66 dX9_owedSpot_38 rfl rfl (Nat.le_of_ble_eq_true rfl) (by omega) (by decide) rfl ?_
    rw [q_inrg (by decide) (by decide)]
    refine qw_if_neN 48 dX9_owedSpot_41 (by decide) (Nat.lt_of_le_of_lt q_b_le (by decide)) (fun c41 => ?_) (fun c41 => ?_)
    · refine qw_iconst (nI 0) dX9_owedSpot_48 (by decide) ?_
      refine qw_iconst (nI 2) dX9_owedSpot_49 (by decide) ?_
      refine qw_cvi [_, _] (k_X9_fails h9 (by decide) (by decide) h0) mX9_166 dX9_owedSpot_50 h9.1 rfl rfl rfl (Nat.le_of_ble_eq_true rfl) (by omega) (by decide) rfl (fun x1 M2 h1 => ?_)
      obtain ⟨-, rfl, hz⟩ := h1.resolve_right (fun q => absurd q.1 (by decide))
      rw [hz]
      refine qw_if_eqN 60 dX9_owedSpot_53 (by decide) (by omega) (fun c53 => ?_) (fun c53 => absurd rfl c53)
      obtain ⟨k, hk, rfl⟩ := q_b_ne c19
      obtain ⟨v, -, hv, rfl⟩ := q_b_ne c41
      refine qw_aload_n 0 dX9_owedSpot_60 rfl rfl ?_
      refine qw_getr fX9_17 dX9_owedSpot_61 h9.1 rfl ?_
      refine qw_sipush (nI 723) dX9_owedSpot_64 (by decide) ?_
      refine qw_iconst (nI 4) dX9_owedSpot_67 (by decide) ?_
      refine qw_iload_n 1 dX9_owedSpot_68 rfl rfl ?_
      refine qw_mulN dX9_owedSpot_69 ?_
      refine qw_addN dX9_owedSpot_70 ?_
      refine qw_iload_n 2 dX9_owedSpot_71 rfl rfl ?_
      refine qw_addN dX9_owedSpot_72 ?_
      refine qw_iaj (723 + v + 4 * k) (by omega) dX9_owedSpot_73 h9.da (by omega) (by omega) ?_
      exact qw_ireturn rfl rfl dX9_owedSpot_74 ⟨rfl, rfl, rfl, _, rfl, Or.inl ⟨by rw [← hMd]; exact ⟨k, v, hk, hv, rfl, rfl, rfl⟩, hM1.symm⟩⟩
    · refine qw_iconst (nI 1) dX9_owedSpot_44 (by decide) ?_
      refine qw_goto 49 dX9_owedSpot_45 (by decide) ?_
      refine qw_iconst (nI 2) dX9_owedSpot_49 (by decide) ?_
      refine qw_cvi [_, _] (k_X9_fails h9 (by decide) (by decide) h0) mX9_166 dX9_owedSpot_50 h9.1 rfl rfl rfl (Nat.le_of_ble_eq_true rfl) (by omega) (by decide) rfl (fun x1 M2 h1 => ?_)
      obtain ⟨-, rfl, hz⟩ := h1.resolve_left (fun q => absurd q.1 (by decide))
      rw [hz]
      refine qw_if_eqN 60 dX9_owedSpot_53 (by decide) (by omega) (fun c53 => absurd c53 (by decide)) (fun c53 => ?_)
      refine qw_iconst (nI 0) dX9_owedSpot_56 (by decide) ?_
      refine qw_goto 74 dX9_owedSpot_57 (by decide) ?_
      exact qw_ireturn rfl rfl dX9_owedSpot_74 ⟨rfl, rfl, rfl, _, rfl, Or.inr ⟨2, by rw [← hMd]; exact Or.inr ⟨rfl, q_b_ne c19, q_b_eq c41⟩, hMu 2⟩⟩
  · refine qw_iconst (nI 1) dX9_owedSpot_22 (by decide) ?_
    refine qw_goto 27 dX9_owedSpot_23 (by decide) ?_
    refine qw_iconst (nI 1) dX9_owedSpot_27 (by decide) ?_
    refine qw_cvi [_, _] (k_X9_fails h9 (by decide) (by decide) h0) mX9_166 dX9_owedSpot_28 h9.1 rfl rfl rfl (Nat.le_of_ble_eq_true rfl) (by omega) (by decide) rfl (fun x1 M2 h1 => ?_)
    obtain ⟨-, rfl, hz⟩ := h1.resolve_left (fun q => absurd q.1 (by decide))
    rw [hz]
    refine qw_if_neN 56 dX9_owedSpot_31 (by decide) (by omega) (fun c31 => ?_) (fun c31 => absurd c31 (by decide))
    refine qw_iconst (nI 0) dX9_owedSpot_56 (by decide) ?_
    refine qw_goto 74 dX9_owedSpot_57 (by decide) ?_
    exact qw_ireturn rfl rfl dX9_owedSpot_74 ⟨rfl, rfl, rfl, _, rfl, Or.inr ⟨1, by rw [← hMd]; exact Or.inl ⟨rfl, q_b_eq c19⟩, hMu 1⟩⟩
theorem k_X9_noSet (h9 : sh9 S m fh fo) (h0 : M m 0 = 0) {x : Int32} (hn : M (m + 2) 1 ≤ 8) : LM G YX9_noSet 1 0 0 [.ref m, .int x] z S M N (lq_mi z S N (q_fp (q_ix x (2 ^ M (m + 2) 1)) M m 1)) lq_no := by
  have hp : 1 ≤ 2 ^ M (m + 2) 1 ∧ 2 ^ M (m + 2) 1 ≤ 256 := ⟨Nat.one_le_two_pow, by have := Nat.pow_le_pow_right (n := 2) (by decide) hn; exact this⟩
  refine LM.of (by decide) rfl [some (.ref m), some (.int x)] rfl (Nat.le_of_ble_eq_true rfl) ?_
  refine qw_aload_n 0 dX9_noSet_0 rfl rfl ?_
  refine qw_iload_n 1 dX9_noSet_1 rfl rfl ?_
  refine qw_iconst (nI 0) dX9_noSet_2 (by decide) ?_
  refine qw_iconst (nI 1) dX9_noSet_3 (by decide) ?_
  refine qw_aload_n 0 dX9_noSet_4 rfl rfl ?_
  refine qw_getr fX9_17 dX9_noSet_5 h9.1 rfl ?_
  refine qw_iconst (nI 1) dX9_noSet_8 (by decide) ?_
  refine qw_iald dX9_noSet_9 h9.da (by omega) (by omega) ?_
  refine qw_shlN (by omega) (by omega) dX9_noSet_10 ?_
  refine qw_iconst (nI 1) dX9_noSet_11 (by decide) ?_
  rw [Nat.one_mul]
  refine qw_isub dX9_noSet_12 ?_
  refine qw_csp [_, _, _] (k_X9_in) mX9_66 dX9_noSet_13 rfl rfl (Nat.le_of_ble_eq_true rfl) (by omega) (by decide) rfl ?_
  rw [q_inix (by omega)]
  refine qw_if_neN 23 dX9_noSet_16 (by decide) (Nat.lt_of_le_of_lt q_b_le (by decide)) (fun c16 => ?_) (fun c16 => ?_)
  · refine qw_iconst (nI 0) dX9_noSet_23 (by decide) ?_
    refine qw_iconst (nI 1) dX9_noSet_24 (by decide) ?_
    refine qw_cvi [_, _] (k_X9_fails h9 (by decide) (by decide) h0) mX9_166 dX9_noSet_25 h9.1 rfl rfl rfl (Nat.le_of_ble_eq_true rfl) (by omega) (by decide) rfl (fun x1 M2 h1 => ?_)
    obtain ⟨-, rfl, hz⟩ := h1.resolve_right (fun q => absurd q.1 (by decide))
    rw [hz]
    exact qw_ireturn rfl (by decide) dX9_noSet_28 ⟨rfl, rfl, rfl, _, rfl, Or.inl ⟨q_b_ne c16, rfl, rfl⟩⟩
  · refine qw_iconst (nI 1) dX9_noSet_19 (by decide) ?_
    refine qw_goto 24 dX9_noSet_20 (by decide) ?_
    refine qw_iconst (nI 1) dX9_noSet_24 (by decide) ?_
    refine qw_cvi [_, _] (k_X9_fails h9 (by decide) (by decide) h0) mX9_166 dX9_noSet_25 h9.1 rfl rfl rfl (Nat.le_of_ble_eq_true rfl) (by omega) (by decide) rfl (fun x1 M2 h1 => ?_)
    obtain ⟨-, rfl, hz⟩ := h1.resolve_left (fun q => absurd q.1 (by decide))
    rw [hz]
    exact qw_ireturn rfl (by decide) dX9_noSet_28 ⟨rfl, rfl, rfl, _, rfl, Or.inr ⟨q_b_eq c16, rfl, rfl⟩⟩
theorem q_h31_s (f : Nat → Nat) (n : Nat) (s : Int64) : q_h31 f (n + 1) s = 31 * q_h31 f n s + (nI (f n)).toInt64 := rfl
theorem l3_X9_checksum (h9 : sh9 S m fh fo) (hW : g_wf (M (m + 2))) {Q : lq_P} (hQ : Q (some (.long (g_ck (M (m + 2))))) z S M N) : ∀ (n9 k : Nat), k ≤ M (m + 2) 1 → M (m + 2) 1 - k < n9 → LW G YX9_checksum 2 0 0 Q lq_no z S M N 126 [some (.ref m), some (.long (q_h31 (fun s => M (m + 2) (608 + 2 * s)) k (q_h31 (fun i => M (m + 2) (723 + i)) (4 * M (m + 2) 5) (g_ck1 (M (m + 2)) (M (m + 2) 0))))), none, some (.int (nI k)), none] [] := by
  intro n9
  induction n9 with
  | zero => intro _ _ _; omega
  | succ n9 ih =>
    intro k hk hn9
    have h8 := hW.ns
    refine qw_iload_n 3 dX9_checksum_126 rfl rfl ?_
    refine qw_aload_n 0 dX9_checksum_127 rfl rfl ?_
    refine qw_getr fX9_17 dX9_checksum_128 h9.1 rfl ?_
    refine qw_iconst (nI 1) dX9_checksum_131 (by decide) ?_
    refine qw_iald dX9_checksum_132 h9.da (by omega) (by omega) ?_
    refine qw_icmp_geN 164 dX9_checksum_133 (by decide) (by omega) (by omega) (fun c133 => ?_) (fun c133 => ?_)
    · refine qw_ldc2 dX9_checksum_164 kX9_281 ?_
      refine qw_lload_n 1 dX9_checksum_167 rfl rfl ?_
      refine qw_lmul dX9_checksum_168 ?_
      refine qw_aload_n 0 dX9_checksum_169 rfl rfl ?_
      refine qw_getr fX9_17 dX9_checksum_170 h9.1 rfl ?_
      refine qw_bipush (nI 6) dX9_checksum_173 (by decide) ?_
      refine qw_iald dX9_checksum_175 h9.da (by omega) (by omega) ?_
      refine qw_i2l _ dX9_checksum_176 rfl ?_
      refine qw_ladd dX9_checksum_177 ?_
      exact qw_lreturn rfl dX9_checksum_178 (by rw [show k = M (m + 2) 1 by omega]; exact hQ)
    · refine qw_ldc2 dX9_checksum_136 kX9_281 ?_
      refine qw_lload_n 1 dX9_checksum_139 rfl rfl ?_
      refine qw_lmul dX9_checksum_140 ?_
      refine qw_aload_n 0 dX9_checksum_141 rfl rfl ?_
      refine qw_getr fX9_17 dX9_checksum_142 h9.1 rfl ?_
      refine qw_sipush (nI 607) dX9_checksum_145 (by decide) ?_
      refine qw_iconst (nI 2) dX9_checksum_148 (by decide) ?_
      refine qw_iload_n 3 dX9_checksum_149 rfl rfl ?_
      refine qw_mulN dX9_checksum_150 ?_
      refine qw_addN dX9_checksum_151 ?_
      refine qw_iconst (nI 1) dX9_checksum_152 (by decide) ?_
      refine qw_addN dX9_checksum_153 ?_
      refine qw_iaj (608 + 2 * k) (by omega) dX9_checksum_154 h9.da (by omega) (by omega) ?_
      refine qw_i2l _ dX9_checksum_155 rfl ?_
      refine qw_ladd dX9_checksum_156 ?_
      refine qw_lstore_n 1 dX9_checksum_157 rfl rfl (by decide) ?_
      refine qw_iincN 1 dX9_checksum_158 rfl (by decide) rfl (by decide) ?_
      refine qw_goto 126 dX9_checksum_161 (by decide) ?_
      exact ih (k + 1) (by omega) (by omega)
theorem l2_X9_checksum (h9 : sh9 S m fh fo) (hW : g_wf (M (m + 2))) {Q : lq_P} (hQ : Q (some (.long (g_ck (M (m + 2))))) z S M N) : ∀ (n9 k : Nat), k ≤ 4 * M (m + 2) 5 → 4 * M (m + 2) 5 - k < n9 → LW G YX9_checksum 2 0 0 Q lq_no z S M N 88 [some (.ref m), some (.long (q_h31 (fun i => M (m + 2) (723 + i)) k (g_ck1 (M (m + 2)) (M (m + 2) 0)))), none, some (.int (nI k)), none] [] := by
  intro n9
  induction n9 with
  | zero => intro _ _ _; omega
  | succ n9 ih =>
    intro k hk hn9
    have h160 := hW.no
    refine qw_iload_n 3 dX9_checksum_88 rfl rfl ?_
    refine qw_iconst (nI 4) dX9_checksum_89 (by decide) ?_
    refine qw_aload_n 0 dX9_checksum_90 rfl rfl ?_
    refine qw_getr fX9_17 dX9_checksum_91 h9.1 rfl ?_
    refine qw_iconst (nI 5) dX9_checksum_94 (by decide) ?_
    refine qw_iald dX9_checksum_95 h9.da (by omega) (by omega) ?_
    refine qw_mulN dX9_checksum_96 ?_
    refine qw_icmp_geN 124 dX9_checksum_97 (by decide) (by omega) (by omega) (fun c97 => ?_) (fun c97 => ?_)
    · refine qw_iconst (nI 0) dX9_checksum_124 (by decide) ?_
      refine qw_istore_n 3 dX9_checksum_125 rfl rfl (by decide) ?_
      have e : k = 4 * M (m + 2) 5 := by omega
      subst e
      exact l3_X9_checksum h9 hW hQ (M (m + 2) 1 + 1) 0 (Nat.zero_le _) (by omega)
    · refine qw_ldc2 dX9_checksum_100 kX9_281 ?_
      refine qw_lload_n 1 dX9_checksum_103 rfl rfl ?_
      refine qw_lmul dX9_checksum_104 ?_
      refine qw_aload_n 0 dX9_checksum_105 rfl rfl ?_
      refine qw_getr fX9_17 dX9_checksum_106 h9.1 rfl ?_
      refine qw_sipush (nI 723) dX9_checksum_109 (by decide) ?_
      refine qw_iload_n 3 dX9_checksum_112 rfl rfl ?_
      refine qw_addN dX9_checksum_113 ?_
      refine qw_iald dX9_checksum_114 h9.da (by omega) (by omega) ?_
      refine qw_i2l _ dX9_checksum_115 rfl ?_
      refine qw_ladd dX9_checksum_116 ?_
      refine qw_lstore_n 1 dX9_checksum_117 rfl rfl (by decide) ?_
      refine qw_iincN 1 dX9_checksum_118 rfl (by decide) rfl (by decide) ?_
      refine qw_goto 88 dX9_checksum_121 (by decide) ?_
      exact ih (k + 1) (by omega) (by omega)
theorem l0_X9_checksum (h9 : sh9 S m fh fo) (hW : g_wf (M (m + 2))) {Q : lq_P} (hQ : Q (some (.long (g_ck (M (m + 2))))) z S M N) {i : Nat} (hi : i < M (m + 2) 0) (kk : LW G YX9_checksum 2 0 0 Q lq_no z S M N 9 [some (.ref m), some (.long (g_ck1 (M (m + 2)) (i + 1))), none, some (.int (nI (i + 1))), none] []) : ∀ (n9 k : Nat), k ≤ 3 * M (m + 2) (12 + 30 * i) → 3 * M (m + 2) (12 + 30 * i) - k < n9 → LW G YX9_checksum 2 0 0 Q lq_no z S M N 41 [some (.ref m), some (.long (q_h31 (fun j => M (m + 2) (13 + 30 * i + j)) k (31 * g_ck1 (M (m + 2)) i + (nI (M (m + 2) (11 + 30 * i))).toInt64))), none, some (.int (nI i)), some (.int (nI k))] [] := by
  intro n9
  induction n9 with
  | zero => intro _ _ _; omega
  | succ n9 ih =>
    intro k hk hn9
    have h20 := hW.nb
    have hc8 := (hW.br hi).2.2.2.2.2.1
    refine qw_iload dX9_checksum_41 rfl ?_
    refine qw_iconst (nI 3) dX9_checksum_43 (by decide) ?_
    refine qw_aload_n 0 dX9_checksum_44 rfl rfl ?_
    refine qw_iload_n 3 dX9_checksum_45 rfl rfl ?_
    refine qw_cvp [_] (k_X9_countOf h9 (by omega)) mX9_185 dX9_checksum_46 h9.1 rfl rfl rfl (Nat.le_of_ble_eq_true rfl) (by omega) (by decide) rfl ?_
    refine qw_mulN dX9_checksum_49 ?_
    refine qw_icmp_geN 80 dX9_checksum_50 (by decide) (by omega) (by omega) (fun c50 => ?_) (fun c50 => ?_)
    · refine qw_iincN 1 dX9_checksum_80 rfl (by decide) rfl (by decide) ?_
      refine qw_goto 9 dX9_checksum_83 (by decide) ?_
      have e : k = 3 * M (m + 2) (12 + 30 * i) := by omega
      subst e
      exact qw_weak _ (by simp [lq_le, g_ck1]) kk
    · refine qw_ldc2 dX9_checksum_53 kX9_281 ?_
      refine qw_lload_n 1 dX9_checksum_56 rfl rfl ?_
      refine qw_lmul dX9_checksum_57 ?_
      refine qw_aload_n 0 dX9_checksum_58 rfl rfl ?_
      refine qw_getr fX9_17 dX9_checksum_59 h9.1 rfl ?_
      refine qw_iload_n 3 dX9_checksum_62 rfl rfl ?_
      refine qw_iconst (nI 0) dX9_checksum_63 (by decide) ?_
      refine qw_csp [_, _] (k_X9_spotAt) mX9_188 dX9_checksum_64 rfl rfl (Nat.le_of_ble_eq_true rfl) (by omega) (by decide) rfl ?_
      refine qw_iload dX9_checksum_67 rfl ?_
      refine qw_addN dX9_checksum_69 ?_
      refine qw_iaj (13 + 30 * i + k) (by omega) dX9_checksum_70 h9.da (by omega) (by omega) ?_
      refine qw_i2l _ dX9_checksum_71 rfl ?_
      refine qw_ladd dX9_checksum_72 ?_
      refine qw_lstore_n 1 dX9_checksum_73 rfl rfl (by decide) ?_
      refine qw_iincN 1 dX9_checksum_74 rfl (by decide) rfl (by decide) ?_
      refine qw_goto 41 dX9_checksum_77 (by decide) ?_
      exact ih (k + 1) (by omega) (by omega)
theorem l1_X9_checksum (h9 : sh9 S m fh fo) (hW : g_wf (M (m + 2))) {Q : lq_P} (hQ : Q (some (.long (g_ck (M (m + 2))))) z S M N) : ∀ (n9 k : Nat), k ≤ M (m + 2) 0 → M (m + 2) 0 - k < n9 → LW G YX9_checksum 2 0 0 Q lq_no z S M N 9 [some (.ref m), some (.long (g_ck1 (M (m + 2)) k)), none, some (.int (nI k)), none] [] := by
  intro n9
  induction n9 with
  | zero => intro _ _ _; omega
  | succ n9 ih =>
    intro k hk hn9
    have h20 := hW.nb
    refine qw_iload_n 3 dX9_checksum_9 rfl rfl ?_
    refine qw_aload_n 0 dX9_checksum_10 rfl rfl ?_
    refine qw_getr fX9_17 dX9_checksum_11 h9.1 rfl ?_
    refine qw_iconst (nI 0) dX9_checksum_14 (by decide) ?_
    refine qw_iald dX9_checksum_15 h9.da (by omega) (by omega) ?_
    refine qw_icmp_geN 86 dX9_checksum_16 (by decide) (by omega) (by omega) (fun c16 => ?_) (fun c16 => ?_)
    · refine qw_iconst (nI 0) dX9_checksum_86 (by decide) ?_
      refine qw_istore_n 3 dX9_checksum_87 rfl rfl (by decide) ?_
      have e : k = M (m + 2) 0 := by omega
      subst e
      exact qw_weak _ (by simp [lq_le, q_h31]) (l2_X9_checksum h9 hW hQ (4 * M (m + 2) 5 + 1) 0 (Nat.zero_le _) (by omega))
    · refine qw_ldc2 dX9_checksum_19 kX9_281 ?_
      refine qw_lload_n 1 dX9_checksum_22 rfl rfl ?_
      refine qw_lmul dX9_checksum_23 ?_
      refine qw_aload_n 0 dX9_checksum_24 rfl rfl ?_
      refine qw_getr fX9_17 dX9_checksum_25 h9.1 rfl ?_
      refine qw_iload_n 3 dX9_checksum_28 rfl rfl ?_
      refine qw_csp [_] (k_X9_at) mX9_44 dX9_checksum_29 rfl rfl (Nat.le_of_ble_eq_true rfl) (by omega) (by decide) rfl ?_
      refine qw_iconst (nI 4) dX9_checksum_32 (by decide) ?_
      refine qw_addN dX9_checksum_33 ?_
      refine qw_iaj (11 + 30 * k) (by omega) dX9_checksum_34 h9.da (by omega) (by omega) ?_
      refine qw_i2l _ dX9_checksum_35 rfl ?_
      refine qw_ladd dX9_checksum_36 ?_
      refine qw_lstore_n 1 dX9_checksum_37 rfl rfl (by decide) ?_
      refine qw_iconst (nI 0) dX9_checksum_38 (by decide) ?_
      refine qw_istore dX9_checksum_39 rfl (by decide) ?_
      exact l0_X9_checksum h9 hW hQ (i := k) (by omega) (ih (k + 1) (by omega) (by omega)) (3 * M (m + 2) (12 + 30 * k) + 1) 0 (Nat.zero_le _) (by omega)
def lq_ml (z : Nat) (S : lq_S) (N : lq_N) (P : Int64 → lq_M → Prop) : lq_P := fun r z' S' M' N' => z' = z ∧ S' = S ∧ N' = N ∧ ∃ x : Int64, r = some (.long x) ∧ P x M'
theorem k_X9_checksum (h9 : sh9 S m fh fo) (hW : g_wf (M (m + 2))) : LM G YX9_checksum 2 0 0 [.ref m] z S M N (lq_ml z S N (fun x M2 => x = g_ck (M (m + 2)) ∧ M2 = lq_up M m 0 0)) lq_no := by
  refine LM.of (by decide) rfl [some (.ref m), none, none, none, none] rfl (Nat.le_of_ble_eq_true rfl) ?_
  refine qw_aload_n 0 dX9_checksum_0 rfl rfl ?_
  refine qw_iconst (nI 0) dX9_checksum_1 (by decide) ?_
  refine qw_puti fX9_41 dX9_checksum_2 h9.1 rfl ?_
  have hM0 := lq_up_s M m 0 0
  have hMd := lq_up_n M (a := m) (b := m + 2) 0 0 (by omega)
  have hMu := fun e => lq_up_up M m 0 0 e
  have hMr := fun b (hb : b ≠ m) => lq_up_n M (a := m) (b := b) 0 0 hb
  have hMm := fun j (hj : j ≠ 0) => lq_up_c M (a := m) (k := 0) (j := j) 0 hj
  revert hM0 hMd hMu hMr hMm
  generalize hM1 : lq_up M m 0 0 = M1
  intro h0 hMd hMu hMr hMm
  have hW1 : g_wf (M1 (m + 2)) := by rw [hMd]; exact hW
  have h20 := hW1.nb
  have h8 := hW1.ns
  have h160 := hW1.no
  refine qw_lconst (0) dX9_checksum_5 (by decide) ?_
  refine qw_lstore_n 1 dX9_checksum_6 rfl rfl (by decide) ?_
  refine qw_iconst (nI 0) dX9_checksum_7 (by decide) ?_
  refine qw_istore_n 3 dX9_checksum_8 rfl rfl (by decide) ?_
  refine l1_X9_checksum h9 hW1 ?_ (M1 (m + 2) 0 + 1) 0 (Nat.zero_le _) (by omega)
  exact ⟨rfl, rfl, rfl, _, rfl, by rw [hMd], rfl⟩
end R5
