/-! THE REFERENCE: numbers, cells of the expression -/
theorem t_kd_2 {t : Nat → Nat} {L s : Nat} : t_kd t L s = 2 ↔ (s < L ∧ 48 ≤ t s ∧ t s ≤ 57) := by
  unfold t_kd
  constructor
  · intro h
    by_cases h1 : s < t_wd t L s
    · rw [if_pos h1] at h; exact absurd h (by decide)
    · rw [if_neg h1] at h
      by_cases h2 : s < t_dg t L s
      · have h3 := t_run_in (P := t_isD) (t := t) (p := s) (Nat.le_refl s) h2
        exact ⟨h3.1, of_decide_eq_true h3.2⟩
      · rw [if_neg h2] at h
        by_cases h3 : s < L
        · rw [if_pos h3] at h; exact absurd h (by decide)
        · rw [if_neg h3] at h; exact absurd h (by decide)
  · rintro ⟨h1, h2, h3⟩
    have e1 : t_wd t L s = s := t_run_n (fun _ => decide_eq_false (by omega))
    have e2 : t_dg t L s = t_dg t L (s + 1) := t_run_y h1 (decide_eq_true ⟨h2, h3⟩)
    have e3 := t_run_ge t_isD t L (s + 1)
    have e3 : s + 1 ≤ t_dg t L (s + 1) := e3
    rw [if_neg (by omega), if_pos (by omega)]
theorem t_en_2 {t : Nat → Nat} {L s : Nat} (h : t_kd t L s = 2) : t_en t L s = t_dg t L s := by
  unfold t_kd at h
  unfold t_en
  by_cases h1 : s < t_wd t L s
  · rw [if_pos h1] at h; exact absurd h (by decide)
  · rw [if_neg h1] at h ⊢
    by_cases h2 : s < t_dg t L s
    · rw [if_pos h2]
    · rw [if_neg h2] at h
      by_cases h3 : s < L
      · rw [if_pos h3] at h; exact absurd h (by decide)
      · rw [if_neg h3] at h; exact absurd h (by decide)
/-- the reference's number v beside the class's c -/
def r_vr (v c : Nat) : Prop := (c ≤ 9999 → v = c) ∧ (9999 < c → 9999 < v) ∧ v ≤ 1000000
theorem r_vr.s {v c d : Nat} (h : r_vr v c) (h1 : 48 ≤ d) (h2 : d ≤ 57) : r_vr (min 1000000 (10 * v + d - 48)) (if 9999 < c then c else 10 * c + d - 48) := by
  obtain ⟨a, b, e⟩ := h
  by_cases q : 9999 < c
  · rw [if_pos q]
    have := b q
    exact ⟨fun z => absurd q (by omega), fun _ => by omega, by omega⟩
  · rw [if_neg q]
    have := a (by omega)
    subst this
    exact ⟨fun z => by omega, fun z => by omega, by omega⟩
def r_np (m : Nat) (M M1 : lq_M) (t : Nat → Nat) (L e : Nat) (res : (Nat × Nat) ⊕ (Nat × Nat)) (y : Int32) : Prop := match res with
  | .inl x => M1 m 5 = x.1 ∧ M1 m 6 = x.2 ∧ r_mf m M M1 ∧ ¬ nI x.1 = 0
  | .inr x => y = nI x.1 ∧ M1 m 5 = 0 ∧ M1 m 4 = x.2 ∧ M1 m 12 = t_sk t L e ∧ M1 m 6 = M m 6 ∧ r_mf m M M1
def r_em (M : lq_M) (m v : Nat) : lq_M := lq_up (lq_up M (m + 3) (1363 + M (m + 3) 4) v) (m + 3) 4 (M (m + 3) 4 + 1)
section R12
variable {G : lq_G} {z : Nat} {S : lq_S} {M : lq_M} {N : lq_N} {m : Nat} {fh fo : Nat → Option Nat}
theorem l_X9_number {L : Nat} (h9 : sh9 S m fh fo) (hL8 : L ≤ 800) {t : Nat → Nat} (ht : ∀ j, j < L → t j < 256) {M0 : lq_M} (hM0 : ∀ j, j < L → M0 (m + 1) j = t j) (hL0 : M0 m 3 = L) {s0 : Nat} {Q : lq_P} {lo hi : Int32} (kk : ∀ v : Nat, r_vr v (t_vc t L s0 0) → LW G YX9_number 2 0 0 Q lq_no z S (lq_up M0 m 4 (t_dg t L s0)) N 90 [some (.ref m), some (.int lo), some (.int hi), some (.int (nI v))] []) : ∀ (n9 p v c : Nat), p ≤ L → L - p < n9 → r_vr v c → t_vc t L s0 0 = t_vc t L p c → t_dg t L s0 = t_dg t L p → LW G YX9_number 2 0 0 Q lq_no z S (lq_up M0 m 4 p) N 41 [some (.ref m), some (.int lo), some (.int hi), some (.int (nI v))] [] := by
  intro n9
  induction n9 with
  | zero => intro _ _ _ _ _ _ _ _; omega
  | succ n9 ih =>
    intro p v c hp hn9 hr hv hs
    have hM : ∀ j, j < L → lq_up M0 m 4 p (m + 1) j = t j := fun j hj => by rw [lq_up_n _ _ _ (by omega)]; exact hM0 j hj
    have hL : lq_up M0 m 4 p m 3 = L := by rw [lq_up_c _ _ (by decide)]; exact hL0
    have hrv := hr.2.2
    refine qw_aload_n 0 dX9_number_41 rfl rfl ?_
    refine qw_aload_n 0 dX9_number_42 rfl rfl ?_
    refine qw_geti fX9_54 dX9_number_43 h9.1 rfl ?_
    rw [lq_up_s]
    refine qw_cvp [_] (k_X9_byteAt h9 hL8 ht hM hL (by omega)) mX9_57 dX9_number_46 h9.1 rfl rfl rfl (Nat.le_of_ble_eq_true rfl) (by omega) (by decide) rfl ?_
    refine qw_csp [_] (k_X9_isDigit (ht _)) mX9_91 dX9_number_49 rfl rfl (Nat.le_of_ble_eq_true rfl) (by omega) (by decide) rfl ?_
    refine qw_if_eqN 90 dX9_number_52 (by decide) (Nat.lt_of_le_of_lt q_b_le (by decide)) (fun c52 => ?_) (fun c52 => ?_)
    · have hnd : p < L → t_isD (t p) = false := fun h => decide_eq_false (fun q => q_b_eq c52 ⟨h, q⟩)
      have e1 : t_vc t L p c = c := t_vc_n hnd
      have e2 : t_dg t L p = p := t_run_n hnd
      have hk := kk v (by rw [hv, e1]; exact hr)
      rw [hs, e2] at hk
      exact hk
    · have hdg := q_b_ne c52
      have htp := ht p hdg.1
      refine qw_ldc dX9_number_55 kX9_98 ?_
      rw [show (1000000 : Int32) = nI 1000000 by decide]
      refine qw_bipush (nI 10) dX9_number_57 (by decide) ?_
      refine qw_iload_n 3 dX9_number_59 rfl rfl ?_
      refine qw_mulN dX9_number_60 ?_
      refine qw_aload_n 0 dX9_number_61 rfl rfl ?_
      refine qw_aload_n 0 dX9_number_62 rfl rfl ?_
      refine qw_geti fX9_54 dX9_number_63 h9.1 rfl ?_
      rw [lq_up_s]
      refine qw_cvp [_] (k_X9_byteAt h9 hL8 ht hM hL (by omega)) mX9_57 dX9_number_66 h9.1 rfl rfl rfl (Nat.le_of_ble_eq_true rfl) (by omega) (by decide) rfl ?_
      rw [show q_by t L p = nI (t p) from if_pos hdg.1]
      refine qw_addN dX9_number_69 ?_
      refine qw_bipush (nI 48) dX9_number_70 (by decide) ?_
      refine qw_subN (by omega) dX9_number_72 ?_
      refine qw_csp [_, _] (k_X9_min (by decide) (by omega)) mX9_99 dX9_number_73 rfl rfl (Nat.le_of_ble_eq_true rfl) (by omega) (by decide) rfl ?_
      refine qw_istore_n 3 dX9_number_76 rfl rfl (by decide) ?_
      refine qw_aload_n 0 dX9_number_77 rfl rfl ?_
      refine qw_dup dX9_number_78 rfl ?_
      refine qw_geti fX9_54 dX9_number_79 h9.1 rfl ?_
      rw [lq_up_s]
      refine qw_iconst (nI 1) dX9_number_82 (by decide) ?_
      refine qw_addN dX9_number_83 ?_
      refine qw_puti fX9_54 dX9_number_84 h9.1 rfl ?_
      refine qw_goto 41 dX9_number_87 (by decide) ?_
      have e1 : t_vc t L p c = t_vc t L (p + 1) (if 9999 < c then c else 10 * c + t p - 48) := t_vc_y hdg.1 (decide_eq_true hdg.2)
      have e2 : t_dg t L p = t_dg t L (p + 1) := t_run_y hdg.1 (decide_eq_true hdg.2)
      rw [lq_up_up]
      exact ih (p + 1) _ _ (by omega) (by omega) (hr.s hdg.2.1 hdg.2.2) (by rw [hv, e1]) (by rw [hs, e2])
theorem k_X9_number_g {L : Nat} (h9 : sh9 S m fh fo) (hL8 : L ≤ 800) {t : Nat → Nat} (ht : ∀ j, j < L → t j < 256) (hM : ∀ j, j < L → M (m + 1) j = t j) (hL : M m 3 = L) {e p : Nat} (hp : M m 4 = p) (hpe : r_at t L p e) (h0 : M m 5 = 0) {lo hi : Nat} (hlo : lo ≤ 9999) (hhi : hi ≤ 9999) : LM G YX9_number 2 0 0 [.ref m, .int (nI lo), .int (nI hi)] z S M N (lq_mi z S N (fun y M1 => r_np m M M1 t L e (p_nu t L lo hi e) y)) lq_no := by
  obtain ⟨hpL, hps⟩ := hpe
  have hsL : t_sk t L e ≤ L := by rw [← hps]; exact t_sk_le hpL
  refine LM.of (by decide) rfl [some (.ref m), some (.int (nI lo)), some (.int (nI hi)), none] rfl (Nat.le_of_ble_eq_true rfl) ?_
  refine qw_aload_n 0 dX9_number_0 rfl rfl ?_
  refine qw_cvp [] (k_X9_isGood_g h9 h0) mX9_70 dX9_number_1 h9.1 rfl rfl rfl (Nat.le_of_ble_eq_true rfl) (by omega) (by decide) rfl ?_
  refine qw_if_neN 9 dX9_number_4 (by decide) (by omega) (fun c4 => ?_) (fun c4 => absurd c4 (by decide))
  refine qw_aload_n 0 dX9_number_9 rfl rfl ?_
  refine qw_cvi [] (k_X9_next h9 hL8 ht hM hL hp hpL) mX9_74 dX9_number_10 h9.1 rfl rfl rfl (Nat.le_of_ble_eq_true rfl) (by omega) (by decide) rfl (fun x1 M1 h1 => ?_)
  obtain ⟨rfl, hz⟩ := h1
  rw [hz, hps]
  refine qw_csp [_] (k_X9_isDigit (ht _)) mX9_91 dX9_number_13 rfl rfl (Nat.le_of_ble_eq_true rfl) (by omega) (by decide) rfl ?_
  refine qw_if_neN 31 dX9_number_16 (by decide) (Nat.lt_of_le_of_lt q_b_le (by decide)) (fun c16 => ?_) (fun c16 => ?_)
  · refine qw_aload_n 0 dX9_number_31 rfl rfl ?_
    refine qw_aload_n 0 dX9_number_32 rfl rfl ?_
    refine qw_geti fX9_54 dX9_number_33 h9.1 rfl ?_
    rw [lq_up_s]
    refine qw_puti fX9_95 dX9_number_36 h9.1 rfl ?_
    refine qw_iconst (nI 0) dX9_number_39 (by decide) ?_
    refine qw_istore_n 3 dX9_number_40 rfl rfl (by decide) ?_
    have hdg := q_b_ne c16
    have hk2 : t_kd t L (t_sk t L e) = 2 := t_kd_2.mpr hdg
    have hid : lq_up (lq_up (lq_up M m 4 (t_sk t L e)) m 12 (t_sk t L e)) m 4 (t_sk t L e) = (lq_up (lq_up M m 4 (t_sk t L e)) m 12 (t_sk t L e)) := lq_up_id (by rw [lq_up_c _ _ (by decide), lq_up_s])
    rw [← hid]
    refine l_X9_number h9 hL8 ht (M0 := (lq_up (lq_up M m 4 (t_sk t L e)) m 12 (t_sk t L e))) (fun j hj => by rw [lq_up_n _ _ _ (by omega), lq_up_n _ _ _ (by omega)]; exact hM j hj) (by rw [lq_up_c _ _ (by decide), lq_up_c _ _ (by decide)]; exact hL) (s0 := t_sk t L e) (fun v hrv => ?_) (L + 1) (t_sk t L e) 0 0 hsL (by omega) ⟨fun _ => rfl, fun q => absurd q (by decide), by decide⟩ rfl rfl
    refine qw_iload_n 3 dX9_number_90 rfl rfl ?_
    refine qw_iload_n 1 dX9_number_91 rfl rfl ?_
    refine qw_iload_n 2 dX9_number_92 rfl rfl ?_
    refine qw_csp [_, _, _] (k_X9_in) mX9_66 dX9_number_93 rfl rfl (Nat.le_of_ble_eq_true rfl) (by omega) (by decide) rfl ?_
    rw [q_inrg (by omega) (by omega)]
    refine qw_if_neN 109 dX9_number_96 (by decide) (Nat.lt_of_le_of_lt q_b_le (by decide)) (fun c96 => ?_) (fun c96 => ?_)
    · obtain ⟨v1, k1, k2, k3⟩ := q_b_ne c96
      have hvv : v = v1 := by
        have h8 := hrv.2.2
        exact (nI_eq (by omega) (by omega)).mp k3
      have hvc : t_vc t L (t_sk t L e) 0 ≤ 9999 := by
        rcases Nat.lt_or_ge 9999 (t_vc t L (t_sk t L e) 0) with q | q
        · have := hrv.2.1 q; omega
        · exact q
      have hvw := hrv.1 hvc
      refine qw_iload_n 3 dX9_number_109 rfl rfl ?_
      exact qw_ireturn rfl rfl dX9_number_110 ⟨rfl, rfl, rfl, _, rfl, by rw [p_nu_ok hk2 (by omega) (by omega)]; exact ⟨by show nI v = nI (t_vc t L (t_sk t L e) 0); rw [hrv.1 (by omega)], by rw [lq_up_c _ _ (by decide), lq_up_c _ _ (by decide), lq_up_c _ _ (by decide)]; exact h0, by rw [lq_up_s, t_en_2 hk2], by rw [lq_up_c _ _ (by decide), lq_up_s], by rw [lq_up_c _ _ (by decide), lq_up_c _ _ (by decide), lq_up_c _ _ (by decide)], (r_mf.up (by decide)).tr ((r_mf.up (by decide)).tr (r_mf.up (by decide)))⟩⟩
    · have hnr : ¬ (lo ≤ v ∧ v ≤ hi) := fun q => q_b_eq c96 ⟨v, q.1, q.2, rfl⟩
      have hcr : t_vc t L (t_sk t L e) 0 < lo ∨ hi < t_vc t L (t_sk t L e) 0 := by
        rcases Nat.lt_or_ge 9999 (t_vc t L (t_sk t L e) 0) with q | q
        · exact Or.inr (by omega)
        · have := hrv.1 q; omega
      have hpn : p_nu t L lo hi e = .inl (4294967293, t_sk t L e) := by
        have hnm : t_nm t L e lo hi = 2 := by rw [t_nm, if_neg (fun z => z hk2), if_pos hcr]
        rw [p_nu, if_neg (by omega), if_pos hnm]
      refine qw_aload_n 0 dX9_number_99 rfl rfl ?_
      refine qw_bipush (-3) dX9_number_100 (by decide) ?_
      rw [show (-3 : Int32) = nI 4294967293 by decide]
      refine qw_aload_n 0 dX9_number_102 rfl rfl ?_
      refine qw_geti fX9_95 dX9_number_103 h9.1 rfl ?_
      rw [lq_up_c _ _ (by decide), lq_up_s]
      refine qw_cvv [_, _] (k_X9_report_g h9 (by rw [lq_up_c _ _ (by decide), lq_up_c _ _ (by decide), lq_up_c _ _ (by decide)]; exact h0)) mX9_87 dX9_number_106 h9.1 rfl rfl rfl (Nat.le_of_ble_eq_true rfl) (by omega) (by decide) rfl (fun M2 h2 => ?_)
      subst h2
      skip
      refine qw_iload_n 3 dX9_number_109 rfl rfl ?_
      exact qw_ireturn rfl rfl dX9_number_110 ⟨rfl, rfl, rfl, _, rfl, by rw [hpn]; exact ⟨by rw [lq_up_c _ _ (by decide), lq_up_s], by rw [lq_up_s], (r_mf.up (by decide)).tr ((r_mf.up (by decide)).tr ((r_mf.up (by decide)).tr ((r_mf.up (by decide)).tr (r_mf.up (by decide))))), (show ¬ nI 4294967293 = 0 from by decide)⟩⟩
  · refine qw_aload_n 0 dX9_number_19 rfl rfl ?_
    refine qw_bipush (-2) dX9_number_20 (by decide) ?_
    rw [show (-2 : Int32) = nI 4294967294 by decide]
    refine qw_aload_n 0 dX9_number_22 rfl rfl ?_
    refine qw_geti fX9_54 dX9_number_23 h9.1 rfl ?_
    rw [lq_up_s]
    refine qw_cvv [_, _] (k_X9_report_g h9 (by rw [lq_up_c _ _ (by decide)]; exact h0)) mX9_87 dX9_number_26 h9.1 rfl rfl rfl (Nat.le_of_ble_eq_true rfl) (by omega) (by decide) rfl (fun M2 h2 => ?_)
    subst h2
    refine qw_iconst (nI 0) dX9_number_29 (by decide) ?_
    exact qw_ireturn rfl rfl dX9_number_30 ⟨rfl, rfl, rfl, _, rfl, by rw [show p_nu t L lo hi e = .inl (4294967294, t_sk t L e) by rw [p_nu, if_pos (by rw [t_nm, if_pos (fun q => q_b_eq c16 (t_kd_2.mp q))])]]; exact ⟨by rw [lq_up_c _ _ (by decide), lq_up_s], by rw [lq_up_s], (r_mf.up (by decide)).tr ((r_mf.up (by decide)).tr (r_mf.up (by decide))), (show ¬ nI 4294967294 = 0 from by decide)⟩⟩
theorem k_X9_number_b (h9 : sh9 S m fh fo) (h0 : ¬ nI (M m 5) = 0) {lo hi : Int32} : LM G YX9_number 2 0 0 [.ref m, .int lo, .int hi] z S M N (lq_pu z S M N (.int (nI 0))) lq_no := by
  refine LM.of (by decide) rfl [some (.ref m), some (.int lo), some (.int hi), none] rfl (Nat.le_of_ble_eq_true rfl) ?_
  refine qw_aload_n 0 dX9_number_0 rfl rfl ?_
  refine qw_cvp [] (k_X9_isGood_b h9 h0) mX9_70 dX9_number_1 h9.1 rfl rfl rfl (Nat.le_of_ble_eq_true rfl) (by omega) (by decide) rfl ?_
  refine qw_if_neN 9 dX9_number_4 (by decide) (by omega) (fun c4 => absurd rfl c4) (fun c4 => ?_)
  refine qw_iconst (nI 0) dX9_number_7 (by decide) ?_
  exact qw_ireturn rfl rfl dX9_number_8 ⟨rfl, rfl, rfl, rfl, rfl⟩
theorem k_X9_emit_g (h9 : sh9 S m fh fo) (h0 : M m 5 = 0) (hc : M (m + 3) 4 < 1300) {v : Nat} : LM G YX9_emit 1 0 0 [.ref m, .int (nI v)] z S M N (lq_mv z S N (fun M1 => M1 = r_em M m v)) lq_no := by
  refine LM.of (by decide) rfl [some (.ref m), some (.int (nI v))] rfl (Nat.le_of_ble_eq_true rfl) ?_
  refine qw_aload_n 0 dX9_emit_0 rfl rfl ?_
  refine qw_cvp [] (k_X9_isGood_g h9 h0) mX9_70 dX9_emit_1 h9.1 rfl rfl rfl (Nat.le_of_ble_eq_true rfl) (by omega) (by decide) rfl ?_
  refine qw_if_neN 8 dX9_emit_4 (by decide) (by omega) (fun c4 => ?_) (fun c4 => absurd c4 (by decide))
  refine qw_aload_n 0 dX9_emit_8 rfl rfl ?_
  refine qw_getr fX9_20 dX9_emit_9 h9.1 rfl ?_
  refine qw_sipush (nI 1363) dX9_emit_12 (by decide) ?_
  refine qw_aload_n 0 dX9_emit_15 rfl rfl ?_
  refine qw_getr fX9_20 dX9_emit_16 h9.1 rfl ?_
  refine qw_iconst (nI 4) dX9_emit_19 (by decide) ?_
  refine qw_iald dX9_emit_20 h9.dr (by omega) (by omega) ?_
  refine qw_addN dX9_emit_21 ?_
  refine qw_iload_n 1 dX9_emit_22 rfl rfl ?_
  refine qw_iast dX9_emit_23 h9.dr (by omega) (by omega) ?_
  refine qw_aload_n 0 dX9_emit_24 rfl rfl ?_
  refine qw_getr fX9_20 dX9_emit_25 h9.1 rfl ?_
  refine qw_iconst (nI 4) dX9_emit_28 (by decide) ?_
  refine qw_dup2 dX9_emit_29 rfl rfl ?_
  refine qw_iald dX9_emit_30 h9.dr (by omega) (by omega) ?_
  rw [lq_up_c _ _ (by omega)]
  refine qw_iconst (nI 1) dX9_emit_31 (by decide) ?_
  refine qw_addN dX9_emit_32 ?_
  refine qw_iast dX9_emit_33 h9.dr (by omega) (by omega) ?_
  exact qw_return rfl dX9_emit_34 ⟨rfl, rfl, rfl, rfl, rfl⟩
theorem k_X9_emit_b (h9 : sh9 S m fh fo) (h0 : ¬ nI (M m 5) = 0) {v : Int32} : LM G YX9_emit 1 0 0 [.ref m, .int v] z S M N (lq_mv z S N (fun M1 => M1 = M)) lq_no := by
  refine LM.of (by decide) rfl [some (.ref m), some (.int v)] rfl (Nat.le_of_ble_eq_true rfl) ?_
  refine qw_aload_n 0 dX9_emit_0 rfl rfl ?_
  refine qw_cvp [] (k_X9_isGood_b h9 h0) mX9_70 dX9_emit_1 h9.1 rfl rfl rfl (Nat.le_of_ble_eq_true rfl) (by omega) (by decide) rfl ?_
  refine qw_if_neN 8 dX9_emit_4 (by decide) (by omega) (fun c4 => absurd rfl c4) (fun c4 => ?_)
  exact qw_return rfl dX9_emit_7 ⟨rfl, rfl, rfl, rfl, rfl⟩
theorem k_X9_factor_b (h9 : sh9 S m fh fo) (h0 : ¬ nI (M m 5) = 0) : LM G YX9_factor 1 0 0 [.ref m] z S M N (lq_mv z S N (fun M1 => M1 = M)) lq_no := by
  refine LM.of (by decide) rfl [some (.ref m), none, none, none] rfl (Nat.le_of_ble_eq_true rfl) ?_
  refine qw_aload_n 0 dX9_factor_0 rfl rfl ?_
  refine qw_cvp [] (k_X9_isGood_b h9 h0) mX9_70 dX9_factor_1 h9.1 rfl rfl rfl (Nat.le_of_ble_eq_true rfl) (by omega) (by decide) rfl ?_
  refine qw_if_neN 8 dX9_factor_4 (by decide) (by omega) (fun c4 => absurd rfl c4) (fun c4 => ?_)
  exact qw_return rfl dX9_factor_7 ⟨rfl, rfl, rfl, rfl, rfl⟩
theorem e_X9_term (h9 : sh9 S m fh fo) (h0 : ¬ nI (M m 5) = 0) {d9 : Nat} (hd9 : 1 ≤ d9) {Q : lq_P} (hQ : Q none z S M N) : LW G YX9_term d9 0 0 Q lq_no z S M N 4 [some (.ref m), none] [] := by
  refine qw_aload_n 0 dX9_term_4 rfl rfl ?_
  refine qw_cvp [] (k_X9_isGood_b h9 h0) mX9_70 dX9_term_5 h9.1 rfl rfl rfl (Nat.le_of_ble_eq_true rfl) (by omega) (by decide) rfl ?_
  refine qw_if_eqN 74 dX9_term_8 (by decide) (by omega) (fun c8 => ?_) (fun c8 => absurd rfl c8)
  exact qw_return rfl dX9_term_74 hQ
theorem k_X9_term_b (h9 : sh9 S m fh fo) (h0 : ¬ nI (M m 5) = 0) : LM G YX9_term 2 0 0 [.ref m] z S M N (lq_mv z S N (fun M1 => M1 = M)) lq_no := by
  refine LM.of (by decide) rfl [some (.ref m), none] rfl (Nat.le_of_ble_eq_true rfl) ?_
  refine qw_aload_n 0 dX9_term_0 rfl rfl ?_
  refine qw_cvv [] (k_X9_factor_b h9 h0) mX9_133 dX9_term_1 h9.1 rfl rfl rfl (Nat.le_of_ble_eq_true rfl) (by omega) (by decide) rfl (fun M1 h1 => ?_)
  rw [h1]
  exact e_X9_term h9 h0 (by decide) (Q := lq_mv z S N (fun M1 => M1 = M)) ⟨rfl, rfl, rfl, rfl, rfl⟩
theorem e_X9_sum (h9 : sh9 S m fh fo) (h0 : ¬ nI (M m 5) = 0) {d9 : Nat} (hd9 : 1 ≤ d9) {Q : lq_P} (hQ : Q none z S M N) : LW G YX9_sum d9 0 0 Q lq_no z S M N 4 [some (.ref m), none] [] := by
  refine qw_aload_n 0 dX9_sum_4 rfl rfl ?_
  refine qw_cvp [] (k_X9_isGood_b h9 h0) mX9_70 dX9_sum_5 h9.1 rfl rfl rfl (Nat.le_of_ble_eq_true rfl) (by omega) (by decide) rfl ?_
  refine qw_if_eqN 74 dX9_sum_8 (by decide) (by omega) (fun c8 => ?_) (fun c8 => absurd rfl c8)
  exact qw_return rfl dX9_sum_74 hQ
theorem k_X9_sum_b (h9 : sh9 S m fh fo) (h0 : ¬ nI (M m 5) = 0) : LM G YX9_sum 3 0 0 [.ref m] z S M N (lq_mv z S N (fun M1 => M1 = M)) lq_no := by
  refine LM.of (by decide) rfl [some (.ref m), none] rfl (Nat.le_of_ble_eq_true rfl) ?_
  refine qw_aload_n 0 dX9_sum_0 rfl rfl ?_
  refine qw_cvv [] (k_X9_term_b h9 h0) mX9_136 dX9_sum_1 h9.1 rfl rfl rfl (Nat.le_of_ble_eq_true rfl) (by omega) (by decide) rfl (fun M1 h1 => ?_)
  rw [h1]
  exact e_X9_sum h9 h0 (by decide) (Q := lq_mv z S N (fun M1 => M1 = M)) ⟨rfl, rfl, rfl, rfl, rfl⟩
end R12
