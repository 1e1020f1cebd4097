/-! THE REFERENCE: bytes, words, signs, numbers -/
theorem lq_up_id {M : lq_M} {a k v : Nat} (h : M a k = v) : lq_up M a k v = M := by
  funext b j
  unfold lq_up
  by_cases e : b = a
  · rw [if_pos e]
    by_cases e2 : j = k
    · rw [if_pos e2, e, e2, h]
    · rw [if_neg e2, e]
  · rw [if_neg e]
def q_by (t : Nat → Nat) (L j : Nat) : Int32 := if j < L then nI (t j) else -1
theorem q_by_eq {t : Nat → Nat} {L j c : Nat} (ht : j < L → t j < 256) (hc : c < 256) : q_by t L j = nI c ↔ (j < L ∧ t j = c) := by
  unfold q_by
  by_cases h : j < L
  · rw [if_pos h, nI_eq (by have := ht h; omega) (by omega)]
    exact ⟨fun q => ⟨h, q⟩, fun q => q.2⟩
  · rw [if_neg h]
    refine ⟨fun q => ?_, fun q => absurd q.1 h⟩
    have h1 := nI_toInt (show c < 2 ^ 31 by omega)
    rw [← q] at h1
    exact absurd h1 (by have : (-1 : Int32).toInt = -1 := rfl; omega)
theorem q_by_in {t : Nat → Nat} {L j lo hi : Nat} (ht : j < L → t j < 256) (h1 : lo < 256) (h2 : hi < 256) : (if nI lo ≤ q_by t L j ∧ q_by t L j ≤ nI hi then 1 else 0) = q_b (j < L ∧ lo ≤ t j ∧ t j ≤ hi) := by
  rw [q_inrg (by omega) (by omega)]
  have e : q_rg (q_by t L j) lo hi ↔ (j < L ∧ lo ≤ t j ∧ t j ≤ hi) := by
    rw [q_rg_i (by omega)]
    unfold q_by
    by_cases h : j < L
    · rw [if_pos h, nI_toInt (by have := ht h; omega)]
      constructor
      · rintro ⟨a, b⟩; exact ⟨h, by omega, by omega⟩
      · rintro ⟨_, a, b⟩; exact ⟨by omega, by omega⟩
    · rw [if_neg h]
      refine ⟨fun q => ?_, fun q => absurd q.1 h⟩
      have : (-1 : Int32).toInt = -1 := rfl
      omega
  by_cases q : q_rg (q_by t L j) lo hi
  · rw [q_b_t q, q_b_t (e.mp q)]
  · rw [q_b_f q, q_b_f (fun z => q (e.mpr z))]
theorem t_ru_in {P : Nat → Bool} {t : Nat → Nat} {L : Nat} : ∀ f p q, p ≤ q → q < t_ru P t L f p → q < L ∧ P (t q) = true
  | 0, p, q, h1, h2 => by rw [t_ru] at h2; omega
  | f + 1, p, q, h1, h2 => by
    rw [t_ru] at h2
    by_cases c : p < L ∧ P (t p) = true
    · rw [if_pos c] at h2
      by_cases e : q = p
      · rw [e]; exact c
      · exact t_ru_in f (p + 1) q (by omega) h2
    · rw [if_neg c] at h2; omega
theorem t_run_in {P : Nat → Bool} {t : Nat → Nat} {L p q : Nat} (h1 : p ≤ q) (h2 : q < t_run P t L p) : q < L ∧ P (t q) = true := t_ru_in _ p q h1 h2
theorem t_run_all {P : Nat → Bool} {t : Nat → Nat} {L : Nat} : ∀ {n p : Nat}, (∀ j, j < n → p + j < L ∧ P (t (p + j)) = true) → t_run P t L p = t_run P t L (p + n)
  | 0, p, _ => by rw [Nat.add_zero]
  | n + 1, p, h => by
    have h0 := h 0 (by omega)
    rw [Nat.add_zero] at h0
    rw [t_run_y h0.1 h0.2, t_run_all (n := n) (p := p + 1) (fun j hj => by have := h (j + 1) (by omega); rw [show p + 1 + j = p + (j + 1) by omega]; exact this), show p + 1 + n = p + (n + 1) by omega]
theorem t_sk_sk {t : Nat → Nat} {L p : Nat} (hp : p ≤ L) : t_sk t L (t_sk t L p) = t_sk t L p := by
  refine t_run_n (fun h => ?_)
  unfold t_sk at h ⊢
  refine Bool.eq_false_iff.mpr (fun q => ?_)
  have h1 : t_run t_isS t L p = t_run t_isS t L (t_run t_isS t L p) := by
    have hge := t_run_ge t_isS t L p
    have h2 := t_run_all (P := t_isS) (t := t) (L := L) (n := t_run t_isS t L p - p) (p := p) (fun j hj => t_run_in (p := p) (by omega) (by omega))
    rw [show p + (t_run t_isS t L p - p) = t_run t_isS t L p by omega] at h2
    exact h2
  rw [t_run_y h q] at h1
  have := t_run_ge t_isS t L (t_run t_isS t L p + 1)
  omega
theorem t_sk_no {t : Nat → Nat} {L p : Nat} (h : t_sk t L p < L) (hp : p ≤ L) : t (t_sk t L p) ≠ 32 := fun q => by
  have h1 := t_sk_sk (t := t) hp
  have h2 : t_isS (t (t_sk t L p)) = true := decide_eq_true q
  have h3 : t_sk t L (t_sk t L p) = t_sk t L (t_sk t L p + 1) := t_run_y h h2
  have h4 := t_run_ge t_isS t L (t_sk t L p + 1)
  have h4 : t_sk t L p + 1 ≤ t_sk t L (t_sk t L p + 1) := h4
  omega
/-- the reference's position p stands for e -/
def r_at (t : Nat → Nat) (L p e : Nat) : Prop := p ≤ L ∧ t_sk t L p = t_sk t L e
/-- what reading moves of the reference -/
def r_mf (m : Nat) (M M1 : lq_M) : Prop := (∀ j, j ≠ 4 → j ≠ 5 → j ≠ 6 → j ≠ 12 → M1 m j = M m j) ∧ ∀ b, b ≠ m → M1 b = M b
theorem r_mf.rf {m : Nat} {M : lq_M} : r_mf m M M := ⟨fun _ _ _ _ _ => rfl, fun _ _ => rfl⟩
theorem r_mf.tr {m : Nat} {M M1 M2 : lq_M} (h : r_mf m M M1) (h2 : r_mf m M1 M2) : r_mf m M M2 := ⟨fun j a b c d => (h2.1 j a b c d).trans (h.1 j a b c d), fun b hb => (h2.2 b hb).trans (h.2 b hb)⟩
theorem r_mf.up {m k v : Nat} {M : lq_M} (h : k = 4 ∨ k = 5 ∨ k = 6 ∨ k = 12) : r_mf m M (lq_up M m k v) := ⟨fun j a b c d => lq_up_c _ _ (by omega), fun b hb => lq_up_n _ _ _ hb⟩
section R11
variable {G : lq_G} {z : Nat} {S : lq_S} {M : lq_M} {N : lq_N} {m : Nat} {fh fo : Nat → Option Nat}
theorem k_X9_byteAt {L : Nat} (h9 : sh9 S m fh fo) (hL8 : L ≤ 800) {t : Nat → Nat} (ht : ∀ j, j < L → t j < 256) (hM : ∀ j, j < L → M (m + 1) j = t j) (hL : M m 3 = L) {j : Nat} (hj : j < 2 ^ 31) : LM G YX9_byteAt 0 0 0 [.ref m, .int (nI j)] z S M N (lq_pu z S M N (.int (q_by t L j))) lq_no := by
  refine LM.of (by decide) rfl [some (.ref m), some (.int (nI j))] rfl (Nat.le_of_ble_eq_true rfl) ?_
  refine qw_iload_n 1 dX9_byteAt_0 rfl rfl ?_
  refine qw_aload_n 0 dX9_byteAt_1 rfl rfl ?_
  refine qw_geti fX9_51 dX9_byteAt_2 h9.1 rfl ?_
  rw [hL]
  refine qw_icmp_geN 17 dX9_byteAt_5 (by decide) (by omega) (by omega) (fun c5 => ?_) (fun c5 => ?_)
  · refine qw_iconst (-1) dX9_byteAt_17 (by decide) ?_
    exact qw_ireturn rfl rfl dX9_byteAt_18 ⟨by rw [q_by, if_neg (by omega)], rfl, rfl, rfl, rfl⟩
  · refine qw_aload_n 0 dX9_byteAt_8 rfl rfl ?_
    refine qw_getr fX9_9 dX9_byteAt_9 h9.1 rfl ?_
    refine qw_iload_n 1 dX9_byteAt_12 rfl rfl ?_
    refine qw_iald dX9_byteAt_13 h9.bu (by omega) (by omega) ?_
    rw [hM j (by omega)]
    refine qw_goto 18 dX9_byteAt_14 (by decide) ?_
    exact qw_ireturn rfl rfl dX9_byteAt_18 ⟨by rw [q_by, if_pos c5], rfl, rfl, rfl, rfl⟩
theorem l_X9_next {L : Nat} (h9 : sh9 S m fh fo) (hL8 : L ≤ 800) {t : Nat → Nat} (ht : ∀ j, j < L → t j < 256) {M0 : lq_M} (hM0 : ∀ j, j < L → M0 (m + 1) j = t j) (hL0 : M0 m 3 = L) {p0 : Nat} : ∀ (n9 p : Nat), p ≤ L → L - p < n9 → t_sk t L p0 = t_sk t L p → LW G YX9_next 1 0 0 (lq_mi z S N (fun x M1 => x = q_by t L (t_sk t L p0) ∧ M1 = lq_up M0 m 4 (t_sk t L p0))) lq_no z S (lq_up M0 m 4 p) N 0 [some (.ref m)] [] := by
  intro n9
  induction n9 with
  | zero => intro _ _ _ _; omega
  | succ n9 ih =>
    intro p hp hn9 hs
    have hM : ∀ j, j < L → lq_up M0 m 4 p (m + 1) j = t j := fun j hj => by rw [lq_up_n _ _ _ (by omega)]; exact hM0 j hj
    have hL : lq_up M0 m 4 p m 3 = L := by rw [lq_up_c _ _ (by decide)]; exact hL0
    have he := q_by_eq (t := t) (L := L) (j := p) (c := 32) (ht p) (by decide)
    refine qw_aload_n 0 dX9_next_0 rfl rfl ?_
    refine qw_aload_n 0 dX9_next_1 rfl rfl ?_
    refine qw_geti fX9_54 dX9_next_2 h9.1 rfl ?_
    rw [lq_up_s]
    refine qw_cvp [_] (k_X9_byteAt h9 hL8 ht hM hL (by omega)) mX9_57 dX9_next_5 h9.1 rfl rfl rfl (Nat.le_of_ble_eq_true rfl) (by omega) (by decide) rfl ?_
    refine qw_bipush (nI 32) dX9_next_8 (by decide) ?_
    refine qw_icmp_ne 26 dX9_next_10 (by decide) (fun c10 => ?_) (fun c10 => ?_)
    · have hsp : t_sk t L p = p := t_run_n (fun h => decide_eq_false (fun q => c10 (he.mpr ⟨h, q⟩)))
      refine qw_aload_n 0 dX9_next_26 rfl rfl ?_
      refine qw_aload_n 0 dX9_next_27 rfl rfl ?_
      refine qw_geti fX9_54 dX9_next_28 h9.1 rfl ?_
      rw [lq_up_s]
      refine qw_cvp [_] (k_X9_byteAt h9 hL8 ht hM hL (by omega)) mX9_57 dX9_next_31 h9.1 rfl rfl rfl (Nat.le_of_ble_eq_true rfl) (by omega) (by decide) rfl ?_
      exact qw_ireturn rfl rfl dX9_next_34 ⟨rfl, rfl, rfl, _, rfl, by rw [hs, hsp], by rw [hs, hsp]⟩
    · refine qw_aload_n 0 dX9_next_13 rfl rfl ?_
      refine qw_dup dX9_next_14 rfl ?_
      refine qw_geti fX9_54 dX9_next_15 h9.1 rfl ?_
      rw [lq_up_s]
      refine qw_iconst (nI 1) dX9_next_18 (by decide) ?_
      refine qw_addN dX9_next_19 ?_
      refine qw_puti fX9_54 dX9_next_20 h9.1 rfl ?_
      refine qw_goto 0 dX9_next_23 (by decide) ?_
      obtain ⟨c11, c12⟩ := he.mp c10
      have hst : t_sk t L p = t_sk t L (p + 1) := t_run_y c11 (decide_eq_true c12)
      rw [lq_up_up]
      exact ih (p + 1) (by omega) (by omega) (by rw [hs, hst])
theorem k_X9_next {L : Nat} (h9 : sh9 S m fh fo) (hL8 : L ≤ 800) {t : Nat → Nat} (ht : ∀ j, j < L → t j < 256) (hM : ∀ j, j < L → M (m + 1) j = t j) (hL : M m 3 = L) {p : Nat} (hp : M m 4 = p) (hpL : p ≤ L) : LM G YX9_next 1 0 0 [.ref m] z S M N (lq_mi z S N (fun x M1 => x = q_by t L (t_sk t L p) ∧ M1 = lq_up M m 4 (t_sk t L p))) lq_no := by
  refine LM.of (by decide) rfl [some (.ref m)] rfl (Nat.le_of_ble_eq_true rfl) ?_
  have h := l_X9_next (G := G) (z := z) (N := N) h9 hL8 ht hM hL (p0 := p) (L + 1) p hpL (by omega) rfl
  rw [lq_up_id hp] at h
  exact h
theorem k_X9_isGood_g (h9 : sh9 S m fh fo) (h0 : M m 5 = 0) : LM G YX9_isGood 0 0 0 [.ref m] z S M N (lq_pu z S M N (.int (nI 1))) lq_no := by
  refine LM.of (by decide) rfl [some (.ref m)] rfl (Nat.le_of_ble_eq_true rfl) ?_
  refine qw_aload_n 0 dX9_isGood_0 rfl rfl ?_
  refine qw_geti fX9_60 dX9_isGood_1 h9.1 rfl ?_
  rw [h0]
  refine qw_if_neN 11 dX9_isGood_4 (by decide) (by omega) (fun c4 => absurd rfl c4) (fun c4 => ?_)
  refine qw_iconst (nI 1) dX9_isGood_7 (by decide) ?_
  refine qw_goto 12 dX9_isGood_8 (by decide) ?_
  exact qw_ireturn rfl (by decide) dX9_isGood_12 ⟨rfl, rfl, rfl, rfl, rfl⟩
theorem k_X9_isGood_b (h9 : sh9 S m fh fo) (h0 : ¬ nI (M m 5) = 0) : LM G YX9_isGood 0 0 0 [.ref m] z S M N (lq_pu z S M N (.int (nI 0))) lq_no := by
  refine LM.of (by decide) rfl [some (.ref m)] rfl (Nat.le_of_ble_eq_true rfl) ?_
  refine qw_aload_n 0 dX9_isGood_0 rfl rfl ?_
  refine qw_geti fX9_60 dX9_isGood_1 h9.1 rfl ?_
  refine qw_if_ne 11 dX9_isGood_4 (by decide) (fun c4 => ?_) (fun c4 => absurd c4 h0)
  refine qw_iconst (nI 0) dX9_isGood_11 (by decide) ?_
  exact qw_ireturn rfl (by decide) dX9_isGood_12 ⟨rfl, rfl, rfl, rfl, rfl⟩
theorem k_X9_report_g (h9 : sh9 S m fh fo) (h0 : M m 5 = 0) {c o : Nat} : LM G YX9_report 0 0 0 [.ref m, .int (nI c), .int (nI o)] z S M N (lq_mv z S N (fun M1 => M1 = lq_up (lq_up M m 5 c) m 6 o)) lq_no := by
  refine LM.of (by decide) rfl [some (.ref m), some (.int (nI c)), some (.int (nI o))] rfl (Nat.le_of_ble_eq_true rfl) ?_
  refine qw_aload_n 0 dX9_report_0 rfl rfl ?_
  refine qw_geti fX9_60 dX9_report_1 h9.1 rfl ?_
  rw [h0]
  refine qw_if_eqN 8 dX9_report_4 (by decide) (by omega) (fun c4 => ?_) (fun c4 => absurd rfl c4)
  refine qw_aload_n 0 dX9_report_8 rfl rfl ?_
  refine qw_iload_n 1 dX9_report_9 rfl rfl ?_
  refine qw_puti fX9_60 dX9_report_10 h9.1 rfl ?_
  refine qw_aload_n 0 dX9_report_13 rfl rfl ?_
  refine qw_iload_n 2 dX9_report_14 rfl rfl ?_
  refine qw_puti fX9_63 dX9_report_15 h9.1 rfl ?_
  exact qw_return rfl dX9_report_18 ⟨rfl, rfl, rfl, rfl, rfl⟩
theorem k_X9_report_b (h9 : sh9 S m fh fo) (h0 : ¬ nI (M m 5) = 0) {c o : Int32} : LM G YX9_report 0 0 0 [.ref m, .int c, .int o] z S M N (lq_mv z S N (fun M1 => M1 = M)) lq_no := by
  refine LM.of (by decide) rfl [some (.ref m), some (.int c), some (.int o)] rfl (Nat.le_of_ble_eq_true rfl) ?_
  refine qw_aload_n 0 dX9_report_0 rfl rfl ?_
  refine qw_geti fX9_60 dX9_report_1 h9.1 rfl ?_
  refine qw_if_eq 8 dX9_report_4 (by decide) (fun c4 => absurd c4 h0) (fun c4 => ?_)
  exact qw_return rfl dX9_report_7 ⟨rfl, rfl, rfl, rfl, rfl⟩
theorem k_X9_isDigit {t : Nat → Nat} {L j : Nat} (ht : j < L → t j < 256) : LM G YX9_isDigit 1 0 0 [.int (q_by t L j)] z S M N (lq_pu z S M N (.int (nI (q_b (j < L ∧ 48 ≤ t j ∧ t j ≤ 57))))) lq_no := by
  refine LM.of (by decide) rfl [some (.int (q_by t L j))] rfl (Nat.le_of_ble_eq_true rfl) ?_
  refine qw_iload_n 0 dX9_isDigit_0 rfl rfl ?_
  refine qw_bipush (nI 48) dX9_isDigit_1 (by decide) ?_
  refine qw_bipush (nI 57) dX9_isDigit_3 (by decide) ?_
  refine qw_csp [_, _, _] (k_X9_in) mX9_66 dX9_isDigit_5 rfl rfl (Nat.le_of_ble_eq_true rfl) (by omega) (by decide) rfl ?_
  rw [q_by_in ht (by decide) (by decide)]
  exact qw_ireturn rfl (q_z01 q_b_le) dX9_isDigit_8 ⟨rfl, rfl, rfl, rfl, rfl⟩
theorem q_ch_l : ∀ i : Fin 29, 9 ≤ i.1 → ∀ j : Fin 40, j.1 < lq_len.getD i.1 0 → t_isL (q_ch i.1 j.1) = true := by decide +kernel
theorem l_X9_takeWord {L : Nat} (h9 : sh9 S m fh fo) (hL8 : L ≤ 800) {t : Nat → Nat} (ht : ∀ j, j < L → t j < 256) {v : Value} (hX : lq_sx G v) {i : Nat} (hi : i < 29) (hi9 : 9 ≤ i) {M0 : lq_M} {e : Nat} (hM : ∀ j, j < L → M (m + 1) j = t j) (hL : M m 3 = L) (he : t_sk t L e ≤ L) (hMe : M = lq_up M0 m 4 (t_sk t L e)) : ∀ (n9 k : Nat), k ≤ lq_len.getD i 0 → lq_len.getD i 0 - k < n9 → (∀ j, j < k → t_sk t L e + j < L ∧ t (t_sk t L e + j) = q_ch i j) → LW G YX9_takeWord 4 0 0 (lq_mi z S N (fun y M1 => y = nI (t_wb t L e i) ∧ M1 = lq_up M0 m 4 (if t_wb t L e i = 1 then t_en t L (t_sk t L e) else t_sk t L e))) lq_no z S M N 16 [some (.ref m), some (.ref (lq_k G i)), some (.int (nI k))] [] := by
  intro n9
  induction n9 with
  | zero => intro _ _ _ _; omega
  | succ n9 ih =>
    intro k hk hn9 hd
    have h40 := lq_len_lt i hi
    have hp0 := lq_len_pos i hi
    have hp4 : M m 4 = t_sk t L e := by rw [hMe, lq_up_s]
    have hge := t_run_ge t_isL t L (t_sk t L e)
    have hge : t_sk t L e ≤ t_wd t L (t_sk t L e) := hge
    refine qw_iload_n 2 dX9_takeWord_16 rfl rfl ?_
    refine qw_aload_n 1 dX9_takeWord_17 rfl rfl ?_
    refine qw_cvS hi [] (k_J0_length hX hi) mX9_78 dX9_takeWord_18 rfl rfl rfl (Nat.le_of_ble_eq_true rfl) (by omega) (by decide) rfl ?_
    refine qw_icmp_geN 48 dX9_takeWord_21 (by decide) (by omega) (by omega) (fun c21 => ?_) (fun c21 => ?_)
    · refine qw_iload_n 2 dX9_takeWord_48 rfl rfl ?_
      refine qw_aload_n 1 dX9_takeWord_49 rfl rfl ?_
      refine qw_cvS hi [] (k_J0_length hX hi) mX9_78 dX9_takeWord_50 rfl rfl rfl (Nat.le_of_ble_eq_true rfl) (by omega) (by decide) rfl ?_
      refine qw_icmp_ltN 76 dX9_takeWord_53 (by decide) (by omega) (by omega) (fun c53 => absurd c53 (by omega)) (fun c53 => ?_)
      have hdl : ∀ j, j < k → t_sk t L e + j < L ∧ t_isL (t (t_sk t L e + j)) = true := fun j hj => ⟨(hd j hj).1, by rw [(hd j hj).2]; exact q_ch_l ⟨i, hi⟩ hi9 ⟨j, by omega⟩ (show j < lq_len.getD i 0 by omega)⟩
      refine qw_aload_n 0 dX9_takeWord_56 rfl rfl ?_
      refine qw_aload_n 0 dX9_takeWord_57 rfl rfl ?_
      refine qw_geti fX9_54 dX9_takeWord_58 h9.1 rfl ?_
      rw [hp4]
      refine qw_iload_n 2 dX9_takeWord_61 rfl rfl ?_
      refine qw_addN dX9_takeWord_62 ?_
      refine qw_cvp [_] (k_X9_byteAt h9 hL8 ht hM hL (by omega)) mX9_57 dX9_takeWord_63 h9.1 rfl rfl rfl (Nat.le_of_ble_eq_true rfl) (by omega) (by decide) rfl ?_
      refine qw_bipush (nI 97) dX9_takeWord_66 (by decide) ?_
      refine qw_bipush (nI 122) dX9_takeWord_68 (by decide) ?_
      refine qw_csp [_, _, _] (k_X9_in) mX9_66 dX9_takeWord_70 rfl rfl (Nat.le_of_ble_eq_true rfl) (by omega) (by decide) rfl ?_
      rw [q_by_in (ht _) (by decide) (by decide)]
      refine qw_if_eqN 78 dX9_takeWord_73 (by decide) (Nat.lt_of_le_of_lt q_b_le (by decide)) (fun c73 => ?_) (fun c73 => ?_)
      · have hkk : k = lq_len.getD i 0 := by omega
        have h8 := q_b_eq c73
        have h7 : t_wd t L (t_sk t L e) = t_wd t L (t_sk t L e + k) := t_run_all hdl
        have h6 : t_wd t L (t_sk t L e + k) = t_sk t L e + k := t_run_n (fun h => decide_eq_false (fun q => h8 ⟨h, q⟩))
        have hb : t_wb t L e i = 1 := t_wb_y ⟨by omega, fun j hj => (hd j (by omega)).2⟩
        have hen : t_en t L (t_sk t L e) = t_sk t L e + k := by rw [t_en, if_pos (by omega)]; omega
        refine qw_aload_n 0 dX9_takeWord_78 rfl rfl ?_
        refine qw_dup dX9_takeWord_79 rfl ?_
        refine qw_geti fX9_54 dX9_takeWord_80 h9.1 rfl ?_
        rw [hp4]
        refine qw_iload_n 2 dX9_takeWord_83 rfl rfl ?_
        refine qw_addN dX9_takeWord_84 ?_
        refine qw_puti fX9_54 dX9_takeWord_85 h9.1 rfl ?_
        refine qw_iconst (nI 1) dX9_takeWord_88 (by decide) ?_
        exact qw_ireturn rfl (by decide) dX9_takeWord_89 ⟨rfl, rfl, rfl, _, rfl, by rw [hb], by rw [hb, if_pos rfl, hen, hMe, lq_up_up]⟩
      · have hb : t_wb t L e i = 0 := t_wb_n (fun q => by have h8 := q_b_ne c73; have h7 : t_wd t L (t_sk t L e) = t_wd t L (t_sk t L e + k) := t_run_all hdl; have h6 : t_wd t L (t_sk t L e + k) = t_wd t L (t_sk t L e + k + 1) := t_run_y h8.1 (decide_eq_true h8.2); have h5 := t_run_ge t_isL t L (t_sk t L e + k + 1); have h5 : t_sk t L e + k + 1 ≤ t_wd t L (t_sk t L e + k + 1) := h5; have q1 := q.1; omega)
        refine qw_iconst (nI 0) dX9_takeWord_76 (by decide) ?_
        exact qw_ireturn rfl (by decide) dX9_takeWord_77 ⟨rfl, rfl, rfl, _, rfl, by rw [hb], by rw [hb, if_neg (by decide)]; exact hMe⟩
    · have hcc := (q_ch_all ⟨i, hi⟩ ⟨k, by omega⟩ c21).2.2
      have hcc : q_ch i k < 128 := hcc
      refine qw_aload_n 0 dX9_takeWord_24 rfl rfl ?_
      refine qw_aload_n 0 dX9_takeWord_25 rfl rfl ?_
      refine qw_geti fX9_54 dX9_takeWord_26 h9.1 rfl ?_
      rw [hp4]
      refine qw_iload_n 2 dX9_takeWord_29 rfl rfl ?_
      refine qw_addN dX9_takeWord_30 ?_
      refine qw_cvp [_] (k_X9_byteAt h9 hL8 ht hM hL (by omega)) mX9_57 dX9_takeWord_31 h9.1 rfl rfl rfl (Nat.le_of_ble_eq_true rfl) (by omega) (by decide) rfl ?_
      refine qw_aload_n 1 dX9_takeWord_34 rfl rfl ?_
      refine qw_iload_n 2 dX9_takeWord_35 rfl rfl ?_
      refine qw_cvS hi [_] (k_J0_charAt hX hi c21) mX9_83 dX9_takeWord_36 rfl rfl rfl (Nat.le_of_ble_eq_true rfl) (by omega) (by decide) rfl ?_
      refine qw_icmp_ne 48 dX9_takeWord_39 (by decide) (fun c39 => ?_) (fun c39 => ?_)
      · refine qw_iload_n 2 dX9_takeWord_48 rfl rfl ?_
        refine qw_aload_n 1 dX9_takeWord_49 rfl rfl ?_
        refine qw_cvS hi [] (k_J0_length hX hi) mX9_78 dX9_takeWord_50 rfl rfl rfl (Nat.le_of_ble_eq_true rfl) (by omega) (by decide) rfl ?_
        refine qw_icmp_ltN 76 dX9_takeWord_53 (by decide) (by omega) (by omega) (fun c53 => ?_) (fun c53 => absurd c53 (by omega))
        have hb : t_wb t L e i = 0 := t_wb_n (fun q => c39 ((q_by_eq (ht _) (by omega)).mpr ⟨(t_run_in (P := t_isL) (t := t) (p := t_sk t L e) (by omega) (by have q1 := q.1; unfold t_wd at q1; omega)).1, q.2 k (by omega)⟩))
        refine qw_iconst (nI 0) dX9_takeWord_76 (by decide) ?_
        exact qw_ireturn rfl (by decide) dX9_takeWord_77 ⟨rfl, rfl, rfl, _, rfl, by rw [hb], by rw [hb, if_neg (by decide)]; exact hMe⟩
      · refine qw_iincN 1 dX9_takeWord_42 rfl (by decide) rfl (by decide) ?_
        refine qw_goto 16 dX9_takeWord_45 (by decide) ?_
        have h39 := (q_by_eq (ht _) (show q_ch i k < 256 by omega)).mp c39
        exact ih (k + 1) (by omega) (by omega) (fun j hj => by
          by_cases e9 : j = k
          · rw [e9]; exact h39
          · exact hd j (by omega))
theorem k_X9_takeWord {L : Nat} (h9 : sh9 S m fh fo) (hL8 : L ≤ 800) {t : Nat → Nat} (ht : ∀ j, j < L → t j < 256) {v : Value} (hX : lq_sx G v) {i : Nat} (hi : i < 29) (hi9 : 9 ≤ i)  (hM : ∀ j, j < L → M (m + 1) j = t j) (hL : M m 3 = L) {e p : Nat} (hp : M m 4 = p) (hpe : r_at t L p e) (h0 : M m 5 = 0) : LM G YX9_takeWord 4 0 0 [.ref m, .ref (lq_k G i)] z S M N (lq_mi z S N (fun y M1 => y = nI (t_wb t L e i) ∧ M1 = lq_up M m 4 (if t_wb t L e i = 1 then t_en t L (t_sk t L e) else t_sk t L e))) lq_no := by
  obtain ⟨hpL, hps⟩ := hpe
  refine LM.of (by decide) rfl [some (.ref m), some (.ref (lq_k G i)), none] rfl (Nat.le_of_ble_eq_true rfl) ?_
  refine qw_aload_n 0 dX9_takeWord_0 rfl rfl ?_
  refine qw_cvp [] (k_X9_isGood_g h9 h0) mX9_70 dX9_takeWord_1 h9.1 rfl rfl rfl (Nat.le_of_ble_eq_true rfl) (by omega) (by decide) rfl ?_
  refine qw_if_neN 9 dX9_takeWord_4 (by decide) (by omega) (fun c4 => ?_) (fun c4 => absurd c4 (by decide))
  refine qw_aload_n 0 dX9_takeWord_9 rfl rfl ?_
  refine qw_cvi [] (k_X9_next h9 hL8 ht hM hL hp hpL) mX9_74 dX9_takeWord_10 h9.1 rfl rfl rfl (Nat.le_of_ble_eq_true rfl) (by omega) (by decide) rfl (fun x1 M1 h1 => ?_)
  obtain ⟨-, hz⟩ := h1
  rw [hz, hps]
  refine qw_pop dX9_takeWord_13 rfl ?_
  refine qw_iconst (nI 0) dX9_takeWord_14 (by decide) ?_
  refine qw_istore_n 2 dX9_takeWord_15 rfl rfl (by decide) ?_
  exact l_X9_takeWord h9 hL8 ht hX hi hi9 (M0 := M) (e := e) (fun j hj => by rw [lq_up_n _ _ _ (by omega)]; exact hM j hj) (by rw [lq_up_c _ _ (by decide)]; exact hL) (by rw [← hps]; exact t_sk_le hpL) rfl (lq_len.getD i 0 + 1) 0 (Nat.zero_le _) (by omega) (fun j hj => absurd hj (Nat.not_lt_zero j))
theorem t_en_sg {t : Nat → Nat} {L e c : Nat} (h : t_sg t L e c = 1) (hl : t_isL c = false) (hd : t_isD c = false) : t_sk t L e < L ∧ t (t_sk t L e) = c ∧ t_en t L (t_sk t L e) = t_sk t L e + 1 := by
  have hc : t_sk t L e < L ∧ t (t_sk t L e) = c := Decidable.byContradiction fun q => by rw [t_sg, if_neg q] at h; exact absurd h (by decide)
  have h1 : t_wd t L (t_sk t L e) = t_sk t L e := t_run_n (fun _ => by rw [hc.2]; exact hl)
  have h2 : t_dg t L (t_sk t L e) = t_sk t L e := t_run_n (fun _ => by rw [hc.2]; exact hd)
  refine ⟨hc.1, hc.2, ?_⟩
  rw [t_en, if_neg (by omega), if_neg (by omega)]
  omega
theorem t_sg_by {t : Nat → Nat} {L e c : Nat} (ht : ∀ j, j < L → t j < 256) (hc : c < 256) : q_by t L (t_sk t L e) = nI c ↔ t_sg t L e c = 1 := by
  rw [q_by_eq (ht _) hc, t_sg]
  constructor
  · intro h; rw [if_pos h]
  · intro h; exact Decidable.byContradiction fun q => by rw [if_neg q] at h; exact absurd h (by decide)
theorem k_X9_expect_g {L : Nat} (h9 : sh9 S m fh fo) (hL8 : L ≤ 800) {t : Nat → Nat} (ht : ∀ j, j < L → t j < 256) (hM : ∀ j, j < L → M (m + 1) j = t j) (hL : M m 3 = L) {e p : Nat} (hp : M m 4 = p) (hpe : r_at t L p e) (h0 : M m 5 = 0) {c : Nat} (hc : c < 256) (hl : t_isL c = false) (hdg : t_isD c = false) : LM G YX9_expect 2 0 0 [.ref m, .int (nI c)] z S M N (lq_mv z S N (fun M1 => (t_sg t L e c = 1 ∧ M1 = lq_up M m 4 (t_en t L (t_sk t L e))) ∨ (t_sg t L e c ≠ 1 ∧ M1 m 5 = 4294967294 ∧ M1 m 6 = t_sk t L e ∧ r_mf m M M1))) lq_no := by
  obtain ⟨hpL, hps⟩ := hpe
  refine LM.of (by decide) rfl [some (.ref m), some (.int (nI c))] rfl (Nat.le_of_ble_eq_true rfl) ?_
  refine qw_aload_n 0 dX9_expect_0 rfl rfl ?_
  refine qw_cvp [] (k_X9_isGood_g h9 h0) mX9_70 dX9_expect_1 h9.1 rfl rfl rfl (Nat.le_of_ble_eq_true rfl) (by omega) (by decide) rfl ?_
  refine qw_if_neN 8 dX9_expect_4 (by decide) (by omega) (fun c4 => ?_) (fun c4 => absurd c4 (by decide))
  refine qw_aload_n 0 dX9_expect_8 rfl rfl ?_
  refine qw_cvi [] (k_X9_next h9 hL8 ht hM hL hp hpL) mX9_74 dX9_expect_9 h9.1 rfl rfl rfl (Nat.le_of_ble_eq_true rfl) (by omega) (by decide) rfl (fun x1 M1 h1 => ?_)
  obtain ⟨rfl, hz⟩ := h1
  rw [hz, hps]
  refine qw_iload_n 1 dX9_expect_12 rfl rfl ?_
  refine qw_icmp_ne 29 dX9_expect_13 (by decide) (fun c13 => ?_) (fun c13 => ?_)
  · have hs1 : t_sg t L e c ≠ 1 := fun q => c13 ((t_sg_by ht hc).mpr q)
    refine qw_aload_n 0 dX9_expect_29 rfl rfl ?_
    refine qw_bipush (-2) dX9_expect_30 (by decide) ?_
    rw [show (-2 : Int32) = nI 4294967294 by decide]
    refine qw_aload_n 0 dX9_expect_32 rfl rfl ?_
    refine qw_geti fX9_54 dX9_expect_33 h9.1 rfl ?_
    rw [lq_up_s]
    refine qw_cvv [_, _] (k_X9_report_g h9 (by rw [lq_up_c _ _ (by decide)]; exact h0)) mX9_87 dX9_expect_36 h9.1 rfl rfl rfl (Nat.le_of_ble_eq_true rfl) (by omega) (by decide) rfl (fun M2 h2 => ?_)
    subst h2
    exact qw_return rfl dX9_expect_39 ⟨rfl, rfl, rfl, rfl, Or.inr ⟨hs1, by rw [lq_up_c _ _ (by decide), lq_up_s], by rw [lq_up_s], (r_mf.up (by decide)).tr ((r_mf.up (by decide)).tr (r_mf.up (by decide)))⟩⟩
  · have hs1 := (t_sg_by ht hc).mp c13
    refine qw_aload_n 0 dX9_expect_16 rfl rfl ?_
    refine qw_dup dX9_expect_17 rfl ?_
    refine qw_geti fX9_54 dX9_expect_18 h9.1 rfl ?_
    rw [lq_up_s]
    refine qw_iconst (nI 1) dX9_expect_21 (by decide) ?_
    refine qw_addN dX9_expect_22 ?_
    refine qw_puti fX9_54 dX9_expect_23 h9.1 rfl ?_
    refine qw_goto 39 dX9_expect_26 (by decide) ?_
    exact qw_return rfl dX9_expect_39 ⟨rfl, rfl, rfl, rfl, Or.inl ⟨hs1, by rw [lq_up_up, (t_en_sg hs1 hl hdg).2.2]⟩⟩
theorem k_X9_expect_b (h9 : sh9 S m fh fo) (h0 : ¬ nI (M m 5) = 0) {c : Int32} : LM G YX9_expect 2 0 0 [.ref m, .int c] z S M N (lq_mv z S N (fun M1 => M1 = M)) lq_no := by
  refine LM.of (by decide) rfl [some (.ref m), some (.int c)] rfl (Nat.le_of_ble_eq_true rfl) ?_
  refine qw_aload_n 0 dX9_expect_0 rfl rfl ?_
  refine qw_cvp [] (k_X9_isGood_b h9 h0) mX9_70 dX9_expect_1 h9.1 rfl rfl rfl (Nat.le_of_ble_eq_true rfl) (by omega) (by decide) rfl ?_
  refine qw_if_neN 8 dX9_expect_4 (by decide) (by omega) (fun c4 => absurd rfl c4) (fun c4 => ?_)
  exact qw_return rfl dX9_expect_7 ⟨rfl, rfl, rfl, rfl, rfl⟩
theorem k_X9_min {a b : Nat} (ha : a < 2 ^ 31) (hb : b < 2 ^ 31) : LM G YX9_min 0 0 0 [.int (nI a), .int (nI b)] z S M N (lq_pu z S M N (.int (nI (min a b)))) lq_no := by
  refine LM.of (by decide) rfl [some (.int (nI a)), some (.int (nI b))] rfl (Nat.le_of_ble_eq_true rfl) ?_
  refine qw_iload_n 0 dX9_min_0 rfl rfl ?_
  refine qw_iload_n 1 dX9_min_1 rfl rfl ?_
  refine qw_icmp_geN 9 dX9_min_2 (by decide) (by omega) (by omega) (fun c2 => ?_) (fun c2 => ?_)
  · refine qw_iload_n 1 dX9_min_9 rfl rfl ?_
    exact qw_ireturn rfl rfl dX9_min_10 ⟨by rw [show min a b = b by omega], rfl, rfl, rfl, rfl⟩
  · refine qw_iload_n 0 dX9_min_5 rfl rfl ?_
    refine qw_goto 10 dX9_min_6 (by decide) ?_
    exact qw_ireturn rfl rfl dX9_min_10 ⟨by rw [show min a b = a by omega], rfl, rfl, rfl, rfl⟩
end R11
