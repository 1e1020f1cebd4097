/-! THE REFERENCE: the price expression -/
def r_xf (m : Nat) (M M1 : lq_M) : Prop := (∀ j, j ≠ 4 → j ≠ 5 → j ≠ 6 → j ≠ 12 → j ≠ 13 → M1 m j = M m j) ∧ (∀ b, b ≠ m → b ≠ m + 3 → M1 b = M b) ∧ ∀ k, k ≠ 4 → k < 1363 → M1 (m + 3) k = M (m + 3) k
theorem r_xf.rf {m : Nat} {M : lq_M} : r_xf m M M := ⟨fun _ _ _ _ _ _ => rfl, fun _ _ _ => rfl, fun _ _ _ => rfl⟩
theorem r_xf.tr {m : Nat} {M M1 M2 : lq_M} (h : r_xf m M M1) (h2 : r_xf m M1 M2) : r_xf m M M2 := ⟨fun j a b c d e => (h2.1 j a b c d e).trans (h.1 j a b c d e), fun b b1 b2 => (h2.2.1 b b1 b2).trans (h.2.1 b b1 b2), fun k k1 k2 => (h2.2.2 k k1 k2).trans (h.2.2 k k1 k2)⟩
theorem r_xf.up {m k v : Nat} {M : lq_M} (h : k = 4 ∨ k = 5 ∨ k = 6 ∨ k = 12 ∨ k = 13) : r_xf m M (lq_up M m k v) := ⟨fun j a b c d e => lq_up_c _ _ (by omega), fun b b1 _ => lq_up_n _ _ _ b1, fun k _ _ => by rw [lq_up_n _ _ _ (by omega)]⟩
theorem r_mf.xf {m : Nat} {M M1 : lq_M} (h : r_mf m M M1) : r_xf m M M1 := ⟨fun j a b c d _ => h.1 j a b c d, fun b b1 _ => h.2 b b1, fun k _ _ => by rw [h.2 (m + 3) (by omega)]⟩
theorem r_em.xf {m v : Nat} {M : lq_M} : r_xf m M (r_em M m v) := by
  refine ⟨fun j _ _ _ _ _ => ?_, fun b b1 b2 => ?_, fun k k1 k2 => ?_⟩
  · unfold r_em; rw [lq_up_n _ _ _ (by omega), lq_up_n _ _ _ (by omega)]
  · unfold r_em; rw [lq_up_n _ _ _ b2, lq_up_n _ _ _ b2]
  · unfold r_em; rw [lq_up_c _ _ k1, lq_up_c _ _ (by omega)]
theorem r_em.n {m v b : Nat} {M : lq_M} (h : b ≠ m + 3) : r_em M m v b = M b := by unfold r_em; rw [lq_up_n _ _ _ h, lq_up_n _ _ _ h]
theorem r_em.c {m v : Nat} {M : lq_M} : r_em M m v (m + 3) 4 = M (m + 3) 4 + 1 := by unfold r_em; rw [lq_up_s]
theorem r_em.k {m v k : Nat} {M : lq_M} (h : k ≠ 4) : r_em M m v (m + 3) k = if k = 1363 + M (m + 3) 4 then v else M (m + 3) k := by unfold r_em; rw [lq_up_c _ _ h, lq_up_x]
def r_cd (D : Nat → Nat) (tk : Nat → Nat × Nat) (n : Nat) : Prop := D 4 = q_ce tk n ∧ ∀ j, j < n → D (1363 + q_ce tk j) = (tk j).1 ∧ ((tk j).1 ≤ 1 → D (1364 + q_ce tk j) = (tk j).2)
def r_pc (M : lq_M) (m : Nat) (t : Nat → Nat) (L d : Nat) (s : p_S) : Prop := M m 5 = 0 ∧ r_at t L (M m 4) s.1 ∧ M m 13 = d ∧ r_cd (M (m + 3)) s.2.2 s.2.1
def r_pt (m : Nat) (M M1 : lq_M) (t : Nat → Nat) (L d : Nat) (res : p_R) : Prop := r_xf m M M1 ∧ match res with
  | .inl x => M1 m 5 = x.1 ∧ M1 m 6 = x.2 ∧ ¬ nI x.1 = 0
  | .inr s => M1 m 6 = M m 6 ∧ r_pc M1 m t L d s
theorem q_ce_cong {a b : Nat → Nat × Nat} : ∀ n, (∀ j, j < n → a j = b j) → q_ce a n = q_ce b n
  | 0, _ => rfl
  | n + 1, h => by rw [q_ce, q_ce, h n (by omega), q_ce_cong n (fun j hj => h j (by omega))]
theorem p_em_ce {k v : Nat} {s : p_S} {j : Nat} (hj : j ≤ s.2.1) : q_ce (p_em k v s).2.2 j = q_ce s.2.2 j := q_ce_cong _ (fun i hi => by show (if i = s.2.1 then _ else _) = _; rw [if_neg (by omega)])
theorem p_em_at {k v : Nat} {s : p_S} {j : Nat} (hj : j < s.2.1) : (p_em k v s).2.2 j = s.2.2 j := by show (if j = s.2.1 then _ else _) = _; rw [if_neg (by omega)]
theorem p_em_l {k v : Nat} {s : p_S} : (p_em k v s).2.2 s.2.1 = (k, v) := by show (if s.2.1 = s.2.1 then _ else _) = _; rw [if_pos rfl]
/-- a value: two cells -/
theorem r_cd.em2 {M : lq_M} {m k v : Nat} {s : p_S} (h : r_cd (M (m + 3)) s.2.2 s.2.1) (hk : k ≤ 1) : r_cd (r_em (r_em M m k) m v (m + 3)) (p_em k v s).2.2 (p_em k v s).2.1 := by
  obtain ⟨h1, h2⟩ := h
  have hn : (p_em k v s).2.1 = s.2.1 + 1 := rfl
  rw [hn]
  have hlt := fun j (hj : j < s.2.1) => q_ce_lt s.2.2 hj
  refine ⟨?_, fun j hj => ?_⟩
  · rw [r_em.c, r_em.c, h1, q_ce, p_em_ce (Nat.le_refl _), p_em_l, if_pos hk]
  · by_cases e : j = s.2.1
    · subst e
      rw [p_em_ce (Nat.le_refl _), p_em_l, r_em.k (by omega), r_em.c, h1, if_neg (by omega), r_em.k (by omega), h1, if_pos rfl]
      exact ⟨rfl, fun _ => by rw [r_em.k (by omega), r_em.c, h1, if_pos (by omega)]⟩
    · have h3 := hlt j (by omega)
      have h4 : q_ce s.2.2 j + 1 ≤ q_ce s.2.2 s.2.1 := by split at h3 <;> omega
      rw [p_em_ce (by omega), p_em_at (by omega), r_em.k (by omega), r_em.c, h1, if_neg (by omega), r_em.k (by omega), h1, if_neg (by omega)]
      refine ⟨(h2 j (by omega)).1, fun q => ?_⟩
      rw [if_pos q] at h3
      rw [r_em.k (by omega), r_em.c, h1, if_neg (by omega), r_em.k (by omega), h1, if_neg (by omega)]
      exact (h2 j (by omega)).2 q
/-- an operator: one cell -/
theorem r_cd.em1 {M : lq_M} {m k : Nat} {s : p_S} (h : r_cd (M (m + 3)) s.2.2 s.2.1) (hk : 2 ≤ k) : r_cd (r_em M m k (m + 3)) (p_em k 0 s).2.2 (p_em k 0 s).2.1 := by
  obtain ⟨h1, h2⟩ := h
  have hn : (p_em k 0 s).2.1 = s.2.1 + 1 := rfl
  rw [hn]
  have hlt := fun j (hj : j < s.2.1) => q_ce_lt s.2.2 hj
  refine ⟨?_, fun j hj => ?_⟩
  · rw [r_em.c, h1, q_ce, p_em_ce (Nat.le_refl _), p_em_l, if_neg (by omega)]
  · by_cases e : j = s.2.1
    · subst e
      rw [p_em_ce (Nat.le_refl _), p_em_l, r_em.k (by omega), h1, if_pos rfl]
      exact ⟨rfl, fun q => absurd q (by show ¬ k ≤ 1; omega)⟩
    · have h3 := hlt j (by omega)
      have h4 : q_ce s.2.2 j + 1 ≤ q_ce s.2.2 s.2.1 := by split at h3 <;> omega
      rw [p_em_ce (by omega), p_em_at (by omega), r_em.k (by omega), h1, if_neg (by omega)]
      refine ⟨(h2 j (by omega)).1, fun q => ?_⟩
      rw [if_pos q] at h3
      rw [r_em.k (by omega), h1, if_neg (by omega)]
      exact (h2 j (by omega)).2 q
theorem t_wb_c {t : Nat → Nat} {L e : Nat} : ∀ i j : Nat, lq_len.getD i 0 = lq_len.getD j 0 → lq_bys.getD i [] = lq_bys.getD j [] → t_wb t L e i = t_wb t L e j := by
  intro i j h1 h2
  have e2 : t_isw t L e i ↔ t_isw t L e j := by
    unfold t_isw
    have hq : ∀ k, q_ch i k = q_ch j k := fun k => by unfold q_ch q_sb; rw [h2]
    rw [h1]
    constructor
    · rintro ⟨a, b⟩; exact ⟨a, fun k hk => by rw [← hq k]; exact b k hk⟩
    · rintro ⟨a, b⟩; exact ⟨a, fun k hk => by rw [hq k]; exact b k hk⟩
  by_cases q : t_isw t L e i
  · rw [t_wb_y q, t_wb_y (e2.mp q)]
  · rw [t_wb_n q, t_wb_n (fun z => q (e2.mpr z))]
/-- the reference's word chain -/
theorem t_cw_r {t : Nat → Nat} {L e : Nat} : t_cw t L e = if t_wb t L e 19 ≠ 0 then 1 else if t_wb t L e 20 ≠ 0 then 2 else if t_wb t L e 21 ≠ 0 then 3 else if t_wb t L e 22 ≠ 0 then 4 else if t_wb t L e 23 ≠ 0 then 5 else 0 := by
  rw [t_cw, t_wb_c 14 19 rfl rfl, t_wb_c 15 20 rfl rfl, t_wb_c 16 21 rfl rfl, t_wb_c 17 22 rfl rfl, t_wb_c 18 23 rfl rfl]
theorem t_sk_self {t : Nat → Nat} {L e : Nat} (he : e ≤ L) : r_at t L (t_sk t L e) e := ⟨t_sk_le he, t_sk_sk he⟩
section R13
variable {G : lq_G} {z : Nat} {S : lq_S} {M : lq_M} {N : lq_N} {m : Nat} {fh fo : Nat → Option Nat}
theorem s_X9_factor {L : Nat} (h9 : sh9 S m fh fo) (hL8 : L ≤ 800) {t : Nat → Nat} (ht : ∀ j, j < L → t j < 256) {v : Value} (hX : lq_sx G v) {f d : Nat} (hd : d ≤ 4) {s : p_S} (he : s.1 ≤ L) (hn : s.2.1 ≤ s.1) (hM : ∀ j, j < L → M (m + 1) j = t j) (hL : M m 3 = L) (hP : r_pc M m t L d s) (hwk : q_wk s.2.2 s.2.1) (hbd : p_bd 0 d (q_hgt s.2.2 s.2.1)) (hf : 4 * (L - s.1) + 1 ≤ f + 1) (IH : d < 4 → ∀ (M' : lq_M) (N' : lq_N) (s' : p_S), s'.1 ≤ L → s'.2.1 ≤ s'.1 → (∀ j, j < L → M' (m + 1) j = t j) → M' m 3 = L → r_pc M' m t L (d + 1) s' → q_wk s'.2.2 s'.2.1 → p_bd 2 (d + 1) (q_hgt s'.2.2 s'.2.1) → 4 * (L - s'.1) + 3 ≤ f → LM G YX9_sum (8 + 3 * (4 - (d + 1))) 0 0 [.ref m] z S M' N' (lq_mv z S N' (fun M1 => r_pt m M' M1 t L (d + 1) (p_ex t L f 2 (d + 1) s'))) lq_no) : LM G YX9_factor (6 + 3 * (4 - d)) 0 0 [.ref m] z S M N (lq_mv z S N (fun M1 => r_pt m M M1 t L d (p_ex t L (f + 1) 0 d s))) lq_no := by
  have hP0 := hP
  obtain ⟨h0, ⟨hpL, hps⟩, h13, hcd⟩ := hP
  have hsL : t_sk t L s.1 ≤ L := t_sk_le he
  have hge := t_sk_ge t L s.1
  have hce := q_ce_2 hwk s.2.1 (Nat.le_refl _)
  have hhl := q_hgt_le hwk s.2.1 (Nat.le_refl _)
  have hc4 : M (m + 3) 4 ≤ 1210 := by rw [hcd.1]; omega
  unfold p_bd at hbd
  have hbd : q_hgt s.2.2 s.2.1 ≤ 2 * d + 2 := by omega
  refine LM.of (by decide) rfl [some (.ref m), none, none, none] rfl (Nat.le_of_ble_eq_true rfl) ?_
  refine qw_aload_n 0 dX9_factor_0 rfl rfl ?_
  refine qw_cvp [] (k_X9_isGood_g h9 h0) mX9_70 dX9_factor_1 h9.1 rfl rfl rfl (Nat.le_of_ble_eq_true rfl) (by omega) (by decide) rfl ?_
  refine qw_if_neN 8 dX9_factor_4 (by decide) (by omega) (fun c4 => ?_) (fun c4 => absurd c4 (by decide))
  refine qw_aload_n 0 dX9_factor_8 rfl rfl ?_
  refine qw_cvi [] (k_X9_next h9 hL8 ht hM hL rfl hpL) mX9_74 dX9_factor_9 h9.1 rfl rfl rfl (Nat.le_of_ble_eq_true rfl) (by omega) (by decide) rfl (fun x1 M1 h1 => ?_)
  obtain ⟨rfl, hz⟩ := h1
  rw [hz, hps]
  have hMN : ∀ j, j < L → lq_up M m 4 (t_sk t L s.1) (m + 1) j = t j := fun j hj => by rw [lq_up_n _ _ _ (by omega)]; exact hM j hj
  have hLN : lq_up M m 4 (t_sk t L s.1) m 3 = L := by rw [lq_up_c _ _ (by decide)]; exact hL
  have h0N : lq_up M m 4 (t_sk t L s.1) m 5 = 0 := by rw [lq_up_c _ _ (by decide)]; exact h0
  have hbn := t_sg_by (e := s.1) (c := 40) ht (by decide)
  refine qw_istore_n 1 dX9_factor_12 rfl rfl (by decide) ?_
  refine qw_iload_n 1 dX9_factor_13 rfl rfl ?_
  refine qw_bipush (nI 40) dX9_factor_14 (by decide) ?_
  refine qw_icmp_ne 78 dX9_factor_16 (by decide) (fun c16 => ?_) (fun c16 => ?_)
  · refine qw_iload_n 1 dX9_factor_78 rfl rfl ?_
    refine qw_csp [_] (k_X9_isDigit (ht _)) mX9_91 dX9_factor_79 rfl rfl (Nat.le_of_ble_eq_true rfl) (by omega) (by decide) rfl ?_
    refine qw_if_eqN 89 dX9_factor_82 (by decide) (Nat.lt_of_le_of_lt q_b_le (by decide)) (fun c82 => ?_) (fun c82 => ?_)
    · refine qw_aload_n 0 dX9_factor_89 rfl rfl ?_
      refine qw_ldcS 19 dX9_factor_90 rfl ?_
      refine qw_cvi [_] (k_X9_takeWord (i := 19) (e := s.1) h9 hL8 ht hX (by decide) (by decide) hMN hLN (lq_up_s _ _ _ _) (t_sk_self he) h0N) mX9_115 dX9_factor_92 h9.1 rfl rfl rfl (Nat.le_of_ble_eq_true rfl) (by omega) (by decide) rfl (fun y19 W19 hw19 => ?_)
      obtain ⟨rfl, hw19⟩ := hw19
      have hb19 := t_wb_01 t L s.1 19
      refine qw_if_eqN 102 dX9_factor_95 (by decide) (by omega) (fun c95 => ?_) (fun c95 => ?_)
      · rw [hw19, if_neg (by omega), lq_up_up]
        refine qw_aload_n 0 dX9_factor_102 rfl rfl ?_
        refine qw_ldcS 20 dX9_factor_103 rfl ?_
        refine qw_cvi [_] (k_X9_takeWord (i := 20) (e := s.1) h9 hL8 ht hX (by decide) (by decide) hMN hLN (lq_up_s _ _ _ _) (t_sk_self he) h0N) mX9_115 dX9_factor_105 h9.1 rfl rfl rfl (Nat.le_of_ble_eq_true rfl) (by omega) (by decide) rfl (fun y20 W20 hw20 => ?_)
        obtain ⟨rfl, hw20⟩ := hw20
        have hb20 := t_wb_01 t L s.1 20
        refine qw_if_eqN 115 dX9_factor_108 (by decide) (by omega) (fun c108 => ?_) (fun c108 => ?_)
        · rw [hw20, if_neg (by omega), lq_up_up]
          refine qw_aload_n 0 dX9_factor_115 rfl rfl ?_
          refine qw_ldcS 21 dX9_factor_116 rfl ?_
          refine qw_cvi [_] (k_X9_takeWord (i := 21) (e := s.1) h9 hL8 ht hX (by decide) (by decide) hMN hLN (lq_up_s _ _ _ _) (t_sk_self he) h0N) mX9_115 dX9_factor_118 h9.1 rfl rfl rfl (Nat.le_of_ble_eq_true rfl) (by omega) (by decide) rfl (fun y21 W21 hw21 => ?_)
          obtain ⟨rfl, hw21⟩ := hw21
          have hb21 := t_wb_01 t L s.1 21
          refine qw_if_eqN 128 dX9_factor_121 (by decide) (by omega) (fun c121 => ?_) (fun c121 => ?_)
          · rw [hw21, if_neg (by omega), lq_up_up]
            refine qw_aload_n 0 dX9_factor_128 rfl rfl ?_
            refine qw_ldcS 22 dX9_factor_129 rfl ?_
            refine qw_cvi [_] (k_X9_takeWord (i := 22) (e := s.1) h9 hL8 ht hX (by decide) (by decide) hMN hLN (lq_up_s _ _ _ _) (t_sk_self he) h0N) mX9_115 dX9_factor_131 h9.1 rfl rfl rfl (Nat.le_of_ble_eq_true rfl) (by omega) (by decide) rfl (fun y22 W22 hw22 => ?_)
            obtain ⟨rfl, hw22⟩ := hw22
            have hb22 := t_wb_01 t L s.1 22
            refine qw_if_eqN 141 dX9_factor_134 (by decide) (by omega) (fun c134 => ?_) (fun c134 => ?_)
            · rw [hw22, if_neg (by omega), lq_up_up]
              refine qw_aload_n 0 dX9_factor_141 rfl rfl ?_
              refine qw_ldcS 23 dX9_factor_142 rfl ?_
              refine qw_cvi [_] (k_X9_takeWord (i := 23) (e := s.1) h9 hL8 ht hX (by decide) (by decide) hMN hLN (lq_up_s _ _ _ _) (t_sk_self he) h0N) mX9_115 dX9_factor_144 h9.1 rfl rfl rfl (Nat.le_of_ble_eq_true rfl) (by omega) (by decide) rfl (fun y23 W23 hw23 => ?_)
              obtain ⟨rfl, hw23⟩ := hw23
              have hb23 := t_wb_01 t L s.1 23
              refine qw_if_eqN 154 dX9_factor_147 (by decide) (by omega) (fun c147 => ?_) (fun c147 => ?_)
              · rw [hw23, if_neg (by omega), lq_up_up]
                refine qw_iconst (-1) dX9_factor_154 (by decide) ?_
                have hk2 : t_kd t L (t_sk t L s.1) ≠ 2 := fun q => q_b_eq c82 (t_kd_2.mp q)
                have hcw : t_cw t L s.1 = 0 := by rw [t_cw_r, if_neg (fun q => q c95), if_neg (fun q => q c108), if_neg (fun q => q c121), if_neg (fun q => q c134), if_neg (fun q => q c147)]
                refine qw_istore_n 2 dX9_factor_155 rfl rfl (by decide) ?_
                refine qw_iload_n 2 dX9_factor_156 rfl rfl ?_
                refine qw_if_ge 171 dX9_factor_157 (by decide) (fun c157 => absurd c157 (by decide)) (fun c157 => ?_)
                refine qw_aload_n 0 dX9_factor_160 rfl rfl ?_
                refine qw_iconst (nI 0) dX9_factor_161 (by decide) ?_
                refine qw_sipush (nI 9999) dX9_factor_162 (by decide) ?_
                refine qw_cvi [_, _] (k_X9_number_g (e := s.1) h9 hL8 ht hMN hLN (lq_up_s _ _ _ _) (t_sk_self he) h0N (by decide) (by decide)) mX9_127 dX9_factor_165 h9.1 rfl rfl rfl (Nat.le_of_ble_eq_true rfl) (by omega) (by decide) rfl (fun y5 M5 hn5 => ?_)
                cases hr : p_nu t L 0 9999 s.1 with
                | inl x0 =>
                  rw [hr] at hn5
                  obtain ⟨q1, q2, q3, q4⟩ := hn5
                  have hbad : ¬ nI (M5 m 5) = 0 := by rw [q1]; exact q4
                  have hpx : p_ex t L (f + 1) 0 d s = .inl x0 := by
                    rw [p_nu, if_pos (by rw [t_nm, if_pos hk2])] at hr
                    have hx : (4294967294, t_sk t L s.1) = x0 := by simpa using hr
                    rw [p_ex, if_pos rfl, if_neg (fun q => c16 (hbn.mpr q)), if_neg hk2, if_pos hcw, ← hx]; rfl
                  refine qw_goto 172 dX9_factor_168 (by decide) ?_
                  refine qw_istore_n 3 dX9_factor_172 rfl rfl (by decide) ?_
                  refine qw_aload_n 0 dX9_factor_173 rfl rfl ?_
                  refine qw_iload_n 2 dX9_factor_174 rfl rfl ?_
                  refine qw_if_ge 182 dX9_factor_175 (by decide) (fun c175 => absurd c175 (by decide)) (fun c175 => ?_)
                  refine qw_iconst (nI 0) dX9_factor_178 (by decide) ?_
                  refine qw_goto 183 dX9_factor_179 (by decide) ?_
                  refine qw_cvv [_] (k_X9_emit_b h9 hbad) mX9_130 dX9_factor_183 h9.1 rfl rfl rfl (Nat.le_of_ble_eq_true rfl) (by omega) (by decide) rfl (fun M7 h7 => ?_)
                  rw [h7]
                  refine qw_aload_n 0 dX9_factor_186 rfl rfl ?_
                  refine qw_iload_n 3 dX9_factor_187 rfl rfl ?_
                  refine qw_cvv [_] (k_X9_emit_b h9 hbad) mX9_130 dX9_factor_188 h9.1 rfl rfl rfl (Nat.le_of_ble_eq_true rfl) (by omega) (by decide) rfl (fun M8 h8 => ?_)
                  rw [h8]
                  exact qw_return rfl dX9_factor_191 ⟨rfl, rfl, rfl, rfl, by rw [hpx]; exact ⟨(r_xf.up (by decide)).tr q3.xf, q1, q2, q4⟩⟩
                | inr x0 => exact absurd (p_nu_inr he hr).1 hk2
              · rw [hw23, if_pos (by omega), lq_up_up]
                refine qw_iconst (nI 4) dX9_factor_150 (by decide) ?_
                refine qw_goto 155 dX9_factor_151 (by decide) ?_
                have hcw : t_cw t L s.1 = 5 := by rw [t_cw_r, if_neg (fun q => q c95), if_neg (fun q => q c108), if_neg (fun q => q c121), if_neg (fun q => q c134), if_pos c147]
                have hpx : p_ex t L (f + 1) 0 d s = .inr (p_em 1 4 (p_adv t L s)) := by rw [p_ex, if_pos rfl, if_neg (fun q => c16 (hbn.mpr q)), if_neg (fun q => q_b_eq c82 (t_kd_2.mp q)), hcw, if_neg (by decide)]
                have h0E : lq_up M m 4 (t_en t L (t_sk t L s.1)) m 5 = 0 := by rw [lq_up_c _ _ (by decide)]; exact h0
                have hdE : lq_up M m 4 (t_en t L (t_sk t L s.1)) (m + 3) 4 = M (m + 3) 4 := by rw [lq_up_n _ _ _ (by omega)]
                refine qw_istore_n 2 dX9_factor_155 rfl rfl (by decide) ?_
                refine qw_iload_n 2 dX9_factor_156 rfl rfl ?_
                refine qw_if_geN 171 dX9_factor_157 (by decide) (by omega) ?_
                refine qw_iload_n 2 dX9_factor_171 rfl rfl ?_
                refine qw_istore_n 3 dX9_factor_172 rfl rfl (by decide) ?_
                refine qw_aload_n 0 dX9_factor_173 rfl rfl ?_
                refine qw_iload_n 2 dX9_factor_174 rfl rfl ?_
                refine qw_if_geN 182 dX9_factor_175 (by decide) (by omega) ?_
                refine qw_iconst (nI 1) dX9_factor_182 (by decide) ?_
                refine qw_cvv [_] (k_X9_emit_g h9 h0E (by rw [hdE]; omega)) mX9_130 dX9_factor_183 h9.1 rfl rfl rfl (Nat.le_of_ble_eq_true rfl) (by omega) (by decide) rfl (fun M7 h7 => ?_)
                rw [h7]
                refine qw_aload_n 0 dX9_factor_186 rfl rfl ?_
                refine qw_iload_n 3 dX9_factor_187 rfl rfl ?_
                refine qw_cvv [_] (k_X9_emit_g h9 (by rw [r_em.n (by omega)]; exact h0E) (by rw [r_em.c, hdE]; omega)) mX9_130 dX9_factor_188 h9.1 rfl rfl rfl (Nat.le_of_ble_eq_true rfl) (by omega) (by decide) rfl (fun M8 h8 => ?_)
                rw [h8]
                exact qw_return rfl dX9_factor_191 ⟨rfl, rfl, rfl, rfl, by rw [hpx]; exact ⟨((r_xf.up (by decide)).tr r_em.xf).tr r_em.xf, by rw [r_em.n (by omega), r_em.n (by omega), lq_up_c _ _ (by decide)], by rw [r_em.n (by omega), r_em.n (by omega)]; exact h0E, by rw [r_em.n (by omega), r_em.n (by omega), lq_up_s]; exact ⟨t_en_le hsL, rfl⟩, by rw [r_em.n (by omega), r_em.n (by omega), lq_up_c _ _ (by decide)]; exact h13, r_cd.em2 (s := p_adv t L s) (by rw [lq_up_n _ _ _ (by omega)]; exact hcd) (by decide)⟩⟩
            · rw [hw22, if_pos (by omega), lq_up_up]
              refine qw_iconst (nI 3) dX9_factor_137 (by decide) ?_
              refine qw_goto 155 dX9_factor_138 (by decide) ?_
              have hcw : t_cw t L s.1 = 4 := by rw [t_cw_r, if_neg (fun q => q c95), if_neg (fun q => q c108), if_neg (fun q => q c121), if_pos c134]
              have hpx : p_ex t L (f + 1) 0 d s = .inr (p_em 1 3 (p_adv t L s)) := by rw [p_ex, if_pos rfl, if_neg (fun q => c16 (hbn.mpr q)), if_neg (fun q => q_b_eq c82 (t_kd_2.mp q)), hcw, if_neg (by decide)]
              have h0E : lq_up M m 4 (t_en t L (t_sk t L s.1)) m 5 = 0 := by rw [lq_up_c _ _ (by decide)]; exact h0
              have hdE : lq_up M m 4 (t_en t L (t_sk t L s.1)) (m + 3) 4 = M (m + 3) 4 := by rw [lq_up_n _ _ _ (by omega)]
              refine qw_istore_n 2 dX9_factor_155 rfl rfl (by decide) ?_
              refine qw_iload_n 2 dX9_factor_156 rfl rfl ?_
              refine qw_if_geN 171 dX9_factor_157 (by decide) (by omega) ?_
              refine qw_iload_n 2 dX9_factor_171 rfl rfl ?_
              refine qw_istore_n 3 dX9_factor_172 rfl rfl (by decide) ?_
              refine qw_aload_n 0 dX9_factor_173 rfl rfl ?_
              refine qw_iload_n 2 dX9_factor_174 rfl rfl ?_
              refine qw_if_geN 182 dX9_factor_175 (by decide) (by omega) ?_
              refine qw_iconst (nI 1) dX9_factor_182 (by decide) ?_
              refine qw_cvv [_] (k_X9_emit_g h9 h0E (by rw [hdE]; omega)) mX9_130 dX9_factor_183 h9.1 rfl rfl rfl (Nat.le_of_ble_eq_true rfl) (by omega) (by decide) rfl (fun M7 h7 => ?_)
              rw [h7]
              refine qw_aload_n 0 dX9_factor_186 rfl rfl ?_
              refine qw_iload_n 3 dX9_factor_187 rfl rfl ?_
              refine qw_cvv [_] (k_X9_emit_g h9 (by rw [r_em.n (by omega)]; exact h0E) (by rw [r_em.c, hdE]; omega)) mX9_130 dX9_factor_188 h9.1 rfl rfl rfl (Nat.le_of_ble_eq_true rfl) (by omega) (by decide) rfl (fun M8 h8 => ?_)
              rw [h8]
              exact qw_return rfl dX9_factor_191 ⟨rfl, rfl, rfl, rfl, by rw [hpx]; exact ⟨((r_xf.up (by decide)).tr r_em.xf).tr r_em.xf, by rw [r_em.n (by omega), r_em.n (by omega), lq_up_c _ _ (by decide)], by rw [r_em.n (by omega), r_em.n (by omega)]; exact h0E, by rw [r_em.n (by omega), r_em.n (by omega), lq_up_s]; exact ⟨t_en_le hsL, rfl⟩, by rw [r_em.n (by omega), r_em.n (by omega), lq_up_c _ _ (by decide)]; exact h13, r_cd.em2 (s := p_adv t L s) (by rw [lq_up_n _ _ _ (by omega)]; exact hcd) (by decide)⟩⟩
          · rw [hw21, if_pos (by omega), lq_up_up]
            refine qw_iconst (nI 2) dX9_factor_124 (by decide) ?_
            refine qw_goto 155 dX9_factor_125 (by decide) ?_
            have hcw : t_cw t L s.1 = 3 := by rw [t_cw_r, if_neg (fun q => q c95), if_neg (fun q => q c108), if_pos c121]
            have hpx : p_ex t L (f + 1) 0 d s = .inr (p_em 1 2 (p_adv t L s)) := by rw [p_ex, if_pos rfl, if_neg (fun q => c16 (hbn.mpr q)), if_neg (fun q => q_b_eq c82 (t_kd_2.mp q)), hcw, if_neg (by decide)]
            have h0E : lq_up M m 4 (t_en t L (t_sk t L s.1)) m 5 = 0 := by rw [lq_up_c _ _ (by decide)]; exact h0
            have hdE : lq_up M m 4 (t_en t L (t_sk t L s.1)) (m + 3) 4 = M (m + 3) 4 := by rw [lq_up_n _ _ _ (by omega)]
            refine qw_istore_n 2 dX9_factor_155 rfl rfl (by decide) ?_
            refine qw_iload_n 2 dX9_factor_156 rfl rfl ?_
            refine qw_if_geN 171 dX9_factor_157 (by decide) (by omega) ?_
            refine qw_iload_n 2 dX9_factor_171 rfl rfl ?_
            refine qw_istore_n 3 dX9_factor_172 rfl rfl (by decide) ?_
            refine qw_aload_n 0 dX9_factor_173 rfl rfl ?_
            refine qw_iload_n 2 dX9_factor_174 rfl rfl ?_
            refine qw_if_geN 182 dX9_factor_175 (by decide) (by omega) ?_
            refine qw_iconst (nI 1) dX9_factor_182 (by decide) ?_
            refine qw_cvv [_] (k_X9_emit_g h9 h0E (by rw [hdE]; omega)) mX9_130 dX9_factor_183 h9.1 rfl rfl rfl (Nat.le_of_ble_eq_true rfl) (by omega) (by decide) rfl (fun M7 h7 => ?_)
            rw [h7]
            refine qw_aload_n 0 dX9_factor_186 rfl rfl ?_
            refine qw_iload_n 3 dX9_factor_187 rfl rfl ?_
            refine qw_cvv [_] (k_X9_emit_g h9 (by rw [r_em.n (by omega)]; exact h0E) (by rw [r_em.c, hdE]; omega)) mX9_130 dX9_factor_188 h9.1 rfl rfl rfl (Nat.le_of_ble_eq_true rfl) (by omega) (by decide) rfl (fun M8 h8 => ?_)
            rw [h8]
            exact qw_return rfl dX9_factor_191 ⟨rfl, rfl, rfl, rfl, by rw [hpx]; exact ⟨((r_xf.up (by decide)).tr r_em.xf).tr r_em.xf, by rw [r_em.n (by omega), r_em.n (by omega), lq_up_c _ _ (by decide)], by rw [r_em.n (by omega), r_em.n (by omega)]; exact h0E, by rw [r_em.n (by omega), r_em.n (by omega), lq_up_s]; exact ⟨t_en_le hsL, rfl⟩, by rw [r_em.n (by omega), r_em.n (by omega), lq_up_c _ _ (by decide)]; exact h13, r_cd.em2 (s := p_adv t L s) (by rw [lq_up_n _ _ _ (by omega)]; exact hcd) (by decide)⟩⟩
        · rw [hw20, if_pos (by omega), lq_up_up]
          refine qw_iconst (nI 1) dX9_factor_111 (by decide) ?_
          refine qw_goto 155 dX9_factor_112 (by decide) ?_
          have hcw : t_cw t L s.1 = 2 := by rw [t_cw_r, if_neg (fun q => q c95), if_pos c108]
          have hpx : p_ex t L (f + 1) 0 d s = .inr (p_em 1 1 (p_adv t L s)) := by rw [p_ex, if_pos rfl, if_neg (fun q => c16 (hbn.mpr q)), if_neg (fun q => q_b_eq c82 (t_kd_2.mp q)), hcw, if_neg (by decide)]
          have h0E : lq_up M m 4 (t_en t L (t_sk t L s.1)) m 5 = 0 := by rw [lq_up_c _ _ (by decide)]; exact h0
          have hdE : lq_up M m 4 (t_en t L (t_sk t L s.1)) (m + 3) 4 = M (m + 3) 4 := by rw [lq_up_n _ _ _ (by omega)]
          refine qw_istore_n 2 dX9_factor_155 rfl rfl (by decide) ?_
          refine qw_iload_n 2 dX9_factor_156 rfl rfl ?_
          refine qw_if_geN 171 dX9_factor_157 (by decide) (by omega) ?_
          refine qw_iload_n 2 dX9_factor_171 rfl rfl ?_
          refine qw_istore_n 3 dX9_factor_172 rfl rfl (by decide) ?_
          refine qw_aload_n 0 dX9_factor_173 rfl rfl ?_
          refine qw_iload_n 2 dX9_factor_174 rfl rfl ?_
          refine qw_if_geN 182 dX9_factor_175 (by decide) (by omega) ?_
          refine qw_iconst (nI 1) dX9_factor_182 (by decide) ?_
          refine qw_cvv [_] (k_X9_emit_g h9 h0E (by rw [hdE]; omega)) mX9_130 dX9_factor_183 h9.1 rfl rfl rfl (Nat.le_of_ble_eq_true rfl) (by omega) (by decide) rfl (fun M7 h7 => ?_)
          rw [h7]
          refine qw_aload_n 0 dX9_factor_186 rfl rfl ?_
          refine qw_iload_n 3 dX9_factor_187 rfl rfl ?_
          refine qw_cvv [_] (k_X9_emit_g h9 (by rw [r_em.n (by omega)]; exact h0E) (by rw [r_em.c, hdE]; omega)) mX9_130 dX9_factor_188 h9.1 rfl rfl rfl (Nat.le_of_ble_eq_true rfl) (by omega) (by decide) rfl (fun M8 h8 => ?_)
          rw [h8]
          exact qw_return rfl dX9_factor_191 ⟨rfl, rfl, rfl, rfl, by rw [hpx]; exact ⟨((r_xf.up (by decide)).tr r_em.xf).tr r_em.xf, by rw [r_em.n (by omega), r_em.n (by omega), lq_up_c _ _ (by decide)], by rw [r_em.n (by omega), r_em.n (by omega)]; exact h0E, by rw [r_em.n (by omega), r_em.n (by omega), lq_up_s]; exact ⟨t_en_le hsL, rfl⟩, by rw [r_em.n (by omega), r_em.n (by omega), lq_up_c _ _ (by decide)]; exact h13, r_cd.em2 (s := p_adv t L s) (by rw [lq_up_n _ _ _ (by omega)]; exact hcd) (by decide)⟩⟩
      · rw [hw19, if_pos (by omega), lq_up_up]
        refine qw_iconst (nI 0) dX9_factor_98 (by decide) ?_
        refine qw_goto 155 dX9_factor_99 (by decide) ?_
        have hcw : t_cw t L s.1 = 1 := by rw [t_cw_r, if_pos c95]
        have hpx : p_ex t L (f + 1) 0 d s = .inr (p_em 1 0 (p_adv t L s)) := by rw [p_ex, if_pos rfl, if_neg (fun q => c16 (hbn.mpr q)), if_neg (fun q => q_b_eq c82 (t_kd_2.mp q)), hcw, if_neg (by decide)]
        have h0E : lq_up M m 4 (t_en t L (t_sk t L s.1)) m 5 = 0 := by rw [lq_up_c _ _ (by decide)]; exact h0
        have hdE : lq_up M m 4 (t_en t L (t_sk t L s.1)) (m + 3) 4 = M (m + 3) 4 := by rw [lq_up_n _ _ _ (by omega)]
        refine qw_istore_n 2 dX9_factor_155 rfl rfl (by decide) ?_
        refine qw_iload_n 2 dX9_factor_156 rfl rfl ?_
        refine qw_if_geN 171 dX9_factor_157 (by decide) (by omega) ?_
        refine qw_iload_n 2 dX9_factor_171 rfl rfl ?_
        refine qw_istore_n 3 dX9_factor_172 rfl rfl (by decide) ?_
        refine qw_aload_n 0 dX9_factor_173 rfl rfl ?_
        refine qw_iload_n 2 dX9_factor_174 rfl rfl ?_
        refine qw_if_geN 182 dX9_factor_175 (by decide) (by omega) ?_
        refine qw_iconst (nI 1) dX9_factor_182 (by decide) ?_
        refine qw_cvv [_] (k_X9_emit_g h9 h0E (by rw [hdE]; omega)) mX9_130 dX9_factor_183 h9.1 rfl rfl rfl (Nat.le_of_ble_eq_true rfl) (by omega) (by decide) rfl (fun M7 h7 => ?_)
        rw [h7]
        refine qw_aload_n 0 dX9_factor_186 rfl rfl ?_
        refine qw_iload_n 3 dX9_factor_187 rfl rfl ?_
        refine qw_cvv [_] (k_X9_emit_g h9 (by rw [r_em.n (by omega)]; exact h0E) (by rw [r_em.c, hdE]; omega)) mX9_130 dX9_factor_188 h9.1 rfl rfl rfl (Nat.le_of_ble_eq_true rfl) (by omega) (by decide) rfl (fun M8 h8 => ?_)
        rw [h8]
        exact qw_return rfl dX9_factor_191 ⟨rfl, rfl, rfl, rfl, by rw [hpx]; exact ⟨((r_xf.up (by decide)).tr r_em.xf).tr r_em.xf, by rw [r_em.n (by omega), r_em.n (by omega), lq_up_c _ _ (by decide)], by rw [r_em.n (by omega), r_em.n (by omega)]; exact h0E, by rw [r_em.n (by omega), r_em.n (by omega), lq_up_s]; exact ⟨t_en_le hsL, rfl⟩, by rw [r_em.n (by omega), r_em.n (by omega), lq_up_c _ _ (by decide)]; exact h13, r_cd.em2 (s := p_adv t L s) (by rw [lq_up_n _ _ _ (by omega)]; exact hcd) (by decide)⟩⟩
    · refine qw_iconst (-1) dX9_factor_85 (by decide) ?_
      refine qw_goto 155 dX9_factor_86 (by decide) ?_
      have hk2 : t_kd t L (t_sk t L s.1) = 2 := t_kd_2.mpr (q_b_ne c82)
      refine qw_istore_n 2 dX9_factor_155 rfl rfl (by decide) ?_
      refine qw_iload_n 2 dX9_factor_156 rfl rfl ?_
      refine qw_if_ge 171 dX9_factor_157 (by decide) (fun c157 => absurd c157 (by decide)) (fun c157 => ?_)
      refine qw_aload_n 0 dX9_factor_160 rfl rfl ?_
      refine qw_iconst (nI 0) dX9_factor_161 (by decide) ?_
      refine qw_sipush (nI 9999) dX9_factor_162 (by decide) ?_
      refine qw_cvi [_, _] (k_X9_number_g (e := s.1) h9 hL8 ht hMN hLN (lq_up_s _ _ _ _) (t_sk_self he) h0N (by decide) (by decide)) mX9_127 dX9_factor_165 h9.1 rfl rfl rfl (Nat.le_of_ble_eq_true rfl) (by omega) (by decide) rfl (fun y5 M5 hn5 => ?_)
      cases hr : p_nu t L 0 9999 s.1 with
      | inl x0 =>
        rw [hr] at hn5
        obtain ⟨q1, q2, q3, q4⟩ := hn5
        have hbad : ¬ nI (M5 m 5) = 0 := by rw [q1]; exact q4
        have hpx : p_ex t L (f + 1) 0 d s = .inl x0 := by
          have hnm : 9999 < t_vc t L (t_sk t L s.1) 0 := Nat.lt_of_not_le (fun q => by rw [p_nu_ok hk2 (Nat.zero_le _) q] at hr; exact absurd hr (by simp))
          rw [p_nu, if_neg (by rw [t_nm, if_neg (fun z => z hk2), if_pos (Or.inr hnm)]; decide), if_pos (by rw [t_nm, if_neg (fun z => z hk2), if_pos (Or.inr hnm)])] at hr
          have hx : (4294967293, t_sk t L s.1) = x0 := by simpa using hr
          rw [p_ex, if_pos rfl, if_neg (fun q => c16 (hbn.mpr q)), if_pos hk2, if_pos hnm, ← hx]; rfl
        refine qw_goto 172 dX9_factor_168 (by decide) ?_
        refine qw_istore_n 3 dX9_factor_172 rfl rfl (by decide) ?_
        refine qw_aload_n 0 dX9_factor_173 rfl rfl ?_
        refine qw_iload_n 2 dX9_factor_174 rfl rfl ?_
        refine qw_if_ge 182 dX9_factor_175 (by decide) (fun c175 => absurd c175 (by decide)) (fun c175 => ?_)
        refine qw_iconst (nI 0) dX9_factor_178 (by decide) ?_
        refine qw_goto 183 dX9_factor_179 (by decide) ?_
        refine qw_cvv [_] (k_X9_emit_b h9 hbad) mX9_130 dX9_factor_183 h9.1 rfl rfl rfl (Nat.le_of_ble_eq_true rfl) (by omega) (by decide) rfl (fun M7 h7 => ?_)
        rw [h7]
        refine qw_aload_n 0 dX9_factor_186 rfl rfl ?_
        refine qw_iload_n 3 dX9_factor_187 rfl rfl ?_
        refine qw_cvv [_] (k_X9_emit_b h9 hbad) mX9_130 dX9_factor_188 h9.1 rfl rfl rfl (Nat.le_of_ble_eq_true rfl) (by omega) (by decide) rfl (fun M8 h8 => ?_)
        rw [h8]
        exact qw_return rfl dX9_factor_191 ⟨rfl, rfl, rfl, rfl, by rw [hpx]; exact ⟨(r_xf.up (by decide)).tr q3.xf, q1, q2, q4⟩⟩
      | inr x0 =>
        rw [hr] at hn5
        have hi := p_nu_inr he hr
        obtain ⟨rfl, q2, q3, q4, q6, q5⟩ := hn5
        have hdE : M5 (m + 3) 4 = M (m + 3) 4 := by rw [q5.2 (m + 3) (by omega), lq_up_n _ _ _ (by omega)]
        have hpx : p_ex t L (f + 1) 0 d s = .inr (p_em 0 x0.1 (p_adv t L s)) := by rw [p_ex, if_pos rfl, if_neg (fun q => c16 (hbn.mpr q)), if_pos hk2, show t_vc t L (t_sk t L s.1) 0 = x0.1 by rw [hi.2.1], if_neg (by have := hi.2.2.2.1; omega)]
        refine qw_goto 172 dX9_factor_168 (by decide) ?_
        refine qw_istore_n 3 dX9_factor_172 rfl rfl (by decide) ?_
        refine qw_aload_n 0 dX9_factor_173 rfl rfl ?_
        refine qw_iload_n 2 dX9_factor_174 rfl rfl ?_
        refine qw_if_ge 182 dX9_factor_175 (by decide) (fun c175 => absurd c175 (by decide)) (fun c175 => ?_)
        refine qw_iconst (nI 0) dX9_factor_178 (by decide) ?_
        refine qw_goto 183 dX9_factor_179 (by decide) ?_
        refine qw_cvv [_] (k_X9_emit_g h9 q2 (by rw [hdE]; omega)) mX9_130 dX9_factor_183 h9.1 rfl rfl rfl (Nat.le_of_ble_eq_true rfl) (by omega) (by decide) rfl (fun M7 h7 => ?_)
        rw [h7]
        refine qw_aload_n 0 dX9_factor_186 rfl rfl ?_
        refine qw_iload_n 3 dX9_factor_187 rfl rfl ?_
        refine qw_cvv [_] (k_X9_emit_g h9 (by rw [r_em.n (by omega)]; exact q2) (by rw [r_em.c, hdE]; omega)) mX9_130 dX9_factor_188 h9.1 rfl rfl rfl (Nat.le_of_ble_eq_true rfl) (by omega) (by decide) rfl (fun M8 h8 => ?_)
        rw [h8]
        exact qw_return rfl dX9_factor_191 ⟨rfl, rfl, rfl, rfl, by rw [hpx]; exact ⟨(((r_xf.up (by decide)).tr q5.xf).tr r_em.xf).tr r_em.xf, by rw [r_em.n (by omega), r_em.n (by omega), q6, lq_up_c _ _ (by decide)], by rw [r_em.n (by omega), r_em.n (by omega)]; exact q2, by rw [r_em.n (by omega), r_em.n (by omega), q3]; exact ⟨hi.2.2.2.2.2, by rw [hi.2.1]; rfl⟩, by rw [r_em.n (by omega), r_em.n (by omega), q5.1 13 (by decide) (by decide) (by decide) (by decide), lq_up_c _ _ (by decide)]; exact h13, r_cd.em2 (s := p_adv t L s) (by rw [q5.2 (m + 3) (by omega), lq_up_n _ _ _ (by omega)]; exact hcd) (by decide)⟩⟩
  · have hsg := hbn.mp c16
    have hsgx := t_en_sg hsg rfl rfl
    have hen := hsgx.2.2
    have hlt := hsgx.1
    refine qw_aload_n 0 dX9_factor_19 rfl rfl ?_
    refine qw_geti fX9_103 dX9_factor_20 h9.1 rfl ?_
    rw [lq_up_c _ _ (by decide), h13]
    refine qw_iconst (nI 4) dX9_factor_23 (by decide) ?_
    refine qw_icmp_neN 37 dX9_factor_24 (by decide) (by omega) (by omega) (fun c24 => ?_) (fun c24 => ?_)
    · refine qw_aload_n 0 dX9_factor_37 rfl rfl ?_
      refine qw_dup dX9_factor_38 rfl ?_
      refine qw_geti fX9_54 dX9_factor_39 h9.1 rfl ?_
      rw [lq_up_s]
      refine qw_iconst (nI 1) dX9_factor_42 (by decide) ?_
      refine qw_addN dX9_factor_43 ?_
      refine qw_puti fX9_54 dX9_factor_44 h9.1 rfl ?_
      refine qw_aload_n 0 dX9_factor_47 rfl rfl ?_
      refine qw_dup dX9_factor_48 rfl ?_
      refine qw_geti fX9_103 dX9_factor_49 h9.1 rfl ?_
      rw [lq_up_c _ _ (by decide), lq_up_c _ _ (by decide), h13]
      refine qw_iconst (nI 1) dX9_factor_52 (by decide) ?_
      refine qw_addN dX9_factor_53 ?_
      refine qw_puti fX9_103 dX9_factor_54 h9.1 rfl ?_
      have hMP : ∀ j, j < L → (lq_up (lq_up (lq_up M m 4 (t_sk t L s.1)) m 4 (t_sk t L s.1 + 1)) m 13 (d + 1)) (m + 1) j = t j := fun j hj => by rw [lq_up_n _ _ _ (by omega), lq_up_n _ _ _ (by omega)]; exact hMN j hj
      have hLP : (lq_up (lq_up (lq_up M m 4 (t_sk t L s.1)) m 4 (t_sk t L s.1 + 1)) m 13 (d + 1)) m 3 = L := by rw [lq_up_c _ _ (by decide), lq_up_c _ _ (by decide)]; exact hLN
      have hpP : r_pc (lq_up (lq_up (lq_up M m 4 (t_sk t L s.1)) m 4 (t_sk t L s.1 + 1)) m 13 (d + 1)) m t L (d + 1) (p_adv t L s) := ⟨by rw [lq_up_c _ _ (by decide), lq_up_c _ _ (by decide)]; exact h0N, by rw [lq_up_c _ _ (by decide), lq_up_s]; exact ⟨by omega, by show t_sk t L (t_sk t L s.1 + 1) = t_sk t L (t_en t L (t_sk t L s.1)); rw [hen]⟩, by rw [lq_up_s], by rw [lq_up_n _ _ _ (by omega), lq_up_n _ _ _ (by omega), lq_up_n _ _ _ (by omega)]; exact hcd⟩
      have hxf : r_xf m M (lq_up (lq_up (lq_up M m 4 (t_sk t L s.1)) m 4 (t_sk t L s.1 + 1)) m 13 (d + 1)) := ((r_xf.up (by decide)).tr (r_xf.up (by decide))).tr (r_xf.up (by decide))
      have hadL : (p_adv t L s).1 ≤ L := by show t_en t L (t_sk t L s.1) ≤ L; omega
      refine qw_aload_n 0 dX9_factor_57 rfl rfl ?_
      refine qw_cvv [] (IH (by omega) (lq_up (lq_up (lq_up M m 4 (t_sk t L s.1)) m 4 (t_sk t L s.1 + 1)) m 13 (d + 1)) N (p_adv t L s) hadL (by show s.2.1 ≤ t_en t L (t_sk t L s.1); omega) hMP hLP hpP hwk (Or.inr (Or.inr (Or.inl ⟨rfl, by show q_hgt s.2.2 s.2.1 ≤ _; omega⟩))) (by show 4 * (L - t_en t L (t_sk t L s.1)) + 3 ≤ f; omega)) mX9_106 dX9_factor_58 h9.1 rfl rfl rfl (Nat.le_of_ble_eq_true rfl) (by omega) (by decide) rfl (fun M5 h5 => ?_)
      cases hr : p_ex t L f 2 (d + 1) (p_adv t L s) with
      | inl x0 =>
        rw [hr] at h5
        have hbad : ¬ nI (M5 m 5) = 0 := by rw [h5.2.1]; exact h5.2.2.2
        have hpx : p_ex t L (f + 1) 0 d s = .inl x0 := by rw [p_ex, if_pos rfl, if_pos hsg, if_neg (by omega), hr]; rfl
        refine qw_aload_n 0 dX9_factor_61 rfl rfl ?_
        refine qw_bipush (nI 41) dX9_factor_62 (by decide) ?_
        refine qw_cvv [_] (k_X9_expect_b h9 hbad) mX9_109 dX9_factor_64 h9.1 rfl rfl rfl (Nat.le_of_ble_eq_true rfl) (by omega) (by decide) rfl (fun M6 h6 => ?_)
        rw [h6]
        refine qw_aload_n 0 dX9_factor_67 rfl rfl ?_
        refine qw_dup dX9_factor_68 rfl ?_
        refine qw_geti fX9_103 dX9_factor_69 h9.1 rfl ?_
        refine qw_iconst (nI 1) dX9_factor_72 (by decide) ?_
        refine qw_isub dX9_factor_73 ?_
        rw [← q_u_n (nI (M5 m 13) - nI 1)]
        refine qw_puti fX9_103 dX9_factor_74 h9.1 rfl ?_
        exact qw_return rfl dX9_factor_77 ⟨rfl, rfl, rfl, rfl, by rw [hpx]; exact ⟨(hxf.tr h5.1).tr (r_xf.up (by decide)), by rw [lq_up_c _ _ (by decide)]; exact h5.2.1, by rw [lq_up_c _ _ (by decide)]; exact h5.2.2.1, h5.2.2.2⟩⟩
      | inr s1 =>
        rw [hr] at h5
        obtain ⟨h5x, h56, h5p⟩ := h5
        have hs1L : s1.1 ≤ L := (p_ex_le _ _ _ _ _ hadL hr).2.1
        have hM5 : ∀ j, j < L → M5 (m + 1) j = t j := fun j hj => by rw [h5x.2.1 (m + 1) (by omega) (by omega)]; exact hMP j hj
        have hL5 : M5 m 3 = L := by rw [h5x.1 3 (by decide) (by decide) (by decide) (by decide) (by decide)]; exact hLP
        have hpx : p_ex t L (f + 1) 0 d s = if t_sg t L s1.1 41 = 1 then .inr (p_adv t L s1) else .inl (4294967294, t_sk t L s1.1) := by rw [p_ex, if_pos rfl, if_pos hsg, if_neg (by omega), hr]; rfl
        refine qw_aload_n 0 dX9_factor_61 rfl rfl ?_
        refine qw_bipush (nI 41) dX9_factor_62 (by decide) ?_
        refine qw_cvv [_] (k_X9_expect_g (e := s1.1) (c := 41) h9 hL8 ht hM5 hL5 rfl h5p.2.1 h5p.1 (by decide) (by decide) (by decide)) mX9_109 dX9_factor_64 h9.1 rfl rfl rfl (Nat.le_of_ble_eq_true rfl) (by omega) (by decide) rfl (fun M6 h6 => ?_)
        rcases h6 with ⟨hs1, hz6⟩ | ⟨hs1, h65, h66, h6r⟩
        · rw [hz6]
          refine qw_aload_n 0 dX9_factor_67 rfl rfl ?_
          refine qw_dup dX9_factor_68 rfl ?_
          refine qw_geti fX9_103 dX9_factor_69 h9.1 rfl ?_
          rw [lq_up_c _ _ (by decide), h5p.2.2.1]
          refine qw_iconst (nI 1) dX9_factor_72 (by decide) ?_
          refine qw_subN (by omega) dX9_factor_73 ?_
          refine qw_puti fX9_103 dX9_factor_74 h9.1 rfl ?_
          exact qw_return rfl dX9_factor_77 ⟨rfl, rfl, rfl, rfl, by rw [hpx, if_pos hs1]; exact ⟨((hxf.tr h5x).tr (r_xf.up (by decide))).tr (r_xf.up (by decide)), by rw [lq_up_c _ _ (by decide), lq_up_c _ _ (by decide), h56, lq_up_c _ _ (by decide), lq_up_c _ _ (by decide), lq_up_c _ _ (by decide)], by rw [lq_up_c _ _ (by decide), lq_up_c _ _ (by decide)]; exact h5p.1, by rw [lq_up_c _ _ (by decide), lq_up_s]; exact ⟨t_en_le (t_sk_le hs1L), rfl⟩, by rw [lq_up_s]; rfl, by rw [lq_up_n _ _ _ (by omega), lq_up_n _ _ _ (by omega)]; exact h5p.2.2.2⟩⟩
        · skip
          refine qw_aload_n 0 dX9_factor_67 rfl rfl ?_
          refine qw_dup dX9_factor_68 rfl ?_
          refine qw_geti fX9_103 dX9_factor_69 h9.1 rfl ?_
          rw [h6r.1 13 (by decide) (by decide) (by decide) (by decide), h5p.2.2.1]
          refine qw_iconst (nI 1) dX9_factor_72 (by decide) ?_
          refine qw_subN (by omega) dX9_factor_73 ?_
          refine qw_puti fX9_103 dX9_factor_74 h9.1 rfl ?_
          exact qw_return rfl dX9_factor_77 ⟨rfl, rfl, rfl, rfl, by rw [hpx, if_neg hs1]; exact ⟨((hxf.tr h5x).tr h6r.xf).tr (r_xf.up (by decide)), by rw [lq_up_c _ _ (by decide)]; exact h65, by rw [lq_up_c _ _ (by decide)]; exact h66, (show ¬ nI 4294967294 = 0 from by decide)⟩⟩
    · refine qw_aload_n 0 dX9_factor_27 rfl rfl ?_
      refine qw_bipush (-5) dX9_factor_28 (by decide) ?_
      rw [show (-5 : Int32) = nI 4294967291 by decide]
      refine qw_aload_n 0 dX9_factor_30 rfl rfl ?_
      refine qw_geti fX9_54 dX9_factor_31 h9.1 rfl ?_
      rw [lq_up_s]
      refine qw_cvv [_, _] (k_X9_report_g h9 h0N) mX9_87 dX9_factor_34 h9.1 rfl rfl rfl (Nat.le_of_ble_eq_true rfl) (by omega) (by decide) rfl (fun M2 h2 => ?_)
      subst h2
      refine qw_aload_n 0 dX9_factor_37 rfl rfl ?_
      refine qw_dup dX9_factor_38 rfl ?_
      refine qw_geti fX9_54 dX9_factor_39 h9.1 rfl ?_
      rw [lq_up_c _ _ (by decide), lq_up_c _ _ (by decide), lq_up_s]
      refine qw_iconst (nI 1) dX9_factor_42 (by decide) ?_
      refine qw_addN dX9_factor_43 ?_
      refine qw_puti fX9_54 dX9_factor_44 h9.1 rfl ?_
      refine qw_aload_n 0 dX9_factor_47 rfl rfl ?_
      refine qw_dup dX9_factor_48 rfl ?_
      refine qw_geti fX9_103 dX9_factor_49 h9.1 rfl ?_
      rw [lq_up_c _ _ (by decide), lq_up_c _ _ (by decide), lq_up_c _ _ (by decide), lq_up_c _ _ (by decide), h13]
      refine qw_iconst (nI 1) dX9_factor_52 (by decide) ?_
      refine qw_addN dX9_factor_53 ?_
      refine qw_puti fX9_103 dX9_factor_54 h9.1 rfl ?_
      have hbad : ¬ nI ((lq_up (lq_up (lq_up (lq_up (lq_up M m 4 (t_sk t L s.1)) m 5 4294967291) m 6 (t_sk t L s.1)) m 4 (t_sk t L s.1 + 1)) m 13 (d + 1)) m 5) = 0 := by rw [lq_up_c _ _ (by decide), lq_up_c _ _ (by decide), lq_up_c _ _ (by decide), lq_up_s]; decide
      have hpx : p_ex t L (f + 1) 0 d s = .inl (4294967291, t_sk t L s.1) := by rw [p_ex, if_pos rfl, if_pos hsg, if_pos (by omega)]; rfl
      refine qw_aload_n 0 dX9_factor_57 rfl rfl ?_
      refine qw_cvv [] (k_X9_sum_b h9 hbad) mX9_106 dX9_factor_58 h9.1 rfl rfl rfl (Nat.le_of_ble_eq_true rfl) (by omega) (by decide) rfl (fun M5 h5 => ?_)
      rw [h5]
      refine qw_aload_n 0 dX9_factor_61 rfl rfl ?_
      refine qw_bipush (nI 41) dX9_factor_62 (by decide) ?_
      refine qw_cvv [_] (k_X9_expect_b h9 hbad) mX9_109 dX9_factor_64 h9.1 rfl rfl rfl (Nat.le_of_ble_eq_true rfl) (by omega) (by decide) rfl (fun M6 h6 => ?_)
      rw [h6]
      refine qw_aload_n 0 dX9_factor_67 rfl rfl ?_
      refine qw_dup dX9_factor_68 rfl ?_
      refine qw_geti fX9_103 dX9_factor_69 h9.1 rfl ?_
      rw [lq_up_s]
      refine qw_iconst (nI 1) dX9_factor_72 (by decide) ?_
      refine qw_subN (by omega) dX9_factor_73 ?_
      refine qw_puti fX9_103 dX9_factor_74 h9.1 rfl ?_
      exact qw_return rfl dX9_factor_77 ⟨rfl, rfl, rfl, rfl, by rw [hpx]; exact ⟨((((((r_xf.up (by decide)).tr (r_xf.up (by decide))).tr (r_xf.up (by decide))).tr (r_xf.up (by decide))).tr (r_xf.up (by decide))).tr (r_xf.up (by decide))), by rw [lq_up_c _ _ (by decide), lq_up_c _ _ (by decide), lq_up_c _ _ (by decide), lq_up_c _ _ (by decide), lq_up_s], by rw [lq_up_c _ _ (by decide), lq_up_c _ _ (by decide), lq_up_c _ _ (by decide), lq_up_s], (show ¬ nI 4294967291 = 0 from by decide)⟩⟩
end R13
