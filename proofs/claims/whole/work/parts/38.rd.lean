/-! the reader: failing, taking a sign, a number, a word -/
def sh5 (S : lq_S) (r x nb : Nat) : Prop := S r = some (.inl (5, [some (some (r + 1)), none, none, none, none, none])) ∧ sh7 S (r + 1) x nb
/-- the error and where -/
def q_fai (M : lq_M) (r c : Nat) : lq_M := lq_up (lq_up M r 1 c) r 2 (M (r + 1) 3)
theorem t_sg_01 (t : Nat → Nat) (L e c : Nat) : t_sg t L e c ≤ 1 := by
  unfold t_sg
  split <;> decide
theorem t_wb_01 (t : Nat → Nat) (L e i : Nat) : t_wb t L e i ≤ 1 := by
  unfold t_wb
  split <;> decide
theorem t_vu_le (t : Nat → Nat) (L : Nat) : ∀ f p v, v ≤ 99999 → t_vu t L f p v ≤ 99999
  | 0, _, _, h => h
  | f + 1, p, v, h => by
    rw [t_vu]
    by_cases q : p < L ∧ t_isD (t p) = true
    · rw [if_pos q]
      have hd : 48 ≤ t p ∧ t p ≤ 57 := of_decide_eq_true q.2
      refine t_vu_le t L f (p + 1) _ ?_
      split <;> omega
    · rw [if_neg q]; exact h
theorem t_vc_le (t : Nat → Nat) (L p : Nat) : t_vc t L p 0 ≤ 99999 := t_vu_le t L _ p 0 (by decide)
section RD1
variable {G : lq_G} {z : Nat} {S : lq_S} {N : lq_N}
theorem k_X5_fail {r x nb c : Nat} (h5 : sh5 S r x nb) {M : lq_M} : LM G YX5_fail 0 0 0 [.ref r, .int (nI c)] z S M N (lq_mi z S N (fun y M1 => y = nI 0 ∧ M1 = q_fai M r c)) lq_no := by
  refine LM.of (by decide) rfl [some (.ref r), some (.int (nI c))] rfl (Nat.le_of_ble_eq_true rfl) ?_
  refine qw_aload_n 0 dX5_fail_0 rfl rfl ?_
  refine qw_iload_n 1 dX5_fail_1 rfl rfl ?_
  refine qw_puti fX5_23 dX5_fail_2 h5.1 rfl ?_
  refine qw_aload_n 0 dX5_fail_5 rfl rfl ?_
  refine qw_aload_n 0 dX5_fail_6 rfl rfl ?_
  refine qw_getr fX5_12 dX5_fail_7 h5.1 rfl ?_
  refine qw_geti fX5_153 dX5_fail_10 h5.2.1 rfl ?_
  rw [lq_up_n _ _ _ (show r + 1 ≠ r by omega)]
  refine qw_puti fX5_27 dX5_fail_13 h5.1 rfl ?_
  refine qw_iconst (nI 0) dX5_fail_16 (by decide) ?_
  exact qw_ireturn rfl (by decide) dX5_fail_17 ⟨rfl, rfl, rfl, _, rfl, rfl, rfl⟩
theorem k_X5_takeSign {r x nb L e : Nat} (h5 : sh5 S r x nb) (hxk : x ≠ r + 1) (hnb : nb ≤ 800) (hL : L ≤ nb) {t : Nat → Nat} (ht : ∀ j, j < L → t j < 256) {M : lq_M} (hM : ∀ j, j < L → M x j = t j) (he : e ≤ L) (hT : q_tks M (r + 1) t L e) {c : Nat} (hc : c < 128) (hl : t_isL c = false) (hd : t_isD c = false) : LM G YX5_takeSign 1 0 0 [.ref r, .int (nI c)] z S M N (lq_mi z S N (fun y M1 => y = nI (t_sg t L e c) ∧ (t_sg t L e c = 1 → q_tks M1 (r + 1) t L (t_en t L (t_sk t L e)) ∧ ∀ b, b ≠ r + 1 → M1 b = M b) ∧ (t_sg t L e c = 0 → M1 = q_fai M r 4294967294))) lq_no := by
  have hT0 := hT
  obtain ⟨m1, m2, m3, m4, m5⟩ := hT
  have hs := t_run_le t_isS t he
  have hs : t_sk t L e ≤ L := hs
  have hen := t_en_le (t := t) hs
  have hkl := t_kd_le t L (t_sk t L e)
  have h01 := t_sg_01 t L e c
  refine LM.of (by decide) rfl [some (.ref r), some (.int (nI c))] rfl (Nat.le_of_ble_eq_true rfl) ?_
  refine qw_aload_n 0 dX5_takeSign_0 rfl rfl ?_
  refine qw_getr fX5_12 dX5_takeSign_1 h5.1 rfl ?_
  refine qw_iload_n 1 dX5_takeSign_4 rfl rfl ?_
  refine qw_cvp [_] (k_X7_isSign h5.2 hnb hL ht hM he hT0 hc hl hd) mX5_129 dX5_takeSign_5 h5.2.1 rfl rfl rfl (Nat.le_of_ble_eq_true rfl) (by omega) (by decide) rfl ?_
  refine qw_if_neN 18 dX5_takeSign_8 (by decide) (by omega) (fun c8 => ?_) (fun c8 => ?_)
  · refine qw_aload_n 0 dX5_takeSign_18 rfl rfl ?_
    refine qw_getr fX5_12 dX5_takeSign_19 h5.1 rfl ?_
    refine qw_cvv [] (k_X7_advance h5.2 hxk hnb hL ht hM hen m1 m4) mX5_82 dX5_takeSign_22 h5.2.1 rfl rfl rfl (Nat.le_of_ble_eq_true rfl) (by omega) (by decide) rfl (fun M1 h1 => ?_)
    refine qw_iconst (nI 1) dX5_takeSign_25 (by decide) ?_
    exact qw_ireturn rfl (by decide) dX5_takeSign_26 ⟨rfl, rfl, rfl, _, rfl, by rw [show t_sg t L e c = 1 by omega], fun _ => h1, fun q => absurd q c8⟩
  · refine qw_aload_n 0 dX5_takeSign_11 rfl rfl ?_
    refine qw_bipush (-2) dX5_takeSign_12 (by decide) ?_
    rw [show (-2 : Int32) = nI 4294967294 by decide]
    refine qw_cvi [_] (k_X5_fail h5) mX5_78 dX5_takeSign_14 h5.1 rfl rfl rfl (Nat.le_of_ble_eq_true rfl) (by omega) (by decide) rfl (fun y0 M1 h1 => ?_)
    obtain ⟨rfl, rfl⟩ := h1
    exact qw_ireturn rfl (by decide) dX5_takeSign_17 ⟨rfl, rfl, rfl, _, rfl, by rw [c8], fun q => absurd q (by omega), fun _ => rfl⟩
theorem k_X5_takeWord {r x nb L e : Nat} (h5 : sh5 S r x nb) (hxk : x ≠ r + 1) (hnb : nb ≤ 800) (hL : L ≤ nb) {t : Nat → Nat} (ht : ∀ j, j < L → t j < 256) {M : lq_M} (hM : ∀ j, j < L → M x j = t j) (he : e ≤ L) (hT : q_tks M (r + 1) t L e) {i : Nat} (hi : i < 29) {v : Value} (hX : lq_sx G v) : LM G YX5_takeWord 5 0 0 [.ref r, .ref (lq_k G i)] z S M N (lq_mi z S N (fun y M1 => y = nI (t_wb t L e i) ∧ (t_wb t L e i = 1 → q_tks M1 (r + 1) t L (t_en t L (t_sk t L e)) ∧ ∀ b, b ≠ r + 1 → M1 b = M b) ∧ (t_wb t L e i = 0 → M1 = q_fai M r 4294967294))) lq_no := by
  have hT0 := hT
  obtain ⟨m1, m2, m3, m4, m5⟩ := hT
  have hs := t_run_le t_isS t he
  have hs : t_sk t L e ≤ L := hs
  have hen := t_en_le (t := t) hs
  have hkl := t_kd_le t L (t_sk t L e)
  have h01 := t_wb_01 t L e i
  refine LM.of (by decide) rfl [some (.ref r), some (.ref (lq_k G i))] rfl (Nat.le_of_ble_eq_true rfl) ?_
  refine qw_aload_n 0 dX5_takeWord_0 rfl rfl ?_
  refine qw_getr fX5_12 dX5_takeWord_1 h5.1 rfl ?_
  refine qw_aload_n 1 dX5_takeWord_4 rfl rfl ?_
  refine qw_cvp [_] (k_X7_isWord h5.2 hnb hL ht hM he hT0 hi hX) mX5_60 dX5_takeWord_5 h5.2.1 rfl rfl rfl (Nat.le_of_ble_eq_true rfl) (by omega) (by decide) rfl ?_
  refine qw_if_neN 18 dX5_takeWord_8 (by decide) (by omega) (fun c8 => ?_) (fun c8 => ?_)
  · refine qw_aload_n 0 dX5_takeWord_18 rfl rfl ?_
    refine qw_getr fX5_12 dX5_takeWord_19 h5.1 rfl ?_
    refine qw_cvv [] (k_X7_advance h5.2 hxk hnb hL ht hM hen m1 m4) mX5_82 dX5_takeWord_22 h5.2.1 rfl rfl rfl (Nat.le_of_ble_eq_true rfl) (by omega) (by decide) rfl (fun M1 h1 => ?_)
    refine qw_iconst (nI 1) dX5_takeWord_25 (by decide) ?_
    exact qw_ireturn rfl (by decide) dX5_takeWord_26 ⟨rfl, rfl, rfl, _, rfl, by rw [show t_wb t L e i = 1 by omega], fun _ => h1, fun q => absurd q c8⟩
  · refine qw_aload_n 0 dX5_takeWord_11 rfl rfl ?_
    refine qw_bipush (-2) dX5_takeWord_12 (by decide) ?_
    rw [show (-2 : Int32) = nI 4294967294 by decide]
    refine qw_cvi [_] (k_X5_fail h5) mX5_78 dX5_takeWord_14 h5.1 rfl rfl rfl (Nat.le_of_ble_eq_true rfl) (by omega) (by decide) rfl (fun y0 M1 h1 => ?_)
    obtain ⟨rfl, rfl⟩ := h1
    exact qw_ireturn rfl (by decide) dX5_takeWord_17 ⟨rfl, rfl, rfl, _, rfl, by rw [c8], fun q => absurd q (by omega), fun _ => rfl⟩
/-- a number in its range is shown -/
def t_nm (t : Nat → Nat) (L e lo hi : Nat) : Nat := if t_kd t L (t_sk t L e) ≠ 2 then 1 else if t_vc t L (t_sk t L e) 0 < lo ∨ hi < t_vc t L (t_sk t L e) 0 then 2 else 0
theorem k_X5_takeNumber {r x nb L e : Nat} (h5 : sh5 S r x nb) (hxk : x ≠ r + 1) (hnb : nb ≤ 800) (hL : L ≤ nb) {t : Nat → Nat} (ht : ∀ j, j < L → t j < 256) {M : lq_M} (hM : ∀ j, j < L → M x j = t j) (he : e ≤ L) (hT : q_tks M (r + 1) t L e) (hxr : x ≠ r) {lo hi : Nat} (hlo : lo < 2 ^ 31) (hhi : hi < 2 ^ 31) : LM G YX5_takeNumber 1 0 0 [.ref r, .int (nI lo), .int (nI hi)] z S M N (lq_mi z S N (fun y M1 => (t_nm t L e lo hi = 0 ∧ y = nI 1 ∧ M1 r 3 = t_vc t L (t_sk t L e) 0 ∧ (∀ j, j ≠ 3 → M1 r j = M r j) ∧ q_tks M1 (r + 1) t L (t_en t L (t_sk t L e)) ∧ ∀ b, b ≠ r → b ≠ r + 1 → M1 b = M b) ∨ (t_nm t L e lo hi = 1 ∧ y = nI 0 ∧ M1 = q_fai M r 4294967294) ∨ (t_nm t L e lo hi = 2 ∧ y = nI 0 ∧ M1 = q_fai M r 4294967293))) lq_no := by
  have hT0 := hT
  obtain ⟨m1, m2, m3, m4, m5⟩ := hT
  have hs := t_run_le t_isS t he
  have hs : t_sk t L e ≤ L := hs
  have hen := t_en_le (t := t) hs
  have hkl := t_kd_le t L (t_sk t L e)
  have hvl := t_vc_le t L (t_sk t L e)
  refine LM.of (by decide) rfl [some (.ref r), some (.int (nI lo)), some (.int (nI hi))] rfl (Nat.le_of_ble_eq_true rfl) ?_
  refine qw_aload_n 0 dX5_takeNumber_0 rfl rfl ?_
  refine qw_getr fX5_12 dX5_takeNumber_1 h5.1 rfl ?_
  refine qw_geti fX5_51 dX5_takeNumber_4 h5.2.1 rfl ?_
  rw [m2]
  refine qw_iconst (nI 2) dX5_takeNumber_7 (by decide) ?_
  refine qw_icmp_eqN 18 dX5_takeNumber_8 (by decide) (by omega) (by omega) (fun c8 => ?_) (fun c8 => ?_)
  · refine qw_aload_n 0 dX5_takeNumber_18 rfl rfl ?_
    refine qw_getr fX5_12 dX5_takeNumber_19 h5.1 rfl ?_
    refine qw_geti fX5_106 dX5_takeNumber_22 h5.2.1 rfl ?_
    rw [m5 c8]
    refine qw_iload_n 1 dX5_takeNumber_25 rfl rfl ?_
    refine qw_icmp_ltN 40 dX5_takeNumber_26 (by decide) (by omega) (by omega) (fun c26 => ?_) (fun c26 => ?_)
    · refine qw_aload_n 0 dX5_takeNumber_40 rfl rfl ?_
      refine qw_bipush (-3) dX5_takeNumber_41 (by decide) ?_
      rw [show (-3 : Int32) = nI 4294967293 by decide]
      refine qw_cvi [_] (k_X5_fail h5) mX5_78 dX5_takeNumber_43 h5.1 rfl rfl rfl (Nat.le_of_ble_eq_true rfl) (by omega) (by decide) rfl (fun y0 M1 h1 => ?_)
      obtain ⟨rfl, rfl⟩ := h1
      exact qw_ireturn rfl (by decide) dX5_takeNumber_46 ⟨rfl, rfl, rfl, _, rfl, Or.inr (Or.inr ⟨by rw [t_nm, if_neg (fun q => q c8), if_pos (by omega)], rfl, rfl⟩)⟩
    · refine qw_aload_n 0 dX5_takeNumber_29 rfl rfl ?_
      refine qw_getr fX5_12 dX5_takeNumber_30 h5.1 rfl ?_
      refine qw_geti fX5_106 dX5_takeNumber_33 h5.2.1 rfl ?_
      rw [m5 c8]
      refine qw_iload_n 2 dX5_takeNumber_36 rfl rfl ?_
      refine qw_icmp_leN 47 dX5_takeNumber_37 (by decide) (by omega) (by omega) (fun c37 => ?_) (fun c37 => ?_)
      · refine qw_aload_n 0 dX5_takeNumber_47 rfl rfl ?_
        refine qw_aload_n 0 dX5_takeNumber_48 rfl rfl ?_
        refine qw_getr fX5_12 dX5_takeNumber_49 h5.1 rfl ?_
        refine qw_geti fX5_106 dX5_takeNumber_52 h5.2.1 rfl ?_
        rw [m5 c8]
        refine qw_puti fX5_103 dX5_takeNumber_55 h5.1 rfl ?_
        refine qw_aload_n 0 dX5_takeNumber_58 rfl rfl ?_
        refine qw_getr fX5_12 dX5_takeNumber_59 h5.1 rfl ?_
        refine qw_cvv [] (k_X7_advance (e := t_en t L (t_sk t L e)) h5.2 hxk hnb hL ht (M := lq_up M r 3 (t_vc t L (t_sk t L e) 0)) (fun j hj => by rw [lq_up_n _ _ _ hxr]; exact hM j hj) hen (by rw [lq_up_n _ _ _ (by omega)]; exact m1) (by rw [lq_up_n _ _ _ (by omega)]; exact m4)) mX5_82 dX5_takeNumber_62 h5.2.1 rfl rfl rfl (Nat.le_of_ble_eq_true rfl) (by omega) (by decide) rfl (fun M1 h1 => ?_)
        refine qw_iconst (nI 1) dX5_takeNumber_65 (by decide) ?_
        exact qw_ireturn rfl (by decide) dX5_takeNumber_66 ⟨rfl, rfl, rfl, _, rfl, Or.inl ⟨by rw [t_nm, if_neg (fun q => q c8), if_neg (by omega)], rfl, by rw [h1.2 r (by omega), lq_up_s], fun j hj => by rw [h1.2 r (by omega), lq_up_c _ _ hj], h1.1, fun b b1 b2 => by rw [h1.2 b b2, lq_up_n _ _ _ b1]⟩⟩
      · refine qw_aload_n 0 dX5_takeNumber_40 rfl rfl ?_
        refine qw_bipush (-3) dX5_takeNumber_41 (by decide) ?_
        rw [show (-3 : Int32) = nI 4294967293 by decide]
        refine qw_cvi [_] (k_X5_fail h5) mX5_78 dX5_takeNumber_43 h5.1 rfl rfl rfl (Nat.le_of_ble_eq_true rfl) (by omega) (by decide) rfl (fun y0 M1 h1 => ?_)
        obtain ⟨rfl, rfl⟩ := h1
        exact qw_ireturn rfl (by decide) dX5_takeNumber_46 ⟨rfl, rfl, rfl, _, rfl, Or.inr (Or.inr ⟨by rw [t_nm, if_neg (fun q => q c8), if_pos (by omega)], rfl, rfl⟩)⟩
  · refine qw_aload_n 0 dX5_takeNumber_11 rfl rfl ?_
    refine qw_bipush (-2) dX5_takeNumber_12 (by decide) ?_
    rw [show (-2 : Int32) = nI 4294967294 by decide]
    refine qw_cvi [_] (k_X5_fail h5) mX5_78 dX5_takeNumber_14 h5.1 rfl rfl rfl (Nat.le_of_ble_eq_true rfl) (by omega) (by decide) rfl (fun y0 M1 h1 => ?_)
    obtain ⟨rfl, rfl⟩ := h1
    exact qw_ireturn rfl (by decide) dX5_takeNumber_17 ⟨rfl, rfl, rfl, _, rfl, Or.inr (Or.inl ⟨by rw [t_nm, if_pos c8], rfl, rfl⟩)⟩
end RD1
