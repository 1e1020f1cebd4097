/-! tokens: words, signs, the beginning -/
theorem t_kd_3 {t : Nat → Nat} {L s c : Nat} (h : s < L) (e : t s = c) (hl : t_isL c = false) (hd : t_isD c = false) : t_kd t L s = 3 := by
  have h1 : t_wd t L s = s := t_run_n (fun _ => by rw [e]; exact hl)
  have h2 : t_dg t L s = s := t_run_n (fun _ => by rw [e]; exact hd)
  rw [t_kd, h1, h2, if_neg (Nat.lt_irrefl s), if_neg (Nat.lt_irrefl s), if_pos h]
theorem t_kd_1 {t : Nat → Nat} {L s : Nat} : t_kd t L s = 1 ↔ s < t_wd t L s := by
  unfold t_kd
  by_cases h : s < t_wd t L s
  · rw [if_pos h]; exact ⟨fun _ => h, fun _ => rfl⟩
  · rw [if_neg h]
    constructor
    · intro q
      split at q
      · exact absurd q (by decide)
      · split at q <;> exact absurd q (by decide)
    · exact fun q => absurd q h
theorem t_kd_le (t : Nat → Nat) (L s : Nat) : t_kd t L s ≤ 3 := by
  unfold t_kd
  split
  · decide
  · split
    · decide
    · split <;> decide
def t_sg (t : Nat → Nat) (L e c : Nat) : Nat := if t_sk t L e < L ∧ t (t_sk t L e) = c then 1 else 0
def t_isw (t : Nat → Nat) (L e i : Nat) : Prop := t_wd t L (t_sk t L e) = t_sk t L e + lq_len.getD i 0 ∧ ∀ j, j < lq_len.getD i 0 → t (t_sk t L e + j) = q_ch i j
noncomputable def t_wb (t : Nat → Nat) (L e i : Nat) : Nat := by
  classical
  exact if t_isw t L e i then 1 else 0
theorem t_wb_y {t : Nat → Nat} {L e i : Nat} (h : t_isw t L e i) : t_wb t L e i = 1 := by unfold t_wb; exact if_pos h
theorem t_wb_n {t : Nat → Nat} {L e i : Nat} (h : ¬ t_isw t L e i) : t_wb t L e i = 0 := by unfold t_wb; exact if_neg h
theorem lq_len_pos : ∀ i, i < 29 → 0 < lq_len.getD i 0 := by decide
theorem sb_eq : ∀ c : Fin 256, ∀ d : Fin 128, (sb_b c.1 = nI d.1 ↔ c.1 = d.1) := by decide +kernel
section TK2
variable {G : lq_G} {z : Nat} {S : lq_S} {N : lq_N}
theorem k_X7_isSign {k x nb L e : Nat} (hK : sh7 S k x nb) (hnb : nb ≤ 800) (hL : L ≤ nb) {t : Nat → Nat} (ht : ∀ j, j < L → t j < 256) {M : lq_M} (hM : ∀ j, j < L → M x j = t j) (he : e ≤ L) (hT : q_tks M k t L e) {c : Nat} (hc : c < 128) (hl : t_isL c = false) (hd : t_isD c = false) : LM G YX7_isSign 0 0 0 [.ref k, .int (nI c)] z S M N (lq_pu z S M N (.int (nI (t_sg t L e c)))) lq_no := by
  obtain ⟨m1, m2, m3, m4, m5⟩ := hT
  have hs := t_run_le t_isS t he
  have hs : t_sk t L e ≤ L := hs
  have hkl := t_kd_le t L (t_sk t L e)
  refine LM.of (by decide) rfl [some (.ref k), some (.int (nI c))] rfl (Nat.le_of_ble_eq_true rfl) ?_
  refine qw_aload_n 0 dX7_isSign_0 rfl rfl ?_
  refine qw_geti fX7_37 dX7_isSign_1 hK.1 rfl ?_
  rw [m2]
  refine qw_iconst (nI 3) dX7_isSign_4 (by decide) ?_
  refine qw_icmp_neN 36 dX7_isSign_5 (by decide) (by omega) (by omega) (fun c5 => ?_) (fun c5 => ?_)
  · refine qw_iconst (nI 0) dX7_isSign_36 (by decide) ?_
    exact qw_ireturn rfl (by decide) dX7_isSign_37 ⟨by rw [t_sg, if_neg (fun q => c5 (t_kd_3 q.1 q.2 hl hd))], rfl, rfl, rfl, rfl⟩
  · refine qw_aload_n 0 dX7_isSign_8 rfl rfl ?_
    refine qw_geti fX7_31 dX7_isSign_9 hK.1 rfl ?_
    rw [m3]
    refine qw_aload_n 0 dX7_isSign_12 rfl rfl ?_
    refine qw_geti fX7_21 dX7_isSign_13 hK.1 rfl ?_
    rw [m1]
    refine qw_icmp_geN 36 dX7_isSign_16 (by decide) (by omega) (by omega) (fun c16 => ?_) (fun c16 => ?_)
    · refine qw_iconst (nI 0) dX7_isSign_36 (by decide) ?_
      exact qw_ireturn rfl (by decide) dX7_isSign_37 ⟨by rw [t_sg, if_neg (fun q => absurd q.1 (by omega))], rfl, rfl, rfl, rfl⟩
    · refine qw_aload_n 0 dX7_isSign_19 rfl rfl ?_
      refine qw_getr fX7_9 dX7_isSign_20 hK.1 rfl ?_
      refine qw_aload_n 0 dX7_isSign_23 rfl rfl ?_
      refine qw_geti fX7_31 dX7_isSign_24 hK.1 rfl ?_
      rw [m3]
      refine qw_bald dX7_isSign_27 hK.2 (by omega) (by omega) ?_
      rw [hM (t_sk t L e) (by omega)]
      refine qw_iload_n 1 dX7_isSign_28 rfl rfl ?_
      refine qw_icmp_ne 36 dX7_isSign_29 (by decide) (fun c29 => ?_) (fun c29 => ?_)
      · refine qw_iconst (nI 0) dX7_isSign_36 (by decide) ?_
        exact qw_ireturn rfl (by decide) dX7_isSign_37 ⟨by rw [t_sg, if_neg (fun q => c29 ((sb_eq ⟨t (t_sk t L e), ht _ c16⟩ ⟨c, hc⟩).mpr q.2))], rfl, rfl, rfl, rfl⟩
      · refine qw_iconst (nI 1) dX7_isSign_32 (by decide) ?_
        refine qw_goto 37 dX7_isSign_33 (by decide) ?_
        exact qw_ireturn rfl (by decide) dX7_isSign_37 ⟨by rw [t_sg, if_pos ⟨c16, (sb_eq ⟨t (t_sk t L e), ht _ c16⟩ ⟨c, hc⟩).mp c29⟩], rfl, rfl, rfl, rfl⟩
theorem l_X7_isWord {k x nb L e : Nat} (hK : sh7 S k x nb) (hnb : nb ≤ 800) (hL : L ≤ nb) {t : Nat → Nat} (ht : ∀ j, j < L → t j < 256) {M : lq_M} (hM : ∀ j, j < L → M x j = t j) (he : e ≤ L) (hT : q_tks M k t L e) {i : Nat} (hi : i < 29) {v : Value} (hX : lq_sx G v) (hw : t_wd t L (t_sk t L e) = t_sk t L e + lq_len.getD i 0) : ∀ (n9 j : Nat), j ≤ lq_len.getD i 0 → lq_len.getD i 0 - j < n9 → (∀ q, q < j → t (t_sk t L e + q) = q_ch i q) → LW G YX7_isWord 4 0 0 (lq_pu z S M N (.int (nI (t_wb t L e i)))) lq_no z S M N 28 [some (.ref k), some (.ref (lq_k G i)), some (.int (nI j))] [] := by
  intro n9
  induction n9 with
  | zero => intro _ _ _ _; omega
  | succ n9 ih =>
    intro j hj hn9 hd
    obtain ⟨m1, m2, m3, m4, m5⟩ := hT
    have hs := t_run_le t_isS t he
    have hs : t_sk t L e ≤ L := hs
    have hkl := t_kd_le t L (t_sk t L e)
    have h40 := lq_len_lt i hi
    have hwl := t_run_le t_isL t hs
    have hwl : t_wd t L (t_sk t L e) ≤ L := hwl
    refine qw_iload_n 2 dX7_isWord_28 rfl rfl ?_
    refine qw_aload_n 1 dX7_isWord_29 rfl rfl ?_
    refine qw_cvS hi [] (k_J0_length hX hi) mX7_40 dX7_isWord_30 rfl rfl rfl (Nat.le_of_ble_eq_true rfl) (by omega) (by decide) rfl ?_
    refine qw_icmp_geN 63 dX7_isWord_33 (by decide) (by omega) (by omega) (fun c33 => ?_) (fun c33 => ?_)
    · refine qw_iconst (nI 1) dX7_isWord_63 (by decide) ?_
      exact qw_ireturn rfl (by decide) dX7_isWord_64 ⟨by rw [t_wb_y ⟨hw, fun q hq => hd q (by omega)⟩], rfl, rfl, rfl, rfl⟩
    · refine qw_aload_n 0 dX7_isWord_36 rfl rfl ?_
      refine qw_getr fX7_9 dX7_isWord_37 hK.1 rfl ?_
      refine qw_aload_n 0 dX7_isWord_40 rfl rfl ?_
      refine qw_geti fX7_31 dX7_isWord_41 hK.1 rfl ?_
      rw [m3]
      refine qw_iload_n 2 dX7_isWord_44 rfl rfl ?_
      refine qw_addN dX7_isWord_45 ?_
      have hj2 : t_sk t L e + j < L := by omega
      refine qw_bald dX7_isWord_46 hK.2 (by omega) (by omega) ?_
      rw [hM (t_sk t L e + j) (by omega)]
      refine qw_aload_n 1 dX7_isWord_47 rfl rfl ?_
      refine qw_iload_n 2 dX7_isWord_48 rfl rfl ?_
      have hc := q_ch_all ⟨i, hi⟩ ⟨j, by omega⟩ c33
      have hc7 : q_ch i j < 128 := hc.2.2
      have hlo : sb_b (q_ch i j) = nI (q_ch i j) := (t_cmp ⟨q_ch i j, by omega⟩).2.2.2 hc7
      refine qw_cvS hi [_] (k_J0_charAt hX hi c33) mX7_45 dX7_isWord_49 rfl rfl rfl (Nat.le_of_ble_eq_true rfl) (by omega) (by decide) rfl ?_
      refine qw_icmp_eq 57 dX7_isWord_52 (by decide) (fun c52 => ?_) (fun c52 => ?_)
      · refine qw_iincN 1 dX7_isWord_57 rfl (by decide) rfl (by decide) ?_
        refine qw_goto 28 dX7_isWord_60 (by decide) ?_
        have hq9 := (sb_eq ⟨t (t_sk t L e + j), ht _ (by omega)⟩ ⟨q_ch i j, hc7⟩).mp c52
        have hq9 : t (t_sk t L e + j) = q_ch i j := hq9
        exact qw_weak _ (by simp [lq_le]) (ih (j + 1) (by omega) (by omega) (fun q hq => by
          by_cases e9 : q = j
          · rw [e9]; exact hq9
          · exact hd q (by omega)))
      · refine qw_iconst (nI 0) dX7_isWord_55 (by decide) ?_
        exact qw_ireturn rfl (by decide) dX7_isWord_56 ⟨by rw [t_wb_n (fun q => c52 (by rw [q.2 j c33]; exact hlo))], rfl, rfl, rfl, rfl⟩
theorem k_X7_isWord {k x nb L e : Nat} (hK : sh7 S k x nb) (hnb : nb ≤ 800) (hL : L ≤ nb) {t : Nat → Nat} (ht : ∀ j, j < L → t j < 256) {M : lq_M} (hM : ∀ j, j < L → M x j = t j) (he : e ≤ L) (hT : q_tks M k t L e) {i : Nat} (hi : i < 29) {v : Value} (hX : lq_sx G v) : LM G YX7_isWord 4 0 0 [.ref k, .ref (lq_k G i)] z S M N (lq_pu z S M N (.int (nI (t_wb t L e i)))) lq_no := by
  have hT0 := hT
  obtain ⟨m1, m2, m3, m4, m5⟩ := hT
  have hs := t_run_le t_isS t he
  have hs : t_sk t L e ≤ L := hs
  have hkl := t_kd_le t L (t_sk t L e)
  have h40 := lq_len_lt i hi
  have hp0 := lq_len_pos i hi
  have hge := t_run_ge t_isL t L (t_sk t L e)
  have hge : t_sk t L e ≤ t_wd t L (t_sk t L e) := hge
  have hwl := t_run_le t_isL t hs
  have hwl : t_wd t L (t_sk t L e) ≤ L := hwl
  refine LM.of (by decide) rfl [some (.ref k), some (.ref (lq_k G i)), none] rfl (Nat.le_of_ble_eq_true rfl) ?_
  refine qw_aload_n 0 dX7_isWord_0 rfl rfl ?_
  refine qw_geti fX7_37 dX7_isWord_1 hK.1 rfl ?_
  rw [m2]
  refine qw_iconst (nI 1) dX7_isWord_4 (by decide) ?_
  refine qw_icmp_neN 24 dX7_isWord_5 (by decide) (by omega) (by omega) (fun c5 => ?_) (fun c5 => ?_)
  · refine qw_iconst (nI 0) dX7_isWord_24 (by decide) ?_
    exact qw_ireturn rfl (by decide) dX7_isWord_25 ⟨by rw [t_wb_n (fun q => c5 (t_kd_1.mpr (by rw [q.1]; omega)))], rfl, rfl, rfl, rfl⟩
  · have hkw := t_kd_1.mp c5
    have hen : t_en t L (t_sk t L e) = t_wd t L (t_sk t L e) := by rw [t_en, if_pos hkw]
    refine qw_aload_n 0 dX7_isWord_8 rfl rfl ?_
    refine qw_geti fX7_25 dX7_isWord_9 hK.1 rfl ?_
    rw [m4]
    refine qw_aload_n 0 dX7_isWord_12 rfl rfl ?_
    refine qw_geti fX7_31 dX7_isWord_13 hK.1 rfl ?_
    rw [m3]
    refine qw_subN (by rw [hen]; exact hge) dX7_isWord_16 ?_
    refine qw_aload_n 1 dX7_isWord_17 rfl rfl ?_
    refine qw_cvS hi [] (k_J0_length hX hi) mX7_40 dX7_isWord_18 rfl rfl rfl (Nat.le_of_ble_eq_true rfl) (by omega) (by decide) rfl ?_
    refine qw_icmp_eqN 26 dX7_isWord_21 (by decide) (by omega) (by omega) (fun c21 => ?_) (fun c21 => ?_)
    · refine qw_iconst (nI 0) dX7_isWord_26 (by decide) ?_
      refine qw_istore_n 2 dX7_isWord_27 rfl rfl (by decide) ?_
      exact l_X7_isWord hK hnb hL ht hM he hT0 hi hX (by rw [hen] at c21; omega) (lq_len.getD i 0 + 1) 0 (Nat.zero_le _) (by omega) (fun q hq => absurd hq (Nat.not_lt_zero q))
    · refine qw_iconst (nI 0) dX7_isWord_24 (by decide) ?_
      exact qw_ireturn rfl (by decide) dX7_isWord_25 ⟨by rw [t_wb_n (fun q => c21 (by rw [hen, q.1]; omega))], rfl, rfl, rfl, rfl⟩
end TK2
