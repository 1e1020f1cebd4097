/-! reading a term, a sum -/
theorem t_sg_0 {t : Nat → Nat} {L e c : Nat} (h : L ≤ e) : t_sg t L e c = 0 := by
  have := t_sk_ge t L e
  unfold t_sg
  rw [if_neg (by omega)]
section RT
variable {G : lq_G} {z : Nat} {S : lq_S} {N : lq_N}
theorem sl_X5_readTerm {r x nb L fo f d : Nat} (h5 : sh5 S r x nb) (hF : sh2 S fo) (hrf : r + 1 < fo) (hxr : x < r) (hnb : nb ≤ 800) (hL : L ≤ nb) {t : Nat → Nat} (ht : ∀ j, j < L → t j < 256) {M : lq_M} {s : p_S} (he : s.1 ≤ L) (hn : s.2.1 ≤ s.1) (hM : ∀ j, j < L → M x j = t j) (hP : p_pc M r fo t L s) (hf : 4 * (L - s.1) + 1 ≤ f + 1) (IHs : ∀ (M' : lq_M) (s' : p_S), s'.1 ≤ L → s'.2.1 ≤ s'.1 → (∀ j, j < L → M' x j = t j) → p_pc M' r fo t L s' → 4 * (L - s'.1) + 1 ≤ f → LM G YX5_readFactor (6 + 3 * (4 - d)) 0 0 [.ref r, .ref fo, .int (nI d)] z S M' N (lq_mi z S N (fun y M1 => p_pt M' M1 r fo t L (p_ex t L f 0 d s') y)) lq_no) (IHl : ∀ (M' : lq_M) (s' : p_S) (k : Nat), s'.1 ≤ L → s'.2.1 ≤ s'.1 → (∀ j, j < L → M' x j = t j) → p_pc M' r fo t L s' → 4 * (L - s'.1) + 1 ≤ f → k ≤ s'.1 → ∀ (Q : lq_P), (∀ y M1, p_pt M' M1 r fo t L (p_ex t L f 3 d s') y → Q (some (.int y)) z S M1 N) → LW G YX5_readTerm (7 + 3 * (4 - d)) 0 0 Q lq_no z S M' N 13 [some (.ref r), some (.ref fo), some (.int (nI d)), some (.int (nI k)), none] []) {k : Nat} (hk : k ≤ s.1) {Q : lq_P} (hQ : ∀ y M1, p_pt M M1 r fo t L (p_ex t L (f + 1) 3 d s) y → Q (some (.int y)) z S M1 N) : LW G YX5_readTerm (7 + 3 * (4 - d)) 0 0 Q lq_no z S M N 13 [some (.ref r), some (.ref fo), some (.int (nI d)), some (.int (nI k)), none] [] := by
  obtain ⟨m1, m2, m3, m4, m5⟩ := hP.1
  have hsk := t_sk_le (t := t) he
  have hen := t_en_le (t := t) hsk
  have hkl := t_kd_le t L (t_sk t L s.1)
  have hsgA := t_sg_01 t L s.1 42
  have hsgB := t_sg_01 t L s.1 47
  rw [p_ex, if_neg (by decide), if_neg (by decide), if_neg (by decide), if_pos rfl] at hQ
  refine qw_iload_n 3 dX5_readTerm_13 rfl rfl ?_
  refine qw_sipush (nI 800) dX5_readTerm_14 (by decide) ?_
  refine qw_icmp_geN 92 dX5_readTerm_17 (by decide) (by omega) (by omega) (fun c17 => ?_) (fun c17 => ?_)
  · refine qw_iconst (nI 1) dX5_readTerm_92 (by decide) ?_
    exact qw_ireturn rfl (by decide) dX5_readTerm_93 (hQ _ _ (by rw [if_neg (show ¬ t_sg t L s.1 42 = 1 by rw [t_sg_0 (by omega)]; decide), if_neg (show ¬ t_sg t L s.1 47 = 1 by rw [t_sg_0 (by omega)]; decide)]; exact ⟨p_fr.rf, rfl, hP⟩))
  · refine qw_aload_n 0 dX5_readTerm_20 rfl rfl ?_
    refine qw_getr fX5_12 dX5_readTerm_21 h5.1 rfl ?_
    refine qw_bipush (nI 42) dX5_readTerm_24 (by decide) ?_
    refine qw_cvp [_] (k_X7_isSign h5.2 hnb hL ht hM he hP.1 (by decide) (by decide) (by decide)) mX5_129 dX5_readTerm_26 h5.2.1 rfl rfl rfl (Nat.le_of_ble_eq_true rfl) (by omega) (by decide) rfl ?_
    refine qw_if_eqN 37 dX5_readTerm_29 (by decide) (by omega) (fun c29 => ?_) (fun c29 => ?_)
    · refine qw_bipush (-9) dX5_readTerm_37 (by decide) ?_
      refine qw_istore dX5_readTerm_39 rfl (by decide) ?_
      refine qw_iload dX5_readTerm_41 rfl ?_
      refine qw_bipush (-9) dX5_readTerm_43 (by decide) ?_
      refine qw_icmp_ne 62 dX5_readTerm_45 (by decide) (fun c45 => absurd rfl c45) (fun c45 => ?_)
      refine qw_aload_n 0 dX5_readTerm_48 rfl rfl ?_
      refine qw_getr fX5_12 dX5_readTerm_49 h5.1 rfl ?_
      refine qw_bipush (nI 47) dX5_readTerm_52 (by decide) ?_
      refine qw_cvp [_] (k_X7_isSign h5.2 hnb hL ht hM he hP.1 (by decide) (by decide) (by decide)) mX5_129 dX5_readTerm_54 h5.2.1 rfl rfl rfl (Nat.le_of_ble_eq_true rfl) (by omega) (by decide) rfl ?_
      refine qw_if_neN 62 dX5_readTerm_57 (by decide) (by omega) (fun c57 => ?_) (fun c57 => ?_)
      · rw [if_neg (show ¬ t_sg t L s.1 42 = 1 by omega), if_pos (show t_sg t L s.1 47 = 1 by omega)] at hQ
        refine qw_aload_n 0 dX5_readTerm_62 rfl rfl ?_
        refine qw_getr fX5_12 dX5_readTerm_63 h5.1 rfl ?_
        refine qw_cvv [] (k_X7_advance h5.2 (by omega) hnb hL ht hM hen m1 m4) mX5_82 dX5_readTerm_66 h5.2.1 rfl rfl rfl (Nat.le_of_ble_eq_true rfl) (by omega) (by decide) rfl (fun M1 h1 => ?_)
        obtain ⟨hP1, hfr1⟩ := hP.ad hrf h1
        obtain ⟨a1, a2⟩ := p_adv_le he (t_sg_lt (show t_sg t L s.1 47 = 1 by omega))
        have hM1 : ∀ j, j < L → M1 x j = t j := fun j hj => by rw [hfr1.1 x (by omega) (by omega) (by omega) (by omega)]; exact hM j hj
        refine qw_aload_n 0 dX5_readTerm_69 rfl rfl ?_
        refine qw_aload_n 1 dX5_readTerm_70 rfl rfl ?_
        refine qw_iload_n 2 dX5_readTerm_71 rfl rfl ?_
        refine qw_cvi [_, _] (IHs M1 (p_adv t L s) a2 (by show s.2.1 ≤ _; omega) hM1 hP1 (by omega)) mX5_136 dX5_readTerm_72 h5.1 rfl rfl rfl (Nat.le_of_ble_eq_true rfl) (by omega) (by decide) rfl (fun y2 M2 h2 => ?_)
        have hle0 := p_ex_le (t := t) (L := L) f 0 d (p_adv t L s)
        generalize p_ex t L f 0 d (p_adv t L s) = res at h2 hle0 hQ
        cases res with
        | inl xx =>
          obtain ⟨q1, q2, rfl, q4, q5⟩ := h2
          have h2 : p_pt M1 M2 r fo t L (.inl xx) (nI 0) := ⟨q1, q2, rfl, q4, q5⟩
          refine qw_if_ne 80 dX5_readTerm_75 (by decide) (fun c75 => absurd rfl c75) (fun c75 => ?_)
          refine qw_iconst (nI 0) dX5_readTerm_78 (by decide) ?_
          exact qw_ireturn rfl (by decide) dX5_readTerm_79 (hQ _ _ (p_pt.tr hfr1 h2))
        | inr s2 =>
          obtain ⟨q1, rfl, q3⟩ := h2
          have hle := hle0 s2 a2 rfl
          have hM2 : ∀ j, j < L → M2 x j = t j := fun j hj => by rw [q1.1 x (by omega) (by omega) (by omega) (by omega)]; exact hM1 j hj
          refine qw_if_ne 80 dX5_readTerm_75 (by decide) (fun c75 => ?_) (fun c75 => absurd c75 (by decide))
          refine qw_aload_n 1 dX5_readTerm_80 rfl rfl ?_
          refine qw_iload dX5_readTerm_81 rfl ?_
          rw [show (-9 : Int32) = nI 4294967287 by decide]
          refine qw_cvv [_] (k_X2_emit hF (by rw [q3.2.1]; have := hle.2.2 1 (show s.2.1 + 1 ≤ (p_adv t L s).1 by omega); have := hle.2.1; omega)) mX5_132 dX5_readTerm_83 hF.1 rfl rfl rfl (Nat.le_of_ble_eq_true rfl) (by omega) (by decide) rfl (fun M3 h3 => ?_)
          subst h3
          obtain ⟨j1, j2⟩ := q3.em (k := 5) (v := 0) hrf rfl
          refine qw_iincN 1 dX5_readTerm_86 rfl (by decide) rfl (by decide) ?_
          refine qw_goto 13 dX5_readTerm_89 (by decide) ?_
          exact qw_weak _ (by simp [lq_le]) (IHl _ (p_em 5 0 s2) (k + 1) hle.2.1 (by have := hle.2.2 1 (show s.2.1 + 1 ≤ (p_adv t L s).1 by omega); exact this) (fun j hj => by rw [j2.1 x (by omega) (by omega) (by omega) (by omega)]; exact hM2 j hj) j1 (by have := hle.1; show 4 * (L - s2.1) + 1 ≤ f; omega) (by have := hle.1; show k + 1 ≤ s2.1; omega) Q (fun y M4 h4 => hQ y M4 (p_pt.tr ((hfr1.tr q1).tr j2) h4)))
      · refine qw_iconst (nI 1) dX5_readTerm_60 (by decide) ?_
        exact qw_ireturn rfl (by decide) dX5_readTerm_61 (hQ _ _ (by rw [if_neg (show ¬ t_sg t L s.1 42 = 1 by omega), if_neg (show ¬ t_sg t L s.1 47 = 1 by omega)]; exact ⟨p_fr.rf, rfl, hP⟩))
    · refine qw_bipush (-8) dX5_readTerm_32 (by decide) ?_
      refine qw_goto 39 dX5_readTerm_34 (by decide) ?_
      refine qw_istore dX5_readTerm_39 rfl (by decide) ?_
      refine qw_iload dX5_readTerm_41 rfl ?_
      refine qw_bipush (-9) dX5_readTerm_43 (by decide) ?_
      refine qw_icmp_ne 62 dX5_readTerm_45 (by decide) (fun c45 => ?_) (fun c45 => absurd c45 (by decide))
      rw [if_pos (show t_sg t L s.1 42 = 1 by omega)] at hQ
      refine qw_aload_n 0 dX5_readTerm_62 rfl rfl ?_
      refine qw_getr fX5_12 dX5_readTerm_63 h5.1 rfl ?_
      refine qw_cvv [] (k_X7_advance h5.2 (by omega) hnb hL ht hM hen m1 m4) mX5_82 dX5_readTerm_66 h5.2.1 rfl rfl rfl (Nat.le_of_ble_eq_true rfl) (by omega) (by decide) rfl (fun M1 h1 => ?_)
      obtain ⟨hP1, hfr1⟩ := hP.ad hrf h1
      obtain ⟨a1, a2⟩ := p_adv_le he (t_sg_lt (show t_sg t L s.1 42 = 1 by omega))
      have hM1 : ∀ j, j < L → M1 x j = t j := fun j hj => by rw [hfr1.1 x (by omega) (by omega) (by omega) (by omega)]; exact hM j hj
      refine qw_aload_n 0 dX5_readTerm_69 rfl rfl ?_
      refine qw_aload_n 1 dX5_readTerm_70 rfl rfl ?_
      refine qw_iload_n 2 dX5_readTerm_71 rfl rfl ?_
      refine qw_cvi [_, _] (IHs M1 (p_adv t L s) a2 (by show s.2.1 ≤ _; omega) hM1 hP1 (by omega)) mX5_136 dX5_readTerm_72 h5.1 rfl rfl rfl (Nat.le_of_ble_eq_true rfl) (by omega) (by decide) rfl (fun y2 M2 h2 => ?_)
      have hle0 := p_ex_le (t := t) (L := L) f 0 d (p_adv t L s)
      generalize p_ex t L f 0 d (p_adv t L s) = res at h2 hle0 hQ
      cases res with
      | inl xx =>
        obtain ⟨q1, q2, rfl, q4, q5⟩ := h2
        have h2 : p_pt M1 M2 r fo t L (.inl xx) (nI 0) := ⟨q1, q2, rfl, q4, q5⟩
        refine qw_if_ne 80 dX5_readTerm_75 (by decide) (fun c75 => absurd rfl c75) (fun c75 => ?_)
        refine qw_iconst (nI 0) dX5_readTerm_78 (by decide) ?_
        exact qw_ireturn rfl (by decide) dX5_readTerm_79 (hQ _ _ (p_pt.tr hfr1 h2))
      | inr s2 =>
        obtain ⟨q1, rfl, q3⟩ := h2
        have hle := hle0 s2 a2 rfl
        have hM2 : ∀ j, j < L → M2 x j = t j := fun j hj => by rw [q1.1 x (by omega) (by omega) (by omega) (by omega)]; exact hM1 j hj
        refine qw_if_ne 80 dX5_readTerm_75 (by decide) (fun c75 => ?_) (fun c75 => absurd c75 (by decide))
        refine qw_aload_n 1 dX5_readTerm_80 rfl rfl ?_
        refine qw_iload dX5_readTerm_81 rfl ?_
        rw [show (-8 : Int32) = nI 4294967288 by decide]
        refine qw_cvv [_] (k_X2_emit hF (by rw [q3.2.1]; have := hle.2.2 1 (show s.2.1 + 1 ≤ (p_adv t L s).1 by omega); have := hle.2.1; omega)) mX5_132 dX5_readTerm_83 hF.1 rfl rfl rfl (Nat.le_of_ble_eq_true rfl) (by omega) (by decide) rfl (fun M3 h3 => ?_)
        subst h3
        obtain ⟨j1, j2⟩ := q3.em (k := 4) (v := 0) hrf rfl
        refine qw_iincN 1 dX5_readTerm_86 rfl (by decide) rfl (by decide) ?_
        refine qw_goto 13 dX5_readTerm_89 (by decide) ?_
        exact qw_weak _ (by simp [lq_le]) (IHl _ (p_em 4 0 s2) (k + 1) hle.2.1 (by have := hle.2.2 1 (show s.2.1 + 1 ≤ (p_adv t L s).1 by omega); exact this) (fun j hj => by rw [j2.1 x (by omega) (by omega) (by omega) (by omega)]; exact hM2 j hj) j1 (by have := hle.1; show 4 * (L - s2.1) + 1 ≤ f; omega) (by have := hle.1; show k + 1 ≤ s2.1; omega) Q (fun y M4 h4 => hQ y M4 (p_pt.tr ((hfr1.tr q1).tr j2) h4)))
theorem s_X5_readTerm {r x nb L fo f d : Nat} (h5 : sh5 S r x nb) (hF : sh2 S fo) (hrf : r + 1 < fo) (hxr : x < r) (hnb : nb ≤ 800) (hL : L ≤ nb) {t : Nat → Nat} (ht : ∀ j, j < L → t j < 256) {M : lq_M} {s : p_S} (he : s.1 ≤ L) (hn : s.2.1 ≤ s.1) (hM : ∀ j, j < L → M x j = t j) (hP : p_pc M r fo t L s) (hf : 4 * (L - s.1) + 2 ≤ f + 1) (IHs : ∀ (M' : lq_M) (s' : p_S), s'.1 ≤ L → s'.2.1 ≤ s'.1 → (∀ j, j < L → M' x j = t j) → p_pc M' r fo t L s' → 4 * (L - s'.1) + 1 ≤ f → LM G YX5_readFactor (6 + 3 * (4 - d)) 0 0 [.ref r, .ref fo, .int (nI d)] z S M' N (lq_mi z S N (fun y M1 => p_pt M' M1 r fo t L (p_ex t L f 0 d s') y)) lq_no) (IHl : ∀ (M' : lq_M) (s' : p_S) (k : Nat), s'.1 ≤ L → s'.2.1 ≤ s'.1 → (∀ j, j < L → M' x j = t j) → p_pc M' r fo t L s' → 4 * (L - s'.1) + 1 ≤ f → k ≤ s'.1 → ∀ (Q : lq_P), (∀ y M1, p_pt M' M1 r fo t L (p_ex t L f 3 d s') y → Q (some (.int y)) z S M1 N) → LW G YX5_readTerm (7 + 3 * (4 - d)) 0 0 Q lq_no z S M' N 13 [some (.ref r), some (.ref fo), some (.int (nI d)), some (.int (nI k)), none] []) : LM G YX5_readTerm (7 + 3 * (4 - d)) 0 0 [.ref r, .ref fo, .int (nI d)] z S M N (lq_mi z S N (fun y M1 => p_pt M M1 r fo t L (p_ex t L (f + 1) 1 d s) y)) lq_no := by
  rw [p_ex, if_neg (by decide), if_pos rfl]
  refine LM.of (by decide) rfl [some (.ref r), some (.ref fo), some (.int (nI d)), none, none] rfl (Nat.le_of_ble_eq_true rfl) ?_
  refine qw_aload_n 0 dX5_readTerm_0 rfl rfl ?_
  refine qw_aload_n 1 dX5_readTerm_1 rfl rfl ?_
  refine qw_iload_n 2 dX5_readTerm_2 rfl rfl ?_
  refine qw_cvi [_, _] (IHs M s he hn hM hP (by omega)) mX5_136 dX5_readTerm_3 h5.1 rfl rfl rfl (Nat.le_of_ble_eq_true rfl) (by omega) (by decide) rfl (fun y2 M2 h2 => ?_)
  have hle0 := p_ex_le (t := t) (L := L) f 0 d s
  generalize p_ex t L f 0 d s = res at h2 hle0 ⊢
  cases res with
  | inl xx =>
    obtain ⟨q1, q2, rfl, q4, q5⟩ := h2
    have h2 : p_pt M M2 r fo t L (.inl xx) (nI 0) := ⟨q1, q2, rfl, q4, q5⟩
    refine qw_if_ne 11 dX5_readTerm_6 (by decide) (fun c6 => absurd rfl c6) (fun c6 => ?_)
    refine qw_iconst (nI 0) dX5_readTerm_9 (by decide) ?_
    exact qw_ireturn rfl (by decide) dX5_readTerm_10 ⟨rfl, rfl, rfl, _, rfl, h2⟩
  | inr s2 =>
    obtain ⟨q1, rfl, q3⟩ := h2
    have hle := hle0 s2 he rfl
    have hM2 : ∀ j, j < L → M2 x j = t j := fun j hj => by rw [q1.1 x (by omega) (by omega) (by omega) (by omega)]; exact hM j hj
    refine qw_if_ne 11 dX5_readTerm_6 (by decide) (fun c6 => ?_) (fun c6 => absurd c6 (by decide))
    refine qw_iconst (nI 0) dX5_readTerm_11 (by decide) ?_
    refine qw_istore_n 3 dX5_readTerm_12 rfl rfl (by decide) ?_
    exact IHl M2 s2 0 hle.2.1 (hle.2.2 0 hn) hM2 q3 (by have := hle.1; omega) (Nat.zero_le _) _ (fun y M4 h4 => ⟨rfl, rfl, rfl, _, rfl, p_pt.tr q1 h4⟩)
theorem sl_X5_readSum {r x nb L fo f d : Nat} (h5 : sh5 S r x nb) (hF : sh2 S fo) (hrf : r + 1 < fo) (hxr : x < r) (hnb : nb ≤ 800) (hL : L ≤ nb) {t : Nat → Nat} (ht : ∀ j, j < L → t j < 256) {M : lq_M} {s : p_S} (he : s.1 ≤ L) (hn : s.2.1 ≤ s.1) (hM : ∀ j, j < L → M x j = t j) (hP : p_pc M r fo t L s) (hf : 4 * (L - s.1) + 1 ≤ f + 1) (IHs : ∀ (M' : lq_M) (s' : p_S), s'.1 ≤ L → s'.2.1 ≤ s'.1 → (∀ j, j < L → M' x j = t j) → p_pc M' r fo t L s' → 4 * (L - s'.1) + 2 ≤ f → LM G YX5_readTerm (7 + 3 * (4 - d)) 0 0 [.ref r, .ref fo, .int (nI d)] z S M' N (lq_mi z S N (fun y M1 => p_pt M' M1 r fo t L (p_ex t L f 1 d s') y)) lq_no) (IHl : ∀ (M' : lq_M) (s' : p_S) (k : Nat), s'.1 ≤ L → s'.2.1 ≤ s'.1 → (∀ j, j < L → M' x j = t j) → p_pc M' r fo t L s' → 4 * (L - s'.1) + 1 ≤ f → k ≤ s'.1 → ∀ (Q : lq_P), (∀ y M1, p_pt M' M1 r fo t L (p_ex t L f 4 d s') y → Q (some (.int y)) z S M1 N) → LW G YX5_readSum (8 + 3 * (4 - d)) 0 0 Q lq_no z S M' N 13 [some (.ref r), some (.ref fo), some (.int (nI d)), some (.int (nI k)), none] []) {k : Nat} (hk : k ≤ s.1) {Q : lq_P} (hQ : ∀ y M1, p_pt M M1 r fo t L (p_ex t L (f + 1) 4 d s) y → Q (some (.int y)) z S M1 N) : LW G YX5_readSum (8 + 3 * (4 - d)) 0 0 Q lq_no z S M N 13 [some (.ref r), some (.ref fo), some (.int (nI d)), some (.int (nI k)), none] [] := by
  obtain ⟨m1, m2, m3, m4, m5⟩ := hP.1
  have hsk := t_sk_le (t := t) he
  have hen := t_en_le (t := t) hsk
  have hkl := t_kd_le t L (t_sk t L s.1)
  have hsgA := t_sg_01 t L s.1 43
  have hsgB := t_sg_01 t L s.1 45
  rw [p_ex, if_neg (by decide), if_neg (by decide), if_neg (by decide), if_neg (by decide)] at hQ
  refine qw_iload_n 3 dX5_readSum_13 rfl rfl ?_
  refine qw_sipush (nI 800) dX5_readSum_14 (by decide) ?_
  refine qw_icmp_geN 92 dX5_readSum_17 (by decide) (by omega) (by omega) (fun c17 => ?_) (fun c17 => ?_)
  · refine qw_iconst (nI 1) dX5_readSum_92 (by decide) ?_
    exact qw_ireturn rfl (by decide) dX5_readSum_93 (hQ _ _ (by rw [if_neg (show ¬ t_sg t L s.1 43 = 1 by rw [t_sg_0 (by omega)]; decide), if_neg (show ¬ t_sg t L s.1 45 = 1 by rw [t_sg_0 (by omega)]; decide)]; exact ⟨p_fr.rf, rfl, hP⟩))
  · refine qw_aload_n 0 dX5_readSum_20 rfl rfl ?_
    refine qw_getr fX5_12 dX5_readSum_21 h5.1 rfl ?_
    refine qw_bipush (nI 43) dX5_readSum_24 (by decide) ?_
    refine qw_cvp [_] (k_X7_isSign h5.2 hnb hL ht hM he hP.1 (by decide) (by decide) (by decide)) mX5_129 dX5_readSum_26 h5.2.1 rfl rfl rfl (Nat.le_of_ble_eq_true rfl) (by omega) (by decide) rfl ?_
    refine qw_if_eqN 37 dX5_readSum_29 (by decide) (by omega) (fun c29 => ?_) (fun c29 => ?_)
    · refine qw_bipush (-7) dX5_readSum_37 (by decide) ?_
      refine qw_istore dX5_readSum_39 rfl (by decide) ?_
      refine qw_iload dX5_readSum_41 rfl ?_
      refine qw_bipush (-7) dX5_readSum_43 (by decide) ?_
      refine qw_icmp_ne 62 dX5_readSum_45 (by decide) (fun c45 => absurd rfl c45) (fun c45 => ?_)
      refine qw_aload_n 0 dX5_readSum_48 rfl rfl ?_
      refine qw_getr fX5_12 dX5_readSum_49 h5.1 rfl ?_
      refine qw_bipush (nI 45) dX5_readSum_52 (by decide) ?_
      refine qw_cvp [_] (k_X7_isSign h5.2 hnb hL ht hM he hP.1 (by decide) (by decide) (by decide)) mX5_129 dX5_readSum_54 h5.2.1 rfl rfl rfl (Nat.le_of_ble_eq_true rfl) (by omega) (by decide) rfl ?_
      refine qw_if_neN 62 dX5_readSum_57 (by decide) (by omega) (fun c57 => ?_) (fun c57 => ?_)
      · rw [if_neg (show ¬ t_sg t L s.1 43 = 1 by omega), if_pos (show t_sg t L s.1 45 = 1 by omega)] at hQ
        refine qw_aload_n 0 dX5_readSum_62 rfl rfl ?_
        refine qw_getr fX5_12 dX5_readSum_63 h5.1 rfl ?_
        refine qw_cvv [] (k_X7_advance h5.2 (by omega) hnb hL ht hM hen m1 m4) mX5_82 dX5_readSum_66 h5.2.1 rfl rfl rfl (Nat.le_of_ble_eq_true rfl) (by omega) (by decide) rfl (fun M1 h1 => ?_)
        obtain ⟨hP1, hfr1⟩ := hP.ad hrf h1
        obtain ⟨a1, a2⟩ := p_adv_le he (t_sg_lt (show t_sg t L s.1 45 = 1 by omega))
        have hM1 : ∀ j, j < L → M1 x j = t j := fun j hj => by rw [hfr1.1 x (by omega) (by omega) (by omega) (by omega)]; exact hM j hj
        refine qw_aload_n 0 dX5_readSum_69 rfl rfl ?_
        refine qw_aload_n 1 dX5_readSum_70 rfl rfl ?_
        refine qw_iload_n 2 dX5_readSum_71 rfl rfl ?_
        refine qw_cvi [_, _] (IHs M1 (p_adv t L s) a2 (by show s.2.1 ≤ _; omega) hM1 hP1 (by omega)) mX5_126 dX5_readSum_72 h5.1 rfl rfl rfl (Nat.le_of_ble_eq_true rfl) (by omega) (by decide) rfl (fun y2 M2 h2 => ?_)
        have hle0 := p_ex_le (t := t) (L := L) f 1 d (p_adv t L s)
        generalize p_ex t L f 1 d (p_adv t L s) = res at h2 hle0 hQ
        cases res with
        | inl xx =>
          obtain ⟨q1, q2, rfl, q4, q5⟩ := h2
          have h2 : p_pt M1 M2 r fo t L (.inl xx) (nI 0) := ⟨q1, q2, rfl, q4, q5⟩
          refine qw_if_ne 80 dX5_readSum_75 (by decide) (fun c75 => absurd rfl c75) (fun c75 => ?_)
          refine qw_iconst (nI 0) dX5_readSum_78 (by decide) ?_
          exact qw_ireturn rfl (by decide) dX5_readSum_79 (hQ _ _ (p_pt.tr hfr1 h2))
        | inr s2 =>
          obtain ⟨q1, rfl, q3⟩ := h2
          have hle := hle0 s2 a2 rfl
          have hM2 : ∀ j, j < L → M2 x j = t j := fun j hj => by rw [q1.1 x (by omega) (by omega) (by omega) (by omega)]; exact hM1 j hj
          refine qw_if_ne 80 dX5_readSum_75 (by decide) (fun c75 => ?_) (fun c75 => absurd c75 (by decide))
          refine qw_aload_n 1 dX5_readSum_80 rfl rfl ?_
          refine qw_iload dX5_readSum_81 rfl ?_
          rw [show (-7 : Int32) = nI 4294967289 by decide]
          refine qw_cvv [_] (k_X2_emit hF (by rw [q3.2.1]; have := hle.2.2 1 (show s.2.1 + 1 ≤ (p_adv t L s).1 by omega); have := hle.2.1; omega)) mX5_132 dX5_readSum_83 hF.1 rfl rfl rfl (Nat.le_of_ble_eq_true rfl) (by omega) (by decide) rfl (fun M3 h3 => ?_)
          subst h3
          obtain ⟨j1, j2⟩ := q3.em (k := 3) (v := 0) hrf rfl
          refine qw_iincN 1 dX5_readSum_86 rfl (by decide) rfl (by decide) ?_
          refine qw_goto 13 dX5_readSum_89 (by decide) ?_
          exact qw_weak _ (by simp [lq_le]) (IHl _ (p_em 3 0 s2) (k + 1) hle.2.1 (by have := hle.2.2 1 (show s.2.1 + 1 ≤ (p_adv t L s).1 by omega); exact this) (fun j hj => by rw [j2.1 x (by omega) (by omega) (by omega) (by omega)]; exact hM2 j hj) j1 (by have := hle.1; show 4 * (L - s2.1) + 1 ≤ f; omega) (by have := hle.1; show k + 1 ≤ s2.1; omega) Q (fun y M4 h4 => hQ y M4 (p_pt.tr ((hfr1.tr q1).tr j2) h4)))
      · refine qw_iconst (nI 1) dX5_readSum_60 (by decide) ?_
        exact qw_ireturn rfl (by decide) dX5_readSum_61 (hQ _ _ (by rw [if_neg (show ¬ t_sg t L s.1 43 = 1 by omega), if_neg (show ¬ t_sg t L s.1 45 = 1 by omega)]; exact ⟨p_fr.rf, rfl, hP⟩))
    · refine qw_bipush (-6) dX5_readSum_32 (by decide) ?_
      refine qw_goto 39 dX5_readSum_34 (by decide) ?_
      refine qw_istore dX5_readSum_39 rfl (by decide) ?_
      refine qw_iload dX5_readSum_41 rfl ?_
      refine qw_bipush (-7) dX5_readSum_43 (by decide) ?_
      refine qw_icmp_ne 62 dX5_readSum_45 (by decide) (fun c45 => ?_) (fun c45 => absurd c45 (by decide))
      rw [if_pos (show t_sg t L s.1 43 = 1 by omega)] at hQ
      refine qw_aload_n 0 dX5_readSum_62 rfl rfl ?_
      refine qw_getr fX5_12 dX5_readSum_63 h5.1 rfl ?_
      refine qw_cvv [] (k_X7_advance h5.2 (by omega) hnb hL ht hM hen m1 m4) mX5_82 dX5_readSum_66 h5.2.1 rfl rfl rfl (Nat.le_of_ble_eq_true rfl) (by omega) (by decide) rfl (fun M1 h1 => ?_)
      obtain ⟨hP1, hfr1⟩ := hP.ad hrf h1
      obtain ⟨a1, a2⟩ := p_adv_le he (t_sg_lt (show t_sg t L s.1 43 = 1 by omega))
      have hM1 : ∀ j, j < L → M1 x j = t j := fun j hj => by rw [hfr1.1 x (by omega) (by omega) (by omega) (by omega)]; exact hM j hj
      refine qw_aload_n 0 dX5_readSum_69 rfl rfl ?_
      refine qw_aload_n 1 dX5_readSum_70 rfl rfl ?_
      refine qw_iload_n 2 dX5_readSum_71 rfl rfl ?_
      refine qw_cvi [_, _] (IHs M1 (p_adv t L s) a2 (by show s.2.1 ≤ _; omega) hM1 hP1 (by omega)) mX5_126 dX5_readSum_72 h5.1 rfl rfl rfl (Nat.le_of_ble_eq_true rfl) (by omega) (by decide) rfl (fun y2 M2 h2 => ?_)
      have hle0 := p_ex_le (t := t) (L := L) f 1 d (p_adv t L s)
      generalize p_ex t L f 1 d (p_adv t L s) = res at h2 hle0 hQ
      cases res with
      | inl xx =>
        obtain ⟨q1, q2, rfl, q4, q5⟩ := h2
        have h2 : p_pt M1 M2 r fo t L (.inl xx) (nI 0) := ⟨q1, q2, rfl, q4, q5⟩
        refine qw_if_ne 80 dX5_readSum_75 (by decide) (fun c75 => absurd rfl c75) (fun c75 => ?_)
        refine qw_iconst (nI 0) dX5_readSum_78 (by decide) ?_
        exact qw_ireturn rfl (by decide) dX5_readSum_79 (hQ _ _ (p_pt.tr hfr1 h2))
      | inr s2 =>
        obtain ⟨q1, rfl, q3⟩ := h2
        have hle := hle0 s2 a2 rfl
        have hM2 : ∀ j, j < L → M2 x j = t j := fun j hj => by rw [q1.1 x (by omega) (by omega) (by omega) (by omega)]; exact hM1 j hj
        refine qw_if_ne 80 dX5_readSum_75 (by decide) (fun c75 => ?_) (fun c75 => absurd c75 (by decide))
        refine qw_aload_n 1 dX5_readSum_80 rfl rfl ?_
        refine qw_iload dX5_readSum_81 rfl ?_
        rw [show (-6 : Int32) = nI 4294967290 by decide]
        refine qw_cvv [_] (k_X2_emit hF (by rw [q3.2.1]; have := hle.2.2 1 (show s.2.1 + 1 ≤ (p_adv t L s).1 by omega); have := hle.2.1; omega)) mX5_132 dX5_readSum_83 hF.1 rfl rfl rfl (Nat.le_of_ble_eq_true rfl) (by omega) (by decide) rfl (fun M3 h3 => ?_)
        subst h3
        obtain ⟨j1, j2⟩ := q3.em (k := 2) (v := 0) hrf rfl
        refine qw_iincN 1 dX5_readSum_86 rfl (by decide) rfl (by decide) ?_
        refine qw_goto 13 dX5_readSum_89 (by decide) ?_
        exact qw_weak _ (by simp [lq_le]) (IHl _ (p_em 2 0 s2) (k + 1) hle.2.1 (by have := hle.2.2 1 (show s.2.1 + 1 ≤ (p_adv t L s).1 by omega); exact this) (fun j hj => by rw [j2.1 x (by omega) (by omega) (by omega) (by omega)]; exact hM2 j hj) j1 (by have := hle.1; show 4 * (L - s2.1) + 1 ≤ f; omega) (by have := hle.1; show k + 1 ≤ s2.1; omega) Q (fun y M4 h4 => hQ y M4 (p_pt.tr ((hfr1.tr q1).tr j2) h4)))
theorem s_X5_readSum {r x nb L fo f d : Nat} (h5 : sh5 S r x nb) (hF : sh2 S fo) (hrf : r + 1 < fo) (hxr : x < r) (hnb : nb ≤ 800) (hL : L ≤ nb) {t : Nat → Nat} (ht : ∀ j, j < L → t j < 256) {M : lq_M} {s : p_S} (he : s.1 ≤ L) (hn : s.2.1 ≤ s.1) (hM : ∀ j, j < L → M x j = t j) (hP : p_pc M r fo t L s) (hf : 4 * (L - s.1) + 3 ≤ f + 1) (IHs : ∀ (M' : lq_M) (s' : p_S), s'.1 ≤ L → s'.2.1 ≤ s'.1 → (∀ j, j < L → M' x j = t j) → p_pc M' r fo t L s' → 4 * (L - s'.1) + 2 ≤ f → LM G YX5_readTerm (7 + 3 * (4 - d)) 0 0 [.ref r, .ref fo, .int (nI d)] z S M' N (lq_mi z S N (fun y M1 => p_pt M' M1 r fo t L (p_ex t L f 1 d s') y)) lq_no) (IHl : ∀ (M' : lq_M) (s' : p_S) (k : Nat), s'.1 ≤ L → s'.2.1 ≤ s'.1 → (∀ j, j < L → M' x j = t j) → p_pc M' r fo t L s' → 4 * (L - s'.1) + 1 ≤ f → k ≤ s'.1 → ∀ (Q : lq_P), (∀ y M1, p_pt M' M1 r fo t L (p_ex t L f 4 d s') y → Q (some (.int y)) z S M1 N) → LW G YX5_readSum (8 + 3 * (4 - d)) 0 0 Q lq_no z S M' N 13 [some (.ref r), some (.ref fo), some (.int (nI d)), some (.int (nI k)), none] []) : LM G YX5_readSum (8 + 3 * (4 - d)) 0 0 [.ref r, .ref fo, .int (nI d)] z S M N (lq_mi z S N (fun y M1 => p_pt M M1 r fo t L (p_ex t L (f + 1) 2 d s) y)) lq_no := by
  rw [p_ex, if_neg (by decide), if_neg (by decide), if_pos rfl]
  refine LM.of (by decide) rfl [some (.ref r), some (.ref fo), some (.int (nI d)), none, none] rfl (Nat.le_of_ble_eq_true rfl) ?_
  refine qw_aload_n 0 dX5_readSum_0 rfl rfl ?_
  refine qw_aload_n 1 dX5_readSum_1 rfl rfl ?_
  refine qw_iload_n 2 dX5_readSum_2 rfl rfl ?_
  refine qw_cvi [_, _] (IHs M s he hn hM hP (by omega)) mX5_126 dX5_readSum_3 h5.1 rfl rfl rfl (Nat.le_of_ble_eq_true rfl) (by omega) (by decide) rfl (fun y2 M2 h2 => ?_)
  have hle0 := p_ex_le (t := t) (L := L) f 1 d s
  generalize p_ex t L f 1 d s = res at h2 hle0 ⊢
  cases res with
  | inl xx =>
    obtain ⟨q1, q2, rfl, q4, q5⟩ := h2
    have h2 : p_pt M M2 r fo t L (.inl xx) (nI 0) := ⟨q1, q2, rfl, q4, q5⟩
    refine qw_if_ne 11 dX5_readSum_6 (by decide) (fun c6 => absurd rfl c6) (fun c6 => ?_)
    refine qw_iconst (nI 0) dX5_readSum_9 (by decide) ?_
    exact qw_ireturn rfl (by decide) dX5_readSum_10 ⟨rfl, rfl, rfl, _, rfl, h2⟩
  | inr s2 =>
    obtain ⟨q1, rfl, q3⟩ := h2
    have hle := hle0 s2 he rfl
    have hM2 : ∀ j, j < L → M2 x j = t j := fun j hj => by rw [q1.1 x (by omega) (by omega) (by omega) (by omega)]; exact hM j hj
    refine qw_if_ne 11 dX5_readSum_6 (by decide) (fun c6 => ?_) (fun c6 => absurd c6 (by decide))
    refine qw_iconst (nI 0) dX5_readSum_11 (by decide) ?_
    refine qw_istore_n 3 dX5_readSum_12 rfl rfl (by decide) ?_
    exact IHl M2 s2 0 hle.2.1 (hle.2.2 0 hn) hM2 q3 (by have := hle.1; omega) (Nat.zero_le _) _ (fun y M4 h4 => ⟨rfl, rfl, rfl, _, rfl, p_pt.tr q1 h4⟩)
end RT
