/-! reading a factor -/
def p_pc (M : lq_M) (r fo : Nat) (t : Nat → Nat) (L : Nat) (s : p_S) : Prop := q_tks M (r + 1) t L s.1 ∧ M fo 1 = s.2.1 ∧ ∀ j, j < s.2.1 → M (fo + 1) j = q_enc (s.2.2 j)
def p_fr (M M1 : lq_M) (r fo : Nat) : Prop := (∀ b, b ≠ r → b ≠ r + 1 → b ≠ fo → b ≠ fo + 1 → M1 b = M b) ∧ ∀ j, j ≠ 3 → M1 r j = M r j
theorem p_fr.rf {M : lq_M} {r fo : Nat} : p_fr M M r fo := ⟨fun _ _ _ _ _ => rfl, fun _ _ => rfl⟩
theorem p_fr.tr {M M1 M2 : lq_M} {r fo : Nat} (h : p_fr M M1 r fo) (h2 : p_fr M1 M2 r fo) : p_fr M M2 r fo := ⟨fun b b1 b2 b3 b4 => (h2.1 b b1 b2 b3 b4).trans (h.1 b b1 b2 b3 b4), fun j hj => (h2.2 j hj).trans (h.2 j hj)⟩
def p_pt (M M1 : lq_M) (r fo : Nat) (t : Nat → Nat) (L : Nat) (res : p_R) (y : Int32) : Prop := match res with
  | .inl x => (∀ b, b ≠ r → b ≠ r + 1 → b ≠ fo → b ≠ fo + 1 → M1 b = M b) ∧ (∀ j, j ≠ 1 → j ≠ 2 → j ≠ 3 → M1 r j = M r j) ∧ y = nI 0 ∧ M1 r 1 = x.1 ∧ M1 r 2 = x.2
  | .inr s => p_fr M M1 r fo ∧ y = nI 1 ∧ p_pc M1 r fo t L s
theorem p_pt.tr {M M0 M1 : lq_M} {r fo : Nat} {t : Nat → Nat} {L : Nat} {res : p_R} {y : Int32} (h : p_fr M M0 r fo) (h2 : p_pt M0 M1 r fo t L res y) : p_pt M M1 r fo t L res y := by
  cases res with
  | inl x =>
    obtain ⟨a1, a2, a3, a4, a5⟩ := h2
    exact ⟨fun b b1 b2 b3 b4 => (a1 b b1 b2 b3 b4).trans (h.1 b b1 b2 b3 b4), fun j j1 j2 j3 => (a2 j j1 j2 j3).trans (h.2 j j3), a3, a4, a5⟩
  | inr s => exact ⟨h.tr h2.1, h2.2⟩
theorem p_pt_err {M : lq_M} {r fo : Nat} {t : Nat → Nat} {L c : Nat} {s : p_S} (h : q_tks M (r + 1) t L s.1) : p_pt M (q_fai M r (4294967296 - c)) r fo t L (p_err t L c s) (nI 0) := by
  refine ⟨fun b b1 _ _ _ => ?_, fun j j1 j2 _ => ?_, rfl, ?_, ?_⟩
  · unfold q_fai; rw [lq_up_n _ _ _ b1, lq_up_n _ _ _ b1]
  · unfold q_fai; rw [lq_up_c _ _ j2, lq_up_c _ _ j1]
  · unfold q_fai; rw [lq_up_c _ _ (by decide), lq_up_s]
  · unfold q_fai; rw [lq_up_s]; exact h.2.2.1
theorem p_pc.em {M : lq_M} {r fo k v c : Nat} {t : Nat → Nat} {L : Nat} {s : p_S} (hrf : r + 1 < fo) (h : p_pc M r fo t L s) (hc : c = q_enc (k, v)) : p_pc (q_emd M fo c) r fo t L (p_em k v s) ∧ p_fr M (q_emd M fo c) r fo := by
  obtain ⟨h1, h2, h3⟩ := h
  have en : ∀ b, b ≠ fo → b ≠ fo + 1 → q_emd M fo c b = M b := fun b b1 b2 => by unfold q_emd; rw [lq_up_n _ _ _ b1, lq_up_n _ _ _ b2]
  refine ⟨⟨?_, ?_, fun j hj => ?_⟩, fun b _ _ b3 b4 => en b b3 b4, fun j _ => by rw [en r (by omega) (by omega)]⟩
  · unfold q_tks
    rw [en (r + 1) (by omega) (by omega)]
    exact h1
  · unfold q_emd; rw [lq_up_s, h2]; rfl
  · have hj : j < s.2.1 + 1 := hj
    unfold q_emd
    rw [lq_up_n _ _ _ (by omega), h2]
    show _ = q_enc (if j = s.2.1 then (k, v) else s.2.2 j)
    by_cases e : j = s.2.1
    · rw [if_pos e, e, lq_up_s, hc]
    · rw [if_neg e, lq_up_c _ _ e]
      exact h3 j (by omega)
theorem p_pc.ad {M M1 : lq_M} {r fo : Nat} {t : Nat → Nat} {L : Nat} {s : p_S} (hrf : r + 1 < fo) (h : p_pc M r fo t L s) (h1 : q_tks M1 (r + 1) t L (t_en t L (t_sk t L s.1)) ∧ ∀ b, b ≠ r + 1 → M1 b = M b) : p_pc M1 r fo t L (p_adv t L s) ∧ p_fr M M1 r fo := by
  refine ⟨⟨h1.1, ?_, fun j hj => ?_⟩, fun b _ b2 _ _ => h1.2 b b2, fun j _ => by rw [h1.2 r (by omega)]⟩
  · rw [h1.2 fo (by omega)]; exact h.2.1
  · rw [h1.2 (fo + 1) (by omega)]; exact h.2.2 j hj
theorem q_ncw : ∀ k : Fin 6, k.1 ≠ 0 → -nI k.1 = nI (4294967296 - k.1) ∧ ¬ -nI k.1 = 0 := by decide +kernel
section RF
variable {G : lq_G} {z : Nat} {S : lq_S} {N : lq_N}
theorem s_X5_readFactor {r x nb L fo f d : Nat} (h5 : sh5 S r x nb) (hF : sh2 S fo) (hrf : r + 1 < fo) (hxr : x < r) (hnb : nb ≤ 800) (hL : L ≤ nb) {t : Nat → Nat} (ht : ∀ j, j < L → t j < 256) {v : Value} (hX : lq_sx G v) (hd : d ≤ 4) {M : lq_M} {s : p_S} (he : s.1 ≤ L) (hn : s.2.1 ≤ s.1) (hM : ∀ j, j < L → M x j = t j) (hP : p_pc M r fo t L s) (hf : 4 * (L - s.1) + 1 ≤ f + 1) (IH : d < 4 → ∀ (M' : lq_M) (s' : p_S), s'.1 ≤ L → s'.2.1 ≤ s'.1 → (∀ j, j < L → M' x j = t j) → p_pc M' r fo t L s' → 4 * (L - s'.1) + 3 ≤ f → LM G YX5_readSum (8 + 3 * (4 - (d + 1))) 0 0 [.ref r, .ref fo, .int (nI (d + 1))] z S M' N (lq_mi z S N (fun y M1 => p_pt M' M1 r fo t L (p_ex t L f 2 (d + 1) s') y)) lq_no) : LM G YX5_readFactor (6 + 3 * (4 - d)) 0 0 [.ref r, .ref fo, .int (nI d)] z S M N (lq_mi z S N (fun y M1 => p_pt M M1 r fo t L (p_ex t L (f + 1) 0 d s) y)) lq_no := by
  obtain ⟨m1, m2, m3, m4, m5⟩ := hP.1
  have hsk := t_sk_le (t := t) he
  have hen := t_en_le (t := t) hsk
  have hkl := t_kd_le t L (t_sk t L s.1)
  have hsg := t_sg_01 t L s.1 40
  rw [p_ex, if_pos rfl]
  refine LM.of (by decide) rfl [some (.ref r), some (.ref fo), some (.int (nI d)), none] rfl (Nat.le_of_ble_eq_true rfl) ?_
  refine qw_aload_n 0 dX5_readFactor_0 rfl rfl ?_
  refine qw_getr fX5_12 dX5_readFactor_1 h5.1 rfl ?_
  refine qw_bipush (nI 40) dX5_readFactor_4 (by decide) ?_
  refine qw_cvp [_] (k_X7_isSign h5.2 hnb hL ht hM he hP.1 (by decide) (by decide) (by decide)) mX5_129 dX5_readFactor_6 h5.2.1 rfl rfl rfl (Nat.le_of_ble_eq_true rfl) (by omega) (by decide) rfl ?_
  refine qw_if_eqN 57 dX5_readFactor_9 (by decide) (by omega) (fun c9 => ?_) (fun c9 => ?_)
  · rw [if_neg (show ¬ t_sg t L s.1 40 = 1 by omega)]
    refine qw_aload_n 0 dX5_readFactor_57 rfl rfl ?_
    refine qw_getr fX5_12 dX5_readFactor_58 h5.1 rfl ?_
    refine qw_geti fX5_51 dX5_readFactor_61 h5.2.1 rfl ?_
    rw [m2]
    refine qw_iconst (nI 2) dX5_readFactor_64 (by decide) ?_
    refine qw_icmp_neN 91 dX5_readFactor_65 (by decide) (by omega) (by omega) (fun c65 => ?_) (fun c65 => ?_)
    · rw [if_neg c65]
      refine qw_aload_n 0 dX5_readFactor_91 rfl rfl ?_
      refine qw_cvp [] (k_X5_codeOfWord h5 (by omega) hnb hL ht hM he hP.1 hX) mX5_139 dX5_readFactor_92 h5.1 rfl rfl rfl (Nat.le_of_ble_eq_true rfl) (by omega) (by decide) rfl ?_
      refine qw_istore_n 3 dX5_readFactor_95 rfl rfl (by decide) ?_
      by_cases hc0 : t_cw t L s.1 = 0
      · rw [if_pos hc0, hc0]
        refine qw_iload_n 3 dX5_readFactor_96 rfl rfl ?_
        refine qw_if_ne 107 dX5_readFactor_97 (by decide) (fun c97 => absurd rfl c97) (fun c97 => ?_)
        refine qw_aload_n 0 dX5_readFactor_100 rfl rfl ?_
        refine qw_bipush (-2) dX5_readFactor_101 (by decide) ?_
        rw [show (-2 : Int32) = nI 4294967294 by decide]
        refine qw_cvi [_] (k_X5_fail h5) mX5_78 dX5_readFactor_103 h5.1 rfl rfl rfl (Nat.le_of_ble_eq_true rfl) (by omega) (by decide) rfl (fun y0 M1 h1 => ?_)
        obtain ⟨rfl, rfl⟩ := h1
        exact qw_ireturn rfl (by decide) dX5_readFactor_106 ⟨rfl, rfl, rfl, _, rfl, p_pt_err (c := 2) hP.1⟩
      · rw [if_neg hc0]
        have hcw := q_ncw ⟨t_cw t L s.1, Nat.lt_succ_of_le (t_cw_le t L s.1)⟩ hc0
        have hcw : -nI (t_cw t L s.1) = nI (4294967296 - t_cw t L s.1) ∧ ¬ -nI (t_cw t L s.1) = 0 := hcw
        have hlt := t_cw_lt he hc0
        refine qw_iload_n 3 dX5_readFactor_96 rfl rfl ?_
        refine qw_if_ne 107 dX5_readFactor_97 (by decide) (fun c97 => ?_) (fun c97 => absurd c97 hcw.2)
        rw [hcw.1]
        refine qw_aload_n 0 dX5_readFactor_107 rfl rfl ?_
        refine qw_getr fX5_12 dX5_readFactor_108 h5.1 rfl ?_
        refine qw_cvv [] (k_X7_advance h5.2 (by omega) hnb hL ht hM hen m1 m4) mX5_82 dX5_readFactor_111 h5.2.1 rfl rfl rfl (Nat.le_of_ble_eq_true rfl) (by omega) (by decide) rfl (fun M1 h1 => ?_)
        obtain ⟨hP1, hfr1⟩ := hP.ad hrf h1
        refine qw_aload_n 1 dX5_readFactor_114 rfl rfl ?_
        refine qw_iload_n 3 dX5_readFactor_115 rfl rfl ?_
        refine qw_cvv [_] (k_X2_emit hF (by rw [hP1.2.1]; show s.2.1 < 800; have := p_adv_le he hlt; omega)) mX5_132 dX5_readFactor_116 hF.1 rfl rfl rfl (Nat.le_of_ble_eq_true rfl) (by omega) (by decide) rfl (fun M2 h2 => ?_)
        subst h2
        obtain ⟨j1, j2⟩ := hP1.em (k := 1) (v := t_cw t L s.1 - 1) (c := 4294967296 - t_cw t L s.1) hrf (by show _ = if (1 : Nat) = 0 then _ else if (1 : Nat) = 1 then _ else _; rw [if_neg (by decide), if_pos rfl]; show _ = 4294967295 - (t_cw t L s.1 - 1); omega)
        refine qw_iconst (nI 1) dX5_readFactor_119 (by decide) ?_
        exact qw_ireturn rfl (by decide) dX5_readFactor_120 ⟨rfl, rfl, rfl, _, rfl, hfr1.tr j2, rfl, j1⟩
    · rw [if_pos c65]
      refine qw_aload_n 0 dX5_readFactor_68 rfl rfl ?_
      refine qw_iconst (nI 0) dX5_readFactor_69 (by decide) ?_
      refine qw_sipush (nI 9999) dX5_readFactor_70 (by decide) ?_
      refine qw_cvi [_, _] (k_X5_takeNumber (lo := 0) (hi := 9999) h5 (by omega) hnb hL ht hM he hP.1 (by omega) (by decide) (by decide)) mX5_99 dX5_readFactor_73 h5.1 rfl rfl rfl (Nat.le_of_ble_eq_true rfl) (by omega) (by decide) rfl (fun y1 M1 h1 => ?_)
      have hlt := t_kd_lt (t := t) hsk (by rw [c65]; decide)
      rcases h1 with ⟨k1, rfl, k3, k4, k5, k6⟩ | ⟨k1, -, -⟩ | ⟨k1, rfl, rfl⟩
      · have hv : ¬ 9999 < t_vc t L (t_sk t L s.1) 0 := fun q => by
          rw [t_nm, if_neg (fun w => w c65), if_pos (Or.inr q)] at k1
          exact absurd k1 (by decide)
        rw [if_neg hv]
        have hP1 : p_pc M1 r fo t L (p_adv t L s) := ⟨k5, by rw [k6 fo (by omega) (by omega)]; exact hP.2.1, fun j hj => by rw [k6 (fo + 1) (by omega) (by omega)]; exact hP.2.2 j hj⟩
        have hfr1 : p_fr M M1 r fo := ⟨fun b b1 b2 _ _ => k6 b b1 b2, k4⟩
        refine qw_if_ne 81 dX5_readFactor_76 (by decide) (fun c76 => ?_) (fun c76 => absurd c76 (by decide))
        refine qw_aload_n 1 dX5_readFactor_81 rfl rfl ?_
        refine qw_aload_n 0 dX5_readFactor_82 rfl rfl ?_
        refine qw_geti fX5_103 dX5_readFactor_83 h5.1 rfl ?_
        rw [k3]
        refine qw_cvv [_] (k_X2_emit hF (by rw [hP1.2.1]; show s.2.1 < 800; have := p_adv_le he hlt; omega)) mX5_132 dX5_readFactor_86 hF.1 rfl rfl rfl (Nat.le_of_ble_eq_true rfl) (by omega) (by decide) rfl (fun M2 h2 => ?_)
        subst h2
        obtain ⟨j1, j2⟩ := hP1.em (k := 0) (v := t_vc t L (t_sk t L s.1) 0) hrf rfl
        refine qw_iconst (nI 1) dX5_readFactor_89 (by decide) ?_
        exact qw_ireturn rfl (by decide) dX5_readFactor_90 ⟨rfl, rfl, rfl, _, rfl, hfr1.tr j2, rfl, j1⟩
      · exfalso
        rw [t_nm, if_neg (fun w => w c65)] at k1
        split at k1 <;> exact absurd k1 (by decide)
      · have hv : 9999 < t_vc t L (t_sk t L s.1) 0 := by
          rw [t_nm, if_neg (fun w => w c65)] at k1
          by_cases q : t_vc t L (t_sk t L s.1) 0 < 0 ∨ 9999 < t_vc t L (t_sk t L s.1) 0
          · omega
          · rw [if_neg q] at k1; exact absurd k1 (by decide)
        rw [if_pos hv]
        refine qw_if_ne 81 dX5_readFactor_76 (by decide) (fun c76 => absurd (by decide) c76) (fun c76 => ?_)
        refine qw_iconst (nI 0) dX5_readFactor_79 (by decide) ?_
        exact qw_ireturn rfl (by decide) dX5_readFactor_80 ⟨rfl, rfl, rfl, _, rfl, p_pt_err (c := 3) hP.1⟩
  · refine qw_iload_n 2 dX5_readFactor_12 rfl rfl ?_
    refine qw_iconst (nI 4) dX5_readFactor_13 (by decide) ?_
    refine qw_icmp_ltN 24 dX5_readFactor_14 (by decide) (by omega) (by omega) (fun c14 => ?_) (fun c14 => ?_)
    · rw [if_pos (show t_sg t L s.1 40 = 1 by omega), if_neg (by omega)]
      refine qw_aload_n 0 dX5_readFactor_24 rfl rfl ?_
      refine qw_getr fX5_12 dX5_readFactor_25 h5.1 rfl ?_
      refine qw_cvv [] (k_X7_advance h5.2 (by omega) hnb hL ht hM hen m1 m4) mX5_82 dX5_readFactor_28 h5.2.1 rfl rfl rfl (Nat.le_of_ble_eq_true rfl) (by omega) (by decide) rfl (fun M1 h1 => ?_)
      obtain ⟨hP1, hfr1⟩ := hP.ad hrf h1
      obtain ⟨a1, a2⟩ := p_adv_le he (t_sg_lt (show t_sg t L s.1 40 = 1 by omega))
      have hM1 : ∀ j, j < L → M1 x j = t j := fun j hj => by rw [hfr1.1 x (by omega) (by omega) (by omega) (by omega)]; exact hM j hj
      refine qw_aload_n 0 dX5_readFactor_31 rfl rfl ?_
      refine qw_aload_n 1 dX5_readFactor_32 rfl rfl ?_
      refine qw_iload_n 2 dX5_readFactor_33 rfl rfl ?_
      refine qw_iconst (nI 1) dX5_readFactor_34 (by decide) ?_
      refine qw_addN dX5_readFactor_35 ?_
      refine qw_cvi [_, _] (IH (by omega) M1 (p_adv t L s) a2 (by show s.2.1 ≤ _; omega) hM1 hP1 (by omega)) mX5_92 dX5_readFactor_36 h5.1 rfl rfl rfl (Nat.le_of_ble_eq_true rfl) (by omega) (by decide) rfl (fun y2 M2 h2 => ?_)
      have hle0 := p_ex_le (t := t) (L := L) f 2 (d + 1) (p_adv t L s)
      generalize p_ex t L f 2 (d + 1) (p_adv t L s) = res at h2 hle0 ⊢
      cases res with
      | inl xx =>
        obtain ⟨q1, q2, rfl, q4, q5⟩ := h2
        have h2 : p_pt M1 M2 r fo t L (.inl xx) (nI 0) := ⟨q1, q2, rfl, q4, q5⟩
        refine qw_if_eq 55 dX5_readFactor_39 (by decide) (fun c39 => ?_) (fun c39 => absurd (by decide) c39)
        refine qw_iconst (nI 0) dX5_readFactor_55 (by decide) ?_
        exact qw_ireturn rfl (by decide) dX5_readFactor_56 ⟨rfl, rfl, rfl, _, rfl, p_pt.tr hfr1 h2⟩
      | inr s2 =>
        obtain ⟨q1, rfl, q3⟩ := h2
        have hle := hle0 s2 a2 rfl
        have hM2 : ∀ j, j < L → M2 x j = t j := fun j hj => by rw [q1.1 x (by omega) (by omega) (by omega) (by omega)]; exact hM1 j hj
        show LW _ _ _ _ _ (lq_mi z S N (fun y M1 => p_pt M M1 r fo t L (if t_sg t L s2.1 41 = 1 then .inr (p_adv t L s2) else p_err t L 2 s2) y)) _ _ _ _ _ _ _ _
        refine qw_if_eq 55 dX5_readFactor_39 (by decide) (fun c39 => absurd c39 (by decide)) (fun c39 => ?_)
        refine qw_aload_n 0 dX5_readFactor_42 rfl rfl ?_
        refine qw_bipush (nI 41) dX5_readFactor_43 (by decide) ?_
        refine qw_cvi [_] (k_X5_takeSign h5 (by omega) hnb hL ht hM2 hle.2.1 q3.1 (by decide) (by decide) (by decide)) mX5_47 dX5_readFactor_45 h5.1 rfl rfl rfl (Nat.le_of_ble_eq_true rfl) (by omega) (by decide) rfl (fun y3 M3 h3 => ?_)
        obtain ⟨rfl, g1, g0⟩ := h3
        have hsg2 := t_sg_01 t L s2.1 41
        refine qw_if_eqN 55 dX5_readFactor_48 (by decide) (by omega) (fun c48 => ?_) (fun c48 => ?_)
        · refine qw_iconst (nI 0) dX5_readFactor_55 (by decide) ?_
          exact qw_ireturn rfl (by decide) dX5_readFactor_56 ⟨rfl, rfl, rfl, _, rfl, by rw [if_neg (by omega), g0 (by omega)]; exact p_pt.tr (hfr1.tr q1) (p_pt_err (c := 2) q3.1)⟩
        · refine qw_iconst (nI 1) dX5_readFactor_51 (by decide) ?_
          refine qw_goto 56 dX5_readFactor_52 (by decide) ?_
          exact qw_ireturn rfl (by decide) dX5_readFactor_56 ⟨rfl, rfl, rfl, _, rfl, by
            rw [if_pos (show t_sg t L s2.1 41 = 1 by omega)]
            obtain ⟨k1, k2⟩ := q3.ad hrf (g1 (by omega))
            exact ⟨(hfr1.tr q1).tr k2, rfl, k1⟩⟩
    · rw [if_pos (show t_sg t L s.1 40 = 1 by omega), if_pos (by omega)]
      refine qw_aload_n 0 dX5_readFactor_17 rfl rfl ?_
      refine qw_bipush (-5) dX5_readFactor_18 (by decide) ?_
      rw [show (-5 : Int32) = nI 4294967291 by decide]
      refine qw_cvi [_] (k_X5_fail h5) mX5_78 dX5_readFactor_20 h5.1 rfl rfl rfl (Nat.le_of_ble_eq_true rfl) (by omega) (by decide) rfl (fun y0 M1 h1 => ?_)
      obtain ⟨rfl, rfl⟩ := h1
      exact qw_ireturn rfl (by decide) dX5_readFactor_23 ⟨rfl, rfl, rfl, _, rfl, p_pt_err (c := 5) hP.1⟩
end RF
