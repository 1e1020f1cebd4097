/-! reading the whole text; load -/
theorem sh6.eqS {S S1 : lq_S} {a cap : Nat} (h : sh6 S a cap) (e : ∀ c, a ≤ c → c < a + 5 → S1 c = S c) : sh6 S1 a cap := by
  unfold sh6 at h ⊢
  rw [e a (by omega) (by omega), e (a + 1) (by omega) (by omega), e (a + 2) (by omega) (by omega), e (a + 3) (by omega) (by omega), e (a + 4) (by omega) (by omega)]
  exact h
theorem sh2.eqS {S S1 : lq_S} {a : Nat} (h : sh2 S a) (e : ∀ c, a ≤ c → c < a + 4 → S1 c = S c) : sh2 S1 a := by
  unfold sh2 at h ⊢
  rw [e a (by omega) (by omega), e (a + 1) (by omega) (by omega), e (a + 2) (by omega) (by omega), e (a + 3) (by omega) (by omega)]
  exact h
theorem sh0.eqS {S S1 : lq_S} {a : Nat} (h : sh0 S a) (e : ∀ c, a ≤ c → c < a + 6 → S1 c = S c) : sh0 S1 a := by
  refine ⟨by rw [e a (by omega) (by omega)]; exact h.1, h.2.eqS (fun c c1 c2 => e c (by omega) (by omega))⟩
theorem sh4.eqS {S S1 : lq_S} {a : Nat} {f : Nat → Option Nat} {σ : Nat → Nat} (h : sh4 S a f σ) (e : ∀ c, a ≤ c → c < a + 134 → S1 c = S c) : sh4 S1 a f σ := by
  obtain ⟨h1, h2, h3, h4, h5, h6, h7, h8, h9, h10, h11⟩ := h
  refine ⟨by rw [e a (by omega) (by omega)]; exact h1, by rw [e (a + 1) (by omega) (by omega)]; exact h2, h3, fun j hj => (h4 j hj).eqS (fun c c1 c2 => e c (by omega) (by omega)), h5, h6, by rw [e (a + 122) (by omega) (by omega)]; exact h7, by rw [e (a + 123) (by omega) (by omega)]; exact h8, by rw [e (a + 124) (by omega) (by omega)]; exact h9, h10.eqS (fun c c1 c2 => e c (by omega) (by omega)), h11.eqS (fun c c1 c2 => e c (by omega) (by omega))⟩
theorem sh3.eqS {S S1 : lq_S} {h : Nat} {F : Nat → Nat → Option Nat} {fp : Nat → Option Nat} (hh : sh3 S h F fp) (e : ∀ c, h ≤ c → c < h + 1208 → S1 c = S c) : sh3 S1 h F fp := by
  obtain ⟨h1, h2, h3, h4⟩ := hh
  exact ⟨by rw [e h (by omega) (by omega)]; exact h1, by rw [e (h + 1) (by omega) (by omega)]; exact h2, h3, fun k hk => (h4 k hk).eqS (fun c c1 c2 => e c (by omega) (by omega))⟩
theorem sh1.eqS {S S1 : lq_S} {a : Nat} {fb : Nat → Option Nat} (hh : sh1 S a fb) (e : ∀ c, a ≤ c → c < a + 260 → S1 c = S c) : sh1 S1 a fb := by
  obtain ⟨h1, h2, h3, h4, h5, h6⟩ := hh
  exact ⟨by rw [e a (by omega) (by omega)]; exact h1, by rw [e (a + 1) (by omega) (by omega)]; exact h2, by rw [e (a + 2) (by omega) (by omega)]; exact h3, h4, fun k hk => by rw [e (a + 3 + k) (by omega) (by omega)]; exact h5 k hk, by rw [e (a + 259) (by omega) (by omega)]; exact h6⟩
theorem sh8.eqS {S S1 : lq_S} {b : Nat} {F : Nat → Nat → Option Nat} {fp fb : Nat → Option Nat} (h8 : sh8 S b F fp fb) (e : ∀ c, b ≤ c → c < b + 1607 → c ≠ b + 3 → c ≠ b + 6 → S1 c = S c) : sh8 S1 b F fp fb :=
  ⟨by rw [e b (by omega) (by omega) (by omega) (by omega)]; exact h8.1, h8.2.1.eqS (fun c c1 c2 => e c (by omega) (by omega) (by omega) (by omega)), h8.2.2.1.eqS (fun c c1 c2 => e c (by omega) (by omega) (by omega) (by omega)), by rw [e (b + 1) (by omega) (by omega) (by omega) (by omega)]; exact h8.2.2.2⟩
theorem sh5.eqS {S S1 : lq_S} {r x nb : Nat} (h : sh5 S r x nb) (e1 : S1 r = S r) (e2 : S1 (r + 1) = S (r + 1)) (e3 : S1 x = S x) : sh5 S1 r x nb := ⟨by rw [e1]; exact h.1, by rw [e2]; exact h.2.1, by rw [e3]; exact h.2.2⟩
def p_fP (z : Nat) (S : lq_S) (M : lq_M) (N : lq_N) (r a x nb : Nat) (res : p_T) : lq_P := fun o z1 S1 M1 N1 => z1 = z ∧ N1 = N ∧ ∃ (y : Int32) (f1 : Nat → Option Nat) (σ1 : Nat → Nat), o = some (.int y) ∧ sh4 S1 a f1 σ1 ∧ sh5 S1 r x nb ∧ (∀ b, b ≠ a + 1 → b ≠ r + 1 → S1 b = S b) ∧ (∀ b, b ≠ r → b ≠ r + 1 → (b < a ∨ a + 134 ≤ b) → M1 b = M b) ∧ match res with
  | .inl x => y = nI 0 ∧ M1 r 1 = x.1 ∧ M1 r 2 = x.2
  | .inr s => y = nI 1 ∧ M1 r 1 = 0 ∧ M1 r 2 = 4294967295 ∧ q_pl M1 a σ1 s.2.1 s.2.2.2.2.2 s.2.2.2.2.1
section RSU
variable {G : lq_G} {z : Nat} {N : lq_N}
theorem l_X5_readSetup {r x nb L a : Nat} (hxr : x < r) (hra : r + 1 < a) (hnb : nb ≤ 800) (hL : L ≤ nb) {t : Nat → Nat} (ht : ∀ j, j < L → t j < 256) {v : Value} (hX : lq_sx G v) {S0 : lq_S} {M0 : lq_M} (hM0 : ∀ j, j < L → M0 x j = t j) {res : p_T} : ∀ (n9 k : Nat) (S : lq_S) (M : lq_M) (s : p_St) (f : Nat → Option Nat) (σ : Nat → Nat), k ≤ 800 → 800 - k < n9 → sh5 S r x nb → sh4 S a f σ → (∀ b, b ≠ a + 1 → b ≠ r + 1 → S b = S0 b) → (∀ b, b ≠ r → b ≠ r + 1 → (b < a ∨ a + 134 ≤ b) → M b = M0 b) → p_sw L s → q_tks M (r + 1) t L s.1 → q_pl M a σ s.2.1 s.2.2.2.2.2 s.2.2.2.2.1 → M r 4 = s.2.2.1 → M r 5 = s.2.2.2.1 → M r 1 = 0 → M r 2 = 4294967295 → k ≤ s.1 → res = p_lp t L (800 - k) s → LW G YX5_readSetup 22 0 0 (p_fP z S0 M0 N r a x nb res) lq_no z S M N 56 [some (.ref r), none, none, some (.ref a), some (.int (nI k))] [] := by
  intro n9
  induction n9 with
  | zero => intro _ _ _ _ _ _ _ _ _ _ _ _ _ _ _ _ _ _ _ _ _; omega
  | succ n9 ih =>
    intro k S M s f σ hk hn9 h5 hS eS hfr hs hT hR hb4 hb5 hb1 hb2 hks hres
    have hM : ∀ j, j < L → M x j = t j := fun j hj => by rw [hfr x (by omega) (by omega) (by omega)]; exact hM0 j hj
    have hkl := t_kd_le t L (t_sk t L s.1)
    refine qw_iload dX5_readSetup_56 rfl ?_
    refine qw_sipush (nI 800) dX5_readSetup_58 (by decide) ?_
    refine qw_icmp_geN 99 dX5_readSetup_61 (by decide) (by omega) (by omega) (fun c61 => ?_) (fun c61 => ?_)
    · refine qw_iconst (nI 1) dX5_readSetup_99 (by decide) ?_
      exact qw_ireturn rfl (by decide) dX5_readSetup_100 ⟨rfl, rfl, _, f, σ, rfl, hS, h5, eS, hfr, by rw [hres, show 800 - k = 0 by omega, p_lp]; exact ⟨rfl, hb1, hb2, hR⟩⟩
    · refine qw_aload_n 0 dX5_readSetup_64 rfl rfl ?_
      refine qw_getr fX5_12 dX5_readSetup_65 h5.1 rfl ?_
      refine qw_geti fX5_51 dX5_readSetup_68 h5.2.1 rfl ?_
      rw [hT.2.1]
      refine qw_if_eqN 99 dX5_readSetup_71 (by decide) (by omega) (fun c71 => ?_) (fun c71 => ?_)
      · refine qw_iconst (nI 1) dX5_readSetup_99 (by decide) ?_
        exact qw_ireturn rfl (by decide) dX5_readSetup_100 ⟨rfl, rfl, _, f, σ, rfl, hS, h5, eS, hfr, by rw [hres, show 800 - k = 800 - k - 1 + 1 by omega, p_lp, if_pos c71]; exact ⟨rfl, hb1, hb2, hR⟩⟩
      · refine qw_aload_n 0 dX5_readSetup_74 rfl rfl ?_
        refine qw_aload_n 3 dX5_readSetup_75 rfl rfl ?_
        refine qw_cvq [_] (k_X5_readStatement h5 hxr hra hnb hL ht hX hM hs hT hS hR hb4 hb5) mX5_54 dX5_readSetup_76 h5.1 rfl rfl rfl (Nat.le_of_ble_eq_true rfl) (by omega) (by decide) rfl (fun o z1 S1 M1 N1 h1 => ?_)
        obtain ⟨rfl, rfl, y, f1, σ1, rfl, hS1, eS2, hfr2, hq⟩ := h1
        have hlp : res = match p_stm t L s with | .inl x => .inl x | .inr s1 => if t_sg t L s1.1 59 = 1 then p_lp t L (800 - k - 1) (t_en t L (t_sk t L s1.1), s1.2) else .inl (4294967294, t_sk t L s1.1) := by rw [hres, show 800 - k = 800 - k - 1 + 1 by omega, p_lp, if_neg c71]; rfl
        have h51 : sh5 S1 r x nb := h5.eqS (eS2 r (by omega)) (eS2 (r + 1) (by omega)) (eS2 x (by omega))
        have eS1 : ∀ b, b ≠ a + 1 → b ≠ r + 1 → S1 b = S0 b := fun b b1 b2 => by rw [eS2 b b1]; exact eS b b1 b2
        have hfr1 : ∀ b, b ≠ r → b ≠ r + 1 → (b < a ∨ a + 134 ≤ b) → M1 b = M0 b := fun b b1 b2 b3 => by rw [hfr2 b b1 b2 b3]; exact hfr b b1 b2 b3
        have hM1 : ∀ j, j < L → M1 x j = t j := fun j hj => by rw [hfr1 x (by omega) (by omega) (by omega)]; exact hM0 j hj
        cases hr : p_stm t L s with
        | inl x0 =>
          rw [hr] at hq hlp
          have hres1 : res = .inl x0 := hlp
          obtain ⟨rfl, q1, q2⟩ := hq
          refine qw_if_eqN 91 dX5_readSetup_79 (by decide) (by omega) (fun c79 => ?_) (fun c79 => absurd rfl c79)
          refine qw_iconst (nI 0) dX5_readSetup_91 (by decide) ?_
          exact qw_ireturn rfl (by decide) dX5_readSetup_92 ⟨rfl, rfl, _, f1, σ1, rfl, hS1, h51, eS1, hfr1, by rw [hres1]; exact ⟨rfl, q1, q2⟩⟩
        | inr s1 =>
          rw [hr] at hq hlp
          have hres1 : res = if t_sg t L s1.1 59 = 1 then p_lp t L (800 - k - 1) (t_en t L (t_sk t L s1.1), s1.2) else .inl (4294967294, t_sk t L s1.1) := hlp
          obtain ⟨rfl, q2, q3, q4, q5, q6, q7⟩ := hq
          have hw1 := p_stm_w (by omega) hs hr
          have hsk1 := t_sk_le (t := t) hw1.1.1
          have hge1 := t_sk_ge t L s1.1
          refine qw_if_eqN 91 dX5_readSetup_79 (by decide) (by omega) (fun c79 => absurd c79 (by decide)) (fun c79 => ?_)
          refine qw_aload_n 0 dX5_readSetup_82 rfl rfl ?_
          refine qw_bipush (nI 59) dX5_readSetup_83 (by decide) ?_
          refine qw_cvi [_] (k_X5_takeSign (e := s1.1) (c := 59) h51 (by omega) hnb hL ht hM1 hw1.1.1 q6 (by decide) (by decide) (by decide)) mX5_47 dX5_readSetup_85 h51.1 rfl rfl rfl (Nat.le_of_ble_eq_true rfl) (by omega) (by decide) rfl (fun y3 M3 h3 => ?_)
          obtain ⟨k1, k2, k3⟩ := h3
          by_cases hsg : t_sg t L s1.1 59 = 1
          · rw [hsg] at k1
            subst k1
            obtain ⟨k3, k4⟩ := k2 hsg
            have hlt1 := t_sg_lt hsg
            have hgt1 := t_en_gt (t := t) hlt1
            refine qw_if_neN 93 dX5_readSetup_88 (by decide) (by omega) (fun c88 => ?_) (fun c88 => absurd c88 (by decide))
            refine qw_iincN 1 dX5_readSetup_93 rfl (by decide) rfl (by decide) ?_
            refine qw_goto 56 dX5_readSetup_96 (by decide) ?_
            exact ih (k + 1) S1 M3 (t_en t L (t_sk t L s1.1), s1.2) f1 σ1 (by omega) (by omega) h51 hS1 eS1 (fun b b1 b2 b3 => by rw [k4 b b2]; exact hfr1 b b1 b2 b3) ⟨t_en_le hsk1, hw1.1.2⟩ k3 (q7.eqM (fun i hi => hS1.s (by have := hw1.1.2.1.nb; omega)) (fun x x1 x2 => k4 x (by omega))) (by rw [k4 r (by omega)]; exact q4) (by rw [k4 r (by omega)]; exact q5) (by rw [k4 r (by omega), q2]; exact hb1) (by rw [k4 r (by omega), q3]; exact hb2) (by show k + 1 ≤ t_en t L (t_sk t L s1.1); omega) (by rw [hres1, if_pos hsg, show 800 - k - 1 = 800 - (k + 1) by omega])
          · have hs0 : t_sg t L s1.1 59 = 0 := by have := t_sg_01 t L s1.1 59; omega
            rw [hs0] at k1
            subst k1
            have k5 := k3 hs0
            subst k5
            refine qw_if_neN 93 dX5_readSetup_88 (by decide) (by omega) (fun c88 => absurd rfl c88) (fun c88 => ?_)
            refine qw_iconst (nI 0) dX5_readSetup_91 (by decide) ?_
            exact qw_ireturn rfl (by decide) dX5_readSetup_92 ⟨rfl, rfl, _, f1, σ1, rfl, hS1, h51, eS1, fun b b1 b2 b3 => by unfold q_fai; rw [lq_up_n _ _ _ b1, lq_up_n _ _ _ b1]; exact hfr1 b b1 b2 b3, by rw [hres1, if_neg (by omega)]; exact ⟨rfl, by unfold q_fai; rw [lq_up_c _ _ (by decide), lq_up_s], by unfold q_fai; rw [lq_up_s]; exact q6.2.2.1⟩⟩
theorem g_wf.zero : g_wf (fun _ => 0) := ⟨by decide, by decide, fun i hi => absurd hi (Nat.not_lt_zero i), fun i p hi => absurd hi (Nat.not_lt_zero i), fun i p q hi => absurd hi (Nat.not_lt_zero i), fun s _ => ⟨Nat.zero_le _, Nat.zero_le _⟩, fun a b _ _ => ⟨Nat.zero_le _, rfl⟩, fun k hk => absurd hk (Nat.not_lt_zero k), by decide⟩
theorem q_fwf_dft : q_fwf q_dft 5 := ⟨fun i hi => by rcases (show i = 0 ∨ i = 1 ∨ i = 2 ∨ i = 3 ∨ i = 4 by omega) with rfl | rfl | rfl | rfl | rfl <;> simp [q_tok, q_dft, q_hgt], by simp [q_hgt, q_dft]⟩
theorem k_X5_readSetup {S : lq_S} {x0 nb0 : Nat} {r x nb L a : Nat} (hxr : x < r) (hra : r + 1 < a) (hnb : nb ≤ 800) (hL : L ≤ nb) {t : Nat → Nat} (ht : ∀ j, j < L → t j < 256) {v : Value} (hX : lq_sx G v) (h50 : sh5 S r x0 nb0) (hx : S x = some (.inr (.inl (1, nb)))) {f : Nat → Option Nat} {σ : Nat → Nat} (hD : sh4 S a f σ) {M : lq_M} (hM : ∀ j, j < L → M x j = t j) : LM G YX5_readSetup 22 0 0 [.ref r, .ref x, .int (nI L), .ref a] z S M N (p_fP z S M N r a x nb (p_set t L)) lq_no := by
  have hS := hD
  refine LM.of (by decide) rfl [some (.ref r), some (.ref x), some (.int (nI L)), some (.ref a), none] rfl (Nat.le_of_ble_eq_true rfl) ?_
  refine qw_aload_n 3 dX5_readSetup_0 rfl rfl ?_
  refine qw_cvv [] (k_X4_clear hS (g := fun _ => 0) rfl rfl rfl rfl (fun _ _ _ => rfl)) mX5_18 dX5_readSetup_1 hS.1 rfl rfl rfl (Nat.le_of_ble_eq_true rfl) (by omega) (by decide) rfl (fun M1 h1 => ?_)
  refine qw_aload_n 0 dX5_readSetup_4 rfl rfl ?_
  refine qw_iconst (nI 0) dX5_readSetup_5 (by decide) ?_
  refine qw_puti fX5_23 dX5_readSetup_6 h50.1 rfl ?_
  refine qw_aload_n 0 dX5_readSetup_9 rfl rfl ?_
  refine qw_iconst (nI 4294967295) dX5_readSetup_10 (by decide) ?_
  refine qw_puti fX5_27 dX5_readSetup_11 h50.1 rfl ?_
  refine qw_aload_n 0 dX5_readSetup_14 rfl rfl ?_
  refine qw_iconst (nI 0) dX5_readSetup_15 (by decide) ?_
  refine qw_puti fX5_30 dX5_readSetup_16 h50.1 rfl ?_
  refine qw_aload_n 0 dX5_readSetup_19 rfl rfl ?_
  refine qw_iconst (nI 0) dX5_readSetup_20 (by decide) ?_
  refine qw_putz fX5_33 dX5_readSetup_21 h50.1 rfl (by decide) ?_
  refine qw_aload_n 0 dX5_readSetup_24 rfl rfl ?_
  refine qw_getr fX5_12 dX5_readSetup_25 h50.1 rfl ?_
  refine qw_aload_n 1 dX5_readSetup_28 rfl rfl ?_
  refine qw_iload_n 2 dX5_readSetup_29 rfl rfl ?_
  refine qw_cvq [_, _] (k_X7_begin (l := L) h50.2 (by omega) hx hnb hL ht (fun j hj => by rw [lq_up_n _ _ _ (by omega), lq_up_n _ _ _ (by omega), lq_up_n _ _ _ (by omega), lq_up_n _ _ _ (by omega), h1.2 x (by omega)]; exact hM j hj)) mX5_37 dX5_readSetup_30 h50.2.1 rfl rfl rfl (Nat.le_of_ble_eq_true rfl) (by omega) (by decide) rfl (fun o z2 S1 M2 N2 h2 => ?_)
  obtain ⟨rfl, rfl, rfl, rfl, hT0, hm2⟩ := h2
  have e9 : ∀ b, b ≠ r → (lq_up (lq_up (lq_up (lq_up M1 r 1 0) r 2 4294967295) r 4 0) r 5 0) b = M1 b := fun b hb => by rw [lq_up_n _ _ _ hb, lq_up_n _ _ _ hb, lq_up_n _ _ _ hb, lq_up_n _ _ _ hb]
  have h5 : sh5 (lq_us S (r + 1) (q_tkO x)) r x nb := ⟨by rw [lq_us_n _ _ (by omega)]; exact h50.1, lq_us_s _ _ _, by rw [lq_us_n _ _ (by omega)]; exact hx⟩
  have hS : sh4 (lq_us S (r + 1) (q_tkO x)) a f σ := hD.eqS (fun c c1 c2 => lq_us_n _ _ (by omega))
  have eS : ∀ b, b ≠ a + 1 → b ≠ r + 1 → lq_us S (r + 1) (q_tkO x) b = S b := fun b b1 b2 => lq_us_n _ _ b2
  have hfr : ∀ b, b ≠ r → b ≠ r + 1 → (b < a ∨ a + 134 ≤ b) → M2 b = M b := fun b b1 b2 b3 => by rw [hm2 b b2, e9 b b1]; exact h1.2 b b3
  have hM2 : ∀ j, j < L → M2 x j = t j := fun j hj => by rw [hfr x (by omega) (by omega) (by omega)]; exact hM j hj
  have hR2 : q_pl M2 a σ (fun _ => 0) q_dft 5 := h1.1.eqM (fun i hi => absurd hi (Nat.not_lt_zero i)) (fun x x1 x2 => by rw [hm2 x (by omega), e9 x (by omega)])
  have hj1 : M2 r 1 = 0 := by rw [hm2 r (by omega), lq_up_c _ _ (by decide), lq_up_c _ _ (by decide), lq_up_c _ _ (by decide), lq_up_s]
  have hj2 : M2 r 2 = 4294967295 := by rw [hm2 r (by omega), lq_up_c _ _ (by decide), lq_up_c _ _ (by decide), lq_up_s]
  have hj4 : M2 r 4 = 0 := by rw [hm2 r (by omega), lq_up_c _ _ (by decide), lq_up_s]
  have hj5 : M2 r 5 = 0 := by rw [hm2 r (by omega), lq_up_s]
  refine qw_aload_n 0 dX5_readSetup_33 rfl rfl ?_
  refine qw_ldcS 9 dX5_readSetup_34 rfl ?_
  refine qw_cvi [_] (k_X5_takeWord (e := 0) (i := 9) h5 (by omega) hnb hL ht hM2 (Nat.zero_le L) hT0 (by decide) hX) mX5_43 dX5_readSetup_36 h5.1 rfl rfl rfl (Nat.le_of_ble_eq_true rfl) (by omega) (by decide) rfl (fun y3 M3 h3 => ?_)
  obtain ⟨g1, g2, g3⟩ := h3
  by_cases hw0 : t_wb t L 0 9 = 0
  · rw [hw0] at g1
    subst g1
    have g5 := g3 hw0
    subst g5
    refine qw_if_eqN 51 dX5_readSetup_39 (by decide) (by omega) (fun c39 => ?_) (fun c39 => absurd rfl c39)
    refine qw_iconst (nI 0) dX5_readSetup_51 (by decide) ?_
    exact qw_ireturn rfl (by decide) dX5_readSetup_52 ⟨rfl, rfl, _, f, σ, rfl, hS, h5, eS, fun b b1 b2 b3 => by unfold q_fai; rw [lq_up_n _ _ _ b1, lq_up_n _ _ _ b1]; exact hfr b b1 b2 b3, by rw [p_set, if_pos hw0]; exact ⟨rfl, by unfold q_fai; rw [lq_up_c _ _ (by decide), lq_up_s], by unfold q_fai; rw [lq_up_s]; exact hT0.2.2.1⟩⟩
  · have hw1 : t_wb t L 0 9 = 1 := by have := t_wb_01 t L 0 9; omega
    rw [hw1] at g1
    subst g1
    obtain ⟨g3, g4⟩ := g2 hw1
    have hen0 : t_en t L (t_sk t L 0) ≤ L := t_en_le (t_sk_le (Nat.zero_le L))
    refine qw_if_eqN 51 dX5_readSetup_39 (by decide) (by omega) (fun c39 => absurd c39 (by decide)) (fun c39 => ?_)
    refine qw_aload_n 0 dX5_readSetup_42 rfl rfl ?_
    refine qw_bipush (nI 59) dX5_readSetup_43 (by decide) ?_
    refine qw_cvi [_] (k_X5_takeSign (e := t_en t L (t_sk t L 0)) (c := 59) h5 (by omega) hnb hL ht (fun j hj => by rw [g4 x (by omega)]; exact hM2 j hj) hen0 g3 (by decide) (by decide) (by decide)) mX5_47 dX5_readSetup_45 h5.1 rfl rfl rfl (Nat.le_of_ble_eq_true rfl) (by omega) (by decide) rfl (fun y4 M4 h4 => ?_)
    obtain ⟨k1, k2, k3⟩ := h4
    by_cases hsg : t_sg t L (t_en t L (t_sk t L 0)) 59 ≠ 1
    · have hs0 : t_sg t L (t_en t L (t_sk t L 0)) 59 = 0 := by have := t_sg_01 t L (t_en t L (t_sk t L 0)) 59; omega
      rw [hs0] at k1
      subst k1
      have k5 := k3 hs0
      subst k5
      refine qw_if_neN 53 dX5_readSetup_48 (by decide) (by omega) (fun c48 => absurd rfl c48) (fun c48 => ?_)
      refine qw_iconst (nI 0) dX5_readSetup_51 (by decide) ?_
      exact qw_ireturn rfl (by decide) dX5_readSetup_52 ⟨rfl, rfl, _, f, σ, rfl, hS, h5, eS, fun b b1 b2 b3 => by unfold q_fai; rw [lq_up_n _ _ _ b1, lq_up_n _ _ _ b1, g4 b b2]; exact hfr b b1 b2 b3, by rw [p_set, if_neg (by omega), if_pos hsg]; exact ⟨rfl, by unfold q_fai; rw [lq_up_c _ _ (by decide), lq_up_s], by unfold q_fai; rw [lq_up_s]; exact g3.2.2.1⟩⟩
    · have hsg : t_sg t L (t_en t L (t_sk t L 0)) 59 = 1 := by omega
      rw [hsg] at k1
      subst k1
      obtain ⟨k3, k4⟩ := k2 hsg
      refine qw_if_neN 53 dX5_readSetup_48 (by decide) (by omega) (fun c48 => ?_) (fun c48 => absurd c48 (by decide))
      refine qw_iconst (nI 0) dX5_readSetup_53 (by decide) ?_
      refine qw_istore dX5_readSetup_54 rfl (by decide) ?_
      refine qw_weak _ (by simp [lq_le]) (l_X5_readSetup hxr hra hnb hL ht hX (S0 := S) (M0 := M) hM 801 0 _ M4 (t_en t L (t_sk t L (t_en t L (t_sk t L 0))), (fun _ => 0), 0, 0, 5, q_dft) f σ (by decide) (by decide) h5 hS eS (fun b b1 b2 b3 => by rw [k4 b b2, g4 b b2]; exact hfr b b1 b2 b3) ⟨t_en_le (t_sk_le hen0), g_wf.zero, rfl, Nat.zero_le _, Nat.zero_le _, q_fwf_dft, (show 5 ≤ 800 from by decide)⟩ k3 ((hR2.eqM (fun i hi => absurd hi (Nat.not_lt_zero i)) (fun x x1 x2 => by rw [k4 x (by omega), g4 x (by omega)]))) ?_ ?_ ?_ ?_ (Nat.zero_le _) (by rw [p_set, if_neg (by omega), if_neg (fun q => q hsg)]))
      · rw [k4 r (by omega), g4 r (by omega)]; exact hj4
      · rw [k4 r (by omega), g4 r (by omega)]; exact hj5
      · rw [k4 r (by omega), g4 r (by omega)]; exact hj1
      · rw [k4 r (by omega), g4 r (by omega)]; exact hj2
end RSU
