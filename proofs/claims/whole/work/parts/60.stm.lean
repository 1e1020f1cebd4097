/-! reading a statement, the whole text -/
abbrev p_St : Type := Nat × (Nat → Nat) × Nat × Nat × Nat × (Nat → Nat × Nat)
abbrev p_T : Type := (Nat × Nat) ⊕ p_St
noncomputable def p_stm (t : Nat → Nat) (L : Nat) (s : p_St) : p_T :=
  if t_wb t L s.1 10 ≠ 0 then (match p_brk t L s.2.1 s.1 with | .inl x => .inl x | .inr x => .inr (x.1, x.2, s.2.2))
  else if t_wb t L s.1 11 ≠ 0 then (match p_spo t L s.2.1 s.1 with | .inl x => .inl x | .inr x => .inr (x.1, x.2, s.2.2))
  else if t_wb t L s.1 12 ≠ 0 then (match p_ban t L s.2.1 s.2.2.1 s.1 with | .inl x => .inl x | .inr x => .inr (x.1, x.2, s.2.2.1 + 1, s.2.2.2))
  else if t_wb t L s.1 13 = 0 ∨ s.2.2.2.1 ≠ 0 then .inl (4294967294, t_sk t L s.1)
  else match p_ex t L 3203 2 0 (t_en t L (t_sk t L s.1), 0, s.2.2.2.2.2) with | .inl x => .inl x | .inr q => .inr (q.1, s.2.1, s.2.2.1, 1, q.2.1, q.2.2)
/-- the state of a text that is being read is well-formed -/
def p_sw (L : Nat) (s : p_St) : Prop := s.1 ≤ L ∧ g_wf s.2.1 ∧ s.2.1 5 = 0 ∧ s.2.2.1 ≤ 10 ∧ s.2.2.2.1 ≤ 1 ∧ q_fwf s.2.2.2.2.2 s.2.2.2.2.1 ∧ s.2.2.2.2.1 ≤ 800
theorem p_brk_r {t : Nat → Nat} {L e : Nat} {g : Nat → Nat} {x : Nat × (Nat → Nat)} (he : t_en t L (t_sk t L e) ≤ L) (h : p_brk t L g e = .inr x) : g 0 < 20 ∧ ∃ dd hh ll uu, dd ≤ 6 ∧ hh ≤ 23 ∧ ll ≤ 300 ∧ uu ≤ 999 ∧ x.2 = g_abk g (g_abp g dd hh (g 0)) dd hh ll uu ∧ t_en t L (t_sk t L e) < x.1 ∧ x.1 ≤ L := by
  unfold p_brk at h
  by_cases c : 20 ≤ g 0
  · rw [if_pos c] at h; exact absurd h (by simp)
  · rw [if_neg c] at h
    refine ⟨by omega, ?_⟩
    cases h1 : p_nu t L 0 6 (t_en t L (t_sk t L e)) with
    | inl y => rw [h1] at h; exact absurd h (by simp)
    | inr d =>
      rw [h1] at h
      dsimp only at h
      have i1 := p_nu_inr he h1
      cases h2 : p_nu t L 0 23 d.2 with
      | inl y => rw [h2] at h; exact absurd h (by simp)
      | inr hh =>
        rw [h2] at h
        dsimp only at h
        have i2 := p_nu_inr i1.2.2.2.2.2 h2
        by_cases q : g_dup g d.1 hh.1
        · rw [if_pos q] at h; exact absurd h (by simp)
        · rw [if_neg q] at h
          cases h3 : p_nu t L 10 300 hh.2 with
          | inl y => rw [h3] at h; exact absurd h (by simp)
          | inr l =>
            rw [h3] at h
            dsimp only at h
            have i3 := p_nu_inr i2.2.2.2.2.2 h3
            cases h4 : p_nu t L 0 999 l.2 with
            | inl y => rw [h4] at h; exact absurd h (by simp)
            | inr u =>
              rw [h4] at h
              have i4 := p_nu_inr i3.2.2.2.2.2 h4
              have hx : (u.2, g_abk g (g_abp g d.1 hh.1 (g 0)) d.1 hh.1 l.1 u.1) = x := by simpa using h
              subst hx
              exact ⟨d.1, hh.1, l.1, u.1, i1.2.2.2.1, i2.2.2.2.1, i3.2.2.2.1, i4.2.2.2.1, rfl, by show _ < u.2; omega, i4.2.2.2.2.2⟩
theorem p_two_r {t : Nat → Nat} {L e l1 h1 l2 h2 : Nat} {k : Nat → Nat → Nat → Nat} {x : Nat × (Nat → Nat)} (he : t_en t L (t_sk t L e) ≤ L) (h : p_two t L l1 h1 l2 h2 e k = .inr x) : ∃ c p, c ≤ h1 ∧ p ≤ h2 ∧ x.2 = k c p ∧ t_en t L (t_sk t L e) < x.1 ∧ x.1 ≤ L := by
  unfold p_two at h
  cases r1 : p_nu t L l1 h1 (t_en t L (t_sk t L e)) with
  | inl y => rw [r1] at h; exact absurd h (by simp)
  | inr d =>
    rw [r1] at h
    dsimp only at h
    have i1 := p_nu_inr he r1
    cases r2 : p_nu t L l2 h2 d.2 with
    | inl y => rw [r2] at h; exact absurd h (by simp)
    | inr u =>
      rw [r2] at h
      have i2 := p_nu_inr i1.2.2.2.2.2 r2
      have hx : (u.2, k d.1 u.1) = x := by simpa using h
      subst hx
      exact ⟨d.1, u.1, i1.2.2.2.1, i2.2.2.2.1, rfl, by show _ < u.2; omega, i2.2.2.2.2.2⟩
theorem g_abk_5 {g : Nat → Nat} {k dd hh ll uu : Nat} (h0 : g 0 < 20) : g_abk g k dd hh ll uu 5 = g 5 := by unfold g_abk; rw [if_neg (by decide), if_pos (by omega)]
theorem p_stm_w {t : Nat → Nat} {L : Nat} {s s1 : p_St} (hL : L ≤ 800) (hs : p_sw L s) (h : p_stm t L s = .inr s1) : p_sw L s1 ∧ s.1 < s1.1 := by
  obtain ⟨he, hW, h5, hbc, hpr, hF, hn⟩ := hs
  have hsk := t_sk_le (t := t) he
  have hge := t_sk_ge t L s.1
  unfold p_stm at h
  by_cases w1 : t_wb t L s.1 10 ≠ 0
  · have hlt := t_wb_lt (t := t) he (by decide) w1
    have hgt := t_en_gt (t := t) hlt
    have hen := t_en_le (t := t) hsk
    rw [if_pos w1] at h
    cases r : p_brk t L s.2.1 s.1 with
    | inl y => rw [r] at h; exact absurd h (by simp)
    | inr x =>
      rw [r] at h
      have hx : (x.1, x.2, s.2.2) = s1 := by simpa using h
      obtain ⟨g0, dd, hh, ll, uu, b1, b2, b3, b4, b5, b6, b7⟩ := p_brk_r hen r
      subst hx
      exact ⟨⟨b7, by show g_wf x.2; rw [b5]; exact hW.abk g0 (g_abp_le _ _ _ _) h5 b1 b2 b3 b4, by show x.2 5 = 0; rw [b5, g_abk_5 g0]; exact h5, hbc, hpr, hF, hn⟩, by show s.1 < x.1; omega⟩
  · rw [if_neg w1] at h
    by_cases w2 : t_wb t L s.1 11 ≠ 0
    · have hlt := t_wb_lt (t := t) he (by decide) w2
      have hgt := t_en_gt (t := t) hlt
      have hen := t_en_le (t := t) hsk
      rw [if_pos w2] at h
      cases r : p_spo t L s.2.1 s.1 with
      | inl y => rw [r] at h; exact absurd h (by simp)
      | inr x =>
        rw [r] at h
        have hx : (x.1, x.2, s.2.2) = s1 := by simpa using h
        unfold p_spo at r
        by_cases c : 8 ≤ s.2.1 1
        · rw [if_pos c] at r; exact absurd r (by simp)
        · rw [if_neg c] at r
          obtain ⟨cc, p, b1, b2, b3, b4, b5⟩ := p_two_r hen r
          have h8 := hW.ns
          subst hx
          exact ⟨⟨b5, by show g_wf x.2; rw [b3]; exact hW.as (by omega) b1 b2, by show x.2 5 = 0; rw [b3, g_as, if_neg (by decide), if_neg (by omega), if_neg (by omega)]; exact h5, hbc, hpr, hF, hn⟩, by show s.1 < x.1; omega⟩
    · rw [if_neg w2] at h
      by_cases w3 : t_wb t L s.1 12 ≠ 0
      · have hlt := t_wb_lt (t := t) he (by decide) w3
        have hgt := t_en_gt (t := t) hlt
        have hen := t_en_le (t := t) hsk
        rw [if_pos w3] at h
        cases r : p_ban t L s.2.1 s.2.2.1 s.1 with
        | inl y => rw [r] at h; exact absurd h (by simp)
        | inr x =>
          rw [r] at h
          have hx : (x.1, x.2, s.2.2.1 + 1, s.2.2.2) = s1 := by simpa using h
          unfold p_ban at r
          by_cases c : 10 ≤ s.2.2.1
          · rw [if_pos c] at r; exact absurd r (by simp)
          · rw [if_neg c] at r
            obtain ⟨cc, p, b1, b2, b3, b4, b5⟩ := p_two_r hen r
            subst hx
            exact ⟨⟨b5, by show g_wf x.2; rw [b3]; exact hW.abn (by omega) (by omega), by show x.2 5 = 0; rw [b3, g_abn, if_neg (by omega)]; exact h5, by show s.2.2.1 + 1 ≤ 10; omega, hpr, hF, hn⟩, by show s.1 < x.1; omega⟩
      · rw [if_neg w3] at h
        by_cases w4 : t_wb t L s.1 13 = 0 ∨ s.2.2.2.1 ≠ 0
        · rw [if_pos w4] at h; exact absurd h (by simp)
        · have hlt := t_wb_lt (t := t) he (i := 13) (by decide) (fun q => w4 (Or.inl q))
          have hgt := t_en_gt (t := t) hlt
          have hen := t_en_le (t := t) hsk
          rw [if_neg w4] at h
          cases r : p_ex t L 3203 2 0 (t_en t L (t_sk t L s.1), 0, s.2.2.2.2.2) with
          | inl y => rw [r] at h; exact absurd h (by simp)
          | inr q =>
            rw [r] at h
            have hx : (q.1, s.2.1, s.2.2.1, 1, q.2.1, q.2.2) = s1 := by simpa using h
            have hl := p_ex_le _ _ _ _ _ hen r
            have h1 : t_en t L (t_sk t L s.1) ≤ q.1 := hl.1
            have h2 : q.2.1 ≤ q.1 := by
              have h9 := hl.2.2 0 (Nat.zero_le _)
              omega
            have h3 := hl.2.1
            subst hx
            exact ⟨⟨h3, hW, h5, hbc, Nat.le_refl 1, (show q_fwf q.2.2 q.2.1 from p_ex_fwf r), by show q.2.1 ≤ 800; omega⟩, by show s.1 < q.1; omega⟩
/-- statements up to the end -/
noncomputable def p_lp (t : Nat → Nat) (L : Nat) : Nat → p_St → p_T
  | 0, s => .inr s
  | f + 1, s => if t_kd t L (t_sk t L s.1) = 0 then .inr s else match p_stm t L s with
    | .inl x => .inl x
    | .inr s1 => if t_sg t L s1.1 59 = 1 then p_lp t L f (t_en t L (t_sk t L s1.1), s1.2) else .inl (4294967294, t_sk t L s1.1)
noncomputable def p_set (t : Nat → Nat) (L : Nat) : p_T :=
  if t_wb t L 0 9 = 0 then .inl (4294967294, t_sk t L 0) else if t_sg t L (t_en t L (t_sk t L 0)) 59 ≠ 1 then .inl (4294967294, t_sk t L (t_en t L (t_sk t L 0))) else p_lp t L 800 (t_en t L (t_sk t L (t_en t L (t_sk t L 0))), (fun _ => 0), 0, 0, 5, q_dft)
def p_sP (z : Nat) (S : lq_S) (M : lq_M) (N : lq_N) (r a : Nat) (t : Nat → Nat) (L : Nat) (res : p_T) : lq_P := fun o z1 S1 M1 N1 => z1 = z ∧ N1 = N ∧ ∃ (y : Int32) (f1 : Nat → Option Nat) (σ1 : Nat → Nat), o = some (.int y) ∧ sh4 S1 a f1 σ1 ∧ (∀ b, b ≠ a + 1 → S1 b = S b) ∧ (∀ b, b ≠ r → b ≠ r + 1 → (b < a ∨ a + 134 ≤ b) → M1 b = M b) ∧ match res with
  | .inl x => y = nI 0 ∧ M1 r 1 = x.1 ∧ M1 r 2 = x.2
  | .inr s => y = nI 1 ∧ M1 r 1 = M r 1 ∧ M1 r 2 = M r 2 ∧ M1 r 4 = s.2.2.1 ∧ M1 r 5 = s.2.2.2.1 ∧ q_tks M1 (r + 1) t L s.1 ∧ q_pl M1 a σ1 s.2.1 s.2.2.2.2.2 s.2.2.2.2.1
theorem q_pl.fmn {M M1 : lq_M} {a : Nat} {σ g : Nat → Nat} {tk tk1 : Nat → Nat × Nat} {n n1 : Nat} (h : q_pl M a σ g tk n) (hs : ∀ i, i < g 0 → σ i < 20) (e : ∀ b, a ≤ b → b < a + 134 → b ≠ a + 125 → b ≠ a + 126 → M1 b = M b) (h1 : M1 (a + 125) 1 = n1) (h2 : ∀ j, j < n1 → M1 (a + 125 + 1) j = q_enc (tk1 j)) : q_pl M1 a σ g tk1 n1 := by
  obtain ⟨k1, k2, k3, k4, k5, k6, k7, k8⟩ := h
  refine ⟨by rw [e a (by omega) (by omega) (by omega) (by omega)]; exact k1, by rw [e a (by omega) (by omega) (by omega) (by omega)]; exact k2, by rw [e a (by omega) (by omega) (by omega) (by omega)]; exact k3, fun i hi => ?_, fun s hs => ?_, fun c hc => ?_, ⟨h1, h2⟩, ?_⟩
  · have := hs i hi
    exact (k4 i hi).eqM (fun x x1 x2 => e x (by omega) (by omega) (by omega) (by omega))
  · rw [e (a + 122) (by omega) (by omega) (by omega) (by omega), e (a + 123) (by omega) (by omega) (by omega) (by omega)]
    exact k5 s hs
  · rw [e (a + 124) (by omega) (by omega) (by omega) (by omega)]
    exact k6 c hc
  · rw [e (a + 129) (by omega) (by omega) (by omega) (by omega), e (a + 129 + 1) (by omega) (by omega) (by omega) (by omega), e (a + 129 + 2) (by omega) (by omega) (by omega) (by omega), e (a + 129 + 3) (by omega) (by omega) (by omega) (by omega), e (a + 129 + 4) (by omega) (by omega) (by omega) (by omega)]
    exact k8
section RST
variable {G : lq_G} {z : Nat} {S : lq_S} {N : lq_N}
theorem k_X5_readStatement {r x nb L a : Nat} (h5 : sh5 S r x nb) (hxr : x < r) (hra : r + 1 < a) (hnb : nb ≤ 800) (hL : L ≤ nb) {t : Nat → Nat} (ht : ∀ j, j < L → t j < 256) {v : Value} (hX : lq_sx G v) {M : lq_M} (hM : ∀ j, j < L → M x j = t j) {s : p_St} (hs : p_sw L s) (hT : q_tks M (r + 1) t L s.1) {f : Nat → Option Nat} {σ : Nat → Nat} (hS : sh4 S a f σ) (hR : q_pl M a σ s.2.1 s.2.2.2.2.2 s.2.2.2.2.1) (hb4 : M r 4 = s.2.2.1) (hb5 : M r 5 = s.2.2.2.1) : LM G YX5_readStatement 21 0 0 [.ref r, .ref a] z S M N (p_sP z S M N r a t L (p_stm t L s)) lq_no := by
  obtain ⟨he, hW, hg5, hbc, hpr, hF, hn⟩ := hs
  have hT0 := hT
  obtain ⟨m1, m2, m3, m4, m5⟩ := hT
  have hsk := t_sk_le (t := t) he
  have w0 := t_wb_01 t L s.1 10
  have w1 := t_wb_01 t L s.1 11
  have w2 := t_wb_01 t L s.1 12
  have w3 := t_wb_01 t L s.1 13
  refine LM.of (by decide) rfl [some (.ref r), some (.ref a)] rfl (Nat.le_of_ble_eq_true rfl) ?_
  refine qw_aload_n 0 dX5_readStatement_0 rfl rfl ?_
  refine qw_getr fX5_12 dX5_readStatement_1 h5.1 rfl ?_
  refine qw_ldcS 10 dX5_readStatement_4 rfl ?_
  refine qw_cvp [_] (k_X7_isWord h5.2 hnb hL ht hM he hT0 (by decide) hX) mX5_60 dX5_readStatement_6 h5.2.1 rfl rfl rfl (Nat.le_of_ble_eq_true rfl) (by omega) (by decide) rfl ?_
  refine qw_if_eqN 18 dX5_readStatement_9 (by decide) (by omega) (fun c9 => ?_) (fun c9 => ?_)
  · refine qw_aload_n 0 dX5_readStatement_18 rfl rfl ?_
    refine qw_getr fX5_12 dX5_readStatement_19 h5.1 rfl ?_
    refine qw_ldcS 11 dX5_readStatement_22 rfl ?_
    refine qw_cvp [_] (k_X7_isWord h5.2 hnb hL ht hM he hT0 (by decide) hX) mX5_60 dX5_readStatement_24 h5.2.1 rfl rfl rfl (Nat.le_of_ble_eq_true rfl) (by omega) (by decide) rfl ?_
    refine qw_if_eqN 36 dX5_readStatement_27 (by decide) (by omega) (fun c27 => ?_) (fun c27 => ?_)
    · refine qw_aload_n 0 dX5_readStatement_36 rfl rfl ?_
      refine qw_getr fX5_12 dX5_readStatement_37 h5.1 rfl ?_
      refine qw_ldcS 12 dX5_readStatement_40 rfl ?_
      refine qw_cvp [_] (k_X7_isWord h5.2 hnb hL ht hM he hT0 (by decide) hX) mX5_60 dX5_readStatement_42 h5.2.1 rfl rfl rfl (Nat.le_of_ble_eq_true rfl) (by omega) (by decide) rfl ?_
      refine qw_if_eqN 54 dX5_readStatement_45 (by decide) (by omega) (fun c45 => ?_) (fun c45 => ?_)
      · refine qw_aload_n 0 dX5_readStatement_54 rfl rfl ?_
        refine qw_getr fX5_12 dX5_readStatement_55 h5.1 rfl ?_
        refine qw_ldcS 13 dX5_readStatement_58 rfl ?_
        refine qw_cvp [_] (k_X7_isWord h5.2 hnb hL ht hM he hT0 (by decide) hX) mX5_60 dX5_readStatement_60 h5.2.1 rfl rfl rfl (Nat.le_of_ble_eq_true rfl) (by omega) (by decide) rfl ?_
        refine qw_if_eqN 73 dX5_readStatement_63 (by decide) (by omega) (fun c63 => ?_) (fun c63 => ?_)
        · refine qw_aload_n 0 dX5_readStatement_73 rfl rfl ?_
          refine qw_bipush (-2) dX5_readStatement_74 (by decide) ?_
          rw [show (-2 : Int32) = nI 4294967294 by decide]
          refine qw_cvi [_] (k_X5_fail h5) mX5_78 dX5_readStatement_76 h5.1 rfl rfl rfl (Nat.le_of_ble_eq_true rfl) (by omega) (by decide) rfl (fun y0 MF hf => ?_)
          obtain ⟨rfl, rfl⟩ := hf
          exact qw_ireturn rfl (by decide) dX5_readStatement_79 ⟨rfl, rfl, _, f, σ, rfl, hS, fun b hb => rfl, fun b b1 b2 b3 => by unfold q_fai; rw [lq_up_n _ _ _ b1, lq_up_n _ _ _ b1], by rw [show p_stm t L s = .inl (4294967294, t_sk t L s.1) by unfold p_stm; rw [if_neg (fun q => q c9), if_neg (fun q => q c27), if_neg (fun q => q c45), if_pos (Or.inl c63)]]; exact ⟨rfl, by unfold q_fai; rw [lq_up_c _ _ (by decide), lq_up_s], by unfold q_fai; rw [lq_up_s]; exact m3⟩⟩
        · refine qw_aload_n 0 dX5_readStatement_66 rfl rfl ?_
          refine qw_geti fX5_33 dX5_readStatement_67 h5.1 rfl ?_
          rw [hb5]
          refine qw_if_eqN 80 dX5_readStatement_70 (by decide) (by omega) (fun c70 => ?_) (fun c70 => ?_)
          · have hlt := t_wb_lt (t := t) he (i := 13) (by decide) c63
            have hen := t_en_le (t := t) hsk
            refine qw_aload_n 0 dX5_readStatement_80 rfl rfl ?_
            refine qw_getr fX5_12 dX5_readStatement_81 h5.1 rfl ?_
            refine qw_cvv [] (k_X7_advance h5.2 (by omega) hnb hL ht hM hen m1 m4) mX5_82 dX5_readStatement_84 h5.2.1 rfl rfl rfl (Nat.le_of_ble_eq_true rfl) (by omega) (by decide) rfl (fun M1 h1 => ?_)
            refine qw_aload_n 0 dX5_readStatement_87 rfl rfl ?_
            refine qw_iconst (nI 1) dX5_readStatement_88 (by decide) ?_
            refine qw_putz fX5_33 dX5_readStatement_89 h5.1 rfl (by decide) ?_
            refine qw_aload_n 1 dX5_readStatement_92 rfl rfl ?_
            refine qw_getr fX5_85 dX5_readStatement_93 hS.1 rfl ?_
            refine qw_cvv [] (k_X2_clear hS.fm) mX5_89 dX5_readStatement_96 hS.fm.1 rfl rfl rfl (Nat.le_of_ble_eq_true rfl) (by omega) (by decide) rfl (fun M2 h2 => ?_)
            subst h2
            refine qw_aload_n 0 dX5_readStatement_99 rfl rfl ?_
            refine qw_aload_n 1 dX5_readStatement_100 rfl rfl ?_
            refine qw_getr fX5_85 dX5_readStatement_101 hS.1 rfl ?_
            refine qw_iconst (nI 0) dX5_readStatement_104 (by decide) ?_
            refine qw_cvi [_, _] (k_X5_readSum (e := t_en t L (t_sk t L s.1)) (tk := s.2.2.2.2.2) h5 hS.fm (by omega) hxr hnb hL ht hX hen (fun j hj => by rw [lq_up_n _ _ _ (by omega), lq_up_n _ _ _ (by omega), h1.2 x (by omega)]; exact hM j hj) (by unfold q_tks; rw [lq_up_n _ _ _ (by omega), lq_up_n _ _ _ (by omega)]; exact h1.1) (by rw [lq_up_s])) mX5_92 dX5_readStatement_105 h5.1 rfl rfl rfl (Nat.le_of_ble_eq_true rfl) (by omega) (by decide) rfl (fun y M3 h3 => ?_)
            cases hr : p_ex t L 3203 2 0 (t_en t L (t_sk t L s.1), 0, s.2.2.2.2.2) with
            | inl x0 =>
              rw [hr] at h3
              have hb : p_stm t L s = .inl x0 := by unfold p_stm; rw [if_neg (fun q => q c9), if_neg (fun q => q c27), if_neg (fun q => q c45), if_neg (fun q => by rcases q with q | q; exact c63 q; exact q c70)]; simp only [hr]
              obtain ⟨q1, q2, rfl, q3, q4⟩ := h3
              exact qw_ireturn rfl (by decide) dX5_readStatement_108 ⟨rfl, rfl, _, f, σ, rfl, hS, fun b hb => rfl, fun b b1 b2 b3 => by rw [q1 b b1 b2 (by omega) (by omega), lq_up_n _ _ _ (by omega), lq_up_n _ _ _ b1, h1.2 b b2], by rw [hb]; exact ⟨rfl, q3, q4⟩⟩
            | inr x0 =>
              rw [hr] at h3
              have hb : p_stm t L s = .inr (x0.1, s.2.1, s.2.2.1, 1, x0.2.1, x0.2.2) := by unfold p_stm; rw [if_neg (fun q => q c9), if_neg (fun q => q c27), if_neg (fun q => q c45), if_neg (fun q => by rcases q with q | q; exact c63 q; exact q c70)]; simp only [hr]
              obtain ⟨⟨q1, q2⟩, rfl, q3, q4, q5⟩ := h3
              exact qw_ireturn rfl (by decide) dX5_readStatement_108 ⟨rfl, rfl, _, f, σ, rfl, hS, fun b hb => rfl, fun b b1 b2 b3 => by rw [q1 b b1 b2 (by omega) (by omega), lq_up_n _ _ _ (by omega), lq_up_n _ _ _ b1, h1.2 b b2], by rw [hb]; exact ⟨rfl, by rw [q2 1 (by decide), lq_up_n _ _ _ (by omega), lq_up_c _ _ (by decide), h1.2 r (by omega)], by rw [q2 2 (by decide), lq_up_n _ _ _ (by omega), lq_up_c _ _ (by decide), h1.2 r (by omega)], by rw [q2 4 (by decide), lq_up_n _ _ _ (by omega), lq_up_c _ _ (by decide), h1.2 r (by omega)]; exact hb4, by rw [q2 5 (by decide), lq_up_n _ _ _ (by omega), lq_up_s], q3, hR.fmn (fun i hi => hS.s (by have := hW.nb; omega)) (fun b b1 b2 b3 b4 => by rw [q1 b (by omega) (by omega) b3 b4, lq_up_n _ _ _ b3, lq_up_n _ _ _ (by omega), h1.2 b (by omega)]) q4 q5⟩⟩
          · refine qw_aload_n 0 dX5_readStatement_73 rfl rfl ?_
            refine qw_bipush (-2) dX5_readStatement_74 (by decide) ?_
            rw [show (-2 : Int32) = nI 4294967294 by decide]
            refine qw_cvi [_] (k_X5_fail h5) mX5_78 dX5_readStatement_76 h5.1 rfl rfl rfl (Nat.le_of_ble_eq_true rfl) (by omega) (by decide) rfl (fun y0 MF hf => ?_)
            obtain ⟨rfl, rfl⟩ := hf
            exact qw_ireturn rfl (by decide) dX5_readStatement_79 ⟨rfl, rfl, _, f, σ, rfl, hS, fun b hb => rfl, fun b b1 b2 b3 => by unfold q_fai; rw [lq_up_n _ _ _ b1, lq_up_n _ _ _ b1], by rw [show p_stm t L s = .inl (4294967294, t_sk t L s.1) by unfold p_stm; rw [if_neg (fun q => q c9), if_neg (fun q => q c27), if_neg (fun q => q c45), if_pos (Or.inr c70)]]; exact ⟨rfl, by unfold q_fai; rw [lq_up_c _ _ (by decide), lq_up_s], by unfold q_fai; rw [lq_up_s]; exact m3⟩⟩
      · have hlt := t_wb_lt (t := t) he (i := 12) (by decide) c45
        have hen := t_en_le (t := t) hsk
        refine qw_aload_n 0 dX5_readStatement_48 rfl rfl ?_
        refine qw_aload_n 1 dX5_readStatement_49 rfl rfl ?_
        refine qw_cvi [_] (k_X5_readBan h5 hxr hra hnb hL ht hM he hT0 hlt hS hR hW (by omega)) mX5_73 dX5_readStatement_50 h5.1 rfl rfl rfl (Nat.le_of_ble_eq_true rfl) (by omega) (by decide) rfl (fun y M1 h1 => ?_)
        rw [hb4] at h1
        cases hr : p_ban t L s.2.1 s.2.2.1 s.1 with
        | inl x0 =>
          rw [hr] at h1
          have hb : p_stm t L s = .inl x0 := by unfold p_stm; rw [if_neg (fun q => q c9), if_neg (fun q => q c27), if_pos c45]; simp only [hr]
          obtain ⟨rfl, q1, q2, q3, q4⟩ := h1
          exact qw_ireturn rfl (by decide) dX5_readStatement_53 ⟨rfl, rfl, _, f, σ, rfl, hS, fun b hb => rfl, q4, by rw [hb]; exact ⟨rfl, q1, q2⟩⟩
        | inr x0 =>
          rw [hr] at h1
          have hb : p_stm t L s = .inr (x0.1, x0.2, s.2.2.1 + 1, s.2.2.2) := by unfold p_stm; rw [if_neg (fun q => q c9), if_neg (fun q => q c27), if_pos c45]; simp only [hr]
          obtain ⟨rfl, q0, q1, q2, q3, q4, q5⟩ := h1
          exact qw_ireturn rfl (by decide) dX5_readStatement_53 ⟨rfl, rfl, _, f, σ, rfl, hS, fun b hb => rfl, q4, by rw [hb]; exact ⟨rfl, q1 1 (by decide) (by decide), q1 2 (by decide) (by decide), by rw [q0, hb4], (q1 5 (by decide) (by decide)).trans hb5, q2, q3⟩⟩
    · have hlt := t_wb_lt (t := t) he (i := 11) (by decide) c27
      have hen := t_en_le (t := t) hsk
      refine qw_aload_n 0 dX5_readStatement_30 rfl rfl ?_
      refine qw_aload_n 1 dX5_readStatement_31 rfl rfl ?_
      refine qw_cvi [_] (k_X5_readSponsor h5 hxr hra hnb hL ht hM he hT0 hlt hS hR hW) mX5_68 dX5_readStatement_32 h5.1 rfl rfl rfl (Nat.le_of_ble_eq_true rfl) (by omega) (by decide) rfl (fun y M1 h1 => ?_)
      cases hr : p_spo t L s.2.1 s.1 with
      | inl x0 =>
        rw [hr] at h1
        have hb : p_stm t L s = .inl x0 := by unfold p_stm; rw [if_neg (fun q => q c9), if_pos c27]; simp only [hr]
        obtain ⟨rfl, q1, q2, q3, q4⟩ := h1
        exact qw_ireturn rfl (by decide) dX5_readStatement_35 ⟨rfl, rfl, _, f, σ, rfl, hS, fun b hb => rfl, q4, by rw [hb]; exact ⟨rfl, q1, q2⟩⟩
      | inr x0 =>
        rw [hr] at h1
        have hb : p_stm t L s = .inr (x0.1, x0.2, s.2.2) := by unfold p_stm; rw [if_neg (fun q => q c9), if_pos c27]; simp only [hr]
        obtain ⟨rfl, q1, q2, q3, q4, q5⟩ := h1
        exact qw_ireturn rfl (by decide) dX5_readStatement_35 ⟨rfl, rfl, _, f, σ, rfl, hS, fun b hb => rfl, q4, by rw [hb]; exact ⟨rfl, q1 1 (by decide), q1 2 (by decide), (q1 4 (by decide)).trans hb4, (q1 5 (by decide)).trans hb5, q2, q3⟩⟩
  · have hlt := t_wb_lt (t := t) he (i := 10) (by decide) c9
    have hen := t_en_le (t := t) hsk
    refine qw_aload_n 0 dX5_readStatement_12 rfl rfl ?_
    refine qw_aload_n 1 dX5_readStatement_13 rfl rfl ?_
    refine qw_cvq [_] (k_X5_readBreak h5 hxr hra hnb hL ht hM he hT0 hlt hS hR hW) mX5_63 dX5_readStatement_14 h5.1 rfl rfl rfl (Nat.le_of_ble_eq_true rfl) (by omega) (by decide) rfl (fun o z1 S1 M1 N1 h1 => ?_)
    obtain ⟨rfl, rfl, y, f1, σ1, rfl, hS1, eS, hfr, hfj, hres⟩ := h1
    cases hr : p_brk t L s.2.1 s.1 with
    | inl x0 =>
      rw [hr] at hres
      have hb : p_stm t L s = .inl x0 := by unfold p_stm; rw [if_pos c9]; simp only [hr]
      obtain ⟨rfl, q1, q2⟩ := hres
      exact qw_ireturn rfl (by decide) dX5_readStatement_17 ⟨rfl, rfl, _, f1, σ1, rfl, hS1, eS, hfr, by rw [hb]; exact ⟨rfl, q1, q2⟩⟩
    | inr x0 =>
      rw [hr] at hres
      have hb : p_stm t L s = .inr (x0.1, x0.2, s.2.2) := by unfold p_stm; rw [if_pos c9]; simp only [hr]
      obtain ⟨rfl, q1, q2, q3, q4⟩ := hres
      exact qw_ireturn rfl (by decide) dX5_readStatement_17 ⟨rfl, rfl, _, f1, σ1, rfl, hS1, eS, hfr, by rw [hb]; exact ⟨rfl, q1, q2, (hfj 4 (by decide) (by decide) (by decide)).trans hb4, (hfj 5 (by decide) (by decide) (by decide)).trans hb5, q3, q4⟩⟩
end RST
