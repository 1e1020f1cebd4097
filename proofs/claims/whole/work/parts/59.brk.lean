/-! reading a break -/
section LQ9
variable {G : lq_G} {Y : lq_Y} {d kc ks z : Nat} {S : lq_S} {M : lq_M} {N : lq_N} {Q : lq_P} {X : lq_E} {pc : Nat} {lv : List (Option Value)} {st : List Value}
variable {y : lq_Y} {d' n idx b ci : Nat} {fl : List (Option (Option Nat))}
theorem qw_cvq {Q' : lq_P} (As : List Value) {rest : List Value} (hM : LM G y d' 0 0 (.ref b :: As) z S M N Q' lq_no) (hc : lq_cv Y.1.cls idx y n) (hd : decode Y.2.1 pc = .ok (.invokevirtual idx, 3)) (hS : S b = some (.inl (ci, fl))) (hcl : (lq_cl[ci]?).map (fun q => q.1) = some y.1.cls) (hn : As.length = n) (hst : st = As.reverse ++ .ref b :: rest) (hw : (rest.map fun v => v.category).sum ≤ 8) (hdd : d' + 1 ≤ d) (hm : y.2.2.1 ≤ 20) (hT : Y.2.2.2.2 = []) (k : ∀ r z1 S1 M1 N1, Q' r z1 S1 M1 N1 → LW G Y d kc ks Q X z1 S1 M1 N1 (pc + 3) lv (r.toList ++ rest)) : LW G Y d kc ks Q X z S M N pc lv st :=
  lq_callV hM hc hd hS hcl hn hst hw hdd hm (Nat.zero_le _) (Nat.zero_le _) hT (fun _ _ _ _ _ h => h.elim) k
end LQ9
theorem p_nu_inr {t : Nat → Nat} {L lo hi e : Nat} {x : Nat × Nat} (he : e ≤ L) (h : p_nu t L lo hi e = .inr x) : t_kd t L (t_sk t L e) = 2 ∧ x = (t_vc t L (t_sk t L e) 0, t_en t L (t_sk t L e)) ∧ lo ≤ x.1 ∧ x.1 ≤ hi ∧ e < x.2 ∧ x.2 ≤ L := by
  unfold p_nu at h
  by_cases h1 : t_nm t L e lo hi = 1
  · rw [if_pos h1] at h; exact absurd h (by simp)
  · rw [if_neg h1] at h
    by_cases h2 : t_nm t L e lo hi = 2
    · rw [if_pos h2] at h; exact absurd h (by simp)
    · rw [if_neg h2] at h
      have hsk := t_sk_le (t := t) he
      have hge := t_sk_ge t L e
      have hx : (t_vc t L (t_sk t L e) 0, t_en t L (t_sk t L e)) = x := by simpa using h
      have hk : t_kd t L (t_sk t L e) = 2 := Decidable.byContradiction fun q => h1 (by rw [t_nm, if_pos q])
      have hv : ¬ (t_vc t L (t_sk t L e) 0 < lo ∨ hi < t_vc t L (t_sk t L e) 0) := fun q => h2 (by rw [t_nm, if_neg (fun z => z hk), if_pos q])
      have hlt := t_kd_lt (t := t) hsk (by rw [hk]; decide)
      have hgt := t_en_gt (t := t) hlt
      subst hx
      exact ⟨hk, rfl, by show lo ≤ t_vc t L (t_sk t L e) 0; omega, by show t_vc t L (t_sk t L e) 0 ≤ hi; omega, by show e < t_en t L (t_sk t L e); omega, t_en_le hsk⟩
theorem p_nu_ok {t : Nat → Nat} {L lo hi e : Nat} (hk : t_kd t L (t_sk t L e) = 2) (h1 : lo ≤ t_vc t L (t_sk t L e) 0) (h2 : t_vc t L (t_sk t L e) 0 ≤ hi) : p_nu t L lo hi e = .inr (t_vc t L (t_sk t L e) 0, t_en t L (t_sk t L e)) := by
  have hn : t_nm t L e lo hi = 0 := by rw [t_nm, if_neg (fun z => z hk), if_neg (by omega)]
  rw [p_nu, if_neg (by omega), if_neg (by omega)]
/-- there is a break at this time -/
def g_dup (g : Nat → Nat) (dd hh : Nat) : Prop := q_fst (g_atN g dd hh) 1 (g 0) < g 0
noncomputable def p_brk (t : Nat → Nat) (L : Nat) (g : Nat → Nat) (e : Nat) : p_Q := by
  classical
  exact if 20 ≤ g 0 then .inl (4294967292, t_sk t L e) else match p_nu t L 0 6 (t_en t L (t_sk t L e)) with
  | .inl x => .inl x
  | .inr d => match p_nu t L 0 23 d.2 with
    | .inl x => .inl x
    | .inr h => if g_dup g d.1 h.1 then .inl (4294967293, t_sk t L d.2) else match p_nu t L 10 300 h.2 with
      | .inl x => .inl x
      | .inr l => match p_nu t L 0 999 l.2 with
        | .inl x => .inl x
        | .inr u => .inr (u.2, g_abk g (g_abp g d.1 h.1 (g 0)) d.1 h.1 l.1 u.1)
def p_rf (M M1 : lq_M) (r : Nat) : Prop := (∀ j, j ≠ 3 → M1 r j = M r j) ∧ ∀ b, b ≠ r → b ≠ r + 1 → M1 b = M b
theorem p_rf.tr {M M1 M2 : lq_M} {r : Nat} (h : p_rf M M1 r) (h2 : p_rf M1 M2 r) : p_rf M M2 r := ⟨fun j hj => (h2.1 j hj).trans (h.1 j hj), fun b b1 b2 => (h2.2 b b1 b2).trans (h.2 b b1 b2)⟩
def p_bP (z : Nat) (S : lq_S) (M : lq_M) (N : lq_N) (r a : Nat) (t : Nat → Nat) (L : Nat) (tk : Nat → Nat × Nat) (n : Nat) (res : p_Q) : lq_P := fun o z1 S1 M1 N1 => z1 = z ∧ N1 = N ∧ ∃ (y : Int32) (f1 : Nat → Option Nat) (σ1 : Nat → Nat), o = some (.int y) ∧ sh4 S1 a f1 σ1 ∧ (∀ b, b ≠ a + 1 → S1 b = S b) ∧ (∀ b, b ≠ r → b ≠ r + 1 → (b < a ∨ a + 134 ≤ b) → M1 b = M b) ∧ (∀ j, j ≠ 1 → j ≠ 2 → j ≠ 3 → M1 r j = M r j) ∧ match res with
  | .inl x => y = nI 0 ∧ M1 r 1 = x.1 ∧ M1 r 2 = x.2
  | .inr x => y = nI 1 ∧ M1 r 1 = M r 1 ∧ M1 r 2 = M r 2 ∧ q_tks M1 (r + 1) t L x.1 ∧ q_pl M1 a σ1 x.2 tk n
section RBK
variable {G : lq_G} {z : Nat} {S : lq_S} {N : lq_N}
theorem k_X5_readBreak {r x nb L e a : Nat} (h5 : sh5 S r x nb) (hxr : x < r) (hra : r + 1 < a) (hnb : nb ≤ 800) (hL : L ≤ nb) {t : Nat → Nat} (ht : ∀ j, j < L → t j < 256) {M : lq_M} (hM : ∀ j, j < L → M x j = t j) (he : e ≤ L) (hT : q_tks M (r + 1) t L e) (hlt : t_sk t L e < L) {f : Nat → Option Nat} {σ g : Nat → Nat} {tk : Nat → Nat × Nat} {n : Nat} (hS : sh4 S a f σ) (hR : q_pl M a σ g tk n) (hW : g_wf g) : LM G YX5_readBreak 2 0 0 [.ref r, .ref a] z S M N (p_bP z S M N r a t L tk n (p_brk t L g e)) lq_no := by
  obtain ⟨m1, m2, m3, m4, m5⟩ := hT
  have h20 := hW.nb
  have hsk := t_sk_le (t := t) he
  have hge := t_sk_ge t L e
  have hen := t_en_le (t := t) hsk
  have hgt := t_en_gt (t := t) hlt
  refine LM.of (by decide) rfl [some (.ref r), some (.ref a), none, none, none] rfl (Nat.le_of_ble_eq_true rfl) ?_
  have p_rfr : p_rf M M r := ⟨fun _ _ => rfl, fun _ _ _ => rfl⟩
  refine qw_aload_n 1 dX5_readBreak_0 rfl rfl ?_
  refine qw_geti fX5_96 dX5_readBreak_1 hS.1 rfl ?_
  rw [hR.nb]
  refine qw_bipush (nI 20) dX5_readBreak_4 (by decide) ?_
  refine qw_icmp_ltN 16 dX5_readBreak_6 (by decide) (by omega) (by omega) (fun c6 => ?_) (fun c6 => ?_)
  · have c6n : ¬ 20 ≤ g 0 := by omega
    refine qw_aload_n 0 dX5_readBreak_16 rfl rfl ?_
    refine qw_getr fX5_12 dX5_readBreak_17 h5.1 rfl ?_
    refine qw_cvv [] (k_X7_advance h5.2 (by omega) hnb hL ht hM hen m1 m4) mX5_82 dX5_readBreak_20 h5.2.1 rfl rfl rfl (Nat.le_of_ble_eq_true rfl) (by omega) (by decide) rfl (fun M0 h0 => ?_)
    have fr0 : p_rf M M0 r := ⟨fun j _ => by rw [h0.2 r (by omega)], fun b b1 b2 => h0.2 b b2⟩
    have hM0 : ∀ j, j < L → M0 x j = t j := fun j hj => by rw [fr0.2 x (by omega) (by omega)]; exact hM j hj
    refine qw_aload_n 0 dX5_readBreak_23 rfl rfl ?_
    refine qw_iconst (nI 0) dX5_readBreak_24 (by decide) ?_
    refine qw_bipush (nI 6) dX5_readBreak_25 (by decide) ?_
    refine qw_cvi [_, _] (k_X5_takeNumber (lo := 0) (hi := 6) (e := (t_en t L (t_sk t L e))) h5 (by omega) hnb hL ht hM0 hen h0.1 (by omega) (by decide) (by decide)) mX5_99 dX5_readBreak_27 h5.1 rfl rfl rfl (Nat.le_of_ble_eq_true rfl) (by omega) (by decide) rfl (fun y1 M1 h1 => ?_)
    have h1 := p_nu_of hen h0.1.2.2.1 h1
    cases hr1 : p_nu t L 0 6 (t_en t L (t_sk t L e)) with
    | inl x0 =>
      rw [hr1] at h1
      obtain ⟨rfl, q2, q3, q4, q5⟩ := h1
      have hb : p_brk t L g e = .inl x0 := by unfold p_brk; rw [if_neg c6n]; simp only [hr1]
      refine qw_if_ne 35 dX5_readBreak_30 (by decide) (fun c30 => absurd rfl c30) (fun c30 => ?_)
      refine qw_iconst (nI 0) dX5_readBreak_33 (by decide) ?_
      exact qw_ireturn rfl (by decide) dX5_readBreak_34 ⟨rfl, rfl, _, f, σ, rfl, hS, fun b hb => rfl, fun b b1 b2 b3 => by rw [q5 b b1, fr0.2 b b1 b2], fun j j1 j2 j3 => by rw [q4 j j1 j2, fr0.1 j j3], by rw [hb]; exact ⟨rfl, q2, q3⟩⟩
    | inr x1 =>
      rw [hr1] at h1
      obtain ⟨rfl, q2, q3, q4, q5, q6, q7, q8⟩ := h1
      have i1 := p_nu_inr hen hr1
      have fr1 : p_rf M M1 r := fr0.tr ⟨q3, q5⟩
      have hM1 : ∀ j, j < L → M1 x j = t j := fun j hj => by rw [fr1.2 x (by omega) (by omega)]; exact hM j hj
      have hR1 : q_pl M1 a σ g tk n := hR.eqM (fun i hi => hS.s (by omega)) (fun x x1 x2 => fr1.2 x (by omega) (by omega))
      have hT1 := q4
      refine qw_if_ne 35 dX5_readBreak_30 (by decide) (fun c30 => ?_) (fun c30 => absurd c30 (by decide))
      refine qw_aload_n 0 dX5_readBreak_35 rfl rfl ?_
      refine qw_geti fX5_103 dX5_readBreak_36 h5.1 rfl ?_
      rw [q2]
      refine qw_istore_n 2 dX5_readBreak_39 rfl rfl (by decide) ?_
      refine qw_aload_n 0 dX5_readBreak_40 rfl rfl ?_
      refine qw_getr fX5_12 dX5_readBreak_41 h5.1 rfl ?_
      refine qw_geti fX5_51 dX5_readBreak_44 h5.2.1 rfl ?_
      rw [hT1.2.1]
      have hkl := t_kd_le t L (t_sk t L x1.2)
      refine qw_iconst (nI 2) dX5_readBreak_47 (by decide) ?_
      refine qw_icmp_neN 73 dX5_readBreak_48 (by decide) (by omega) (by omega) (fun c48 => ?_) (fun c48 => ?_)
      · have hnd : t_kd t L (t_sk t L x1.2) = 2 → ¬ g_dup g x1.1 (t_vc t L (t_sk t L x1.2) 0) := fun q => absurd q c48
        refine qw_aload_n 0 dX5_readBreak_73 rfl rfl ?_
        refine qw_iconst (nI 0) dX5_readBreak_74 (by decide) ?_
        refine qw_bipush (nI 23) dX5_readBreak_75 (by decide) ?_
        refine qw_cvi [_, _] (k_X5_takeNumber (lo := 0) (hi := 23) (e := x1.2) h5 (by omega) hnb hL ht hM1 i1.2.2.2.2.2 hT1 (by omega) (by decide) (by decide)) mX5_99 dX5_readBreak_77 h5.1 rfl rfl rfl (Nat.le_of_ble_eq_true rfl) (by omega) (by decide) rfl (fun y2 M2 h2 => ?_)
        have h2 := p_nu_of i1.2.2.2.2.2 hT1.2.2.1 h2
        cases hr2 : p_nu t L 0 23 x1.2 with
        | inl x0 =>
          rw [hr2] at h2
          obtain ⟨rfl, q2, q3, q4, q5⟩ := h2
          have hb : p_brk t L g e = .inl x0 := by unfold p_brk; rw [if_neg c6n]; simp only [hr1, hr2]
          refine qw_if_ne 85 dX5_readBreak_80 (by decide) (fun c80 => absurd rfl c80) (fun c80 => ?_)
          refine qw_iconst (nI 0) dX5_readBreak_83 (by decide) ?_
          exact qw_ireturn rfl (by decide) dX5_readBreak_84 ⟨rfl, rfl, _, f, σ, rfl, hS, fun b hb => rfl, fun b b1 b2 b3 => by rw [q5 b b1, fr1.2 b b1 b2], fun j j1 j2 j3 => by rw [q4 j j1 j2, fr1.1 j j3], by rw [hb]; exact ⟨rfl, q2, q3⟩⟩
        | inr x2 =>
          rw [hr2] at h2
          obtain ⟨rfl, q2, q3, q4, q5, q6, q7, q8⟩ := h2
          have i2 := p_nu_inr i1.2.2.2.2.2 hr2
          have fr2 : p_rf M M2 r := fr1.tr ⟨q3, q5⟩
          have hM2 : ∀ j, j < L → M2 x j = t j := fun j hj => by rw [fr2.2 x (by omega) (by omega)]; exact hM j hj
          have hR2 : q_pl M2 a σ g tk n := hR.eqM (fun i hi => hS.s (by omega)) (fun x x1 x2 => fr2.2 x (by omega) (by omega))
          have hT2 := q4
          refine qw_if_ne 85 dX5_readBreak_80 (by decide) (fun c80 => ?_) (fun c80 => absurd c80 (by decide))
          have hnd2 : ¬ g_dup g x1.1 x2.1 := by have e9 := i2.2.1; rw [e9]; exact hnd i2.1
          refine qw_aload_n 0 dX5_readBreak_85 rfl rfl ?_
          refine qw_geti fX5_103 dX5_readBreak_86 h5.1 rfl ?_
          rw [q2]
          refine qw_istore_n 3 dX5_readBreak_89 rfl rfl (by decide) ?_
          refine qw_aload_n 0 dX5_readBreak_90 rfl rfl ?_
          refine qw_bipush (nI 10) dX5_readBreak_91 (by decide) ?_
          refine qw_sipush (nI 300) dX5_readBreak_93 (by decide) ?_
          refine qw_cvi [_, _] (k_X5_takeNumber (lo := 10) (hi := 300) (e := x2.2) h5 (by omega) hnb hL ht hM2 i2.2.2.2.2.2 hT2 (by omega) (by decide) (by decide)) mX5_99 dX5_readBreak_96 h5.1 rfl rfl rfl (Nat.le_of_ble_eq_true rfl) (by omega) (by decide) rfl (fun y3 M3 h3 => ?_)
          have h3 := p_nu_of i2.2.2.2.2.2 hT2.2.2.1 h3
          cases hr3 : p_nu t L 10 300 x2.2 with
          | inl x0 =>
            rw [hr3] at h3
            obtain ⟨rfl, q2, q3, q4, q5⟩ := h3
            have hb : p_brk t L g e = .inl x0 := by unfold p_brk; rw [if_neg c6n]; simp only [hr1, hr2, if_neg hnd2, hr3]
            refine qw_if_ne 104 dX5_readBreak_99 (by decide) (fun c99 => absurd rfl c99) (fun c99 => ?_)
            refine qw_iconst (nI 0) dX5_readBreak_102 (by decide) ?_
            exact qw_ireturn rfl (by decide) dX5_readBreak_103 ⟨rfl, rfl, _, f, σ, rfl, hS, fun b hb => rfl, fun b b1 b2 b3 => by rw [q5 b b1, fr2.2 b b1 b2], fun j j1 j2 j3 => by rw [q4 j j1 j2, fr2.1 j j3], by rw [hb]; exact ⟨rfl, q2, q3⟩⟩
          | inr x3 =>
            rw [hr3] at h3
            obtain ⟨rfl, q2, q3, q4, q5, q6, q7, q8⟩ := h3
            have i3 := p_nu_inr i2.2.2.2.2.2 hr3
            have fr3 : p_rf M M3 r := fr2.tr ⟨q3, q5⟩
            have hM3 : ∀ j, j < L → M3 x j = t j := fun j hj => by rw [fr3.2 x (by omega) (by omega)]; exact hM j hj
            have hR3 : q_pl M3 a σ g tk n := hR.eqM (fun i hi => hS.s (by omega)) (fun x x1 x2 => fr3.2 x (by omega) (by omega))
            have hT3 := q4
            refine qw_if_ne 104 dX5_readBreak_99 (by decide) (fun c99 => ?_) (fun c99 => absurd c99 (by decide))
            refine qw_aload_n 0 dX5_readBreak_104 rfl rfl ?_
            refine qw_geti fX5_103 dX5_readBreak_105 h5.1 rfl ?_
            rw [q2]
            refine qw_istore dX5_readBreak_108 rfl (by decide) ?_
            refine qw_aload_n 0 dX5_readBreak_110 rfl rfl ?_
            refine qw_iconst (nI 0) dX5_readBreak_111 (by decide) ?_
            refine qw_sipush (nI 999) dX5_readBreak_112 (by decide) ?_
            refine qw_cvi [_, _] (k_X5_takeNumber (lo := 0) (hi := 999) (e := x3.2) h5 (by omega) hnb hL ht hM3 i3.2.2.2.2.2 hT3 (by omega) (by decide) (by decide)) mX5_99 dX5_readBreak_115 h5.1 rfl rfl rfl (Nat.le_of_ble_eq_true rfl) (by omega) (by decide) rfl (fun y4 M4 h4 => ?_)
            have h4 := p_nu_of i3.2.2.2.2.2 hT3.2.2.1 h4
            cases hr4 : p_nu t L 0 999 x3.2 with
            | inl x0 =>
              rw [hr4] at h4
              obtain ⟨rfl, q2, q3, q4, q5⟩ := h4
              have hb : p_brk t L g e = .inl x0 := by unfold p_brk; rw [if_neg c6n]; simp only [hr1, hr2, if_neg hnd2, hr3, hr4]
              refine qw_if_ne 123 dX5_readBreak_118 (by decide) (fun c118 => absurd rfl c118) (fun c118 => ?_)
              refine qw_iconst (nI 0) dX5_readBreak_121 (by decide) ?_
              exact qw_ireturn rfl (by decide) dX5_readBreak_122 ⟨rfl, rfl, _, f, σ, rfl, hS, fun b hb => rfl, fun b b1 b2 b3 => by rw [q5 b b1, fr3.2 b b1 b2], fun j j1 j2 j3 => by rw [q4 j j1 j2, fr3.1 j j3], by rw [hb]; exact ⟨rfl, q2, q3⟩⟩
            | inr x4 =>
              rw [hr4] at h4
              obtain ⟨rfl, q2, q3, q4, q5, q6, q7, q8⟩ := h4
              have i4 := p_nu_inr i3.2.2.2.2.2 hr4
              have fr4 : p_rf M M4 r := fr3.tr ⟨q3, q5⟩
              have hM4 : ∀ j, j < L → M4 x j = t j := fun j hj => by rw [fr4.2 x (by omega) (by omega)]; exact hM j hj
              have hR4 : q_pl M4 a σ g tk n := hR.eqM (fun i hi => hS.s (by omega)) (fun x x1 x2 => fr4.2 x (by omega) (by omega))
              have hT4 := q4
              refine qw_if_ne 123 dX5_readBreak_118 (by decide) (fun c118 => ?_) (fun c118 => absurd c118 (by decide))
              have hb : p_brk t L g e = .inr (x4.2, g_abk g (g_abp g x1.1 x2.1 (g 0)) x1.1 x2.1 x3.1 x4.1) := by unfold p_brk; rw [if_neg c6n]; simp only [hr1, hr2, if_neg hnd2, hr3, hr4]
              refine qw_aload_n 1 dX5_readBreak_123 rfl rfl ?_
              refine qw_iload_n 2 dX5_readBreak_124 rfl rfl ?_
              refine qw_iload_n 3 dX5_readBreak_125 rfl rfl ?_
              refine qw_iload dX5_readBreak_126 rfl ?_
              refine qw_aload_n 0 dX5_readBreak_128 rfl rfl ?_
              refine qw_geti fX5_103 dX5_readBreak_129 h5.1 rfl ?_
              rw [q2]
              refine qw_cvq [_, _, _, _] (k_X4_addBreak hS hR4 hW (by omega) (by omega) (by omega)) mX5_112 dX5_readBreak_132 hS.1 rfl rfl rfl (Nat.le_of_ble_eq_true rfl) (by omega) (by decide) rfl (fun o z9 S9 M9 N9 h9 => ?_)
              obtain ⟨rfl, rfl, rfl, f1, σ1, hS1, eS, hR9, hq9⟩ := h9
              refine qw_iconst (nI 1) dX5_readBreak_135 (by decide) ?_
              exact qw_ireturn rfl (by decide) dX5_readBreak_136 ⟨rfl, rfl, _, f1, σ1, rfl, hS1, eS, fun b b1 b2 b3 => by rw [hq9 b b3]; exact fr4.2 b b1 b2, fun j j1 j2 j3 => by rw [hq9 r (by omega)]; exact fr4.1 j j3, by rw [hb]; exact ⟨rfl, by rw [hq9 r (by omega)]; exact fr4.1 1 (by decide), by rw [hq9 r (by omega)]; exact fr4.1 2 (by decide), by unfold q_tks; rw [hq9 (r + 1) (by omega)]; exact hT4, hR9⟩⟩
      · refine qw_aload_n 1 dX5_readBreak_51 rfl rfl ?_
        refine qw_iload_n 2 dX5_readBreak_52 rfl rfl ?_
        refine qw_aload_n 0 dX5_readBreak_53 rfl rfl ?_
        refine qw_getr fX5_12 dX5_readBreak_54 h5.1 rfl ?_
        refine qw_geti fX5_106 dX5_readBreak_57 h5.2.1 rfl ?_
        rw [hT1.2.2.2.2 c48]
        have hvl := t_vc_le t L (t_sk t L x1.2)
        refine qw_cvp [_, _] (k_X4_hasBreakAt hS hR1 hW (by omega) (by omega)) mX5_109 dX5_readBreak_60 hS.1 rfl rfl rfl (Nat.le_of_ble_eq_true rfl) (by omega) (by decide) rfl ?_
        refine qw_if_eqN 73 dX5_readBreak_63 (by decide) (by split <;> decide) (fun c63 => ?_) (fun c63 => ?_)
        · have hnd : t_kd t L (t_sk t L x1.2) = 2 → ¬ g_dup g x1.1 (t_vc t L (t_sk t L x1.2) 0) := fun _ q => by have q9 : q_fst (g_atN g x1.1 (t_vc t L (t_sk t L x1.2) 0)) 1 (g 0) < g 0 := q; rw [if_pos q9] at c63; exact absurd c63 (by decide)
          refine qw_aload_n 0 dX5_readBreak_73 rfl rfl ?_
          refine qw_iconst (nI 0) dX5_readBreak_74 (by decide) ?_
          refine qw_bipush (nI 23) dX5_readBreak_75 (by decide) ?_
          refine qw_cvi [_, _] (k_X5_takeNumber (lo := 0) (hi := 23) (e := x1.2) h5 (by omega) hnb hL ht hM1 i1.2.2.2.2.2 hT1 (by omega) (by decide) (by decide)) mX5_99 dX5_readBreak_77 h5.1 rfl rfl rfl (Nat.le_of_ble_eq_true rfl) (by omega) (by decide) rfl (fun y2 M2 h2 => ?_)
          have h2 := p_nu_of i1.2.2.2.2.2 hT1.2.2.1 h2
          cases hr2 : p_nu t L 0 23 x1.2 with
          | inl x0 =>
            rw [hr2] at h2
            obtain ⟨rfl, q2, q3, q4, q5⟩ := h2
            have hb : p_brk t L g e = .inl x0 := by unfold p_brk; rw [if_neg c6n]; simp only [hr1, hr2]
            refine qw_if_ne 85 dX5_readBreak_80 (by decide) (fun c80 => absurd rfl c80) (fun c80 => ?_)
            refine qw_iconst (nI 0) dX5_readBreak_83 (by decide) ?_
            exact qw_ireturn rfl (by decide) dX5_readBreak_84 ⟨rfl, rfl, _, f, σ, rfl, hS, fun b hb => rfl, fun b b1 b2 b3 => by rw [q5 b b1, fr1.2 b b1 b2], fun j j1 j2 j3 => by rw [q4 j j1 j2, fr1.1 j j3], by rw [hb]; exact ⟨rfl, q2, q3⟩⟩
          | inr x2 =>
            rw [hr2] at h2
            obtain ⟨rfl, q2, q3, q4, q5, q6, q7, q8⟩ := h2
            have i2 := p_nu_inr i1.2.2.2.2.2 hr2
            have fr2 : p_rf M M2 r := fr1.tr ⟨q3, q5⟩
            have hM2 : ∀ j, j < L → M2 x j = t j := fun j hj => by rw [fr2.2 x (by omega) (by omega)]; exact hM j hj
            have hR2 : q_pl M2 a σ g tk n := hR.eqM (fun i hi => hS.s (by omega)) (fun x x1 x2 => fr2.2 x (by omega) (by omega))
            have hT2 := q4
            refine qw_if_ne 85 dX5_readBreak_80 (by decide) (fun c80 => ?_) (fun c80 => absurd c80 (by decide))
            have hnd2 : ¬ g_dup g x1.1 x2.1 := by have e9 := i2.2.1; rw [e9]; exact hnd i2.1
            refine qw_aload_n 0 dX5_readBreak_85 rfl rfl ?_
            refine qw_geti fX5_103 dX5_readBreak_86 h5.1 rfl ?_
            rw [q2]
            refine qw_istore_n 3 dX5_readBreak_89 rfl rfl (by decide) ?_
            refine qw_aload_n 0 dX5_readBreak_90 rfl rfl ?_
            refine qw_bipush (nI 10) dX5_readBreak_91 (by decide) ?_
            refine qw_sipush (nI 300) dX5_readBreak_93 (by decide) ?_
            refine qw_cvi [_, _] (k_X5_takeNumber (lo := 10) (hi := 300) (e := x2.2) h5 (by omega) hnb hL ht hM2 i2.2.2.2.2.2 hT2 (by omega) (by decide) (by decide)) mX5_99 dX5_readBreak_96 h5.1 rfl rfl rfl (Nat.le_of_ble_eq_true rfl) (by omega) (by decide) rfl (fun y3 M3 h3 => ?_)
            have h3 := p_nu_of i2.2.2.2.2.2 hT2.2.2.1 h3
            cases hr3 : p_nu t L 10 300 x2.2 with
            | inl x0 =>
              rw [hr3] at h3
              obtain ⟨rfl, q2, q3, q4, q5⟩ := h3
              have hb : p_brk t L g e = .inl x0 := by unfold p_brk; rw [if_neg c6n]; simp only [hr1, hr2, if_neg hnd2, hr3]
              refine qw_if_ne 104 dX5_readBreak_99 (by decide) (fun c99 => absurd rfl c99) (fun c99 => ?_)
              refine qw_iconst (nI 0) dX5_readBreak_102 (by decide) ?_
              exact qw_ireturn rfl (by decide) dX5_readBreak_103 ⟨rfl, rfl, _, f, σ, rfl, hS, fun b hb => rfl, fun b b1 b2 b3 => by rw [q5 b b1, fr2.2 b b1 b2], fun j j1 j2 j3 => by rw [q4 j j1 j2, fr2.1 j j3], by rw [hb]; exact ⟨rfl, q2, q3⟩⟩
            | inr x3 =>
              rw [hr3] at h3
              obtain ⟨rfl, q2, q3, q4, q5, q6, q7, q8⟩ := h3
              have i3 := p_nu_inr i2.2.2.2.2.2 hr3
              have fr3 : p_rf M M3 r := fr2.tr ⟨q3, q5⟩
              have hM3 : ∀ j, j < L → M3 x j = t j := fun j hj => by rw [fr3.2 x (by omega) (by omega)]; exact hM j hj
              have hR3 : q_pl M3 a σ g tk n := hR.eqM (fun i hi => hS.s (by omega)) (fun x x1 x2 => fr3.2 x (by omega) (by omega))
              have hT3 := q4
              refine qw_if_ne 104 dX5_readBreak_99 (by decide) (fun c99 => ?_) (fun c99 => absurd c99 (by decide))
              refine qw_aload_n 0 dX5_readBreak_104 rfl rfl ?_
              refine qw_geti fX5_103 dX5_readBreak_105 h5.1 rfl ?_
              rw [q2]
              refine qw_istore dX5_readBreak_108 rfl (by decide) ?_
              refine qw_aload_n 0 dX5_readBreak_110 rfl rfl ?_
              refine qw_iconst (nI 0) dX5_readBreak_111 (by decide) ?_
              refine qw_sipush (nI 999) dX5_readBreak_112 (by decide) ?_
              refine qw_cvi [_, _] (k_X5_takeNumber (lo := 0) (hi := 999) (e := x3.2) h5 (by omega) hnb hL ht hM3 i3.2.2.2.2.2 hT3 (by omega) (by decide) (by decide)) mX5_99 dX5_readBreak_115 h5.1 rfl rfl rfl (Nat.le_of_ble_eq_true rfl) (by omega) (by decide) rfl (fun y4 M4 h4 => ?_)
              have h4 := p_nu_of i3.2.2.2.2.2 hT3.2.2.1 h4
              cases hr4 : p_nu t L 0 999 x3.2 with
              | inl x0 =>
                rw [hr4] at h4
                obtain ⟨rfl, q2, q3, q4, q5⟩ := h4
                have hb : p_brk t L g e = .inl x0 := by unfold p_brk; rw [if_neg c6n]; simp only [hr1, hr2, if_neg hnd2, hr3, hr4]
                refine qw_if_ne 123 dX5_readBreak_118 (by decide) (fun c118 => absurd rfl c118) (fun c118 => ?_)
                refine qw_iconst (nI 0) dX5_readBreak_121 (by decide) ?_
                exact qw_ireturn rfl (by decide) dX5_readBreak_122 ⟨rfl, rfl, _, f, σ, rfl, hS, fun b hb => rfl, fun b b1 b2 b3 => by rw [q5 b b1, fr3.2 b b1 b2], fun j j1 j2 j3 => by rw [q4 j j1 j2, fr3.1 j j3], by rw [hb]; exact ⟨rfl, q2, q3⟩⟩
              | inr x4 =>
                rw [hr4] at h4
                obtain ⟨rfl, q2, q3, q4, q5, q6, q7, q8⟩ := h4
                have i4 := p_nu_inr i3.2.2.2.2.2 hr4
                have fr4 : p_rf M M4 r := fr3.tr ⟨q3, q5⟩
                have hM4 : ∀ j, j < L → M4 x j = t j := fun j hj => by rw [fr4.2 x (by omega) (by omega)]; exact hM j hj
                have hR4 : q_pl M4 a σ g tk n := hR.eqM (fun i hi => hS.s (by omega)) (fun x x1 x2 => fr4.2 x (by omega) (by omega))
                have hT4 := q4
                refine qw_if_ne 123 dX5_readBreak_118 (by decide) (fun c118 => ?_) (fun c118 => absurd c118 (by decide))
                have hb : p_brk t L g e = .inr (x4.2, g_abk g (g_abp g x1.1 x2.1 (g 0)) x1.1 x2.1 x3.1 x4.1) := by unfold p_brk; rw [if_neg c6n]; simp only [hr1, hr2, if_neg hnd2, hr3, hr4]
                refine qw_aload_n 1 dX5_readBreak_123 rfl rfl ?_
                refine qw_iload_n 2 dX5_readBreak_124 rfl rfl ?_
                refine qw_iload_n 3 dX5_readBreak_125 rfl rfl ?_
                refine qw_iload dX5_readBreak_126 rfl ?_
                refine qw_aload_n 0 dX5_readBreak_128 rfl rfl ?_
                refine qw_geti fX5_103 dX5_readBreak_129 h5.1 rfl ?_
                rw [q2]
                refine qw_cvq [_, _, _, _] (k_X4_addBreak hS hR4 hW (by omega) (by omega) (by omega)) mX5_112 dX5_readBreak_132 hS.1 rfl rfl rfl (Nat.le_of_ble_eq_true rfl) (by omega) (by decide) rfl (fun o z9 S9 M9 N9 h9 => ?_)
                obtain ⟨rfl, rfl, rfl, f1, σ1, hS1, eS, hR9, hq9⟩ := h9
                refine qw_iconst (nI 1) dX5_readBreak_135 (by decide) ?_
                exact qw_ireturn rfl (by decide) dX5_readBreak_136 ⟨rfl, rfl, _, f1, σ1, rfl, hS1, eS, fun b b1 b2 b3 => by rw [hq9 b b3]; exact fr4.2 b b1 b2, fun j j1 j2 j3 => by rw [hq9 r (by omega)]; exact fr4.1 j j3, by rw [hb]; exact ⟨rfl, by rw [hq9 r (by omega)]; exact fr4.1 1 (by decide), by rw [hq9 r (by omega)]; exact fr4.1 2 (by decide), by unfold q_tks; rw [hq9 (r + 1) (by omega)]; exact hT4, hR9⟩⟩
        · have hdp : g_dup g x1.1 (t_vc t L (t_sk t L x1.2) 0) := Classical.byContradiction fun q => c63 (if_neg q)
          obtain ⟨w1, w2⟩ := (g_atN_1.mp (q_fst_yes _ _ _ hdp))
          have hbw := hW.br (i := q_fst (g_atN g x1.1 (t_vc t L (t_sk t L x1.2) 0)) 1 (g 0)) hdp
          have hr2 := p_nu_ok (lo := 0) (hi := 23) c48 (Nat.zero_le _) (by omega)
          have hb : p_brk t L g e = .inl (4294967293, t_sk t L x1.2) := by unfold p_brk; rw [if_neg c6n]; simp only [hr1, hr2, if_pos hdp]
          refine qw_aload_n 0 dX5_readBreak_66 rfl rfl ?_
          refine qw_bipush (-3) dX5_readBreak_67 (by decide) ?_
          rw [show (-3 : Int32) = nI 4294967293 by decide]
          refine qw_cvi [_] (k_X5_fail h5) mX5_78 dX5_readBreak_69 h5.1 rfl rfl rfl (Nat.le_of_ble_eq_true rfl) (by omega) (by decide) rfl (fun y0 MF hf => ?_)
          obtain ⟨rfl, rfl⟩ := hf
          exact qw_ireturn rfl (by decide) dX5_readBreak_72 ⟨rfl, rfl, _, f, σ, rfl, hS, fun b hb => rfl, fun b b1 b2 b3 => by unfold q_fai; rw [lq_up_n _ _ _ b1, lq_up_n _ _ _ b1]; exact fr1.2 b b1 b2, fun j j1 j2 j3 => by unfold q_fai; rw [lq_up_c _ _ j2, lq_up_c _ _ j1]; exact fr1.1 j j3, by rw [hb]; exact ⟨rfl, by unfold q_fai; rw [lq_up_c _ _ (by decide), lq_up_s], by unfold q_fai; rw [lq_up_s]; exact hT1.2.2.1⟩⟩
  · have hb : p_brk t L g e = .inl (4294967292, t_sk t L e) := by unfold p_brk; rw [if_pos (by omega)]
    refine qw_aload_n 0 dX5_readBreak_9 rfl rfl ?_
    refine qw_bipush (-4) dX5_readBreak_10 (by decide) ?_
    rw [show (-4 : Int32) = nI 4294967292 by decide]
    refine qw_cvi [_] (k_X5_fail h5) mX5_78 dX5_readBreak_12 h5.1 rfl rfl rfl (Nat.le_of_ble_eq_true rfl) (by omega) (by decide) rfl (fun y0 MF hf => ?_)
    obtain ⟨rfl, rfl⟩ := hf
    exact qw_ireturn rfl (by decide) dX5_readBreak_15 ⟨rfl, rfl, _, f, σ, rfl, hS, fun b hb => rfl, fun b b1 b2 b3 => by unfold q_fai; rw [lq_up_n _ _ _ b1, lq_up_n _ _ _ b1], fun j j1 j2 j3 => by unfold q_fai; rw [lq_up_c _ _ j2, lq_up_c _ _ j1], by rw [hb]; exact ⟨rfl, by unfold q_fai; rw [lq_up_c _ _ (by decide), lq_up_s], by unfold q_fai; rw [lq_up_s]; exact m3⟩⟩
end RBK
