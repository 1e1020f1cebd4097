/-! reading a ban -/
def p_ban (t : Nat → Nat) (L : Nat) (g : Nat → Nat) (bc e : Nat) : p_Q := if 10 ≤ bc then .inl (4294967292, t_sk t L e) else p_two t L 0 9 0 9 e (fun c p => g_abn g c p)
def p_stb (M M1 : lq_M) (r a : Nat) (t : Nat → Nat) (L e : Nat) (σ : Nat → Nat) (tk : Nat → Nat × Nat) (n : Nat) (res : p_Q) (y : Int32) : Prop := match res with
  | .inl x => y = nI 0 ∧ M1 r 1 = x.1 ∧ M1 r 2 = x.2 ∧ (∀ j, j ≠ 1 → j ≠ 2 → j ≠ 3 → M1 r j = M r j) ∧ ∀ b, b ≠ r → b ≠ r + 1 → (b < a ∨ a + 134 ≤ b) → M1 b = M b
  | .inr x => y = nI 1 ∧ M1 r 4 = M r 4 + 1 ∧ (∀ j, j ≠ 3 → j ≠ 4 → M1 r j = M r j) ∧ q_tks M1 (r + 1) t L x.1 ∧ q_pl M1 a σ x.2 tk n ∧ (∀ b, b ≠ r → b ≠ r + 1 → (b < a ∨ a + 134 ≤ b) → M1 b = M b) ∧ e < x.1 ∧ x.1 ≤ L
section RB
variable {G : lq_G} {z : Nat} {S : lq_S} {N : lq_N}
theorem k_X5_readBan {r x nb L e a : Nat} (h5 : sh5 S r x nb) (hxr : x < r) (hra : r + 1 < a) (hnb : nb ≤ 800) (hL : L ≤ nb) {t : Nat → Nat} (ht : ∀ j, j < L → t j < 256) {M : lq_M} (hM : ∀ j, j < L → M x j = t j) (he : e ≤ L) (hT : q_tks M (r + 1) t L e) (hlt : t_sk t L e < L) {f : Nat → Option Nat} {σ g : Nat → Nat} {tk : Nat → Nat × Nat} {n : Nat} (hS : sh4 S a f σ) (hR : q_pl M a σ g tk n) (hW : g_wf g) (hbc : M r 4 ≤ 10) : LM G YX5_readBan 2 0 0 [.ref r, .ref a] z S M N (lq_mi z S N (fun y M1 => p_stb M M1 r a t L e σ tk n (p_ban t L g (M r 4) e) y)) lq_no := by
  obtain ⟨m1, m2, m3, m4, m5⟩ := hT
  have h20 := hW.nb
  have hsk := t_sk_le (t := t) he
  have h8 := hW.ns
  have hge := t_sk_ge t L e
  have hen := t_en_le (t := t) hsk
  have hgt := t_en_gt (t := t) hlt
  refine LM.of (by decide) rfl [some (.ref r), some (.ref a), none] rfl (Nat.le_of_ble_eq_true rfl) ?_
  refine qw_aload_n 0 dX5_readBan_0 rfl rfl ?_
  refine qw_geti fX5_30 dX5_readBan_1 h5.1 rfl ?_
  refine qw_bipush (nI 10) dX5_readBan_4 (by decide) ?_
  refine qw_icmp_ltN 16 dX5_readBan_6 (by decide) (by omega) (by omega) (fun c6 => ?_) (fun c6 => ?_)
  · rw [p_ban, if_neg (by omega), p_two]
    refine qw_aload_n 0 dX5_readBan_16 rfl rfl ?_
    refine qw_getr fX5_12 dX5_readBan_17 h5.1 rfl ?_
    refine qw_cvv [] (k_X7_advance h5.2 (by omega) hnb hL ht hM hen m1 m4) mX5_82 dX5_readBan_20 h5.2.1 rfl rfl rfl (Nat.le_of_ble_eq_true rfl) (by omega) (by decide) rfl (fun M1 h1 => ?_)
    have hM1 : ∀ j, j < L → M1 x j = t j := fun j hj => by rw [h1.2 x (by omega)]; exact hM j hj
    refine qw_aload_n 0 dX5_readBan_23 rfl rfl ?_
    refine qw_iconst (nI 0) dX5_readBan_24 (by decide) ?_
    refine qw_bipush (nI 9) dX5_readBan_25 (by decide) ?_
    refine qw_cvi [_, _] (k_X5_takeNumber (lo := 0) (hi := 9) (e := t_en t L (t_sk t L e)) h5 (by omega) hnb hL ht hM1 hen h1.1 (by omega) (by decide) (by decide)) mX5_99 dX5_readBan_27 h5.1 rfl rfl rfl (Nat.le_of_ble_eq_true rfl) (by omega) (by decide) rfl (fun y2 M2 h2 => ?_)
    have h2 := p_nu_of hen h1.1.2.2.1 h2
    generalize p_nu t L 0 9 (t_en t L (t_sk t L e)) = res at h2 ⊢
    cases res with
    | inl x1 =>
      obtain ⟨rfl, q2, q3, q4, q5⟩ := h2
      refine qw_if_ne 35 dX5_readBan_30 (by decide) (fun c30 => absurd rfl c30) (fun c30 => ?_)
      refine qw_iconst (nI 0) dX5_readBan_33 (by decide) ?_
      exact qw_ireturn rfl (by decide) dX5_readBan_34 ⟨rfl, rfl, rfl, _, rfl, rfl, q2, q3, fun j j1 j2 _ => by rw [q4 j j1 j2, h1.2 r (by omega)], fun b b1 b2 _ => by rw [q5 b b1, h1.2 b b2]⟩
    | inr x1 =>
      obtain ⟨rfl, q2, q3, q4, q5, q6, q7, q8⟩ := h2
      have hM2 : ∀ j, j < L → M2 x j = t j := fun j hj => by rw [q5 x (by omega) (by omega)]; exact hM1 j hj
      dsimp only
      refine qw_if_ne 35 dX5_readBan_30 (by decide) (fun c30 => ?_) (fun c30 => absurd c30 (by decide))
      refine qw_aload_n 0 dX5_readBan_35 rfl rfl ?_
      refine qw_geti fX5_103 dX5_readBan_36 h5.1 rfl ?_
      rw [q2]
      refine qw_istore_n 2 dX5_readBan_39 rfl rfl (by decide) ?_
      refine qw_aload_n 0 dX5_readBan_40 rfl rfl ?_
      refine qw_iconst (nI 0) dX5_readBan_41 (by decide) ?_
      refine qw_bipush (nI 9) dX5_readBan_42 (by decide) ?_
      refine qw_cvi [_, _] (k_X5_takeNumber (lo := 0) (hi := 9) (e := x1.2) h5 (by omega) hnb hL ht hM2 q8.2 q4 (by omega) (by decide) (by decide)) mX5_99 dX5_readBan_44 h5.1 rfl rfl rfl (Nat.le_of_ble_eq_true rfl) (by omega) (by decide) rfl (fun y3 M3 h3 => ?_)
      have h3 := p_nu_of q8.2 q4.2.2.1 h3
      generalize p_nu t L 0 9 x1.2 = res at h3 ⊢
      cases res with
      | inl x2 =>
        obtain ⟨rfl, p2, p3, p4, p5⟩ := h3
        refine qw_if_ne 52 dX5_readBan_47 (by decide) (fun c47 => absurd rfl c47) (fun c47 => ?_)
        refine qw_iconst (nI 0) dX5_readBan_50 (by decide) ?_
        exact qw_ireturn rfl (by decide) dX5_readBan_51 ⟨rfl, rfl, rfl, _, rfl, rfl, p2, p3, fun j j1 j2 j3 => by rw [p4 j j1 j2, q3 j j3, h1.2 r (by omega)], fun b b1 b2 _ => by rw [p5 b b1, q5 b b1 b2, h1.2 b b2]⟩
      | inr x2 =>
        obtain ⟨rfl, p2, p3, p4, p5, p6, p7, p8⟩ := h3
        have hR3 : q_pl M3 a σ g tk n := hR.eqM (fun i hi => hS.s (by omega)) (fun x x1 x2 => by rw [p5 x (by omega) (by omega), q5 x (by omega) (by omega), h1.2 x (by omega)])
        refine qw_if_ne 52 dX5_readBan_47 (by decide) (fun c47 => ?_) (fun c47 => absurd c47 (by decide))
        refine qw_aload_n 1 dX5_readBan_52 rfl rfl ?_
        refine qw_iload_n 2 dX5_readBan_53 rfl rfl ?_
        refine qw_aload_n 0 dX5_readBan_54 rfl rfl ?_
        refine qw_geti fX5_103 dX5_readBan_55 h5.1 rfl ?_
        rw [p2]
        refine qw_cvv [_, _] (k_X4_addBan hS hR3 hW (by omega) (by omega)) mX5_123 dX5_readBan_58 hS.1 rfl rfl rfl (Nat.le_of_ble_eq_true rfl) (by omega) (by decide) rfl (fun M4 h4 => ?_)
        obtain ⟨r1, r2⟩ := h4
        refine qw_aload_n 0 dX5_readBan_61 rfl rfl ?_
        refine qw_dup dX5_readBan_62 rfl ?_
        refine qw_geti fX5_30 dX5_readBan_63 h5.1 rfl ?_
        refine qw_iconst (nI 1) dX5_readBan_66 (by decide) ?_
        refine qw_addN dX5_readBan_67 ?_
        refine qw_puti fX5_30 dX5_readBan_68 h5.1 rfl ?_
        refine qw_iconst (nI 1) dX5_readBan_71 (by decide) ?_
        exact qw_ireturn rfl (by decide) dX5_readBan_72 ⟨rfl, rfl, rfl, _, rfl, rfl, by rw [lq_up_s, r2 r (by omega), p3 4 (by decide), q3 4 (by decide), h1.2 r (by omega)], fun j hj hj4 => by rw [lq_up_c _ _ hj4, r2 r (by omega), p3 j hj, q3 j hj, h1.2 r (by omega)], (by unfold q_tks; rw [lq_up_n _ _ _ (by omega), r2 (r + 1) (by omega)]; exact p4), r1.eqM (fun i hi => hS.s (by unfold g_abn at hi; rw [if_neg (by omega)] at hi; omega)) (fun x _ _ => lq_up_n _ _ _ (by omega)), fun b b1 b2 b3 => by rw [lq_up_n _ _ _ b1, r2 b b3, p5 b b1 b2, q5 b b1 b2, h1.2 b b2], by show e < x2.2; omega, p8.2⟩
  · rw [p_ban, if_pos (by omega)]
    refine qw_aload_n 0 dX5_readBan_9 rfl rfl ?_
    refine qw_bipush (-4) dX5_readBan_10 (by decide) ?_
    rw [show (-4 : Int32) = nI 4294967292 by decide]
    refine qw_cvi [_] (k_X5_fail h5) mX5_78 dX5_readBan_12 h5.1 rfl rfl rfl (Nat.le_of_ble_eq_true rfl) (by omega) (by decide) rfl (fun y0 M1 h1 => ?_)
    obtain ⟨rfl, rfl⟩ := h1
    exact qw_ireturn rfl (by decide) dX5_readBan_15 ⟨rfl, rfl, rfl, _, rfl, rfl, by unfold q_fai; rw [lq_up_c _ _ (by decide), lq_up_s], by unfold q_fai; rw [lq_up_s]; exact m3, fun j j1 j2 _ => by unfold q_fai; rw [lq_up_c _ _ j2, lq_up_c _ _ j1], fun b b1 _ _ => by unfold q_fai; rw [lq_up_n _ _ _ b1, lq_up_n _ _ _ b1]⟩
end RB
