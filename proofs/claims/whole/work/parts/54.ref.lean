/-! THE REFERENCE: orders -/
theorem q_rest_ne {p f : Nat} (hp : p < 256) (hf : f < 8) (h : p / 2 ^ f % 2 = 1) : q_rest p f = p - 2 ^ f ∧ q_rest p f ≠ p ∧ p - 2 ^ f < p := by
  have h1 := q_pc1 hp hf h
  have h2 := (q_pw8 ⟨f, hf⟩).1
  have h3 : 1 ≤ 2 ^ f := h2
  rw [q_rest, if_pos h]
  refine ⟨rfl, ?_, ?_⟩ <;> omega
theorem q_rest_no {p f : Nat} (h : ¬ p / 2 ^ f % 2 = 1) : q_rest p f = p := by rw [q_rest, if_neg h]
theorem q_b01 (x : Nat) : x % 2 ≠ 1 → x % 2 = 0 := by omega
def q_ot (M : lq_M) (m : Nat) (g : Nat → Nat) (n : Nat) : Prop := ∀ s, 0 < s → s < n → ∀ f, f < 8 → M (m + 15 + s) f = g_or g s f
section R6
variable {G : lq_G} {z : Nat} {S : lq_S} {M : lq_M} {N : lq_N} {m : Nat} {fh fo : Nat → Option Nat}
theorem k_X9_clash_g {g : Nat → Nat} (h9 : sh9 S m fh fo) (hg : M (m + 2) = g) (hW : g_wf g) {s t : Nat} (hs : s < 8) (ht : t < 8) : LM G YX9_clash 0 0 0 [.ref m, .int (nI s), .int (nI t)] z S M N (lq_pu z S M N (.int (nI (g_cl g s t)))) lq_no := by
  subst hg
  exact k_X9_clash h9 hW hs ht
theorem l0_X9_layOrders (h9 : sh9 S m fh fo) {g : Nat → Nat} (hW : g_wf g) {Q : lq_P} {M0 : lq_M} (hg : M0 (m + 2) = g) {s f r : Nat} (hs0 : 0 < s) (hs : s < 256) (hf : f < 8) (hb : s / 2 ^ f % 2 = 1) (hr : r = s - 2 ^ f) (hT : q_ot M0 m g s) (kk : ∀ M1 : lq_M, M1 (m + 15 + s) f = g_or g s f → (∀ b, b ≠ m + 15 + s → M1 b = M0 b) → (∀ j, j ≠ f → M1 (m + 15 + s) j = M0 (m + 15 + s) j) → LW G YX9_layOrders 1 0 0 Q lq_no z S M1 N 112 [some (.ref m), some (.int (nI s)), some (.int (nI f)), none, none] []) : ∀ (n9 t : Nat) (M : lq_M), t ≤ 8 → 8 - t < n9 → M (m + 15 + s) f = (if r = 0 then 1 else 0) + q_sm (fun t => if r / 2 ^ t % 2 = 1 ∧ g_cl g f t = 0 then g_or g r t else 0) t → (∀ b, b ≠ m + 15 + s → M b = M0 b) → (∀ j, j ≠ f → M (m + 15 + s) j = M0 (m + 15 + s) j) → LW G YX9_layOrders 1 0 0 Q lq_no z S M N 54 [some (.ref m), some (.int (nI s)), some (.int (nI f)), some (.int (nI r)), some (.int (nI t))] [] := by
  intro n9
  induction n9 with
  | zero => intro _ _ _ _ _ _ _; omega
  | succ n9 ih =>
    intro t M ht hn9 hv ho hj
    have hrn := q_rest_ne hs hf hb
    have hrs : r < s := by omega
    have hM2 : M (m + 2) = g := by rw [ho (m + 2) (by omega)]; exact hg
    refine qw_iload dX9_layOrders_54 rfl ?_
    refine qw_bipush (nI 8) dX9_layOrders_56 (by decide) ?_
    refine qw_icmp_geN 112 dX9_layOrders_58 (by decide) (by omega) (by omega) (fun c58 => ?_) (fun c58 => ?_)
    · refine qw_weak _ (by simp [lq_le]) (kk M ?_ ho hj)
      rw [hv, show t = 8 by omega, g_or_rec g hs hf, if_pos hb]
      by_cases e : s = 2 ^ f
      · rw [if_pos e, if_pos (by omega)]
        have hz : r = 0 := by omega
        have h0 : ∀ n, q_sm (fun t => if r / 2 ^ t % 2 = 1 ∧ g_cl g f t = 0 then g_or g r t else 0) n = 0 := by
          intro n
          induction n with
          | zero => rfl
          | succ n i9 => rw [q_sm, i9, if_neg (fun q => by rw [hz] at q; simp at q)]
        rw [h0]
      · have hp1 := (q_pc1 hs hf hb).1
        rw [if_neg e, if_neg (by omega), Nat.zero_add, hr]
    · refine qw_iload_n 3 dX9_layOrders_61 rfl rfl ?_
      refine qw_iload_n 1 dX9_layOrders_62 rfl rfl ?_
      refine qw_icmp_eqN 112 dX9_layOrders_63 (by decide) (by omega) (by omega) (fun c63 => absurd c63 (by omega)) (fun c63 => ?_)
      refine qw_iload_n 3 dX9_layOrders_66 rfl rfl ?_
      refine qw_iload dX9_layOrders_67 rfl ?_
      refine qw_shrN (by omega) (by omega) dX9_layOrders_69 ?_
      refine qw_iconst (nI 1) dX9_layOrders_70 (by decide) ?_
      refine qw_andN dX9_layOrders_71 ?_
      rw [q_bit]
      refine qw_iconst (nI 1) dX9_layOrders_72 (by decide) ?_
      refine qw_icmp_neN 106 dX9_layOrders_73 (by decide) (by omega) (by omega) (fun c73 => ?_) (fun c73 => ?_)
      · refine qw_iincN 1 dX9_layOrders_106 rfl (by decide) rfl (by decide) ?_
        refine qw_goto 54 dX9_layOrders_109 (by decide) ?_
        have e9 : (if r / 2 ^ t % 2 = 1 ∧ g_cl g f t = 0 then g_or g r t else 0) = 0 := if_neg (fun q => c73 q.1)
        have h := ih (t + 1) M (by omega) (by omega) (by rw [q_sm, e9]; exact hv) ho hj
        exact h
      · have hr0 : 0 < r := by
          rcases Nat.eq_zero_or_pos r with q | q
          · rw [q] at c73; simp at c73
          · exact q
        have hcl := hW.cl (s := f) (t := t) (by omega) (by omega)
        refine qw_aload_n 0 dX9_layOrders_76 rfl rfl ?_
        refine qw_iload_n 2 dX9_layOrders_77 rfl rfl ?_
        refine qw_iload dX9_layOrders_78 rfl ?_
        refine qw_cvp [_, _] (k_X9_clash_g h9 hM2 hW (by omega) (by omega)) mX9_195 dX9_layOrders_80 h9.1 rfl rfl rfl (Nat.le_of_ble_eq_true rfl) (by omega) (by decide) rfl ?_
        refine qw_if_neN 106 dX9_layOrders_83 (by decide) (by omega) (fun c83 => ?_) (fun c83 => ?_)
        · refine qw_iincN 1 dX9_layOrders_106 rfl (by decide) rfl (by decide) ?_
          refine qw_goto 54 dX9_layOrders_109 (by decide) ?_
          have e9 : (if r / 2 ^ t % 2 = 1 ∧ g_cl g f t = 0 then g_or g r t else 0) = 0 := if_neg (fun q => c83 q.2)
          have h := ih (t + 1) M (by omega) (by omega) (by rw [q_sm, e9]; exact hv) ho hj
          exact h
        · refine qw_aload_n 0 dX9_layOrders_86 rfl rfl ?_
          refine qw_getr fX9_32 dX9_layOrders_87 h9.1 rfl ?_
          refine qw_iload_n 1 dX9_layOrders_90 rfl rfl ?_
          refine qw_aald dX9_layOrders_91 h9.od rfl rfl (by omega) (by omega) (h9.of (by omega)) ?_
          refine qw_iload_n 2 dX9_layOrders_92 rfl rfl ?_
          refine qw_dup2 dX9_layOrders_93 rfl rfl ?_
          refine qw_iald dX9_layOrders_94 (h9.oc (k := s) (by omega)) (by omega) (by omega) ?_
          refine qw_aload_n 0 dX9_layOrders_95 rfl rfl ?_
          refine qw_getr fX9_32 dX9_layOrders_96 h9.1 rfl ?_
          refine qw_iload_n 3 dX9_layOrders_99 rfl rfl ?_
          refine qw_aald dX9_layOrders_100 h9.od rfl rfl (by omega) (by omega) (h9.of (by omega)) ?_
          refine qw_iload dX9_layOrders_101 rfl ?_
          refine qw_iald dX9_layOrders_103 (h9.oc (k := r) (by omega)) (by omega) (by omega) ?_
          refine qw_addN dX9_layOrders_104 ?_
          refine qw_iast dX9_layOrders_105 (h9.oc (k := s) (by omega)) (by omega) (by omega) ?_
          refine qw_iincN 1 dX9_layOrders_106 rfl (by decide) rfl (by decide) ?_
          refine qw_goto 54 dX9_layOrders_109 (by decide) ?_
          have e9 : (if r / 2 ^ t % 2 = 1 ∧ g_cl g f t = 0 then g_or g r t else 0) = g_or g r t := if_pos ⟨c73, c83⟩
          have e8 : M (m + 15 + r) t = g_or g r t := by rw [ho (m + 15 + r) (by omega)]; exact hT r (by omega) hrs t (by omega)
          refine ih (t + 1) _ (by omega) (by omega) ?_ ?_ ?_
          · rw [lq_up_s, q_sm, e9, e8, hv]; omega
          · intro b hb9; rw [lq_up_n _ _ _ hb9]; exact ho b hb9
          · intro j hj9; rw [lq_up_c _ _ hj9]; exact hj j hj9
theorem l1_X9_layOrders (h9 : sh9 S m fh fo) {g : Nat → Nat} (hW : g_wf g) {Q : lq_P} {M0 : lq_M} (hg : M0 (m + 2) = g) {s : Nat} (hs0 : 0 < s) (hs : s < 256) (hT : q_ot M0 m g s) (kk : ∀ M1 : lq_M, (∀ f, f < 8 → M1 (m + 15 + s) f = g_or g s f) → (∀ b, b ≠ m + 15 + s → M1 b = M0 b) → LW G YX9_layOrders 1 0 0 Q lq_no z S M1 N 118 [some (.ref m), some (.int (nI s)), none, none, none] []) : ∀ (n9 f : Nat) (M : lq_M), f ≤ 8 → 8 - f < n9 → (∀ j, j < f → M (m + 15 + s) j = g_or g s j) → (∀ b, b ≠ m + 15 + s → M b = M0 b) → LW G YX9_layOrders 1 0 0 Q lq_no z S M N 11 [some (.ref m), some (.int (nI s)), some (.int (nI f)), none, none] [] := by
  intro n9
  induction n9 with
  | zero => intro _ _ _ _ _ _; omega
  | succ n9 ih =>
    intro f M hf9 hn9 hv ho
    refine qw_iload_n 2 dX9_layOrders_11 rfl rfl ?_
    refine qw_bipush (nI 8) dX9_layOrders_12 (by decide) ?_
    refine qw_icmp_geN 118 dX9_layOrders_14 (by decide) (by omega) (by omega) (fun c14 => ?_) (fun c14 => ?_)
    · exact qw_weak _ (by simp [lq_le]) (kk M (fun j hj => hv j (by omega)) ho)
    · refine qw_iload_n 1 dX9_layOrders_17 rfl rfl ?_
      refine qw_iconst (nI 1) dX9_layOrders_18 (by decide) ?_
      refine qw_iload_n 2 dX9_layOrders_19 rfl rfl ?_
      refine qw_shlN (by omega) (by have := q_pw9 (f := f) (by omega); omega) dX9_layOrders_20 ?_
      refine qw_iconst (-1) dX9_layOrders_21 (by decide) ?_
      refine qw_ixor dX9_layOrders_22 ?_
      refine qw_iand dX9_layOrders_23 ?_
      rw [q_rst hs (by omega)]
      have hf : f < 8 := by omega
      refine qw_istore_n 3 dX9_layOrders_24 rfl rfl (by decide) ?_
      by_cases hb : s / 2 ^ f % 2 = 1
      · have hrn := q_rest_ne hs hf hb
        rw [hrn.1]
        have hpw := (q_pw8 ⟨f, hf⟩).1
        have hpw2 : 1 ≤ 2 ^ f := hpw
        refine qw_aload_n 0 dX9_layOrders_25 rfl rfl ?_
        refine qw_getr fX9_32 dX9_layOrders_26 h9.1 rfl ?_
        refine qw_iload_n 1 dX9_layOrders_29 rfl rfl ?_
        refine qw_aald dX9_layOrders_30 h9.od rfl rfl (by omega) (by omega) (h9.of (by omega)) ?_
        refine qw_iload_n 2 dX9_layOrders_31 rfl rfl ?_
        refine qw_iload_n 3 dX9_layOrders_32 rfl rfl ?_
        refine qw_iload_n 1 dX9_layOrders_33 rfl rfl ?_
        refine qw_icmp_neN 41 dX9_layOrders_34 (by decide) (by omega) (by omega) (fun c34 => ?_) (fun c34 => absurd c34 (by omega))
        refine qw_iload_n 3 dX9_layOrders_41 rfl rfl ?_
        refine qw_if_neN 49 dX9_layOrders_42 (by decide) (by omega) (fun c42 => ?_) (fun c42 => ?_)
        · refine qw_iconst (nI 0) dX9_layOrders_49 (by decide) ?_
          refine qw_iast dX9_layOrders_50 (h9.oc (k := s) (by omega)) (by omega) (by omega) ?_
          refine qw_iconst (nI 0) dX9_layOrders_51 (by decide) ?_
          refine qw_istore dX9_layOrders_52 rfl (by decide) ?_
          exact l0_X9_layOrders h9 hW (M0 := lq_up M (m + 15 + s) f 0) (by rw [lq_up_n _ _ _ (by omega), ho (m + 2) (by omega)]; exact hg) hs0 hs hf hb rfl (fun s1 h1 h2 f1 h3 => by rw [lq_up_n _ _ _ (by omega), ho (m + 15 + s1) (by omega)]; exact hT s1 h1 h2 f1 h3) (fun M1 k1 k2 k3 => by
            have h := ih (f + 1) M1 (by omega) (by omega) (fun j hj => by
              by_cases e : j = f
              · rw [e]; exact k1
              · rw [k3 j e, lq_up_c _ _ e]; exact hv j (by omega)) (fun b hb9 => by rw [k2 b hb9, lq_up_n _ _ _ hb9]; exact ho b hb9)
            refine qw_iincN 1 dX9_layOrders_112 rfl (by decide) rfl (by decide) ?_
            refine qw_goto 11 dX9_layOrders_115 (by decide) ?_
            exact h) 9 0 _ (Nat.zero_le _) (by omega) (by rw [lq_up_s, if_neg c42]; rfl) (fun b hb9 => rfl) (fun j hj => rfl)
        · refine qw_iconst (nI 1) dX9_layOrders_45 (by decide) ?_
          refine qw_goto 50 dX9_layOrders_46 (by decide) ?_
          refine qw_iast dX9_layOrders_50 (h9.oc (k := s) (by omega)) (by omega) (by omega) ?_
          refine qw_iconst (nI 0) dX9_layOrders_51 (by decide) ?_
          refine qw_istore dX9_layOrders_52 rfl (by decide) ?_
          exact l0_X9_layOrders h9 hW (M0 := lq_up M (m + 15 + s) f 1) (by rw [lq_up_n _ _ _ (by omega), ho (m + 2) (by omega)]; exact hg) hs0 hs hf hb rfl (fun s1 h1 h2 f1 h3 => by rw [lq_up_n _ _ _ (by omega), ho (m + 15 + s1) (by omega)]; exact hT s1 h1 h2 f1 h3) (fun M1 k1 k2 k3 => by
            have h := ih (f + 1) M1 (by omega) (by omega) (fun j hj => by
              by_cases e : j = f
              · rw [e]; exact k1
              · rw [k3 j e, lq_up_c _ _ e]; exact hv j (by omega)) (fun b hb9 => by rw [k2 b hb9, lq_up_n _ _ _ hb9]; exact ho b hb9)
            refine qw_iincN 1 dX9_layOrders_112 rfl (by decide) rfl (by decide) ?_
            refine qw_goto 11 dX9_layOrders_115 (by decide) ?_
            exact h) 9 0 _ (Nat.zero_le _) (by omega) (by rw [lq_up_s, if_pos c42]; rfl) (fun b hb9 => rfl) (fun j hj => rfl)
      · rw [q_rest_no hb]
        refine qw_aload_n 0 dX9_layOrders_25 rfl rfl ?_
        refine qw_getr fX9_32 dX9_layOrders_26 h9.1 rfl ?_
        refine qw_iload_n 1 dX9_layOrders_29 rfl rfl ?_
        refine qw_aald dX9_layOrders_30 h9.od rfl rfl (by omega) (by omega) (h9.of (by omega)) ?_
        refine qw_iload_n 2 dX9_layOrders_31 rfl rfl ?_
        refine qw_iload_n 3 dX9_layOrders_32 rfl rfl ?_
        refine qw_iload_n 1 dX9_layOrders_33 rfl rfl ?_
        refine qw_icmp_neN 41 dX9_layOrders_34 (by decide) (by omega) (by omega) (fun c34 => absurd rfl c34) (fun c34 => ?_)
        refine qw_iconst (nI 0) dX9_layOrders_37 (by decide) ?_
        refine qw_goto 50 dX9_layOrders_38 (by decide) ?_
        refine qw_iast dX9_layOrders_50 (h9.oc (k := s) (by omega)) (by omega) (by omega) ?_
        refine qw_iconst (nI 0) dX9_layOrders_51 (by decide) ?_
        refine qw_istore dX9_layOrders_52 rfl (by decide) ?_
        refine qw_iload dX9_layOrders_54 rfl ?_
        refine qw_bipush (nI 8) dX9_layOrders_56 (by decide) ?_
        refine qw_icmp_geN 112 dX9_layOrders_58 (by decide) (by omega) (by omega) (fun c58 => absurd c58 (by decide)) (fun c58 => ?_)
        refine qw_iload_n 3 dX9_layOrders_61 rfl rfl ?_
        refine qw_iload_n 1 dX9_layOrders_62 rfl rfl ?_
        refine qw_icmp_eqN 112 dX9_layOrders_63 (by decide) (by omega) (by omega) (fun c63 => ?_) (fun c63 => absurd rfl c63)
        refine qw_iincN 1 dX9_layOrders_112 rfl (by decide) rfl (by decide) ?_
        refine qw_goto 11 dX9_layOrders_115 (by decide) ?_
        refine qw_weak _ (by simp [lq_le]) (ih (f + 1) _ (by omega) (by omega) (fun j hj => ?_) (fun b hb9 => ?_))
        · by_cases e : j = f
          · rw [e, lq_up_s, g_or_rec g hs hf, if_neg hb]
          · rw [lq_up_c _ _ e]; exact hv j (by omega)
        · rw [lq_up_n _ _ _ hb9]; exact ho b hb9
theorem l2_X9_layOrders (h9 : sh9 S m fh fo) {g : Nat → Nat} (hW : g_wf g) {M0 : lq_M} (hg : M0 (m + 2) = g) : ∀ (n9 s : Nat) (M : lq_M), s ≤ 256 → 256 - s < n9 → 0 < s → q_ot M m g s → q_fr (m + 15) (m + 271) M0 M → LW G YX9_layOrders 1 0 0 (lq_mv z S N (fun M1 => q_ot M1 m g 256 ∧ q_fr (m + 15) (m + 271) M0 M1)) lq_no z S M N 2 [some (.ref m), some (.int (nI s)), none, none, none] [] := by
  intro n9
  induction n9 with
  | zero => intro _ _ _ _ _ _ _; omega
  | succ n9 ih =>
    intro s M hs hn9 hs0 hT hq
    refine qw_iload_n 1 dX9_layOrders_2 rfl rfl ?_
    refine qw_sipush (nI 256) dX9_layOrders_3 (by decide) ?_
    refine qw_icmp_geN 124 dX9_layOrders_6 (by decide) (by omega) (by omega) (fun c6 => ?_) (fun c6 => ?_)
    · exact qw_return rfl dX9_layOrders_124 ⟨rfl, rfl, rfl, rfl, by rw [show s = 256 by omega] at hT; exact hT, hq⟩
    · refine qw_iconst (nI 0) dX9_layOrders_9 (by decide) ?_
      refine qw_istore_n 2 dX9_layOrders_10 rfl rfl (by decide) ?_
      refine l1_X9_layOrders h9 hW (by rw [hq (m + 2) (by omega)]; exact hg) hs0 (by omega) hT (fun M1 k1 k2 => ?_) 9 0 M (Nat.zero_le _) (by omega) (fun j hj => absurd hj (Nat.not_lt_zero j)) (fun b hb9 => rfl)
      refine qw_iincN 1 dX9_layOrders_118 rfl (by decide) rfl (by decide) ?_
      refine qw_goto 2 dX9_layOrders_121 (by decide) ?_
      refine ih (s + 1) M1 (by omega) (by omega) (by omega) (fun s1 h1 h2 f h3 => ?_) (fun b hb9 => ?_)
      · by_cases e : s1 = s
        · rw [e]; exact k1 f h3
        · rw [k2 (m + 15 + s1) (by omega)]; exact hT s1 h1 (by omega) f h3
      · rw [k2 b (by omega)]; exact hq b hb9
theorem k_X9_layOrders (h9 : sh9 S m fh fo) {g : Nat → Nat} (hW : g_wf g) (hg : M (m + 2) = g) : LM G YX9_layOrders 1 0 0 [.ref m] z S M N (lq_mv z S N (fun M1 => q_ot M1 m g 256 ∧ q_fr (m + 15) (m + 271) M M1)) lq_no := by
  refine LM.of (by decide) rfl [some (.ref m), none, none, none, none] rfl (Nat.le_of_ble_eq_true rfl) ?_
  refine qw_iconst (nI 1) dX9_layOrders_0 (by decide) ?_
  refine qw_istore_n 1 dX9_layOrders_1 rfl rfl (by decide) ?_
  exact l2_X9_layOrders h9 hW hg 256 1 M (by decide) (by decide) (by decide) (fun s h1 h2 => by omega) q_fr.rf
theorem l_X9_countOrders (h9 : sh9 S m fh fo) {g : Nat → Nat} {s : Nat} (hs : s < 256) (hT : q_ot M m g 256) (hs0 : 0 < s) : ∀ (n9 f : Nat), f ≤ 8 → 8 - f < n9 → LW G YX9_countOrders 0 0 0 (lq_pu z S M N (.int (nI (g_co g s)))) lq_no z S M N 10 [some (.ref m), some (.int (nI s)), some (.int (nI (q_sm (fun f => g_or g s f) f))), some (.int (nI f))] [] := by
  intro n9
  induction n9 with
  | zero => intro _ _ _; omega
  | succ n9 ih =>
    intro f hf hn9
    refine qw_iload_n 3 dX9_countOrders_10 rfl rfl ?_
    refine qw_bipush (nI 8) dX9_countOrders_11 (by decide) ?_
    refine qw_icmp_geN 33 dX9_countOrders_13 (by decide) (by omega) (by omega) (fun c13 => ?_) (fun c13 => ?_)
    · refine qw_iload_n 2 dX9_countOrders_33 rfl rfl ?_
      exact qw_ireturn rfl rfl dX9_countOrders_34 ⟨by rw [g_co, if_neg (by omega), show f = 8 by omega], rfl, rfl, rfl, rfl⟩
    · refine qw_iload_n 2 dX9_countOrders_16 rfl rfl ?_
      refine qw_aload_n 0 dX9_countOrders_17 rfl rfl ?_
      refine qw_getr fX9_32 dX9_countOrders_18 h9.1 rfl ?_
      refine qw_iload_n 1 dX9_countOrders_21 rfl rfl ?_
      refine qw_aald dX9_countOrders_22 h9.od rfl rfl (by omega) (by omega) (h9.of (by omega)) ?_
      refine qw_iload_n 3 dX9_countOrders_23 rfl rfl ?_
      refine qw_iald dX9_countOrders_24 (h9.oc (k := s) (by omega)) (by omega) (by omega) ?_
      rw [hT s hs0 hs f (by omega)]
      refine qw_addN dX9_countOrders_25 ?_
      refine qw_istore_n 2 dX9_countOrders_26 rfl rfl (by decide) ?_
      refine qw_iincN 1 dX9_countOrders_27 rfl (by decide) rfl (by decide) ?_
      refine qw_goto 10 dX9_countOrders_30 (by decide) ?_
      exact ih (f + 1) (by omega) (by omega)
theorem k_X9_countOrders (h9 : sh9 S m fh fo) {g : Nat → Nat} {s : Nat} (hs : s < 256) (hT : q_ot M m g 256) : LM G YX9_countOrders 0 0 0 [.ref m, .int (nI s)] z S M N (lq_pu z S M N (.int (nI (g_co g s)))) lq_no := by
  refine LM.of (by decide) rfl [some (.ref m), some (.int (nI s)), none, none] rfl (Nat.le_of_ble_eq_true rfl) ?_
  refine qw_iload_n 1 dX9_countOrders_0 rfl rfl ?_
  refine qw_if_neN 6 dX9_countOrders_1 (by decide) (by omega) (fun c1 => ?_) (fun c1 => ?_)
  · refine qw_iconst (nI 0) dX9_countOrders_6 (by decide) ?_
    refine qw_istore_n 2 dX9_countOrders_7 rfl rfl (by decide) ?_
    refine qw_iconst (nI 0) dX9_countOrders_8 (by decide) ?_
    refine qw_istore_n 3 dX9_countOrders_9 rfl rfl (by decide) ?_
    exact l_X9_countOrders h9 hs hT (by omega) 9 0 (Nat.zero_le _) (by omega)
  · refine qw_iconst (nI 1) dX9_countOrders_4 (by decide) ?_
    exact qw_ireturn rfl rfl dX9_countOrders_5 ⟨by rw [g_co, if_pos c1], rfl, rfl, rfl, rfl⟩
theorem l0_X9_layFirst (h9 : sh9 S m fh fo) {g : Nat → Nat} (hW : g_wf g) {s : Nat} (hs : s < 256) (hm : s ≠ 0 → g_more g s 8) {Q : lq_P} (hg : g_wf (M (m + 2)) ∧ ∀ s t, s < 8 → t < 8 → g_cl (M (m + 2)) s t = g_cl g s t) (hT : q_ot M m g 256) {k : Nat} (hk : k < q_pc s) (hrow : 0 < k → M (m + 271) (k - 1) = (g_fs g s k).2) (kk : LW G YX9_layFirst 1 0 0 Q lq_no z S M N 50 [some (.ref m), none, some (.int (nI k)), some (.int (nI (g_fs g s k).1)), some (.int (nI (g_fs g s (k + 1)).2))] []) : ∀ (n9 f : Nat), f ≤ (g_fs g s (k + 1)).2 → (g_fs g s (k + 1)).2 - f < n9 → LW G YX9_layFirst 1 0 0 Q lq_no z S M N 11 [some (.ref m), none, some (.int (nI k)), some (.int (nI (g_fs g s k).1)), some (.int (nI f))] [] := by
  intro n9
  induction n9 with
  | zero => intro _ _ _; omega
  | succ n9 ih =>
    intro f hf hn9
    have hat := q_lay.at hs hm hk
    have hla := q_lay.all hs hm k (by omega)
    have hp8 : q_pc s ≤ 8 := q_pc8 ⟨s, hs⟩
    have hl0 : (g_fs g s k).1 ≠ 0 := fun q => by have h1 := hat.2.1; rw [q] at h1; simp at h1
    have hmo := (hla.2.2.2.1 hl0).lt
    have hn2 : (g_fs g s (k + 1)).2 = g_nxt g (g_fs g s k).1 (g_fs g s k).2 := g_fs_2 g s k
    have hno : ∀ j, j < (g_fs g s (k + 1)).2 → ¬ (g_or g (g_fs g s k).1 j ≠ 0 ∧ ((g_fs g s k).2 = 8 ∨ g_cl g (g_fs g s k).2 j = 0)) := fun j hj q => q_fst_no _ _ 8 j (by rw [hn2] at hj; exact hj) (g_nxN_1.mpr q)
    have hk8 : k = 0 → (g_fs g s k).2 = 8 := fun q => by rw [q]; rfl
    have hk9 : 0 < k → (g_fs g s k).2 < 8 := fun q => by obtain ⟨k1, rfl⟩ : ∃ k1, k = k1 + 1 := ⟨k - 1, by omega⟩; exact (q_lay.at hs hm (k := k1) (by omega)).1
    have hor := g_or_le g (g_fs g s k).1 f
    refine qw_aload_n 0 dX9_layFirst_11 rfl rfl ?_
    refine qw_getr fX9_32 dX9_layFirst_12 h9.1 rfl ?_
    refine qw_iload_n 3 dX9_layFirst_15 rfl rfl ?_
    refine qw_aald dX9_layFirst_16 h9.od rfl rfl (by omega) (by omega) (h9.of (by omega)) ?_
    refine qw_iload dX9_layFirst_17 rfl ?_
    refine qw_iald dX9_layFirst_19 (h9.oc (k := (g_fs g s k).1) (by omega)) (by omega) (by omega) ?_
    rw [hT (g_fs g s k).1 (by omega) hat.2.2.2 f (by omega)]
    refine qw_if_eqN 44 dX9_layFirst_20 (by decide) (by omega) (fun c20 => ?_) (fun c20 => ?_)
    · refine qw_iincN 1 dX9_layFirst_44 rfl (by decide) rfl (by decide) ?_
      refine qw_goto 11 dX9_layFirst_47 (by decide) ?_
      have hne : f ≠ (g_fs g s (k + 1)).2 := fun e9 => ((fun q => q.1 c20) : ¬ (g_or g (g_fs g s k).1 f ≠ 0 ∧ ((g_fs g s k).2 = 8 ∨ g_cl g (g_fs g s k).2 f = 0))) (by rw [e9, hn2]; exact hmo.2)
      exact ih (f + 1) (by omega) (by omega)
    · refine qw_iload_n 2 dX9_layFirst_23 rfl rfl ?_
      refine qw_if_leN 50 dX9_layFirst_24 (by decide) (by omega) (fun c24 => ?_) (fun c24 => ?_)
      · have he : f = (g_fs g s (k + 1)).2 := by
          rcases Nat.lt_or_ge f (g_fs g s (k + 1)).2 with q | q
          · exact absurd ⟨c20, Or.inl (hk8 c24)⟩ (hno f q)
          · omega
        rw [he]
        exact kk
      · refine qw_aload_n 0 dX9_layFirst_27 rfl rfl ?_
        refine qw_aload_n 0 dX9_layFirst_28 rfl rfl ?_
        refine qw_getr fX9_35 dX9_layFirst_29 h9.1 rfl ?_
        refine qw_iload_n 2 dX9_layFirst_32 rfl rfl ?_
        refine qw_iconst (nI 1) dX9_layFirst_33 (by decide) ?_
        refine qw_subN (by omega) dX9_layFirst_34 ?_
        refine qw_iald dX9_layFirst_35 h9.rw (by omega) (by omega) ?_
        rw [hrow c24]
        refine qw_iload dX9_layFirst_36 rfl ?_
        refine qw_cvp [_, _] (k_X9_clash h9 hg.1 (hk9 c24) (by omega)) mX9_195 dX9_layFirst_38 h9.1 rfl rfl rfl (Nat.le_of_ble_eq_true rfl) (by omega) (by decide) rfl ?_
        rw [hg.2 _ _ (hk9 c24) (by omega)]
        have hc01 := (hW.cl (s := (g_fs g s k).2) (t := f) (hk9 c24) (by omega)).1
        refine qw_if_eqN 50 dX9_layFirst_41 (by decide) (by omega) (fun c41 => ?_) (fun c41 => ?_)
        · have he : f = (g_fs g s (k + 1)).2 := by
            rcases Nat.lt_or_ge f (g_fs g s (k + 1)).2 with q | q
            · exact absurd ⟨c20, Or.inr c41⟩ (hno f q)
            · omega
          rw [he]
          exact kk
        · refine qw_iincN 1 dX9_layFirst_44 rfl (by decide) rfl (by decide) ?_
          refine qw_goto 11 dX9_layFirst_47 (by decide) ?_
          have hne : f ≠ (g_fs g s (k + 1)).2 := fun e9 => ((fun q => by rcases q.2 with q | q; have := hk9 c24; omega; exact c41 q) : ¬ (g_or g (g_fs g s k).1 f ≠ 0 ∧ ((g_fs g s k).2 = 8 ∨ g_cl g (g_fs g s k).2 f = 0))) (by rw [e9, hn2]; exact hmo.2)
          exact ih (f + 1) (by omega) (by omega)
theorem l1_X9_layFirst (h9 : sh9 S m fh fo) {g : Nat → Nat} (hW : g_wf g) {s : Nat} (hs : s < 256) (hm : s ≠ 0 → g_more g s 8) {M0 : lq_M} (hg : g_wf (M0 (m + 2)) ∧ ∀ s t, s < 8 → t < 8 → g_cl (M0 (m + 2)) s t = g_cl g s t) (hT : q_ot M0 m g 256) : ∀ (n9 k : Nat) (M : lq_M), k ≤ q_pc s → q_pc s - k < n9 → (∀ j, j < k → M (m + 271) j = (g_fs g s (j + 1)).2) → q_fr (m + 271) (m + 272) M0 M → LW G YX9_layFirst 1 0 0 (lq_mv z S N (fun M1 => (∀ j, j < q_pc s → M1 (m + 271) j = (g_fs g s (j + 1)).2) ∧ q_fr (m + 271) (m + 272) M0 M1)) lq_no z S M N 4 [some (.ref m), none, some (.int (nI k)), some (.int (nI (g_fs g s k).1)), none] [] := by
  intro n9
  induction n9 with
  | zero => intro _ _ _ _ _ _; omega
  | succ n9 ih =>
    intro k M hk hn9 hr hq
    have hla := q_lay.all hs hm k hk
    have hl256 := hla.2.1
    have hp8 : q_pc s ≤ 8 := q_pc8 ⟨s, hs⟩
    have hz := q_pc_z hla.2.1
    refine qw_iload_n 3 dX9_layFirst_4 rfl rfl ?_
    refine qw_if_eqN 79 dX9_layFirst_5 (by decide) (by omega) (fun c5 => ?_) (fun c5 => ?_)
    · exact qw_return rfl dX9_layFirst_79 ⟨rfl, rfl, rfl, rfl, by have h1 := hla.2.2.1; rw [c5, show q_pc 0 = 0 by decide] at h1; rw [show q_pc s = k by omega]; exact hr, hq⟩
    · refine qw_iconst (nI 0) dX9_layFirst_8 (by decide) ?_
      refine qw_istore dX9_layFirst_9 rfl (by decide) ?_
      have hkk : k < q_pc s := by
        rcases Nat.lt_or_ge k (q_pc s) with q | q
        · exact q
        · exact absurd (hz.mp (by have := hla.2.2.1; omega)) c5
      have hat := q_lay.at hs hm hkk
      refine qw_weak _ (by simp [lq_le]) (l0_X9_layFirst h9 hW hs hm (by rw [hq (m + 2) (by omega)]; exact hg) (fun s1 h1 h2 f h3 => by rw [hq (m + 15 + s1) (by omega)]; exact hT s1 h1 h2 f h3) hkk (fun h0 => by rw [hr (k - 1) (by omega), show k - 1 + 1 = k by omega]) ?_ 9 0 (Nat.zero_le _) (by omega))
      refine qw_aload_n 0 dX9_layFirst_50 rfl rfl ?_
      refine qw_getr fX9_35 dX9_layFirst_51 h9.1 rfl ?_
      refine qw_iload_n 2 dX9_layFirst_54 rfl rfl ?_
      refine qw_iload dX9_layFirst_55 rfl ?_
      refine qw_iast dX9_layFirst_57 h9.rw (by omega) (by omega) ?_
      refine qw_iincN 1 dX9_layFirst_58 rfl (by decide) rfl (by decide) ?_
      refine qw_iload_n 3 dX9_layFirst_61 rfl rfl ?_
      refine qw_iconst (nI 1) dX9_layFirst_62 (by decide) ?_
      refine qw_aload_n 0 dX9_layFirst_63 rfl rfl ?_
      refine qw_getr fX9_35 dX9_layFirst_64 h9.1 rfl ?_
      refine qw_iload_n 2 dX9_layFirst_67 rfl rfl ?_
      refine qw_iconst (nI 1) dX9_layFirst_68 (by decide) ?_
      refine qw_subN (by omega) dX9_layFirst_69 ?_
      refine qw_iald dX9_layFirst_70 h9.rw (by omega) (by omega) ?_
      rw [show k + 1 - 1 = k by omega, lq_up_s]
      refine qw_shlN (by omega) (by have := q_pw9 hat.1; omega) dX9_layFirst_71 ?_
      refine qw_iconst (-1) dX9_layFirst_72 (by decide) ?_
      refine qw_ixor dX9_layFirst_73 ?_
      refine qw_iand dX9_layFirst_74 ?_
      rw [q_rst hat.2.2.2 hat.1, (q_rest_ne hat.2.2.2 hat.1 hat.2.1).1, ← hat.2.2.1]
      refine qw_istore_n 3 dX9_layFirst_75 rfl rfl (by decide) ?_
      refine qw_goto 4 dX9_layFirst_76 (by decide) ?_
      refine qw_weak _ (by simp [lq_le]) (ih (k + 1) _ (by omega) (by omega) (fun j hj => ?_) (fun b hb => ?_))
      · by_cases e : j = k
        · rw [e, lq_up_s]
        · rw [lq_up_c _ _ e]; exact hr j (by omega)
      · rw [lq_up_n _ _ _ (by omega)]; exact hq b hb
theorem k_X9_layFirst (h9 : sh9 S m fh fo) {g : Nat → Nat} (hW : g_wf g) {s : Nat} (hs : s < 256) (hm : s ≠ 0 → g_more g s 8) (hg : g_wf (M (m + 2)) ∧ ∀ s t, s < 8 → t < 8 → g_cl (M (m + 2)) s t = g_cl g s t) (hT : q_ot M m g 256) : LM G YX9_layFirst 1 0 0 [.ref m, .int (nI s)] z S M N (lq_mv z S N (fun M1 => (∀ j, j < q_pc s → M1 (m + 271) j = (g_fs g s (j + 1)).2) ∧ q_fr (m + 271) (m + 272) M M1)) lq_no := by
  refine LM.of (by decide) rfl [some (.ref m), some (.int (nI s)), none, none, none] rfl (Nat.le_of_ble_eq_true rfl) ?_
  refine qw_iconst (nI 0) dX9_layFirst_0 (by decide) ?_
  refine qw_istore_n 2 dX9_layFirst_1 rfl rfl (by decide) ?_
  refine qw_iload_n 1 dX9_layFirst_2 rfl rfl ?_
  refine qw_istore_n 3 dX9_layFirst_3 rfl rfl (by decide) ?_
  exact qw_weak _ (by simp [lq_le]; try rfl) (l1_X9_layFirst h9 hW hs hm hg hT (q_pc s + 1) 0 M (Nat.zero_le _) (by omega) (fun j hj => absurd hj (Nat.not_lt_zero j)) q_fr.rf)
end R6
