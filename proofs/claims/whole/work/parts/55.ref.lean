/-! THE REFERENCE: copies, what is remembered, a spot put in -/
/-- the rows of the reference's history are the states before -/
def q_hr (M : lq_M) (m u : Nat) (H : Nat → Nat → Nat) : Prop := M m 11 = u ∧ u ≤ 8 ∧ ∀ j, 1 ≤ j → j ≤ u → ∀ k, k < 2663 → M (m + 5 + (u - j)) k = H j k
/-- what a changing method leaves of the reference but its data -/
def q_mf (m : Nat) (M M1 : lq_M) : Prop := q_fr m (m + 273) M M1 ∧ M1 (m + 1) = M (m + 1) ∧ ∀ j, j ≠ 0 → j ≠ 11 → M1 m j = M m j
def q_mut (m u : Nat) (H : Nat → Nat → Nat) (M M2 : lq_M) (g : Nat → Nat) : Prop := M2 (m + 2) = g ∧ q_hr M2 m (min (u + 1) 8) (q_sh H) ∧ M2 m 0 = 0 ∧ q_mf m M M2
/-- only the data and the work rows have moved -/
theorem lq_up_x {α : Type} (M : Nat → Nat → α) (a k j : Nat) (v : α) : lq_up M a k v a j = if j = k then v else M a j := by simp [lq_up]
def q_dfr (m : Nat) (M M1 : lq_M) : Prop := ∀ b, b ≠ m + 2 → b < m + 15 ∨ m + 273 ≤ b → M1 b = M b
theorem q_dfr.rf {m : Nat} {M : lq_M} : q_dfr m M M := fun _ _ _ => rfl
theorem q_dfr.tr {m : Nat} {M M1 M2 : lq_M} (h : q_dfr m M M1) (h2 : q_dfr m M1 M2) : q_dfr m M M2 := fun b b1 b2 => (h2 b b1 b2).trans (h b b1 b2)
theorem q_dfr.of {m : Nat} {M M1 : lq_M} (h : ∀ b, b ≠ m + 2 → M1 b = M b) : q_dfr m M M1 := fun b b1 _ => h b b1
theorem q_mut.go {m u : Nat} {H : Nat → Nat → Nat} {M M1 M2 : lq_M} {g g2 : Nat → Nat} (h : q_mut m u H M M1 g) (hd : q_dfr m M1 M2) (hg : M2 (m + 2) = g2) : q_mut m u H M M2 g2 := by
  obtain ⟨h1, ⟨h2, h3, h4⟩, h5, h6, h7, h8⟩ := h
  have e0 := hd m (by omega) (by omega)
  refine ⟨hg, ⟨by rw [e0]; exact h2, h3, fun j j1 j2 k hk => by rw [hd (m + 5 + (min (u + 1) 8 - j)) (by omega) (by omega)]; exact h4 j j1 j2 k hk⟩, by rw [e0]; exact h5, fun b hb => by rw [hd b (by omega) (by omega)]; exact h6 b hb, by rw [hd (m + 1) (by omega) (by omega)]; exact h7, fun j j1 j2 => by rw [e0]; exact h8 j j1 j2⟩
section R7
variable {G : lq_G} {z : Nat} {S : lq_S} {M : lq_M} {N : lq_N} {m : Nat} {fh fo : Nat → Option Nat}
theorem l_X9_copy {a o : Nat} (ha : S a = some (.inr (.inl (0, 2663)))) (ho : S o = some (.inr (.inl (0, 2663)))) (hd : o ≠ a) {M0 : lq_M} : ∀ (n9 k : Nat) (M : lq_M), k ≤ 2663 → 2663 - k < n9 → (∀ j, j < k → M a j = M0 o j) → (∀ b, b ≠ a → M b = M0 b) → LW G YX9_copy 0 0 0 (lq_mv z S N (fun M1 => (∀ j, j < 2663 → M1 a j = M0 o j) ∧ ∀ b, b ≠ a → M1 b = M0 b)) lq_no z S M N 2 [some (.ref o), some (.ref a), some (.int (nI k))] [] := by
  intro n9
  induction n9 with
  | zero => intro _ _ _ _ _ _; omega
  | succ n9 ih =>
    intro k M hk hn9 hv hq
    refine qw_iload_n 2 dX9_copy_2 rfl rfl ?_
    refine qw_sipush (nI 2663) dX9_copy_3 (by decide) ?_
    refine qw_icmp_geN 21 dX9_copy_6 (by decide) (by omega) (by omega) (fun c6 => ?_) (fun c6 => ?_)
    · exact qw_return rfl dX9_copy_21 ⟨rfl, rfl, rfl, rfl, fun j hj => hv j (by omega), hq⟩
    · refine qw_aload_n 1 dX9_copy_9 rfl rfl ?_
      refine qw_iload_n 2 dX9_copy_10 rfl rfl ?_
      refine qw_aload_n 0 dX9_copy_11 rfl rfl ?_
      refine qw_iload_n 2 dX9_copy_12 rfl rfl ?_
      refine qw_iald dX9_copy_13 ho (by omega) (by omega) ?_
      refine qw_iast dX9_copy_14 ha (by omega) (by omega) ?_
      refine qw_iincN 1 dX9_copy_15 rfl (by decide) rfl (by decide) ?_
      refine qw_goto 2 dX9_copy_18 (by decide) ?_
      refine ih (k + 1) _ (by omega) (by omega) (fun j hj => ?_) (fun b hb => ?_)
      · by_cases e : j = k
        · rw [e, lq_up_s, hq o hd]
        · rw [lq_up_c _ _ e]; exact hv j (by omega)
      · rw [lq_up_n _ _ _ hb]; exact hq b hb
theorem k_X9_copy {a o : Nat} (ha : S a = some (.inr (.inl (0, 2663)))) (ho : S o = some (.inr (.inl (0, 2663)))) (hd : o ≠ a) : LM G YX9_copy 0 0 0 [.ref o, .ref a] z S M N (lq_mv z S N (fun M1 => (∀ j, j < 2663 → M1 a j = M o j) ∧ ∀ b, b ≠ a → M1 b = M b)) lq_no := by
  refine LM.of (by decide) rfl [some (.ref o), some (.ref a), none] rfl (Nat.le_of_ble_eq_true rfl) ?_
  refine qw_iconst (nI 0) dX9_copy_0 (by decide) ?_
  refine qw_istore_n 2 dX9_copy_1 rfl rfl (by decide) ?_
  exact l_X9_copy ha ho hd 2664 0 M (by decide) (by decide) (fun j hj => absurd hj (Nat.not_lt_zero j)) (fun b hb => rfl)
theorem l_X9_remember (h9 : sh9 S m fh fo) {Q : lq_P} {M0 : lq_M} (kk : ∀ M1 : lq_M, (∀ i, i < 7 → ∀ k, k < 2663 → M1 (m + 5 + i) k = M0 (m + 5 + (i + 1)) k) → (∀ b, b < m + 5 ∨ m + 12 ≤ b → M1 b = M0 b) → LW G YX9_remember 1 0 0 Q lq_no z S M1 N 40 [some (.ref m), none] []) : ∀ (n9 j : Nat) (M : lq_M), 1 ≤ j → j ≤ 8 → 8 - j < n9 → (∀ i, i + 1 < j → ∀ k, k < 2663 → M (m + 5 + i) k = M0 (m + 5 + (i + 1)) k) → (∀ b, b < m + 5 ∨ m + 5 + j ≤ b + 1 → M b = M0 b) → LW G YX9_remember 1 0 0 Q lq_no z S M N 11 [some (.ref m), some (.int (nI j))] [] := by
  intro n9
  induction n9 with
  | zero => intro _ _ _ _ _ _ _; omega
  | succ n9 ih =>
    intro j M hj1 hj hn9 hv hq
    refine qw_iload_n 1 dX9_remember_11 rfl rfl ?_
    refine qw_bipush (nI 8) dX9_remember_12 (by decide) ?_
    refine qw_icmp_geN 40 dX9_remember_14 (by decide) (by omega) (by omega) (fun c14 => ?_) (fun c14 => ?_)
    · exact qw_weak _ (by simp [lq_le]) (kk M (fun i hi => hv i (by omega)) (fun b hb => hq b (by omega)))
    · refine qw_aload_n 0 dX9_remember_17 rfl rfl ?_
      refine qw_getr fX9_25 dX9_remember_18 h9.1 rfl ?_
      refine qw_iload_n 1 dX9_remember_21 rfl rfl ?_
      refine qw_aald dX9_remember_22 h9.hi rfl rfl (by omega) (by omega) (h9.hf (by omega)) ?_
      refine qw_aload_n 0 dX9_remember_23 rfl rfl ?_
      refine qw_getr fX9_25 dX9_remember_24 h9.1 rfl ?_
      refine qw_iload_n 1 dX9_remember_27 rfl rfl ?_
      refine qw_iconst (nI 1) dX9_remember_28 (by decide) ?_
      refine qw_subN (by omega) dX9_remember_29 ?_
      refine qw_aald dX9_remember_30 h9.hi rfl rfl (by omega) (by omega) (h9.hf (by omega)) ?_
      refine qw_csv [_, _] (k_X9_copy (h9.hc (k := j - 1) (by omega)) (h9.hc (k := j) (by omega)) (by omega)) mX9_181 dX9_remember_31 rfl rfl (Nat.le_of_ble_eq_true rfl) (by omega) (by decide) rfl (fun M1 h1 => ?_)
      refine qw_iincN 1 dX9_remember_34 rfl (by decide) rfl (by decide) ?_
      refine qw_goto 11 dX9_remember_37 (by decide) ?_
      refine ih (j + 1) M1 (by omega) (by omega) (by omega) (fun i hi k hk => ?_) (fun b hb => ?_)
      · by_cases e : i = j - 1
        · rw [e, h1.1 k hk, show j - 1 + 1 = j by omega, hq (m + 5 + j) (by omega)]
        · rw [h1.2 (m + 5 + i) (by omega)]; exact hv i (by omega) k hk
      · rw [h1.2 b (by omega)]; exact hq b (by omega)
theorem k_X9_remember (h9 : sh9 S m fh fo) {u : Nat} {H : Nat → Nat → Nat} (hH : q_hr M m u H) (h0 : M m 0 = 0) (hd : H 0 = M (m + 2)) : LM G YX9_remember 1 0 0 [.ref m] z S M N (lq_mv z S N (fun M1 => q_mut m u H M M1 (M (m + 2)))) lq_no := by
  obtain ⟨hu, h8, hr⟩ := hH
  refine LM.of (by decide) rfl [some (.ref m), none] rfl (Nat.le_of_ble_eq_true rfl) ?_
  have tail : ∀ (M2 : lq_M) (v : Nat), v < 8 → min (u + 1) 8 = v + 1 → M2 m 11 = v → (∀ j, 1 ≤ j → j ≤ u → j + 1 ≤ 8 → ∀ k, k < 2663 → M2 (m + 5 + (v - j)) k = H j k) → (∀ b, b ≠ m → b < m + 5 ∨ m + 13 ≤ b → M2 b = M b) → (∀ j, j ≠ 11 → M2 m j = M m j) → LW G YX9_remember 1 0 0 (lq_mv z S N (fun M1 => q_mut m u H M M1 (M (m + 2)))) lq_no z S M2 N 50 [some (.ref m), none] [] := by
    intro M2 v hv hm2 h11 hR hb2 hm0
    refine qw_aload_n 0 dX9_remember_50 rfl rfl ?_
    refine qw_getr fX9_17 dX9_remember_51 h9.1 rfl ?_
    refine qw_aload_n 0 dX9_remember_54 rfl rfl ?_
    refine qw_getr fX9_25 dX9_remember_55 h9.1 rfl ?_
    refine qw_aload_n 0 dX9_remember_58 rfl rfl ?_
    refine qw_geti fX9_262 dX9_remember_59 h9.1 rfl ?_
    rw [h11]
    refine qw_aald dX9_remember_62 h9.hi rfl rfl (by omega) (by omega) (h9.hf (by omega)) ?_
    refine qw_csv [_, _] (k_X9_copy (h9.hc (k := v) (by omega)) h9.da (by omega)) mX9_181 dX9_remember_63 rfl rfl (Nat.le_of_ble_eq_true rfl) (by omega) (by decide) rfl (fun M3 h3 => ?_)
    refine qw_aload_n 0 dX9_remember_66 rfl rfl ?_
    refine qw_dup dX9_remember_67 rfl ?_
    refine qw_geti fX9_262 dX9_remember_68 h9.1 rfl ?_
    have h11b : M3 m 11 = v := by rw [h3.2 m (by omega)]; exact h11
    rw [h11b]
    refine qw_iconst (nI 1) dX9_remember_71 (by decide) ?_
    refine qw_addN dX9_remember_72 ?_
    refine qw_puti fX9_262 dX9_remember_73 h9.1 rfl ?_
    exact qw_return rfl dX9_remember_76 ⟨rfl, rfl, rfl, rfl, by
      have e2 : ∀ b, b ≠ m → lq_up M3 m 11 (v + 1) b = M3 b := fun b hb => lq_up_n _ _ _ hb
      refine ⟨by rw [e2 _ (by omega), h3.2 _ (by omega), hb2 _ (by omega) (by omega)], ⟨by rw [lq_up_s, hm2], by omega, fun j j1 j2 k hk => ?_⟩, by rw [lq_up_c _ _ (by decide), h3.2 _ (by omega), hm0 0 (by decide)]; exact h0, fun b hb => by rw [e2 b (by omega), h3.2 b (by omega)]; exact hb2 b (by omega) (by omega), by rw [e2 _ (by omega), h3.2 _ (by omega)]; exact hb2 _ (by omega) (by omega), fun j j0 j1 => by rw [lq_up_c _ _ j1, h3.2 _ (by omega)]; exact hm0 j j1⟩
      rw [e2 _ (by omega), hm2]
      by_cases e : j = 1
      · subst e
        show M3 (m + 5 + (v + 1 - 1)) k = H 0 k
        rw [show v + 1 - 1 = v by omega, h3.1 k hk, hd, hb2 _ (by omega) (by omega)]
      · show M3 (m + 5 + (v + 1 - j)) k = H (j - 1) k
        rw [h3.2 _ (by omega), show v + 1 - j = v - (j - 1) by omega]
        exact hR (j - 1) (by omega) (by omega) (by omega) k hk⟩
  refine qw_aload_n 0 dX9_remember_0 rfl rfl ?_
  refine qw_geti fX9_262 dX9_remember_1 h9.1 rfl ?_
  rw [hu]
  refine qw_bipush (nI 8) dX9_remember_4 (by decide) ?_
  refine qw_icmp_neN 50 dX9_remember_6 (by decide) (by omega) (by omega) (fun c6 => ?_) (fun c6 => ?_)
  · exact tail M u (by omega) (by omega) hu (fun j j1 j2 j3 k hk => hr j j1 j2 k hk) (fun b b1 b2 => rfl) (fun j hj => rfl)
  · refine qw_iconst (nI 1) dX9_remember_9 (by decide) ?_
    refine qw_istore_n 1 dX9_remember_10 rfl rfl (by decide) ?_
    refine l_X9_remember h9 (M0 := M) (fun M1 k1 k2 => ?_) 8 1 M (by decide) (by decide) (by decide) (fun i hi => by omega) (fun b hb => rfl)
    refine qw_aload_n 0 dX9_remember_40 rfl rfl ?_
    refine qw_dup dX9_remember_41 rfl ?_
    refine qw_geti fX9_262 dX9_remember_42 h9.1 rfl ?_
    rw [k2 m (by omega), hu]
    refine qw_iconst (nI 1) dX9_remember_45 (by decide) ?_
    refine qw_subN (by omega) dX9_remember_46 ?_
    refine qw_puti fX9_262 dX9_remember_47 h9.1 rfl ?_
    refine qw_weak _ (by simp [lq_le]) (tail _ 7 (by decide) (by omega) (by rw [lq_up_s]; omega) (fun j j1 j2 j3 k hk => ?_) (fun b b1 b2 => ?_) (fun j hj => ?_))
    · rw [lq_up_n _ _ _ (by omega), k1 (7 - j) (by omega) k hk, show 7 - j + 1 = u - j by omega]
      exact hr j j1 (by omega) k hk
    · rw [lq_up_n _ _ _ b1]; exact k2 b (by omega)
    · rw [lq_up_c _ _ hj, k2 m (by omega)]
def g_pu (g : Nat → Nat) (i k j : Nat) : Nat → Nat := fun x => if (13 + 30 * i + 3 * k ≤ x ∧ x < 13 + 30 * i + 3 * k + j) ∨ (16 + 30 * i + 3 * k ≤ x ∧ x < 16 + 30 * i + 3 * g (12 + 30 * i)) then g (x - 3) else g x
theorem g_pu_w {g : Nat → Nat} {i k j : Nat} (hj : j < 3) (hk : 0 < k) (hc : k ≤ g (12 + 30 * i)) : (fun x => if x = 13 + 30 * i + 3 * k + j then g_pu g i k j (13 + 30 * i + 3 * (k - 1) + j) else g_pu g i k j x) = g_pu g i k (j + 1) := by
  funext x
  unfold g_pu
  by_cases e : x = 13 + 30 * i + 3 * k + j
  · rw [if_pos e, if_neg (by omega), if_pos (by omega), show 13 + 30 * i + 3 * (k - 1) + j = x - 3 by omega]
  · rw [if_neg e]
    by_cases e2 : (13 + 30 * i + 3 * k ≤ x ∧ x < 13 + 30 * i + 3 * k + j) ∨ (16 + 30 * i + 3 * k ≤ x ∧ x < 16 + 30 * i + 3 * g (12 + 30 * i))
    · rw [if_pos e2, if_pos (by omega)]
    · rw [if_neg e2, if_neg (by omega)]
theorem g_pu_s {g : Nat → Nat} {i k : Nat} (hk : 0 < k) (hc : k ≤ g (12 + 30 * i)) : g_pu g i k 3 = g_pu g i (k - 1) 0 := by
  funext x
  unfold g_pu
  by_cases e2 : (13 + 30 * i + 3 * k ≤ x ∧ x < 13 + 30 * i + 3 * k + 3) ∨ (16 + 30 * i + 3 * k ≤ x ∧ x < 16 + 30 * i + 3 * g (12 + 30 * i))
  · rw [if_pos e2, if_pos (by omega)]
  · rw [if_neg e2, if_neg (by omega)]
theorem g_pu_0 {g : Nat → Nat} {i : Nat} : g = g_pu g i (g (12 + 30 * i)) 0 := by
  funext x
  unfold g_pu
  rw [if_neg (by omega)]
theorem g_pu_f {g : Nat → Nat} {i p s l r : Nat} {F : Nat → Nat} (hp : p ≤ g (12 + 30 * i)) (h : ∀ x, F x = if x = 12 + 30 * i then g (12 + 30 * i) + 1 else if x = 15 + 30 * i + 3 * p then r else if x = 14 + 30 * i + 3 * p then l else if x = 13 + 30 * i + 3 * p then s else g_pu g i p 0 x) : F = g_put g i p s l r := by
  funext x
  rw [h x]
  unfold g_put g_pu
  by_cases e1 : x = 12 + 30 * i
  · rw [if_pos e1, if_pos e1, e1]
  · rw [if_neg e1, if_neg e1]
    by_cases e2 : x = 15 + 30 * i + 3 * p
    · rw [if_pos e2, if_neg (by omega), if_neg (by omega), if_pos e2]
    · rw [if_neg e2]
      by_cases e3 : x = 14 + 30 * i + 3 * p
      · rw [if_pos e3, if_neg (by omega), if_pos e3]
      · rw [if_neg e3]
        by_cases e4 : x = 13 + 30 * i + 3 * p
        · rw [if_pos e4, if_pos e4]
        · rw [if_neg e4, if_neg e4, if_neg e3, if_neg e2]
          by_cases e5 : 16 + 30 * i + 3 * p ≤ x ∧ x < 16 + 30 * i + 3 * g (12 + 30 * i)
          · rw [if_pos e5, if_pos (Or.inr e5)]
          · rw [if_neg e5, if_neg (fun q => by omega)]
theorem l0_X9_put (h9 : sh9 S m fh fo) {g : Nat → Nat} {i p s l r : Nat} (hi : i < 20) (hp : p ≤ g (12 + 30 * i)) (hc : g (12 + 30 * i) ≤ 7) {M0 : lq_M} {k : Nat} (hk0 : p < k) (hkc : k ≤ g (12 + 30 * i)) (kk : ∀ M1 : lq_M, M1 (m + 2) = g_pu g i (k - 1) 0 → (∀ b, b ≠ m + 2 → M1 b = M0 b) → LW G YX9_put 2 0 0 (lq_mv z S N (fun M1 => M1 (m + 2) = g_put g i p s l r ∧ ∀ b, b ≠ m + 2 → M1 b = M0 b)) lq_no z S M1 N 7 [some (.ref m), some (.int (nI i)), some (.int (nI p)), some (.int (nI s)), some (.int (nI l)), some (.int (nI r)), some (.int (nI (k - 1))), none] []) : ∀ (n9 j : Nat) (M : lq_M), j ≤ 3 → 3 - j < n9 → M (m + 2) = g_pu g i k j → (∀ b, b ≠ m + 2 → M b = M0 b) → LW G YX9_put 2 0 0 (lq_mv z S N (fun M1 => M1 (m + 2) = g_put g i p s l r ∧ ∀ b, b ≠ m + 2 → M1 b = M0 b)) lq_no z S M N 16 [some (.ref m), some (.int (nI i)), some (.int (nI p)), some (.int (nI s)), some (.int (nI l)), some (.int (nI r)), some (.int (nI k)), some (.int (nI j))] [] := by
  intro n9
  induction n9 with
  | zero => intro _ _ _ _ _ _; omega
  | succ n9 ih =>
    intro j M hj hn9 hv hq
    refine qw_iload dX9_put_16 rfl ?_
    refine qw_iconst (nI 3) dX9_put_18 (by decide) ?_
    refine qw_icmp_geN 58 dX9_put_19 (by decide) (by omega) (by omega) (fun c19 => ?_) (fun c19 => ?_)
    · refine qw_iincD (by omega) dX9_put_58 rfl (by decide) rfl (by decide) ?_
      refine qw_goto 7 dX9_put_61 (by decide) ?_
      refine qw_weak _ (by simp [lq_le]) (kk M ?_ hq)
      rw [hv, show j = 3 by omega]
      exact g_pu_s (by omega) hkc
    · refine qw_aload_n 0 dX9_put_22 rfl rfl ?_
      refine qw_getr fX9_17 dX9_put_23 h9.1 rfl ?_
      refine qw_iload_n 1 dX9_put_26 rfl rfl ?_
      refine qw_iload dX9_put_27 rfl ?_
      refine qw_csp [_, _] (k_X9_spotAt) mX9_188 dX9_put_29 rfl rfl (Nat.le_of_ble_eq_true rfl) (by omega) (by decide) rfl ?_
      refine qw_iload dX9_put_32 rfl ?_
      refine qw_addN dX9_put_34 ?_
      refine qw_aload_n 0 dX9_put_35 rfl rfl ?_
      refine qw_getr fX9_17 dX9_put_36 h9.1 rfl ?_
      refine qw_iload_n 1 dX9_put_39 rfl rfl ?_
      refine qw_iload dX9_put_40 rfl ?_
      refine qw_iconst (nI 1) dX9_put_42 (by decide) ?_
      refine qw_subN (by omega) dX9_put_43 ?_
      refine qw_csp [_, _] (k_X9_spotAt) mX9_188 dX9_put_44 rfl rfl (Nat.le_of_ble_eq_true rfl) (by omega) (by decide) rfl ?_
      refine qw_iload dX9_put_47 rfl ?_
      refine qw_addN dX9_put_49 ?_
      refine qw_iaj (13 + 30 * i + 3 * (k - 1) + j) (by omega) dX9_put_50 h9.da (by omega) (by omega) ?_
      refine qw_iasj (13 + 30 * i + 3 * k + j) (by omega) dX9_put_51 h9.da (by omega) (by omega) ?_
      refine qw_iincN 1 dX9_put_52 rfl (by decide) rfl (by decide) ?_
      refine qw_goto 16 dX9_put_55 (by decide) ?_
      refine ih (j + 1) _ (by omega) (by omega) ?_ (fun b hb => by rw [lq_up_n _ _ _ hb]; exact hq b hb)
      rw [lq_up_a, hv]
      exact g_pu_w (by omega) (by omega) hkc
theorem l1_X9_put (h9 : sh9 S m fh fo) {g : Nat → Nat} {i p s l r : Nat} (hi : i < 20) (hp : p ≤ g (12 + 30 * i)) (hc : g (12 + 30 * i) ≤ 7) {M0 : lq_M} : ∀ (n9 k : Nat) (M : lq_M), p ≤ k → k ≤ g (12 + 30 * i) → k < n9 → M (m + 2) = g_pu g i k 0 → (∀ b, b ≠ m + 2 → M b = M0 b) → LW G YX9_put 2 0 0 (lq_mv z S N (fun M1 => M1 (m + 2) = g_put g i p s l r ∧ ∀ b, b ≠ m + 2 → M1 b = M0 b)) lq_no z S M N 7 [some (.ref m), some (.int (nI i)), some (.int (nI p)), some (.int (nI s)), some (.int (nI l)), some (.int (nI r)), some (.int (nI k)), none] [] := by
  intro n9
  induction n9 with
  | zero => intro _ _ _ _ _ _ _; omega
  | succ n9 ih =>
    intro k M hk hkc hn9 hv hq
    refine qw_iload dX9_put_7 rfl ?_
    refine qw_iload_n 2 dX9_put_9 rfl rfl ?_
    refine qw_icmp_leN 64 dX9_put_10 (by decide) (by omega) (by omega) (fun c10 => ?_) (fun c10 => ?_)
    · refine qw_aload_n 0 dX9_put_64 rfl rfl ?_
      refine qw_getr fX9_17 dX9_put_65 h9.1 rfl ?_
      refine qw_iload_n 1 dX9_put_68 rfl rfl ?_
      refine qw_iload_n 2 dX9_put_69 rfl rfl ?_
      refine qw_csp [_, _] (k_X9_spotAt) mX9_188 dX9_put_70 rfl rfl (Nat.le_of_ble_eq_true rfl) (by omega) (by decide) rfl ?_
      refine qw_iload_n 3 dX9_put_73 rfl rfl ?_
      refine qw_iast dX9_put_74 h9.da (by omega) (by omega) ?_
      refine qw_aload_n 0 dX9_put_75 rfl rfl ?_
      refine qw_getr fX9_17 dX9_put_76 h9.1 rfl ?_
      refine qw_iload_n 1 dX9_put_79 rfl rfl ?_
      refine qw_iload_n 2 dX9_put_80 rfl rfl ?_
      refine qw_csp [_, _] (k_X9_spotAt) mX9_188 dX9_put_81 rfl rfl (Nat.le_of_ble_eq_true rfl) (by omega) (by decide) rfl ?_
      refine qw_iconst (nI 1) dX9_put_84 (by decide) ?_
      refine qw_addN dX9_put_85 ?_
      refine qw_iload dX9_put_86 rfl ?_
      refine qw_iasj (14 + 30 * i + 3 * p) (by omega) dX9_put_88 h9.da (by omega) (by omega) ?_
      refine qw_aload_n 0 dX9_put_89 rfl rfl ?_
      refine qw_getr fX9_17 dX9_put_90 h9.1 rfl ?_
      refine qw_iload_n 1 dX9_put_93 rfl rfl ?_
      refine qw_iload_n 2 dX9_put_94 rfl rfl ?_
      refine qw_csp [_, _] (k_X9_spotAt) mX9_188 dX9_put_95 rfl rfl (Nat.le_of_ble_eq_true rfl) (by omega) (by decide) rfl ?_
      refine qw_iconst (nI 2) dX9_put_98 (by decide) ?_
      refine qw_addN dX9_put_99 ?_
      refine qw_iload dX9_put_100 rfl ?_
      refine qw_iasj (15 + 30 * i + 3 * p) (by omega) dX9_put_102 h9.da (by omega) (by omega) ?_
      refine qw_aload_n 0 dX9_put_103 rfl rfl ?_
      refine qw_getr fX9_17 dX9_put_104 h9.1 rfl ?_
      refine qw_iload_n 1 dX9_put_107 rfl rfl ?_
      refine qw_csp [_] (k_X9_at) mX9_44 dX9_put_108 rfl rfl (Nat.le_of_ble_eq_true rfl) (by omega) (by decide) rfl ?_
      refine qw_iconst (nI 5) dX9_put_111 (by decide) ?_
      refine qw_addN dX9_put_112 ?_
      refine qw_eqn (12 + 30 * i) (by omega) ?_
      refine qw_dup2 dX9_put_113 rfl rfl ?_
      refine qw_iald dX9_put_114 h9.da (by omega) (by omega) ?_
      refine qw_iconst (nI 1) dX9_put_115 (by decide) ?_
      refine qw_addN dX9_put_116 ?_
      refine qw_iast dX9_put_117 h9.da (by omega) (by omega) ?_
      exact qw_return rfl dX9_put_118 ⟨rfl, rfl, rfl, rfl, g_pu_f hp (fun x => by
        rw [lq_up_x]
        by_cases e1 : x = 12 + 30 * i
        · rw [if_pos e1, if_pos e1, lq_up_c _ _ (by omega), lq_up_c _ _ (by omega), lq_up_c _ _ (by omega), hv]
          unfold g_pu
          rw [if_neg (by omega)]
        · rw [if_neg e1, if_neg e1, lq_up_x]
          by_cases e2 : x = 15 + 30 * i + 3 * p
          · rw [if_pos e2, if_pos e2]
          · rw [if_neg e2, if_neg e2, lq_up_x]
            by_cases e3 : x = 14 + 30 * i + 3 * p
            · rw [if_pos e3, if_pos e3]
            · rw [if_neg e3, if_neg e3, lq_up_x]
              by_cases e4 : x = 13 + 30 * i + 3 * p
              · rw [if_pos e4, if_pos e4]
              · rw [if_neg e4, if_neg e4, hv, show k = p by omega]), fun b hb => by
        rw [lq_up_n _ _ _ hb, lq_up_n _ _ _ hb, lq_up_n _ _ _ hb, lq_up_n _ _ _ hb]
        exact hq b hb⟩
    · refine qw_iconst (nI 0) dX9_put_13 (by decide) ?_
      refine qw_istore dX9_put_14 rfl (by decide) ?_
      exact l0_X9_put h9 hi hp hc (by omega) hkc (fun M1 k1 k2 => ih (k - 1) M1 (by omega) (by omega) (by omega) k1 k2) 4 0 M (by decide) (by decide) hv hq
theorem k_X9_put (h9 : sh9 S m fh fo) {g : Nat → Nat} {i p s l r : Nat} (hi : i < 20) (hp : p ≤ g (12 + 30 * i)) (hc : g (12 + 30 * i) ≤ 7) (hg : M (m + 2) = g) : LM G YX9_put 2 0 0 [.ref m, .int (nI i), .int (nI p), .int (nI s), .int (nI l), .int (nI r)] z S M N (lq_mv z S N (fun M1 => M1 (m + 2) = g_put g i p s l r ∧ ∀ b, b ≠ m + 2 → M1 b = M b)) lq_no := by
  refine LM.of (by decide) rfl [some (.ref m), some (.int (nI i)), some (.int (nI p)), some (.int (nI s)), some (.int (nI l)), some (.int (nI r)), none, none] rfl (Nat.le_of_ble_eq_true rfl) ?_
  refine qw_aload_n 0 dX9_put_0 rfl rfl ?_
  refine qw_iload_n 1 dX9_put_1 rfl rfl ?_
  refine qw_cvp [_] (k_X9_countOf h9 hi) mX9_185 dX9_put_2 h9.1 rfl rfl rfl (Nat.le_of_ble_eq_true rfl) (by omega) (by decide) rfl ?_
  rw [hg]
  refine qw_istore dX9_put_5 rfl (by decide) ?_
  exact l1_X9_put h9 hi hp hc 9 _ M (by omega) (Nat.le_refl _) (by omega) (by rw [hg]; exact g_pu_0) (fun b hb => rfl)
end R7
