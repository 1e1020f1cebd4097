/-! THE REFERENCE: its breaks are put into the order of their times -/
theorem r_G_z {u : Nat → Nat} : ∀ n x, x ≠ 0 → 7 + 30 * n ≤ x → r_G u n x = 0
  | 0, _, _, _ => rfl
  | n + 1, x, h0, h => by
    have hk := r_G_k u n
    rw [r_G, g_abk, if_neg h0, r_G_0, if_pos (by omega)]
    exact r_G_z n x h0 (by omega)
/-- the first j cells of the blocks k and k - 1 have changed places -/
def r_sw (w : Nat → Nat) (k j : Nat) : Nat → Nat := fun x => if 7 + 30 * k ≤ x ∧ x < 7 + 30 * k + j then w (x - 30) else if 30 * k ≤ x + 23 ∧ x + 23 < 30 * k + j then w (x + 30) else w x
/-- break n of u on its way down the first n breaks, now at k -/
def r_is (u v : Nat → Nat) (n k : Nat) : Prop := (∀ x, 7 ≤ x → x < 7 + 30 * k → v x = r_G u n x) ∧ (∀ c, c < 30 → v (7 + 30 * k + c) = u (7 + 30 * n + c)) ∧ (∀ x, 37 + 30 * k ≤ x → x < 37 + 30 * n → v x = r_G u n (x - 30)) ∧ ∀ x, x < 7 ∨ 37 + 30 * n ≤ x → v x = u x
def r_os (u v : Nat → Nat) (n : Nat) : Prop := (∀ x, 7 ≤ x → x < 7 + 30 * n → v x = r_G u n x) ∧ ∀ x, x < 7 ∨ 7 + 30 * n ≤ x → v x = u x
theorem r_is.sw {u v w : Nat → Nat} {n k : Nat} (h : r_is u v n k) (hk : 1 ≤ k) (hn : k ≤ n) (hw : ∀ x, w x = r_sw v k 30 x) : r_is u w n (k - 1) := by
  obtain ⟨h1, h2, h3, h4⟩ := h
  refine ⟨fun x x1 x2 => ?_, fun c hc => ?_, fun x x1 x2 => ?_, fun x x1 => ?_⟩
  · rw [hw, r_sw, if_neg (by omega), if_neg (by omega)]; exact h1 x x1 (by omega)
  · rw [hw, r_sw, if_neg (by omega), if_pos (by omega), ← h2 c hc]
    exact congrArg v (by omega)
  · rw [hw, r_sw]
    by_cases e : x < 37 + 30 * k
    · rw [if_pos (by omega)]; exact h1 _ (by omega) (by omega)
    · rw [if_neg (by omega), if_neg (by omega)]; exact h3 x (by omega) x2
  · rw [hw, r_sw, if_neg (by omega), if_neg (by omega)]; exact h4 x x1
theorem r_os.is {u v : Nat → Nat} {n : Nat} (h : r_os u v n) : r_is u v n n := by
  refine ⟨h.1, fun c hc => h.2 _ (by omega), fun x x1 x2 => absurd x1 (by omega), fun x x1 => h.2 x (by omega)⟩
theorem r_is.os {u v : Nat → Nat} {n k : Nat} (h : r_is u v n k) (hk : k ≤ n) (hz : ∀ c, 4 ≤ c → c < 30 → u (7 + 30 * n + c) = 0) (hp : g_abp (r_G u n) (u (7 + 30 * n)) (u (8 + 30 * n)) n = k) : r_os u v (n + 1) := by
  obtain ⟨h1, h2, h3, h4⟩ := h
  refine ⟨fun x x1 x2 => ?_, fun x x1 => h4 x (by omega)⟩
  rw [r_G, hp, g_abk, if_neg (by omega), r_G_0]
  by_cases e1 : x < 7 + 30 * k
  · rw [if_pos (by omega)]; exact h1 x x1 e1
  · rw [if_neg (by omega)]
    by_cases e2 : x < 37 + 30 * k
    · rw [if_pos e2]
      obtain ⟨c, rfl⟩ : ∃ c, x = 7 + 30 * k + c := ⟨x - (7 + 30 * k), by omega⟩
      rw [h2 c (by omega)]
      rcases (show c = 0 ∨ c = 1 ∨ c = 2 ∨ c = 3 ∨ 4 ≤ c by omega) with w | w | w | w | w
      · subst w; rw [if_pos (by omega)]
        exact congrArg u (by omega)
      · subst w; rw [if_neg (by omega), if_pos (by omega)]
        exact congrArg u (by omega)
      · subst w; rw [if_neg (by omega), if_neg (by omega), if_pos (by omega)]
        exact congrArg u (by omega)
      · subst w; rw [if_neg (by omega), if_neg (by omega), if_neg (by omega), if_pos (by omega)]
        exact congrArg u (by omega)
      · rw [if_neg (by omega), if_neg (by omega), if_neg (by omega), if_neg (by omega)]; exact hz c w (by omega)
    · rw [if_neg e2]; exact h3 x (by omega) (by omega)
theorem r_os_1 (u : Nat → Nat) (hz : ∀ c, 4 ≤ c → c < 30 → u (7 + c) = 0) : r_os u u 1 :=
  r_is.os (n := 0) (k := 0) ⟨fun x x1 x2 => absurd x1 (by omega), fun c hc => rfl, fun x x1 x2 => absurd x1 (by omega), fun x x1 => rfl⟩ (Nat.le_refl 0) hz rfl
theorem r_os.fin {u v : Nat → Nat} {n : Nat} (h : r_os u v n) (hn : u 0 = n ∨ (u 0 = 0 ∧ n = 1)) (h20 : u 0 ≤ 20) (hz : ∀ x, 7 + 30 * u 0 ≤ x → x < 607 → u x = 0) : ∀ x, v x = if 7 ≤ x ∧ x < 607 then r_G u (u 0) x else u x := by
  intro x
  by_cases e : 7 ≤ x ∧ x < 607
  · rw [if_pos e]
    rcases hn with hn | ⟨hn, rfl⟩
    · by_cases e1 : x < 7 + 30 * n
      · rw [h.1 x e.1 e1, hn]
      · rw [h.2 x (by omega), hz x (by omega) e.2, r_G_z _ _ (by omega) (by omega)]
    · by_cases e1 : x < 37
      · rw [h.1 x e.1 (by omega), hn, r_G_z 0 x (by omega) (by omega)]
        rw [r_G, g_abk, if_neg (by omega)]
        show (if x < 7 + 30 * g_abp (r_G u 0) (u (7 + 30 * 0)) (u (8 + 30 * 0)) 0 ∨ 37 + 30 * r_G u 0 0 ≤ x then r_G u 0 x else _) = 0
        rw [r_G_0]
        have e0 : g_abp (r_G u 0) (u (7 + 30 * 0)) (u (8 + 30 * 0)) 0 = 0 := rfl
        rw [e0, if_neg (by omega), if_pos (by omega), hz (7 + 30 * 0) (by omega) (by decide), hz (8 + 30 * 0) (by omega) (by decide), hz (9 + 30 * 0) (by omega) (by decide), hz (10 + 30 * 0) (by omega) (by decide)]
        simp
      · rw [h.2 x (by omega), hn, hz x (by omega) e.2, r_G_z 0 x (by omega) (by omega)]
  · rw [if_neg e]
    rcases hn with hn | ⟨hn, rfl⟩
    · exact h.2 x (by omega)
    · exact h.2 x (by omega)
section R17
variable {G : lq_G} {z : Nat} {S : lq_S} {M : lq_M} {N : lq_N} {m : Nat} {fh fo : Nat → Option Nat}
theorem l3_X9_sortBreaks (h9 : sh9 S m fh fo) {n k : Nat} (hk : 1 ≤ k) (hk20 : k < 20) {w : Nat → Nat} {M0 : lq_M} {Q : lq_P} (kk : ∀ M1 : lq_M, (∀ b, b ≠ m + 3 → M1 b = M0 b) → (∀ x, M1 (m + 3) x = r_sw w k 30 x) → LW G YX9_sortBreaks 2 0 0 Q lq_no z S M1 N 105 [some (.ref m), some (.int (nI n)), some (.int (nI k)), none, none] []) : ∀ (n9 j : Nat) (M : lq_M), j ≤ 30 → 30 - j < n9 → (∀ b, b ≠ m + 3 → M b = M0 b) → (∀ x, M (m + 3) x = r_sw w k j x) → LW G YX9_sortBreaks 2 0 0 Q lq_no z S M N 41 [some (.ref m), some (.int (nI n)), some (.int (nI k)), some (.int (nI j)), none] [] := by
  intro n9
  induction n9 with
  | zero => intro _ _ _ _ _ _; omega
  | succ n9 ih =>
    intro j M hj hn9 hq hv
    refine qw_iload_n 3 dX9_sortBreaks_41 rfl rfl ?_
    refine qw_bipush (nI 30) dX9_sortBreaks_42 (by decide) ?_
    refine qw_icmp_geN 105 dX9_sortBreaks_44 (by decide) (by omega) (by omega) (fun c44 => ?_) (fun c44 => ?_)
    · have e : j = 30 := by omega
      subst e
      exact qw_weak _ (by simp [lq_le]) (kk M hq hv)
    · refine qw_aload_n 0 dX9_sortBreaks_47 rfl rfl ?_
      refine qw_getr fX9_20 dX9_sortBreaks_48 h9.1 rfl ?_
      refine qw_iload_n 2 dX9_sortBreaks_51 rfl rfl ?_
      refine qw_csp [_] (k_X9_at) mX9_44 dX9_sortBreaks_52 rfl rfl (Nat.le_of_ble_eq_true rfl) (by omega) (by decide) rfl ?_
      refine qw_iload_n 3 dX9_sortBreaks_55 rfl rfl ?_
      refine qw_addN dX9_sortBreaks_56 ?_
      refine qw_iaj (7 + 30 * k + j) (by omega) dX9_sortBreaks_57 h9.dr (by omega) (by omega) ?_
      refine qw_istore dX9_sortBreaks_58 rfl (by decide) ?_
      refine qw_aload_n 0 dX9_sortBreaks_60 rfl rfl ?_
      refine qw_getr fX9_20 dX9_sortBreaks_61 h9.1 rfl ?_
      refine qw_iload_n 2 dX9_sortBreaks_64 rfl rfl ?_
      refine qw_csp [_] (k_X9_at) mX9_44 dX9_sortBreaks_65 rfl rfl (Nat.le_of_ble_eq_true rfl) (by omega) (by decide) rfl ?_
      refine qw_iload_n 3 dX9_sortBreaks_68 rfl rfl ?_
      refine qw_addN dX9_sortBreaks_69 ?_
      refine qw_aload_n 0 dX9_sortBreaks_70 rfl rfl ?_
      refine qw_getr fX9_20 dX9_sortBreaks_71 h9.1 rfl ?_
      refine qw_iload_n 2 dX9_sortBreaks_74 rfl rfl ?_
      refine qw_iconst (nI 1) dX9_sortBreaks_75 (by decide) ?_
      refine qw_subN (by omega) dX9_sortBreaks_76 ?_
      refine qw_csp [_] (k_X9_at) mX9_44 dX9_sortBreaks_77 rfl rfl (Nat.le_of_ble_eq_true rfl) (by omega) (by decide) rfl ?_
      refine qw_iload_n 3 dX9_sortBreaks_80 rfl rfl ?_
      refine qw_addN dX9_sortBreaks_81 ?_
      refine qw_iaj (7 + 30 * (k - 1) + j) (by omega) dX9_sortBreaks_82 h9.dr (by omega) (by omega) ?_
      refine qw_iasj (7 + 30 * k + j) (by omega) dX9_sortBreaks_83 h9.dr (by omega) (by omega) ?_
      refine qw_aload_n 0 dX9_sortBreaks_84 rfl rfl ?_
      refine qw_getr fX9_20 dX9_sortBreaks_85 h9.1 rfl ?_
      refine qw_iload_n 2 dX9_sortBreaks_88 rfl rfl ?_
      refine qw_iconst (nI 1) dX9_sortBreaks_89 (by decide) ?_
      refine qw_subN (by omega) dX9_sortBreaks_90 ?_
      refine qw_csp [_] (k_X9_at) mX9_44 dX9_sortBreaks_91 rfl rfl (Nat.le_of_ble_eq_true rfl) (by omega) (by decide) rfl ?_
      refine qw_iload_n 3 dX9_sortBreaks_94 rfl rfl ?_
      refine qw_addN dX9_sortBreaks_95 ?_
      refine qw_iload dX9_sortBreaks_96 rfl ?_
      refine qw_iasj (7 + 30 * (k - 1) + j) (by omega) dX9_sortBreaks_98 h9.dr (by omega) (by omega) ?_
      refine qw_iincN 1 dX9_sortBreaks_99 rfl (by decide) rfl (by decide) ?_
      refine qw_goto 41 dX9_sortBreaks_102 (by decide) ?_
      refine qw_weak _ (by simp [lq_le]) (ih (j + 1) _ (by omega) (by omega) (fun b hb => by rw [lq_up_n _ _ _ hb, lq_up_n _ _ _ hb]; exact hq b hb) (fun x => ?_))
      rw [lq_up_x, lq_up_x, hv x, hv (7 + 30 * k + j), hv (7 + 30 * (k - 1) + j)]
      unfold r_sw
      by_cases e1 : x = 7 + 30 * (k - 1) + j
      · rw [if_pos e1, if_neg (by omega), if_neg (by omega), if_neg (by omega), if_pos (by omega)]
        exact congrArg w (by omega)
      · rw [if_neg e1]
        by_cases e2 : x = 7 + 30 * k + j
        · rw [if_pos e2, if_neg (by omega), if_neg (by omega), if_pos (by omega)]
          exact congrArg w (by omega)
        · rw [if_neg e2]
          by_cases e3 : 7 + 30 * k ≤ x ∧ x < 7 + 30 * k + j
          · rw [if_pos e3, if_pos (by omega)]
          · rw [if_neg e3, if_neg (show ¬ (7 + 30 * k ≤ x ∧ x < 7 + 30 * k + (j + 1)) by omega)]
            by_cases e4 : 30 * k ≤ x + 23 ∧ x + 23 < 30 * k + j
            · rw [if_pos e4, if_pos (by omega)]
            · rw [if_neg e4, if_neg (by omega)]
end R17
theorem r_G_b {u : Nat → Nat} {n : Nat} (h6 : ∀ j, j < n → u (7 + 30 * j) ≤ 6 ∧ u (8 + 30 * j) ≤ 23) {i : Nat} (hi : i < n) : r_G u n (7 + 30 * i) ≤ 6 ∧ r_G u n (8 + 30 * i) ≤ 23 := by
  obtain ⟨j, j1, j2, j3⟩ := (r_G_mem (u := u) (dd := r_G u n (7 + 30 * i)) (hh := r_G u n (8 + 30 * i)) n).mp ⟨i, hi, rfl, rfl⟩
  rw [← j2, ← j3]
  exact h6 j j1
section R17
variable {G : lq_G} {z : Nat} {S : lq_S} {M : lq_M} {N : lq_N} {m : Nat} {fh fo : Nat → Option Nat}
theorem l2_X9_sortBreaks (h9 : sh9 S m fh fo) {n : Nat} {u : Nat → Nat} (hn : n < 20) (h6 : ∀ j, j ≤ n → u (7 + 30 * j) ≤ 6 ∧ u (8 + 30 * j) ≤ 23) {M0 : lq_M} {Q : lq_P} (kk : ∀ (M1 : lq_M) (k : Nat), (∀ b, b ≠ m + 3 → M1 b = M0 b) → k ≤ n → r_is u (M1 (m + 3)) n k → g_abp (r_G u n) (u (7 + 30 * n)) (u (8 + 30 * n)) n = k → LW G YX9_sortBreaks 2 0 0 Q lq_no z S M1 N 111 [some (.ref m), some (.int (nI n)), none, none, none] []) : ∀ (n9 k : Nat) (M : lq_M), k ≤ n → k < n9 → (∀ b, b ≠ m + 3 → M b = M0 b) → r_is u (M (m + 3)) n k → g_abp (r_G u n) (u (7 + 30 * n)) (u (8 + 30 * n)) n = g_abp (r_G u n) (u (7 + 30 * n)) (u (8 + 30 * n)) k → LW G YX9_sortBreaks 2 0 0 Q lq_no z S M N 14 [some (.ref m), some (.int (nI n)), some (.int (nI k)), none, none] [] := by
  intro n9
  induction n9 with
  | zero => intro _ _ _ _ _ _ _; omega
  | succ n9 ih =>
    intro k M hk hn9 hq hv hp
    refine qw_iload_n 2 dX9_sortBreaks_14 rfl rfl ?_
    refine qw_if_leN 111 dX9_sortBreaks_15 (by decide) (by omega) (fun c15 => ?_) (fun c15 => ?_)
    · have e : k = 0 := by omega
      subst e
      exact qw_weak _ (by simp [lq_le]) (kk M 0 hq hk hv (by rw [hp]; rfl))
    · have w1 : M (m + 3) (7 + 30 * (k - 1)) = r_G u n (7 + 30 * (k - 1)) := hv.1 _ (by omega) (by omega)
      have w2 : M (m + 3) (8 + 30 * (k - 1)) = r_G u n (8 + 30 * (k - 1)) := hv.1 _ (by omega) (by omega)
      have w3 : M (m + 3) (7 + 30 * k) = u (7 + 30 * n) := hv.2.1 0 (by decide)
      have w4 : M (m + 3) (8 + 30 * k) = u (8 + 30 * n) := by have e9 := hv.2.1 1 (by decide); rw [show 7 + 30 * k + 1 = 8 + 30 * k by omega, show 7 + 30 * n + 1 = 8 + 30 * n by omega] at e9; exact e9
      obtain ⟨b1, b2⟩ := r_G_b (u := u) (n := n) (fun j hj => h6 j (by omega)) (i := k - 1) (by omega)
      obtain ⟨b3, b4⟩ := h6 n (Nat.le_refl n)
      refine qw_aload_n 0 dX9_sortBreaks_18 rfl rfl ?_
      refine qw_getr fX9_20 dX9_sortBreaks_19 h9.1 rfl ?_
      refine qw_iload_n 2 dX9_sortBreaks_22 rfl rfl ?_
      refine qw_csp [_, _] (k_X9_when h9.dr (by omega)) mX9_142 dX9_sortBreaks_23 rfl rfl (Nat.le_of_ble_eq_true rfl) (by omega) (by decide) rfl ?_
      refine qw_aload_n 0 dX9_sortBreaks_26 rfl rfl ?_
      refine qw_getr fX9_20 dX9_sortBreaks_27 h9.1 rfl ?_
      refine qw_iload_n 2 dX9_sortBreaks_30 rfl rfl ?_
      refine qw_iconst (nI 1) dX9_sortBreaks_31 (by decide) ?_
      refine qw_subN (by omega) dX9_sortBreaks_32 ?_
      refine qw_csp [_, _] (k_X9_when h9.dr (by omega)) mX9_142 dX9_sortBreaks_33 rfl rfl (Nat.le_of_ble_eq_true rfl) (by omega) (by decide) rfl ?_
      rw [w1, w2, w3, w4]
      refine qw_icmp_geN 111 dX9_sortBreaks_36 (by decide) (by omega) (by omega) (fun c36 => ?_) (fun c36 => ?_)
      · obtain ⟨i, rfl⟩ : ∃ i, k = i + 1 := ⟨k - 1, by omega⟩
        rw [Nat.add_sub_cancel] at c36 w1 w2 b1 b2
        refine qw_weak _ (by simp [lq_le]) (kk M (i + 1) hq hk hv (by rw [hp, g_abp, if_neg (by omega)]))
      · refine qw_iconst (nI 0) dX9_sortBreaks_39 (by decide) ?_
        refine qw_istore_n 3 dX9_sortBreaks_40 rfl rfl (by decide) ?_
        refine l3_X9_sortBreaks h9 (n := n) (k := k) (by omega) (by omega) (w := M (m + 3)) (M0 := M) (fun M1 q1 q2 => ?_) 31 0 M (by decide) (by decide) (fun b hb => rfl) (fun x => by unfold r_sw; rw [if_neg (by omega), if_neg (by omega)])
        refine qw_iincD (by omega) dX9_sortBreaks_105 rfl (by decide) rfl (by decide) ?_
        refine qw_goto 14 dX9_sortBreaks_108 (by decide) ?_
        refine qw_weak _ (by simp [lq_le]) (ih (k - 1) M1 (by omega) (by omega) (fun b hb => by rw [q1 b hb]; exact hq b hb) (hv.sw (by omega) hk q2) ?_)
        rw [hp]
        obtain ⟨i, rfl⟩ : ∃ i, k = i + 1 := ⟨k - 1, by omega⟩
        rw [Nat.add_sub_cancel] at c36 w1 w2 b1 b2 ⊢
        rw [g_abp, if_pos (by omega)]
theorem l1_X9_sortBreaks (h9 : sh9 S m fh fo) {u : Nat → Nat} (h20 : u 0 ≤ 20) (h6 : ∀ j, j < u 0 → u (7 + 30 * j) ≤ 6 ∧ u (8 + 30 * j) ≤ 23) (hz : ∀ j, j < u 0 → ∀ c, 4 ≤ c → c < 30 → u (7 + 30 * j + c) = 0) (hz2 : ∀ x, 7 + 30 * u 0 ≤ x → x < 607 → u x = 0) {M0 : lq_M} : ∀ (n9 n : Nat) (M : lq_M), 1 ≤ n → (n ≤ u 0 ∨ (u 0 = 0 ∧ n = 1)) → 20 - n < n9 → (∀ b, b ≠ m + 3 → M b = M0 b) → r_os u (M (m + 3)) n → LW G YX9_sortBreaks 2 0 0 (lq_mv z S N (fun M1 => (∀ b, b ≠ m + 3 → M1 b = M0 b) ∧ ∀ x, M1 (m + 3) x = if 7 ≤ x ∧ x < 607 then r_G u (u 0) x else u x)) lq_no z S M N 2 [some (.ref m), some (.int (nI n)), none, none, none] [] := by
  intro n9
  induction n9 with
  | zero => intro _ _ _ _ _ _ _; omega
  | succ n9 ih =>
    intro n M hn1 hn hn9 hq hv
    refine qw_iload_n 1 dX9_sortBreaks_2 rfl rfl ?_
    refine qw_aload_n 0 dX9_sortBreaks_3 rfl rfl ?_
    refine qw_getr fX9_20 dX9_sortBreaks_4 h9.1 rfl ?_
    refine qw_iconst (nI 0) dX9_sortBreaks_7 (by decide) ?_
    refine qw_iald dX9_sortBreaks_8 h9.dr (by omega) (by omega) ?_
    rw [hv.2 0 (by omega)]
    refine qw_icmp_geN 117 dX9_sortBreaks_9 (by decide) (by omega) (by omega) (fun c9 => ?_) (fun c9 => ?_)
    · exact qw_return rfl dX9_sortBreaks_117 ⟨rfl, rfl, rfl, rfl, hq, hv.fin (by omega) h20 hz2⟩
    · refine qw_iload_n 1 dX9_sortBreaks_12 rfl rfl ?_
      refine qw_istore_n 2 dX9_sortBreaks_13 rfl rfl (by decide) ?_
      refine qw_weak _ (by simp [lq_le]) (l2_X9_sortBreaks h9 (n := n) (u := u) (M0 := M) (by omega) (fun j hj => h6 j (by omega)) (fun M1 k q1 q2 q3 q4 => ?_) (n + 1) n M (Nat.le_refl n) (by omega) (fun b hb => rfl) hv.is rfl)
      refine qw_iincN 1 dX9_sortBreaks_111 rfl (by decide) rfl (by decide) ?_
      refine qw_goto 2 dX9_sortBreaks_114 (by decide) ?_
      exact qw_weak _ (by simp [lq_le]) (ih (n + 1) M1 (by omega) (by omega) (by omega) (fun b hb => by rw [q1 b hb]; exact hq b hb) (q3.os q2 (hz n (by omega)) q4))
theorem k_X9_sortBreaks (h9 : sh9 S m fh fo) {u : Nat → Nat} (h20 : u 0 ≤ 20) (h6 : ∀ j, j < u 0 → u (7 + 30 * j) ≤ 6 ∧ u (8 + 30 * j) ≤ 23) (hz : ∀ j, j < u 0 → ∀ c, 4 ≤ c → c < 30 → u (7 + 30 * j + c) = 0) (hz2 : ∀ x, 7 + 30 * u 0 ≤ x → x < 607 → u x = 0) (hM : M (m + 3) = u) : LM G YX9_sortBreaks 2 0 0 [.ref m] z S M N (lq_mv z S N (fun M1 => (∀ b, b ≠ m + 3 → M1 b = M b) ∧ ∀ x, M1 (m + 3) x = if 7 ≤ x ∧ x < 607 then r_G u (u 0) x else u x)) lq_no := by
  refine LM.of (by decide) rfl [some (.ref m), none, none, none, none] rfl (Nat.le_of_ble_eq_true rfl) ?_
  refine qw_iconst (nI 1) dX9_sortBreaks_0 (by decide) ?_
  refine qw_istore_n 1 dX9_sortBreaks_1 rfl rfl (by decide) ?_
  refine l1_X9_sortBreaks h9 h20 h6 hz hz2 21 1 M (by decide) (by omega) (by decide) (fun b hb => rfl) ?_
  rw [hM]
  refine r_os_1 u (fun c c1 c2 => ?_)
  by_cases e : u 0 = 0
  · exact hz2 _ (by omega) (by omega)
  · exact hz 0 (by omega) c c1 c2
end R17
