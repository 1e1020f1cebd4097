/-! the row of spots: writes -/
def q_cpd (M : lq_M) (a o i j : Nat) (M' : lq_M) : Prop := (∀ k, 1 ≤ k → k ≤ 4 → ∀ q, M' (a + k) q = if q = j then M (o + k) i else M (a + k) q) ∧ ∀ b, b ≤ a ∨ a + 5 ≤ b → M' b = M b
theorem q_k4 {P : Nat → Prop} (h1 : P 1) (h2 : P 2) (h3 : P 3) (h4 : P 4) : ∀ k, 1 ≤ k → k ≤ 4 → P k := by
  intro k a b
  rcases (show k = 1 ∨ k = 2 ∨ k = 3 ∨ k = 4 by omega) with rfl | rfl | rfl | rfl <;> assumption
def q_cp1 (M : lq_M) (a o i j k : Nat) : lq_M := lq_up M (a + k) j (M (o + k) i)
theorem q_cpd_mk {M : lq_M} {a o i j : Nat} (hd : o = a ∨ o + 4 < a ∨ a + 4 < o) : q_cpd M a o i j (q_cp1 (q_cp1 (q_cp1 (q_cp1 M a o i j 1) a o i j 2) a o i j 3) a o i j 4) := by
  have e : ∀ x y, 1 ≤ x → x ≤ 4 → 1 ≤ y → y ≤ 4 → x ≠ y → o + x ≠ a + y := fun x y _ _ _ _ _ => by omega
  refine ⟨q_k4 ?_ ?_ ?_ ?_, fun b hb => ?_⟩
  · intro q
    simp only [q_cp1, lq_up]
    simp
  · intro q
    simp only [q_cp1, lq_up]
    simp [e 2 1]
  · intro q
    simp only [q_cp1, lq_up]
    simp [e 3 1, e 3 2]
  · intro q
    simp only [q_cp1, lq_up]
    simp [e 4 1, e 4 2, e 4 3]
  · simp only [q_cp1, lq_up]
    rw [if_neg (by omega), if_neg (by omega), if_neg (by omega), if_neg (by omega)]
def q_insd (M : lq_M) (a p s l r u : Nat) (M' : lq_M) : Prop := (∀ k, 1 ≤ k → k ≤ 4 → ∀ q, q ≤ M a 4 → M' (a + k) q = q_in (M (a + k)) p (q_4 s l r u k) q) ∧ M' a 4 = M a 4 + 1 ∧ (∀ q, q ≠ 4 → M' a q = M a q) ∧ q_fr a (a + 5) M M'
def q_insI (M : lq_M) (a t : Nat) (M' : lq_M) : Prop := (∀ k, 1 ≤ k → k ≤ 4 → ∀ q, M' (a + k) q = if t < q ∧ q ≤ M a 4 then M (a + k) (q - 1) else M (a + k) q) ∧ M' a 4 = M a 4 + 1 ∧ (∀ q, q ≠ 4 → M' a q = M a q) ∧ q_fr a (a + 5) M M'
theorem q_insI_0 {M : lq_M} {a : Nat} : q_insI M a (M a 4) (lq_up M a 4 (M a 4 + 1)) := by
  refine ⟨fun k h1 h4 q => ?_, lq_up_s _ _ _ _, fun q hq => lq_up_c _ _ hq, fun b hb => lq_up_n _ _ _ (by omega)⟩
  rw [lq_up_n _ _ _ (by omega), if_neg (by omega)]
theorem q_insI_s {M M1 M2 : lq_M} {a t : Nat} (h : q_insI M a t M1) (ht : 0 < t) (htn : t ≤ M a 4) (h2 : q_cpd M1 a a (t - 1) t M2) : q_insI M a (t - 1) M2 := by
  obtain ⟨g1, g2, g3, g4⟩ := h
  obtain ⟨c1, c2⟩ := h2
  refine ⟨fun k h1 h4 q => ?_, by rw [c2 a (by omega)]; exact g2, fun q hq => by rw [c2 a (by omega)]; exact g3 q hq, fun b hb => by rw [c2 b (by omega)]; exact g4 b hb⟩
  rw [c1 k h1 h4 q]
  by_cases hq : q = t
  · subst hq
    rw [if_pos rfl, g1 k h1 h4, if_neg (by omega), if_pos (by omega)]
  · rw [if_neg hq, g1 k h1 h4]
    by_cases h9 : t < q ∧ q ≤ M a 4
    · rw [if_pos h9, if_pos (by omega)]
    · rw [if_neg h9, if_neg (by omega)]
theorem q_ins_fin {M M1 : lq_M} {a p s l r u : Nat} (h : q_insI M a p M1) (hp : p ≤ M a 4) : q_insd M a p s l r u (lq_up (lq_up (lq_up (lq_up M1 (a + 1) p s) (a + 2) p l) (a + 3) p r) (a + 4) p u) := by
  obtain ⟨g1, g2, g3, g4⟩ := h
  have e : ∀ k, 1 ≤ k → k ≤ 4 → ∀ q, q ≤ M a 4 → ∀ v, (if q = p then v else M1 (a + k) q) = q_in (M (a + k)) p v q := by
    intro k h1 h4 q hq v
    unfold q_in
    by_cases e1 : q = p
    · rw [if_pos e1, if_neg (by omega), if_pos e1]
    · rw [if_neg e1, if_neg e1, g1 k h1 h4]
      by_cases e2 : q < p
      · rw [if_neg (by omega), if_pos e2]
      · rw [if_pos (by omega), if_neg e2]
  refine ⟨q_k4 ?_ ?_ ?_ ?_, ?_, fun q hq => ?_, fun b hb => ?_⟩
  · intro q hq
    rw [← e 1 (by decide) (by decide) q hq]
    simp [lq_up, q_4]
  · intro q hq
    rw [← e 2 (by decide) (by decide) q hq]
    simp [lq_up, q_4]
  · intro q hq
    rw [← e 3 (by decide) (by decide) q hq]
    simp [lq_up, q_4]
  · intro q hq
    rw [← e 4 (by decide) (by decide) q hq]
    simp [lq_up, q_4]
  · simp [lq_up, g2]
  · simp [lq_up, g3 q hq]
  · rw [← g4 b hb]
    simp only [lq_up]
    rw [if_neg (by omega), if_neg (by omega), if_neg (by omega), if_neg (by omega)]
def q_deld (M : lq_M) (a p : Nat) (M' : lq_M) : Prop := (∀ k, 1 ≤ k → k ≤ 4 → ∀ q, q < M a 4 - 1 → M' (a + k) q = q_de (M (a + k)) p q) ∧ M' a 4 = M a 4 - 1 ∧ (∀ q, q ≠ 4 → M' a q = M a q) ∧ q_fr a (a + 5) M M'
def q_delI (M : lq_M) (a p t : Nat) (M' : lq_M) : Prop := (∀ k, 1 ≤ k → k ≤ 4 → ∀ q, M' (a + k) q = if p ≤ q ∧ q < t then M (a + k) (q + 1) else M (a + k) q) ∧ M' a = M a ∧ q_fr a (a + 5) M M'
theorem q_delI_s {M M1 M2 : lq_M} {a p t : Nat} (h : q_delI M a p t M1) (hp : p ≤ t) (h2 : q_cpd M1 a a (t + 1) t M2) : q_delI M a p (t + 1) M2 := by
  obtain ⟨g1, g3, g4⟩ := h
  obtain ⟨c1, c2⟩ := h2
  refine ⟨fun k h1 h4 q => ?_, by rw [c2 a (by omega)]; exact g3, fun b hb => by rw [c2 b (by omega)]; exact g4 b hb⟩
  rw [c1 k h1 h4 q]
  by_cases hq : q = t
  · subst hq
    rw [if_pos rfl, g1 k h1 h4, if_neg (by omega), if_pos (by omega)]
  · rw [if_neg hq, g1 k h1 h4]
    by_cases h9 : p ≤ q ∧ q < t
    · rw [if_pos h9, if_pos (by omega)]
    · rw [if_neg h9, if_neg (by omega)]
theorem q_del_fin {M M1 : lq_M} {a p : Nat} (h : q_delI M a p (M a 4 - 1) M1) (hp : p < M a 4) : q_deld M a p (lq_up M1 a 4 (M1 a 4 - 1)) := by
  obtain ⟨g1, g3, g4⟩ := h
  refine ⟨fun k h1 h4 q hq => ?_, by rw [lq_up_s, g3], fun q hq => by rw [lq_up_c _ _ hq, g3], fun b hb => by rw [lq_up_n _ _ _ (by omega)]; exact g4 b hb⟩
  rw [lq_up_n _ _ _ (by omega), g1 k h1 h4]
  unfold q_de
  by_cases e2 : q < p
  · rw [if_neg (by omega), if_pos e2]
  · rw [if_pos (by omega), if_neg e2]
def q_movd (M : lq_M) (a f t : Nat) (M' : lq_M) : Prop := (∀ k, 1 ≤ k → k ≤ 4 → ∀ q, q < M a 4 → M' (a + k) q = q_in (q_de (M (a + k)) f) t (M (a + k) f) q) ∧ (∀ q, M' a q = M a q) ∧ q_fr a (a + 5) M M'
theorem q_mov_mk {M M1 M2 : lq_M} {a f t : Nat} (ht : t ≤ f) (hf : f < M a 4) (h1 : q_deld M a f M1) (h2 : q_insd M1 a t (M (a + 1) f) (M (a + 2) f) (M (a + 3) f) (M (a + 4) f) M2) : q_movd M a f t M2 := by
  obtain ⟨g1, g2, g3, g4⟩ := h1
  obtain ⟨i1, i2, i3, i4⟩ := h2
  refine ⟨fun k h1 h4 q hq => ?_, fun q => ?_, g4.trans i4⟩
  · rw [i1 k h1 h4 q (by omega), show q_4 (M (a + 1) f) (M (a + 2) f) (M (a + 3) f) (M (a + 4) f) k = M (a + k) f from by
      rcases (show k = 1 ∨ k = 2 ∨ k = 3 ∨ k = 4 by omega) with rfl | rfl | rfl | rfl <;> rfl]
    unfold q_in
    by_cases e1 : q < t
    · rw [if_pos e1, if_pos e1, g1 k h1 h4 q (by omega)]
    · rw [if_neg e1, if_neg e1]
      by_cases e2 : q = t
      · rw [if_pos e2, if_pos e2]
      · rw [if_neg e2, if_neg e2, g1 k h1 h4 (q - 1) (by omega)]
  · by_cases e : q = 4
    · subst e
      rw [i2, g2]
      omega
    · rw [i3 q e, g3 q e]
def q_cpyd (M : lq_M) (a o : Nat) (M' : lq_M) : Prop := (∀ k, 1 ≤ k → k ≤ 4 → ∀ q, q < M o 4 → M' (a + k) q = M (o + k) q) ∧ M' a 4 = M o 4 ∧ (∀ q, q ≠ 4 → M' a q = M a q) ∧ q_fr a (a + 5) M M'
def q_cpyI (M : lq_M) (a o t : Nat) (M' : lq_M) : Prop := (∀ k, 1 ≤ k → k ≤ 4 → ∀ q, q < t → M' (a + k) q = M (o + k) q) ∧ M' a 4 = M o 4 ∧ (∀ q, q ≠ 4 → M' a q = M a q) ∧ q_fr a (a + 5) M M'
theorem q_cpyI_s {M M1 M2 : lq_M} {a o t : Nat} (hd : o + 4 < a ∨ a + 4 < o) (h : q_cpyI M a o t M1) (h2 : q_cpd M1 a o t t M2) : q_cpyI M a o (t + 1) M2 := by
  obtain ⟨g1, g2, g3, g4⟩ := h
  obtain ⟨c1, c2⟩ := h2
  refine ⟨fun k h1 h4 q hq => ?_, by rw [c2 a (by omega)]; exact g2, fun q hq => by rw [c2 a (by omega)]; exact g3 q hq, fun b hb => by rw [c2 b (by omega)]; exact g4 b hb⟩
  rw [c1 k h1 h4 q]
  by_cases e : q = t
  · rw [if_pos e, g4 (o + k) (by omega), e]
  · rw [if_neg e]
    exact g1 k h1 h4 q (by omega)
section SR2
variable {G : lq_G} {z : Nat} {S : lq_S} {N : lq_N}
theorem k_X6_copySpot {M : lq_M} {a o cap co i j : Nat} (hS : sh6 S a cap) (hO : sh6 S o co) (hcap : cap ≤ 200) (hco : co ≤ 200) (hi : i < co) (hj : j < cap) (hd : o = a ∨ o + 4 < a ∨ a + 4 < o) : LM G YX6_copySpot 0 0 0 [.ref a, .ref o, .int (nI i), .int (nI j)] z S M N (lq_mv z S N (q_cpd M a o i j)) lq_no := by
  refine LM.of (by decide) rfl [some (.ref a), some (.ref o), some (.int (nI i)), some (.int (nI j))] rfl (Nat.le_of_ble_eq_true rfl) ?_
  refine qw_aload_n 0 dX6_copySpot_0 rfl rfl ?_
  refine qw_getr fX6_7 dX6_copySpot_1 hS.1 rfl ?_
  refine qw_iload_n 3 dX6_copySpot_4 rfl rfl ?_
  refine qw_aload_n 1 dX6_copySpot_5 rfl rfl ?_
  refine qw_getr fX6_7 dX6_copySpot_6 hO.1 rfl ?_
  refine qw_iload_n 2 dX6_copySpot_9 rfl rfl ?_
  refine qw_iald dX6_copySpot_10 hO.2.1 (by omega) (by omega) ?_
  refine qw_iast dX6_copySpot_11 hS.2.1 (by omega) (by omega) ?_
  refine qw_aload_n 0 dX6_copySpot_12 rfl rfl ?_
  refine qw_getr fX6_13 dX6_copySpot_13 hS.1 rfl ?_
  refine qw_iload_n 3 dX6_copySpot_16 rfl rfl ?_
  refine qw_aload_n 1 dX6_copySpot_17 rfl rfl ?_
  refine qw_getr fX6_13 dX6_copySpot_18 hO.1 rfl ?_
  refine qw_iload_n 2 dX6_copySpot_21 rfl rfl ?_
  refine qw_iald dX6_copySpot_22 hO.2.2.1 (by omega) (by omega) ?_
  refine qw_iast dX6_copySpot_23 hS.2.2.1 (by omega) (by omega) ?_
  refine qw_aload_n 0 dX6_copySpot_24 rfl rfl ?_
  refine qw_getr fX6_16 dX6_copySpot_25 hS.1 rfl ?_
  refine qw_iload_n 3 dX6_copySpot_28 rfl rfl ?_
  refine qw_aload_n 1 dX6_copySpot_29 rfl rfl ?_
  refine qw_getr fX6_16 dX6_copySpot_30 hO.1 rfl ?_
  refine qw_iload_n 2 dX6_copySpot_33 rfl rfl ?_
  refine qw_iald dX6_copySpot_34 hO.2.2.2.1 (by omega) (by omega) ?_
  refine qw_iast dX6_copySpot_35 hS.2.2.2.1 (by omega) (by omega) ?_
  refine qw_aload_n 0 dX6_copySpot_36 rfl rfl ?_
  refine qw_getr fX6_19 dX6_copySpot_37 hS.1 rfl ?_
  refine qw_iload_n 3 dX6_copySpot_40 rfl rfl ?_
  refine qw_aload_n 1 dX6_copySpot_41 rfl rfl ?_
  refine qw_getr fX6_19 dX6_copySpot_42 hO.1 rfl ?_
  refine qw_iload_n 2 dX6_copySpot_45 rfl rfl ?_
  refine qw_iald dX6_copySpot_46 hO.2.2.2.2 (by omega) (by omega) ?_
  refine qw_iast dX6_copySpot_47 hS.2.2.2.2 (by omega) (by omega) ?_
  exact qw_return rfl dX6_copySpot_48 ⟨rfl, rfl, rfl, rfl, q_cpd_mk hd⟩
theorem l_X6_insert {M0 : lq_M} {a cap p s l r u : Nat} (hS : sh6 S a cap) (hcap : cap ≤ 200) (hp : p ≤ M0 a 4) (hc : M0 a 4 < cap) : ∀ (n t : Nat) (M : lq_M), p ≤ t → t ≤ M0 a 4 → t < n → q_insI M0 a t M → LW G YX6_insert 1 0 0 (lq_mv z S N (q_insd M0 a p s l r u)) lq_no z S M N 43 [some (.ref a), some (.int (nI p)), some (.int (nI s)), some (.int (nI l)), some (.int (nI r)), some (.int (nI u)), some (.int (nI t))] [] := by
  intro n
  induction n with
  | zero => intro _ _ _ _ _ _; omega
  | succ n ih =>
    intro t M hpt htn hn hI
    refine qw_iload dX6_insert_43 rfl ?_
    refine qw_iload_n 1 dX6_insert_45 rfl rfl ?_
    refine qw_icmp_leN 66 dX6_insert_46 (by decide) (by omega) (by omega) (fun c46 => ?_) (fun c46 => ?_)
    · refine qw_aload_n 0 dX6_insert_66 rfl rfl ?_
      refine qw_getr fX6_7 dX6_insert_67 hS.1 rfl ?_
      refine qw_iload_n 1 dX6_insert_70 rfl rfl ?_
      refine qw_iload_n 2 dX6_insert_71 rfl rfl ?_
      refine qw_iast dX6_insert_72 hS.2.1 (by omega) (by omega) ?_
      refine qw_aload_n 0 dX6_insert_73 rfl rfl ?_
      refine qw_getr fX6_13 dX6_insert_74 hS.1 rfl ?_
      refine qw_iload_n 1 dX6_insert_77 rfl rfl ?_
      refine qw_iload_n 3 dX6_insert_78 rfl rfl ?_
      refine qw_iast dX6_insert_79 hS.2.2.1 (by omega) (by omega) ?_
      refine qw_aload_n 0 dX6_insert_80 rfl rfl ?_
      refine qw_getr fX6_16 dX6_insert_81 hS.1 rfl ?_
      refine qw_iload_n 1 dX6_insert_84 rfl rfl ?_
      refine qw_iload dX6_insert_85 rfl ?_
      refine qw_iast dX6_insert_87 hS.2.2.2.1 (by omega) (by omega) ?_
      refine qw_aload_n 0 dX6_insert_88 rfl rfl ?_
      refine qw_getr fX6_19 dX6_insert_89 hS.1 rfl ?_
      refine qw_iload_n 1 dX6_insert_92 rfl rfl ?_
      refine qw_iload dX6_insert_93 rfl ?_
      refine qw_iast dX6_insert_95 hS.2.2.2.2 (by omega) (by omega) ?_
      exact qw_return rfl dX6_insert_96 ⟨rfl, rfl, rfl, rfl, q_ins_fin (show q_insI M0 a p M from (show t = p by omega) ▸ hI) hp⟩
    · refine qw_aload_n 0 dX6_insert_49 rfl rfl ?_
      refine qw_aload_n 0 dX6_insert_50 rfl rfl ?_
      refine qw_iload dX6_insert_51 rfl ?_
      refine qw_iconst (nI 1) dX6_insert_53 (by decide) ?_
      refine qw_subN (by omega) dX6_insert_54 ?_
      refine qw_iload dX6_insert_55 rfl ?_
      refine qw_cvv [_, _, _] (k_X6_copySpot (i := t - 1) (j := t) hS hS hcap hcap (by omega) (by omega) (Or.inl rfl)) mX6_32 dX6_insert_57 hS.1 rfl rfl rfl (Nat.le_of_ble_eq_true rfl) (by omega) (by decide) rfl (fun M1 h1 => ?_)
      refine qw_iincD (by omega) dX6_insert_60 rfl (by decide) rfl (by decide) ?_
      refine qw_goto 43 dX6_insert_63 (by decide) ?_
      exact ih (t - 1) M1 (by omega) (by omega) (by omega) (q_insI_s hI (by omega) htn h1)
theorem k_X6_insert {M : lq_M} {a cap p s l r u : Nat} (hS : sh6 S a cap) (hcap : cap ≤ 200) (hp : p ≤ M a 4) (hc : M a 4 < cap) : LM G YX6_insert 1 0 0 [.ref a, .int (nI p), .int (nI s), .int (nI l), .int (nI r), .int (nI u)] z S M N (lq_mv z S N (q_insd M a p s l r u)) lq_no := by
  refine LM.of (by decide) rfl [some (.ref a), some (.int (nI p)), some (.int (nI s)), some (.int (nI l)), some (.int (nI r)), some (.int (nI u)), none] rfl (Nat.le_of_ble_eq_true rfl) ?_
  refine qw_iload_n 1 dX6_insert_0 rfl rfl ?_
  refine qw_if_ltN 24 dX6_insert_1 (by decide) (by omega) ?_
  refine qw_iload_n 1 dX6_insert_4 rfl rfl ?_
  refine qw_aload_n 0 dX6_insert_5 rfl rfl ?_
  refine qw_geti fX6_22 dX6_insert_6 hS.1 rfl ?_
  refine qw_icmp_gtN 24 dX6_insert_9 (by decide) (by omega) (by omega) (fun c9 => absurd c9 (by omega)) (fun c9 => ?_)
  refine qw_aload_n 0 dX6_insert_12 rfl rfl ?_
  refine qw_geti fX6_22 dX6_insert_13 hS.1 rfl ?_
  refine qw_aload_n 0 dX6_insert_16 rfl rfl ?_
  refine qw_getr fX6_7 dX6_insert_17 hS.1 rfl ?_
  refine qw_aleni dX6_insert_20 hS.2.1 ?_
  refine qw_icmp_ltN 25 dX6_insert_21 (by decide) (by omega) (by omega) (fun c21 => ?_) (fun c21 => absurd c21 (by omega))
  refine qw_aload_n 0 dX6_insert_25 rfl rfl ?_
  refine qw_dup dX6_insert_26 rfl ?_
  refine qw_geti fX6_22 dX6_insert_27 hS.1 rfl ?_
  refine qw_iconst (nI 1) dX6_insert_30 (by decide) ?_
  refine qw_addN dX6_insert_31 ?_
  refine qw_puti fX6_22 dX6_insert_32 hS.1 rfl ?_
  refine qw_aload_n 0 dX6_insert_35 rfl rfl ?_
  refine qw_geti fX6_22 dX6_insert_36 hS.1 rfl ?_
  rw [lq_up_s]
  refine qw_iconst (nI 1) dX6_insert_39 (by decide) ?_
  refine qw_subN (by omega) dX6_insert_40 ?_
  rw [Nat.add_sub_cancel]
  refine qw_istore dX6_insert_41 rfl (by decide) ?_
  exact l_X6_insert hS hcap hp hc (M a 4 + 1) (M a 4) _ hp (Nat.le_refl _) (by omega) q_insI_0
theorem k_X6_takeOver {M : lq_M} {a o cap co f t u : Nat} (hS : sh6 S a cap) (hO : sh6 S o co) (hcap : cap ≤ 200) (hco : co ≤ 200) (hf : f < M o 4) (hof : M o 4 ≤ co) (hp : t ≤ M a 4) (hc : M a 4 < cap) : LM G YX6_takeOver 2 0 0 [.ref a, .ref o, .int (nI f), .int (nI t), .int (nI u)] z S M N (lq_mv z S N (q_insd M a t (M (o + 1) f) (M (o + 2) f) (M (o + 3) f) u)) lq_no := by
  refine LM.of (by decide) rfl [some (.ref a), some (.ref o), some (.int (nI f)), some (.int (nI t)), some (.int (nI u))] rfl (Nat.le_of_ble_eq_true rfl) ?_
  refine qw_iload_n 2 dX6_takeOver_0 rfl rfl ?_
  refine qw_if_ltN 12 dX6_takeOver_1 (by decide) (by omega) ?_
  refine qw_iload_n 2 dX6_takeOver_4 rfl rfl ?_
  refine qw_aload_n 1 dX6_takeOver_5 rfl rfl ?_
  refine qw_geti fX6_22 dX6_takeOver_6 hO.1 rfl ?_
  refine qw_icmp_ltN 13 dX6_takeOver_9 (by decide) (by omega) (by omega) (fun c9 => ?_) (fun c9 => absurd hf (by omega))
  refine qw_aload_n 0 dX6_takeOver_13 rfl rfl ?_
  refine qw_iload_n 3 dX6_takeOver_14 rfl rfl ?_
  refine qw_aload_n 1 dX6_takeOver_15 rfl rfl ?_
  refine qw_getr fX6_7 dX6_takeOver_16 hO.1 rfl ?_
  refine qw_iload_n 2 dX6_takeOver_19 rfl rfl ?_
  refine qw_iald dX6_takeOver_20 hO.2.1 (by omega) (by omega) ?_
  refine qw_aload_n 1 dX6_takeOver_21 rfl rfl ?_
  refine qw_getr fX6_13 dX6_takeOver_22 hO.1 rfl ?_
  refine qw_iload_n 2 dX6_takeOver_25 rfl rfl ?_
  refine qw_iald dX6_takeOver_26 hO.2.2.1 (by omega) (by omega) ?_
  refine qw_aload_n 1 dX6_takeOver_27 rfl rfl ?_
  refine qw_getr fX6_16 dX6_takeOver_28 hO.1 rfl ?_
  refine qw_iload_n 2 dX6_takeOver_31 rfl rfl ?_
  refine qw_iald dX6_takeOver_32 hO.2.2.2.1 (by omega) (by omega) ?_
  refine qw_iload dX6_takeOver_33 rfl ?_
  refine qw_cvv [_, _, _, _, _] (k_X6_insert hS hcap hp hc) mX6_36 dX6_takeOver_35 hS.1 rfl rfl rfl (Nat.le_of_ble_eq_true rfl) (by omega) (by decide) rfl (fun M1 h1 => ?_)
  exact qw_return rfl dX6_takeOver_38 ⟨rfl, rfl, rfl, rfl, h1⟩
theorem l_X6_delete {M0 : lq_M} {a cap p : Nat} (hS : sh6 S a cap) (hcap : cap ≤ 200) (hp : p < M0 a 4) (hc : M0 a 4 ≤ cap) : ∀ (n t : Nat) (M : lq_M), p ≤ t → t ≤ M0 a 4 - 1 → M0 a 4 - t < n → q_delI M0 a p t M → LW G YX6_delete 1 0 0 (lq_mv z S N (q_deld M0 a p)) lq_no z S M N 15 [some (.ref a), some (.int (nI p)), some (.int (nI t))] [] := by
  intro n
  induction n with
  | zero => intro _ _ _ _ _ _; omega
  | succ n ih =>
    intro t M hpt htn hn hI
    have e4 : M a 4 = M0 a 4 := by rw [hI.2.1]
    refine qw_iload_n 2 dX6_delete_15 rfl rfl ?_
    refine qw_aload_n 0 dX6_delete_16 rfl rfl ?_
    refine qw_geti fX6_22 dX6_delete_17 hS.1 rfl ?_
    refine qw_iconst (nI 1) dX6_delete_20 (by decide) ?_
    refine qw_subN (by omega) dX6_delete_21 ?_
    refine qw_icmp_geN 40 dX6_delete_22 (by decide) (by omega) (by omega) (fun c22 => ?_) (fun c22 => ?_)
    · refine qw_aload_n 0 dX6_delete_40 rfl rfl ?_
      refine qw_dup dX6_delete_41 rfl ?_
      refine qw_geti fX6_22 dX6_delete_42 hS.1 rfl ?_
      refine qw_iconst (nI 1) dX6_delete_45 (by decide) ?_
      refine qw_subN (by omega) dX6_delete_46 ?_
      refine qw_puti fX6_22 dX6_delete_47 hS.1 rfl ?_
      exact qw_return rfl dX6_delete_50 ⟨rfl, rfl, rfl, rfl, q_del_fin (show q_delI M0 a p (M0 a 4 - 1) M from (show t = M0 a 4 - 1 by omega) ▸ hI) hp⟩
    · refine qw_aload_n 0 dX6_delete_25 rfl rfl ?_
      refine qw_aload_n 0 dX6_delete_26 rfl rfl ?_
      refine qw_iload_n 2 dX6_delete_27 rfl rfl ?_
      refine qw_iconst (nI 1) dX6_delete_28 (by decide) ?_
      refine qw_addN dX6_delete_29 ?_
      refine qw_iload_n 2 dX6_delete_30 rfl rfl ?_
      refine qw_cvv [_, _, _] (k_X6_copySpot (i := t + 1) (j := t) hS hS hcap hcap (by omega) (by omega) (Or.inl rfl)) mX6_32 dX6_delete_31 hS.1 rfl rfl rfl (Nat.le_of_ble_eq_true rfl) (by omega) (by decide) rfl (fun M1 h1 => ?_)
      refine qw_iincN 1 dX6_delete_34 rfl (by decide) rfl (by decide) ?_
      refine qw_goto 15 dX6_delete_37 (by decide) ?_
      exact ih (t + 1) M1 (by omega) (by omega) (by omega) (q_delI_s hI hpt h1)
theorem k_X6_delete {M : lq_M} {a cap p : Nat} (hS : sh6 S a cap) (hcap : cap ≤ 200) (hp : p < M a 4) (hc : M a 4 ≤ cap) : LM G YX6_delete 1 0 0 [.ref a, .int (nI p)] z S M N (lq_mv z S N (q_deld M a p)) lq_no := by
  refine LM.of (by decide) rfl [some (.ref a), some (.int (nI p)), none] rfl (Nat.le_of_ble_eq_true rfl) ?_
  refine qw_iload_n 1 dX6_delete_0 rfl rfl ?_
  refine qw_if_ltN 12 dX6_delete_1 (by decide) (by omega) ?_
  refine qw_iload_n 1 dX6_delete_4 rfl rfl ?_
  refine qw_aload_n 0 dX6_delete_5 rfl rfl ?_
  refine qw_geti fX6_22 dX6_delete_6 hS.1 rfl ?_
  refine qw_icmp_ltN 13 dX6_delete_9 (by decide) (by omega) (by omega) (fun c9 => ?_) (fun c9 => absurd hp (by omega))
  refine qw_iload_n 1 dX6_delete_13 rfl rfl ?_
  refine qw_istore_n 2 dX6_delete_14 rfl rfl (by decide) ?_
  exact l_X6_delete hS hcap hp hc (M a 4 + 1) p M (Nat.le_refl _) (by omega) (by omega) ⟨fun k h1 h4 q => by rw [if_neg (by omega)], rfl, q_fr.rf⟩
theorem k_X6_moveForward {M : lq_M} {a cap f t : Nat} (hS : sh6 S a cap) (hcap : cap ≤ 200) (ht : t ≤ f) (hf : f < M a 4) (hc : M a 4 ≤ cap) : LM G YX6_moveForward 2 0 0 [.ref a, .int (nI f), .int (nI t)] z S M N (lq_mv z S N (q_movd M a f t)) lq_no := by
  refine LM.of (by decide) rfl [some (.ref a), some (.int (nI f)), some (.int (nI t)), none, none, none, none] rfl (Nat.le_of_ble_eq_true rfl) ?_
  refine qw_iload_n 2 dX6_moveForward_0 rfl rfl ?_
  refine qw_if_ltN 17 dX6_moveForward_1 (by decide) (by omega) ?_
  refine qw_iload_n 2 dX6_moveForward_4 rfl rfl ?_
  refine qw_iload_n 1 dX6_moveForward_5 rfl rfl ?_
  refine qw_icmp_gtN 17 dX6_moveForward_6 (by decide) (by omega) (by omega) (fun c6 => absurd ht (by omega)) (fun c6 => ?_)
  refine qw_iload_n 1 dX6_moveForward_9 rfl rfl ?_
  refine qw_aload_n 0 dX6_moveForward_10 rfl rfl ?_
  refine qw_geti fX6_22 dX6_moveForward_11 hS.1 rfl ?_
  refine qw_icmp_ltN 18 dX6_moveForward_14 (by decide) (by omega) (by omega) (fun c14 => ?_) (fun c14 => absurd hf (by omega))
  refine qw_aload_n 0 dX6_moveForward_18 rfl rfl ?_
  refine qw_getr fX6_7 dX6_moveForward_19 hS.1 rfl ?_
  refine qw_iload_n 1 dX6_moveForward_22 rfl rfl ?_
  refine qw_iald dX6_moveForward_23 hS.2.1 (by omega) (by omega) ?_
  refine qw_istore_n 3 dX6_moveForward_24 rfl rfl (by decide) ?_
  refine qw_aload_n 0 dX6_moveForward_25 rfl rfl ?_
  refine qw_getr fX6_13 dX6_moveForward_26 hS.1 rfl ?_
  refine qw_iload_n 1 dX6_moveForward_29 rfl rfl ?_
  refine qw_iald dX6_moveForward_30 hS.2.2.1 (by omega) (by omega) ?_
  refine qw_istore dX6_moveForward_31 rfl (by decide) ?_
  refine qw_aload_n 0 dX6_moveForward_33 rfl rfl ?_
  refine qw_getr fX6_16 dX6_moveForward_34 hS.1 rfl ?_
  refine qw_iload_n 1 dX6_moveForward_37 rfl rfl ?_
  refine qw_iald dX6_moveForward_38 hS.2.2.2.1 (by omega) (by omega) ?_
  refine qw_istore dX6_moveForward_39 rfl (by decide) ?_
  refine qw_aload_n 0 dX6_moveForward_41 rfl rfl ?_
  refine qw_getr fX6_19 dX6_moveForward_42 hS.1 rfl ?_
  refine qw_iload_n 1 dX6_moveForward_45 rfl rfl ?_
  refine qw_iald dX6_moveForward_46 hS.2.2.2.2 (by omega) (by omega) ?_
  refine qw_istore dX6_moveForward_47 rfl (by decide) ?_
  refine qw_aload_n 0 dX6_moveForward_49 rfl rfl ?_
  refine qw_iload_n 1 dX6_moveForward_50 rfl rfl ?_
  refine qw_cvv [_] (k_X6_delete hS hcap hf hc) mX6_40 dX6_moveForward_51 hS.1 rfl rfl rfl (Nat.le_of_ble_eq_true rfl) (by omega) (by decide) rfl (fun M1 h1 => ?_)
  refine qw_aload_n 0 dX6_moveForward_54 rfl rfl ?_
  refine qw_iload_n 2 dX6_moveForward_55 rfl rfl ?_
  refine qw_iload_n 3 dX6_moveForward_56 rfl rfl ?_
  refine qw_iload dX6_moveForward_57 rfl ?_
  refine qw_iload dX6_moveForward_59 rfl ?_
  refine qw_iload dX6_moveForward_61 rfl ?_
  refine qw_cvv [_, _, _, _, _] (k_X6_insert hS hcap (by rw [h1.2.1]; omega) (by rw [h1.2.1]; omega)) mX6_36 dX6_moveForward_63 hS.1 rfl rfl rfl (Nat.le_of_ble_eq_true rfl) (by omega) (by decide) rfl (fun M2 h2 => ?_)
  exact qw_return rfl dX6_moveForward_66 ⟨rfl, rfl, rfl, rfl, q_mov_mk ht hf h1 h2⟩
theorem l_X6_copyFrom {M0 : lq_M} {a o cap co : Nat} (hS : sh6 S a cap) (hO : sh6 S o co) (hcap : cap ≤ 200) (hco : co ≤ 200) (hn1 : M0 o 4 ≤ cap) (hn2 : M0 o 4 ≤ co) (hd : o + 4 < a ∨ a + 4 < o) : ∀ (n t : Nat) (M : lq_M), t ≤ M0 o 4 → M0 o 4 - t < n → q_cpyI M0 a o t M → LW G YX6_copyFrom 1 0 0 (lq_mv z S N (q_cpyd M0 a o)) lq_no z S M N 18 [some (.ref a), some (.ref o), some (.int (nI t))] [] := by
  intro n
  induction n with
  | zero => intro _ _ _ _ _; omega
  | succ n ih =>
    intro t M htn hn hI
    have e4 : M a 4 = M0 o 4 := hI.2.1
    refine qw_iload_n 2 dX6_copyFrom_18 rfl rfl ?_
    refine qw_aload_n 0 dX6_copyFrom_19 rfl rfl ?_
    refine qw_geti fX6_22 dX6_copyFrom_20 hS.1 rfl ?_
    refine qw_icmp_geN 39 dX6_copyFrom_23 (by decide) (by omega) (by omega) (fun c23 => ?_) (fun c23 => ?_)
    · exact qw_return rfl dX6_copyFrom_39 ⟨rfl, rfl, rfl, rfl, (show q_cpyI M0 a o (M0 o 4) M from (show t = M0 o 4 by omega) ▸ hI)⟩
    · refine qw_aload_n 0 dX6_copyFrom_26 rfl rfl ?_
      refine qw_aload_n 1 dX6_copyFrom_27 rfl rfl ?_
      refine qw_iload_n 2 dX6_copyFrom_28 rfl rfl ?_
      refine qw_iload_n 2 dX6_copyFrom_29 rfl rfl ?_
      refine qw_cvv [_, _, _] (k_X6_copySpot hS hO hcap hco (by omega) (by omega) (Or.inr hd)) mX6_32 dX6_copyFrom_30 hS.1 rfl rfl rfl (Nat.le_of_ble_eq_true rfl) (by omega) (by decide) rfl (fun M1 h1 => ?_)
      refine qw_iincN 1 dX6_copyFrom_33 rfl (by decide) rfl (by decide) ?_
      refine qw_goto 18 dX6_copyFrom_36 (by decide) ?_
      exact ih (t + 1) M1 (by omega) (by omega) (q_cpyI_s hd hI h1)
theorem k_X6_copyFrom {M : lq_M} {a o cap co : Nat} (hS : sh6 S a cap) (hO : sh6 S o co) (hcap : cap ≤ 200) (hco : co ≤ 200) (hn1 : M o 4 ≤ cap) (hn2 : M o 4 ≤ co) (hd : o + 4 < a ∨ a + 4 < o) : LM G YX6_copyFrom 1 0 0 [.ref a, .ref o] z S M N (lq_mv z S N (q_cpyd M a o)) lq_no := by
  refine LM.of (by decide) rfl [some (.ref a), some (.ref o), none] rfl (Nat.le_of_ble_eq_true rfl) ?_
  refine qw_aload_n 0 dX6_copyFrom_0 rfl rfl ?_
  refine qw_aload_n 1 dX6_copyFrom_1 rfl rfl ?_
  refine qw_geti fX6_22 dX6_copyFrom_2 hO.1 rfl ?_
  refine qw_aload_n 0 dX6_copyFrom_5 rfl rfl ?_
  refine qw_getr fX6_7 dX6_copyFrom_6 hS.1 rfl ?_
  refine qw_aleni dX6_copyFrom_9 hS.2.1 ?_
  refine qw_minN mmX6_26 (by omega) (by omega) dX6_copyFrom_10 (Nat.le_of_ble_eq_true rfl) ?_
  rw [Nat.min_eq_left hn1]
  refine qw_puti fX6_22 dX6_copyFrom_13 hS.1 rfl ?_
  refine qw_iconst (nI 0) dX6_copyFrom_16 (by decide) ?_
  refine qw_istore_n 2 dX6_copyFrom_17 rfl rfl (by decide) ?_
  exact l_X6_copyFrom hS hO hcap hco hn1 hn2 hd (M o 4 + 1) 0 _ (Nat.zero_le _) (by omega) ⟨fun k h1 h4 q hq => absurd hq (Nat.not_lt_zero q), lq_up_s _ _ _ _, fun q hq => lq_up_c _ _ hq, fun b hb => lq_up_n _ _ _ (by omega)⟩
end SR2
