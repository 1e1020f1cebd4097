/-! THE REFERENCE: taking in bytes; what both append, said alike -/
theorem q_rem4 {i : Nat} (hi : i < 20) : nI i - nI i / nI 4 * nI 4 = nI (i % 4) :=
  (show ∀ i : Fin 20, nI i.1 - nI i.1 / nI 4 * nI 4 = nI (i.1 % 4) by decide) ⟨i, hi⟩
def q_sel (x0 x1 x2 x3 x4 : Int32) (i : Nat) : Int32 := if i < 4 then x0 else if i < 8 then x1 else if i < 12 then x2 else if i < 16 then x3 else x4
/-- byte i of five words -/
def q_ab (x0 x1 x2 x3 x4 : Int32) (i : Nat) : Nat := q_byt (q_sel x0 x1 x2 x3 x4 i) (i % 4)
theorem q_byt_lt (x : Int32) (k : Nat) : q_byt x k < 256 := by
  unfold q_byt q_u
  have h : ((x >>> (nI (24 - 8 * k) &&& 31)) &&& 255).toBitVec = (x >>> (nI (24 - 8 * k) &&& 31)).toBitVec &&& 255#32 := rfl
  rw [h, BitVec.toNat_and]
  exact Nat.lt_of_le_of_lt Nat.and_le_right (by decide)
/-- the class's bytes -/
theorem q_app_sp {M : lq_M} {b : Nat} {x0 x1 x2 x3 x4 : Int32} : q_app M b x0 x1 x2 x3 x4 b 1 = M b 1 + 20 ∧ (∀ j, j ≠ 1 → q_app M b x0 x1 x2 x3 x4 b j = M b j) ∧ (∀ c, c ≠ b → c ≠ b + 1 → q_app M b x0 x1 x2 x3 x4 c = M c) ∧ ∀ j, q_app M b x0 x1 x2 x3 x4 (b + 1) j = if M b 1 ≤ j ∧ j < M b 1 + 20 then q_ab x0 x1 x2 x3 x4 (j - M b 1) else M (b + 1) j := by
  refine ⟨by simp only [q_app, q_apw_f], fun j hj => by simp only [q_app, q_apw, q_ap1_o hj], fun c c1 c2 => by simp only [q_app, q_apw, q_ap1_n c1 c2], fun j => ?_⟩
  simp only [q_app, q_apw, q_ap1_b, q_ap1_f]
  by_cases e : M b 1 ≤ j ∧ j < M b 1 + 20
  · rw [if_pos e]
    obtain ⟨i, rfl⟩ : ∃ i, j = M b 1 + i := ⟨j - M b 1, by omega⟩
    have hi : i < 20 := by omega
    rw [Nat.add_sub_cancel_left]
    generalize M b 1 = k
    rcases (show i = 0 ∨ i = 1 ∨ i = 2 ∨ i = 3 ∨ i = 4 ∨ i = 5 ∨ i = 6 ∨ i = 7 ∨ i = 8 ∨ i = 9 ∨ i = 10 ∨ i = 11 ∨ i = 12 ∨ i = 13 ∨ i = 14 ∨ i = 15 ∨ i = 16 ∨ i = 17 ∨ i = 18 ∨ i = 19 by omega) with h | h | h | h | h | h | h | h | h | h | h | h | h | h | h | h | h | h | h | h <;> subst h <;> simp [q_ab, q_sel, Nat.add_assoc]
  · rw [if_neg e]
    simp only [Nat.add_assoc, Nat.reduceAdd]
    repeat rw [if_neg (by omega)]
section R19
variable {G : lq_G} {z : Nat} {S : lq_S} {M : lq_M} {N : lq_N} {m : Nat} {fh fo : Nat → Option Nat}
theorem s_X9_append (h9 : sh9 S m fh fo) {x0 x1 x2 x3 x4 : Int32} {y : Int32} {i : Nat} (hi : i < 20) (hb : M m 2 < 800) {Q : lq_P} (kk : LW G YX9_append 0 0 0 Q lq_no z S (lq_up (lq_up M (m + 1) (M m 2) (q_byt y (i % 4))) m 2 (M m 2 + 1)) N 23 [some (.ref m), some (.int x0), some (.int x1), some (.int x2), some (.int x3), some (.int x4), some (.int (nI (i + 1))), none] []) : LW G YX9_append 0 0 0 Q lq_no z S M N 76 [some (.ref m), some (.int x0), some (.int x1), some (.int x2), some (.int x3), some (.int x4), some (.int (nI i)), none] [.int y] := by
  have hm4 : i % 4 < 4 := Nat.mod_lt _ (by decide)
  refine qw_istore dX9_append_76 rfl (by decide) ?_
  refine qw_aload_n 0 dX9_append_78 rfl rfl ?_
  refine qw_getr fX9_9 dX9_append_79 h9.1 rfl ?_
  refine qw_aload_n 0 dX9_append_82 rfl rfl ?_
  refine qw_geti fX9_48 dX9_append_83 h9.1 rfl ?_
  refine qw_iload dX9_append_86 rfl ?_
  refine qw_bipush (nI 24) dX9_append_88 (by decide) ?_
  refine qw_bipush (nI 8) dX9_append_90 (by decide) ?_
  refine qw_iload dX9_append_92 rfl ?_
  refine qw_iconst (nI 4) dX9_append_94 (by decide) ?_
  refine qw_irem dX9_append_95 (by decide) ?_
  rw [q_rem4 hi]
  refine qw_mulN dX9_append_96 ?_
  refine qw_subN (by omega) dX9_append_97 ?_
  refine qw_ishr dX9_append_98 ?_
  refine qw_sipush (nI 255) dX9_append_99 (by decide) ?_
  refine qw_iand dX9_append_102 ?_
  rw [← q_u_n ((y >>> (nI (24 - 8 * (i % 4)) &&& 31)) &&& nI 255)]
  refine qw_iast dX9_append_103 h9.bu (by omega) (by omega) ?_
  refine qw_aload_n 0 dX9_append_104 rfl rfl ?_
  refine qw_dup dX9_append_105 rfl ?_
  refine qw_geti fX9_48 dX9_append_106 h9.1 rfl ?_
  rw [lq_up_n M (a := m + 1) (b := m) _ _ (by omega)]
  refine qw_iconst (nI 1) dX9_append_109 (by decide) ?_
  refine qw_addN dX9_append_110 ?_
  refine qw_puti fX9_48 dX9_append_111 h9.1 rfl ?_
  refine qw_iincN 1 dX9_append_114 rfl (by decide) rfl (by decide) ?_
  refine qw_goto 23 dX9_append_117 (by decide) ?_
  exact qw_weak _ (by simp [lq_le]) kk
theorem l_X9_append (h9 : sh9 S m fh fo) {x0 x1 x2 x3 x4 : Int32} {M0 : lq_M} (hb : M0 m 2 ≤ 780) {Q : lq_P} (kQ : ∀ M1 : lq_M, M1 m 2 = M0 m 2 + 20 → (∀ j, j ≠ 2 → M1 m j = M0 m j) → (∀ b, b ≠ m → b ≠ m + 1 → M1 b = M0 b) → (∀ j, M1 (m + 1) j = if M0 m 2 ≤ j ∧ j < M0 m 2 + 20 then q_ab x0 x1 x2 x3 x4 (j - M0 m 2) else M0 (m + 1) j) → Q (some (.int (nI (M0 m 2 + 20)))) z S M1 N) : ∀ (n9 i : Nat) (M : lq_M), i ≤ 20 → 20 - i < n9 → M m 2 = M0 m 2 + i → (∀ j, j ≠ 2 → M m j = M0 m j) → (∀ b, b ≠ m → b ≠ m + 1 → M b = M0 b) → (∀ j, M (m + 1) j = if M0 m 2 ≤ j ∧ j < M0 m 2 + i then q_ab x0 x1 x2 x3 x4 (j - M0 m 2) else M0 (m + 1) j) → LW G YX9_append 0 0 0 Q lq_no z S M N 23 [some (.ref m), some (.int x0), some (.int x1), some (.int x2), some (.int x3), some (.int x4), some (.int (nI i)), none] [] := by
  intro n9
  induction n9 with
  | zero => intro _ _ _ _ _ _ _ _; omega
  | succ n9 ih =>
    intro i M hi hn9 hf ho hq hv
    have step : ∀ y, q_sel x0 x1 x2 x3 x4 i = y → i < 20 → ∀ j, lq_up (lq_up M (m + 1) (M m 2) (q_byt y (i % 4))) m 2 (M m 2 + 1) (m + 1) j = if M0 m 2 ≤ j ∧ j < M0 m 2 + (i + 1) then q_ab x0 x1 x2 x3 x4 (j - M0 m 2) else M0 (m + 1) j := fun y hy hi9 j => by
      rw [lq_up_n _ _ _ (by omega), lq_up_x, hv j, hf]
      by_cases e : j = M0 m 2 + i
      · rw [if_pos e, if_pos (by omega), e, Nat.add_sub_cancel_left, q_ab, hy]
      · rw [if_neg e]
        by_cases e2 : M0 m 2 ≤ j ∧ j < M0 m 2 + i
        · rw [if_pos e2, if_pos (by omega)]
        · rw [if_neg e2, if_neg (by omega)]
    refine qw_iload dX9_append_23 rfl ?_
    refine qw_bipush (nI 20) dX9_append_25 (by decide) ?_
    refine qw_icmp_geN 120 dX9_append_27 (by decide) (by omega) (by omega) (fun c27 => ?_) (fun c27 => ?_)
    · refine qw_aload_n 0 dX9_append_120 rfl rfl ?_
      refine qw_geti fX9_48 dX9_append_121 h9.1 rfl ?_
      exact qw_ireturn rfl rfl dX9_append_124 (by rw [show M m 2 = M0 m 2 + 20 by omega]; exact kQ M (by omega) ho hq (fun j => by have h := hv j; rw [show i = 20 by omega] at h; exact h))
    · refine qw_iload dX9_append_30 rfl ?_
      refine qw_iconst (nI 4) dX9_append_32 (by decide) ?_
      refine qw_icmp_geN 40 dX9_append_33 (by decide) (by omega) (by omega) (fun c33 => ?_) (fun c33 => ?_)
      · refine qw_iload dX9_append_40 rfl ?_
        refine qw_bipush (nI 8) dX9_append_42 (by decide) ?_
        refine qw_icmp_geN 51 dX9_append_44 (by decide) (by omega) (by omega) (fun c44 => ?_) (fun c44 => ?_)
        · refine qw_iload dX9_append_51 rfl ?_
          refine qw_bipush (nI 12) dX9_append_53 (by decide) ?_
          refine qw_icmp_geN 62 dX9_append_55 (by decide) (by omega) (by omega) (fun c55 => ?_) (fun c55 => ?_)
          · refine qw_iload dX9_append_62 rfl ?_
            refine qw_bipush (nI 16) dX9_append_64 (by decide) ?_
            refine qw_icmp_geN 74 dX9_append_66 (by decide) (by omega) (by omega) (fun c66 => ?_) (fun c66 => ?_)
            · refine qw_iload dX9_append_74 rfl ?_
              have hs : q_sel x0 x1 x2 x3 x4 i = x4 := by unfold q_sel; rw [if_neg (by omega), if_neg (by omega), if_neg (by omega), if_neg (by omega)]
              exact s_X9_append h9 (by omega) (by omega) (ih (i + 1) _ (by omega) (by omega) (by rw [lq_up_s, hf]; omega) (fun j hj => by rw [lq_up_c _ _ hj, lq_up_n _ _ _ (by omega)]; exact ho j hj) (fun b b1 b2 => by rw [lq_up_n _ _ _ b1, lq_up_n _ _ _ b2]; exact hq b b1 b2) (step _ hs (by omega)))
            · refine qw_iload dX9_append_69 rfl ?_
              refine qw_goto 76 dX9_append_71 (by decide) ?_
              have hs : q_sel x0 x1 x2 x3 x4 i = x3 := by unfold q_sel; rw [if_neg (by omega), if_neg (by omega), if_neg (by omega), if_pos (by omega)]
              exact s_X9_append h9 (by omega) (by omega) (ih (i + 1) _ (by omega) (by omega) (by rw [lq_up_s, hf]; omega) (fun j hj => by rw [lq_up_c _ _ hj, lq_up_n _ _ _ (by omega)]; exact ho j hj) (fun b b1 b2 => by rw [lq_up_n _ _ _ b1, lq_up_n _ _ _ b2]; exact hq b b1 b2) (step _ hs (by omega)))
          · refine qw_iload_n 3 dX9_append_58 rfl rfl ?_
            refine qw_goto 76 dX9_append_59 (by decide) ?_
            have hs : q_sel x0 x1 x2 x3 x4 i = x2 := by unfold q_sel; rw [if_neg (by omega), if_neg (by omega), if_pos (by omega)]
            exact s_X9_append h9 (by omega) (by omega) (ih (i + 1) _ (by omega) (by omega) (by rw [lq_up_s, hf]; omega) (fun j hj => by rw [lq_up_c _ _ hj, lq_up_n _ _ _ (by omega)]; exact ho j hj) (fun b b1 b2 => by rw [lq_up_n _ _ _ b1, lq_up_n _ _ _ b2]; exact hq b b1 b2) (step _ hs (by omega)))
        · refine qw_iload_n 2 dX9_append_47 rfl rfl ?_
          refine qw_goto 76 dX9_append_48 (by decide) ?_
          have hs : q_sel x0 x1 x2 x3 x4 i = x1 := by unfold q_sel; rw [if_neg (by omega), if_pos (by omega)]
          exact s_X9_append h9 (by omega) (by omega) (ih (i + 1) _ (by omega) (by omega) (by rw [lq_up_s, hf]; omega) (fun j hj => by rw [lq_up_c _ _ hj, lq_up_n _ _ _ (by omega)]; exact ho j hj) (fun b b1 b2 => by rw [lq_up_n _ _ _ b1, lq_up_n _ _ _ b2]; exact hq b b1 b2) (step _ hs (by omega)))
      · refine qw_iload_n 1 dX9_append_36 rfl rfl ?_
        refine qw_goto 76 dX9_append_37 (by decide) ?_
        have hs : q_sel x0 x1 x2 x3 x4 i = x0 := by unfold q_sel; rw [if_pos (by omega)]
        exact s_X9_append h9 (by omega) (by omega) (ih (i + 1) _ (by omega) (by omega) (by rw [lq_up_s, hf]; omega) (fun j hj => by rw [lq_up_c _ _ hj, lq_up_n _ _ _ (by omega)]; exact ho j hj) (fun b b1 b2 => by rw [lq_up_n _ _ _ b1, lq_up_n _ _ _ b2]; exact hq b b1 b2) (step _ hs (by omega)))
theorem k_X9_append (h9 : sh9 S m fh fo) {x0 x1 x2 x3 x4 : Int32} (hb : M m 2 ≤ 800) : LM G YX9_append 0 0 0 [.ref m, .int x0, .int x1, .int x2, .int x3, .int x4] z S M N (lq_mi z S N (fun x M1 => (780 < M m 2 ∧ x = -1 ∧ M1 = lq_up M m 0 0) ∨ (M m 2 ≤ 780 ∧ x = nI (M m 2 + 20) ∧ M1 m 0 = 0 ∧ M1 m 2 = M m 2 + 20 ∧ (∀ j, j ≠ 0 → j ≠ 2 → M1 m j = M m j) ∧ (∀ b, b ≠ m → b ≠ m + 1 → M1 b = M b) ∧ ∀ j, M1 (m + 1) j = if M m 2 ≤ j ∧ j < M m 2 + 20 then q_ab x0 x1 x2 x3 x4 (j - M m 2) else M (m + 1) j))) lq_no := by
  refine LM.of (by decide) rfl [some (.ref m), some (.int x0), some (.int x1), some (.int x2), some (.int x3), some (.int x4), none, none] rfl (Nat.le_of_ble_eq_true rfl) ?_
  have hm2 : lq_up M m 0 0 m 2 = M m 2 := lq_up_c _ _ (by decide)
  have hb1 : lq_up M m 0 0 (m + 1) = M (m + 1) := lq_up_n _ _ _ (by omega)
  refine qw_aload_n 0 dX9_append_0 rfl rfl ?_
  refine qw_iconst (nI 0) dX9_append_1 (by decide) ?_
  refine qw_puti fX9_41 dX9_append_2 h9.1 rfl ?_
  refine qw_aload_n 0 dX9_append_5 rfl rfl ?_
  refine qw_geti fX9_48 dX9_append_6 h9.1 rfl ?_
  rw [hm2]
  refine qw_bipush (nI 20) dX9_append_9 (by decide) ?_
  refine qw_addN dX9_append_11 ?_
  refine qw_sipush (nI 800) dX9_append_12 (by decide) ?_
  refine qw_icmp_leN 20 dX9_append_15 (by decide) (by omega) (by omega) (fun c15 => ?_) (fun c15 => ?_)
  · refine qw_iconst (nI 0) dX9_append_20 (by decide) ?_
    refine qw_istore dX9_append_21 rfl (by decide) ?_
    refine l_X9_append h9 (M0 := lq_up M m 0 0) (by rw [hm2]; omega) (fun M1 q1 q2 q3 q4 => ⟨rfl, rfl, rfl, _, rfl, Or.inr ⟨by omega, by rw [hm2], by rw [q2 0 (by decide), lq_up_s], by rw [q1, hm2], fun j j0 j2 => by rw [q2 j j2, lq_up_c _ _ j0], fun b b1 b2 => by rw [q3 b b1 b2, lq_up_n _ _ _ b1], fun j => by rw [q4 j, hm2, hb1]⟩⟩) 21 0 _ (by decide) (by decide) (by rw [Nat.add_zero]) (fun j hj => rfl) (fun b b1 b2 => rfl) (fun j => by rw [if_neg (by omega)])
  · refine qw_iconst (-1) dX9_append_18 (by decide) ?_
    exact qw_ireturn rfl rfl dX9_append_19 ⟨rfl, rfl, rfl, _, rfl, Or.inl ⟨by omega, rfl, rfl⟩⟩
end R19
