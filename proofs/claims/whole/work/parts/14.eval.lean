/-! the value of the price expression -/
theorem q_64 {x : Int} (h : -4000000000000000000 ≤ x ∧ x ≤ 4000000000000000000) : (Int64.ofInt x).toInt = x := Int64.toInt_ofInt_of_le (by omega) (by omega)
theorem q_clampL {x : Int} (h : -4000000000000000000 ≤ x ∧ x ≤ 4000000000000000000) : (if (if Int64.ofInt x < 1000000 then Int64.ofInt x else 1000000) < -1000000 then (-1000000 : Int64) else (if Int64.ofInt x < 1000000 then Int64.ofInt x else 1000000)).toInt32 = Int32.ofInt (max (-1000000) (min 1000000 x)) := by
  have e := q_64 h
  have l1 : Int64.ofInt x < 1000000 ↔ x < 1000000 := by rw [Int64.lt_iff_toInt_lt, e]; rfl
  have l2 : Int64.ofInt x < -1000000 ↔ x < -1000000 := by rw [Int64.lt_iff_toInt_lt, e]; rfl
  by_cases h1 : x < 1000000
  · rw [if_pos (l1.mpr h1)]
    by_cases h2 : x < -1000000
    · rw [if_pos (l2.mpr h2), show max (-1000000) (min 1000000 x) = -1000000 by omega]
      decide
    · rw [if_neg (fun q => h2 (l2.mp q)), show max (-1000000) (min 1000000 x) = x by omega, Int64.toInt32_ofInt]
  · rw [if_neg (fun q => h1 (l1.mp q)), if_neg (by decide), show max (-1000000) (min 1000000 x) = 1000000 by omega]
    decide
theorem q_mul_in {a b : Int} (ha : q_big a) (hb : q_big b) : -4000000000000000000 ≤ a * b ∧ a * b ≤ 4000000000000000000 := by
  unfold q_big at ha hb
  have h : (a * b).natAbs ≤ 1000000 * 1000000 := by
    rw [Int.natAbs_mul]
    exact Nat.mul_le_mul (by omega) (by omega)
  omega
theorem q_tdiv_in {a b : Int} (ha : q_big a) : -1000000 ≤ a.tdiv b ∧ a.tdiv b ≤ 1000000 := by
  unfold q_big at ha
  have h : (a.tdiv b).natAbs ≤ 1000000 := by
    rw [Int.natAbs_tdiv]
    exact Nat.le_trans (Nat.div_le_self _ _) (by omega)
  omega
def q_evI (e : Nat → Nat) (tk : Nat → Nat × Nat) (a i : Nat) (M0 M : lq_M) : Prop := (∀ k, k < 5 → M (a + 2) k = e k) ∧ (∀ j, j < q_hgt tk i → nI (M (a + 3) j) = Int32.ofInt ((q_evn e tk i).2 j)) ∧ ∀ b, b ≠ a + 2 → b ≠ a + 3 → M b = M0 b
theorem q_evI_push {e : Nat → Nat} {tk : Nat → Nat × Nat} {a i v : Nat} {M0 M : lq_M} (h : q_evI e tk a i M0 M) (hk : ((tk i).1 = 0 ∧ v = (tk i).2) ∨ ((tk i).1 = 1 ∧ v = e (tk i).2)) : q_evI e tk a (i + 1) M0 (lq_up M (a + 3) (q_hgt tk i) v) := by
  obtain ⟨h1, h2, h3⟩ := h
  have hh := q_evn_h e tk i
  refine ⟨fun k hk => by rw [lq_up_n _ _ _ (by omega)]; exact h1 k hk, fun j hj => ?_, fun b b1 b2 => by rw [lq_up_n _ _ _ b2]; exact h3 b b1 b2⟩
  rw [q_hgt, if_pos (by omega)] at hj
  rw [q_evn, q_stp]
  by_cases q : j = q_hgt tk i
  · rw [q, lq_up_s]
    rcases hk with ⟨k0, rfl⟩ | ⟨k0, rfl⟩
    · rw [if_pos k0]
      show _ = Int32.ofInt (if _ = _ then _ else _)
      rw [if_pos hh.symm]
      rfl
    · rw [if_neg (by omega), if_pos k0]
      show _ = Int32.ofInt (if _ = _ then _ else _)
      rw [if_pos hh.symm]
      rfl
  · rw [lq_up_c _ _ q, h2 j (by omega)]
    rcases hk with ⟨k0, rfl⟩ | ⟨k0, rfl⟩
    · rw [if_pos k0]
      show _ = Int32.ofInt (if _ = _ then _ else _)
      rw [if_neg (by rw [hh]; exact q)]
    · rw [if_neg (by omega), if_pos k0]
      show _ = Int32.ofInt (if _ = _ then _ else _)
      rw [if_neg (by rw [hh]; exact q)]
theorem q_evI_op {e : Nat → Nat} {tk : Nat → Nat × Nat} {a i v : Nat} {M0 M : lq_M} (h : q_evI e tk a i M0 M) (hk : 2 ≤ (tk i).1) (h2 : 2 ≤ q_hgt tk i) (hv : nI v = Int32.ofInt (q_op (tk i).1 ((q_evn e tk i).2 (q_hgt tk i - 1 - 1)) ((q_evn e tk i).2 (q_hgt tk i - 1)))) : q_evI e tk a (i + 1) M0 (lq_up M (a + 3) (q_hgt tk i - 1 - 1) v) := by
  obtain ⟨h1, h2', h3⟩ := h
  have hh := q_evn_h e tk i
  refine ⟨fun k hk => by rw [lq_up_n _ _ _ (by omega)]; exact h1 k hk, fun j hj => ?_, fun b b1 b2 => by rw [lq_up_n _ _ _ b2]; exact h3 b b1 b2⟩
  rw [q_hgt, if_neg (by omega)] at hj
  rw [q_evn, q_stp, if_neg (by omega), if_neg (by omega)]
  show _ = Int32.ofInt (if _ = _ then _ else _)
  rw [hh]
  by_cases q : j = q_hgt tk i - 1 - 1
  · rw [q, lq_up_s, hv, if_pos (by omega)]
    rw [show q_hgt tk i - 1 - 1 = q_hgt tk i - 2 by omega]
  · rw [lq_up_c _ _ q, h2' j (by omega), if_neg (by omega)]
theorem q_l5 : ∀ k, k < 5 → ¬ nI (4294967295 - k) < -5 ∧ nI (4294967295 - k) < 0 ∧ -1 - nI (4294967295 - k) = nI k := by decide
theorem q_g5 : ∀ k, k < 6 → 2 ≤ k → nI (4294967292 - k) < -5 ∧ ¬ -5 ≤ nI (4294967292 - k) := by decide
theorem q_l9 {v : Nat} (h : v ≤ 9999) : ¬ nI v < -5 := by
  intro q
  have h1 := Int32.lt_iff_toInt_lt.mp q
  rw [nI_toInt (by omega)] at h1
  have h2 : (-5 : Int32).toInt = -5 := by decide
  omega
theorem q_cmp0 {x y : Int64} (h : lg_cmp x y = 0) : x = y := by
  unfold lg_cmp at h
  split at h
  · exact absurd h (by decide)
  · split at h
    · assumption
    · exact absurd h (by decide)
theorem q_divL {x y : Int} (hx : (Int64.ofInt x).toInt = x) (hy : (Int64.ofInt y).toInt = y) (hbx : q_big x) (hby : q_big y) : Int64.ofInt (x.tdiv y) = Int64.ofInt x / Int64.ofInt y := by
  unfold q_big at hbx hby
  have e1 : Int64.minValue.toInt = -9223372036854775808 := by decide
  have e2 : Int64.maxValue.toInt = 9223372036854775807 := by decide
  exact Int64.ofInt_tdiv (by omega) (by omega) (by omega) (by omega)
section EV1
variable {G : lq_G} {z : Nat} {S : lq_S} {N : lq_N}
theorem k_X2_operate {M : lq_M} {k : Nat} {x y : Int} (hk : 2 ≤ k ∧ k ≤ 5) (hx : q_big x) (hy : q_big y) : LM G YX2_operate 0 0 0 [.int (nI (4294967292 - k)), .long (Int64.ofInt x), .long (Int64.ofInt y)] z S M N (lq_pu z S M N (.int (Int32.ofInt (q_op k x y)))) lq_no := by
  refine LM.of (by decide) rfl [some (.int (nI (4294967292 - k))), some (.long (Int64.ofInt x)), none, some (.long (Int64.ofInt y)), none, none, none] rfl (Nat.le_of_ble_eq_true rfl) ?_
  have tail : ∀ r : Int, -4000000000000000000 ≤ r ∧ r ≤ 4000000000000000000 → q_op k x y = max (-1000000) (min 1000000 r) → LW G YX2_operate 0 0 0 (lq_pu z S M N (.int (Int32.ofInt (q_op k x y)))) lq_no z S M N 67 [none, none, none, none, none, some (.long (Int64.ofInt r)), none] [] := by
    intro r hr he
    refine qw_ldc2 dX2_operate_67 kX2_36 ?_
    refine qw_ldc2 dX2_operate_70 kX2_38 ?_
    refine qw_lload dX2_operate_73 rfl ?_
    refine qw_minL mmX2_40 dX2_operate_75 (Nat.le_of_ble_eq_true rfl) ?_
    refine qw_maxL mmX2_46 dX2_operate_78 (Nat.le_of_ble_eq_true rfl) ?_
    refine qw_l2i _ dX2_operate_81 rfl ?_
    exact qw_ireturn rfl rfl dX2_operate_82 ⟨by rw [he, q_clampL hr], rfl, rfl, rfl, rfl⟩
  refine qw_iload_n 0 dX2_operate_0 rfl rfl ?_
  rcases (show k = 2 ∨ k = 3 ∨ k = 4 ∨ k = 5 by omega) with rfl | rfl | rfl | rfl
  · refine qw_tabIn 28 dX2_operate_1 (by decide) (by decide) rfl (by decide) ?_
    refine qw_lload_n 1 dX2_operate_28 rfl rfl ?_
    refine qw_lload_n 3 dX2_operate_29 rfl rfl ?_
    refine qw_ladd dX2_operate_30 ?_
    rw [← Int64.ofInt_add]
    refine qw_lstore dX2_operate_31 rfl (by decide) ?_
    refine qw_goto 67 dX2_operate_33 (by decide) ?_
    exact qw_weak [none, none, none, none, none, some (.long (Int64.ofInt (x + y))), none] (by simp [lq_le]) (tail _ (by unfold q_big at hx hy; omega) (by simp [q_op]))
  · refine qw_tabIn 36 dX2_operate_1 (by decide) (by decide) rfl (by decide) ?_
    refine qw_lload_n 1 dX2_operate_36 rfl rfl ?_
    refine qw_lload_n 3 dX2_operate_37 rfl rfl ?_
    refine qw_lsub dX2_operate_38 ?_
    rw [← Int64.ofInt_sub]
    refine qw_lstore dX2_operate_39 rfl (by decide) ?_
    refine qw_goto 67 dX2_operate_41 (by decide) ?_
    exact qw_weak [none, none, none, none, none, some (.long (Int64.ofInt (x - y))), none] (by simp [lq_le]) (tail _ (by unfold q_big at hx hy; omega) (by simp [q_op]))
  · refine qw_tabIn 44 dX2_operate_1 (by decide) (by decide) rfl (by decide) ?_
    refine qw_lload_n 1 dX2_operate_44 rfl rfl ?_
    refine qw_lload_n 3 dX2_operate_45 rfl rfl ?_
    refine qw_lmul dX2_operate_46 ?_
    rw [← Int64.ofInt_mul]
    refine qw_lstore dX2_operate_47 rfl (by decide) ?_
    refine qw_goto 67 dX2_operate_49 (by decide) ?_
    exact qw_weak [none, none, none, none, none, some (.long (Int64.ofInt (x * y))), none] (by simp [lq_le]) (tail _ (q_mul_in hx hy) (by simp [q_op]))
  · refine qw_tabOut 52 dX2_operate_1 (Or.inl (by decide)) (by decide) ?_
    refine qw_lload_n 3 dX2_operate_52 rfl rfl ?_
    refine qw_lconst (Int64.ofInt 0) dX2_operate_53 (by decide) ?_
    refine qw_lcmp dX2_operate_54 ?_
    have hy6 := q_64 (x := y) (by unfold q_big at hy; omega)
    have hx6 := q_64 (x := x) (by unfold q_big at hx; omega)
    by_cases hy0 : y = 0
    · subst hy0
      refine qw_eqi (nI 0) (by decide) ?_
      refine qw_if_neN 62 dX2_operate_55 (by decide) (by decide) (fun q => absurd rfl q) (fun _ => ?_)
      refine qw_lconst (0) dX2_operate_58 (by decide) ?_
      refine qw_goto 65 dX2_operate_59 (by decide) ?_
      refine qw_lstore dX2_operate_65 rfl (by decide) ?_
      exact qw_weak [none, none, none, none, none, some (.long (Int64.ofInt 0)), none] (by simp [lq_le]) (tail 0 (by omega) (by simp [q_op]))
    · have hne : ¬ Int64.ofInt y = 0 := fun q => hy0 (by rw [q] at hy6; exact hy6.symm)
      refine qw_if_ne 62 dX2_operate_55 (by decide) (fun _ => ?_) (fun q => absurd q (by
        intro q9
        apply hne
        have h9 : lg_cmp (Int64.ofInt y) (Int64.ofInt 0) = 0 := q9
        exact q_cmp0 h9))
      refine qw_lload_n 1 dX2_operate_62 rfl rfl ?_
      refine qw_lload_n 3 dX2_operate_63 rfl rfl ?_
      refine qw_ldiv dX2_operate_64 hne ?_
      rw [← q_divL hx6 hy6 hx hy]
      refine qw_lstore dX2_operate_65 rfl (by decide) ?_
      exact qw_weak [none, none, none, none, none, some (.long (Int64.ofInt (x.tdiv y))), none] (by simp [lq_le]) (tail _ (by have := q_tdiv_in (b := y) hx; omega) (by simp [q_op, hy0]))
theorem l_X2_evaluate {M0 : lq_M} {a n : Nat} {e : Nat → Nat} {tk : Nat → Nat × Nat} (hS : sh2 S a) (hn : n ≤ 800) (hw : q_fwf tk n) (he : ∀ k, k < 5 → e k ≤ 1000000) (hsz : M0 a 1 = n) (hcd : ∀ j, j < n → M0 (a + 1) j = q_enc (tk j)) : ∀ (n9 i : Nat) (M : lq_M), i ≤ n → n - i < n9 → q_evI e tk a i M0 M → LW G YX2_evaluate 1 0 0 (lq_mi z S N (fun x M1 => x = Int32.ofInt ((q_evn e tk n).2 0) ∧ ∀ b, b ≠ a + 2 → b ≠ a + 3 → M1 b = M0 b)) lq_no z S M N 43 [some (.ref a), none, none, none, none, none, some (.int (nI (q_hgt tk i))), some (.int (nI i)), none] [] := by
  intro n9
  induction n9 with
  | zero => intro _ _ _ _ _; omega
  | succ n9 ih =>
    intro i M hi hn9 hI
    have ea : M a = M0 a := hI.2.2 a (by omega) (by omega)
    have ea1 : M (a + 1) = M0 (a + 1) := hI.2.2 (a + 1) (by omega) (by omega)
    have hle := q_hgt_le hw.1 i hi
    refine qw_iload dX2_evaluate_43 rfl ?_
    refine qw_aload_n 0 dX2_evaluate_45 rfl rfl ?_
    refine qw_geti fX2_21 dX2_evaluate_46 hS.1 rfl ?_
    rw [ea, hsz]
    refine qw_icmp_geN 164 dX2_evaluate_49 (by decide) (by omega) (by omega) (fun c49 => ?_) (fun c49 => ?_)
    · refine qw_aload_n 0 dX2_evaluate_164 rfl rfl ?_
      refine qw_getr fX2_18 dX2_evaluate_165 hS.1 rfl ?_
      refine qw_iconst (nI 0) dX2_evaluate_168 (by decide) ?_
      refine qw_iald dX2_evaluate_169 hS.2.2.2 (by decide) (by omega) ?_
      rw [hI.2.1 0 (by rw [show i = n by omega, hw.2]; decide), show i = n by omega]
      exact qw_ireturn rfl rfl dX2_evaluate_170 ⟨rfl, rfl, rfl, _, rfl, rfl, hI.2.2⟩
    · refine qw_aload_n 0 dX2_evaluate_52 rfl rfl ?_
      refine qw_getr fX2_9 dX2_evaluate_53 hS.1 rfl ?_
      refine qw_iload dX2_evaluate_56 rfl ?_
      refine qw_iald dX2_evaluate_58 hS.2.1 (by omega) (by omega) ?_
      rw [ea1, hcd i (by omega)]
      have hev := q_evn_in he hw.1 i hi
      rcases hw.1 i (by omega) with ⟨t0, t1, t2⟩ | ⟨t0, t1, t2⟩ | ⟨t0, t1, t2⟩
      · rw [show q_enc (tk i) = (tk i).2 by simp [q_enc, t0]]
        refine qw_istore dX2_evaluate_59 rfl (by decide) ?_
        refine qw_iload dX2_evaluate_61 rfl ?_
        refine qw_bipush (-5) dX2_evaluate_63 (by decide) ?_
        refine qw_icmp_lt 110 dX2_evaluate_65 (by decide) (fun c65 => absurd c65 (q_l9 t1)) (fun c65 => ?_)
        refine qw_iload dX2_evaluate_68 rfl ?_
        refine qw_aload_n 0 dX2_evaluate_70 rfl rfl ?_
        refine qw_getr fX2_18 dX2_evaluate_71 hS.1 rfl ?_
        refine qw_aleni dX2_evaluate_74 hS.2.2.2 ?_
        refine qw_icmp_geN 110 dX2_evaluate_75 (by decide) (by omega) (by omega) (fun c75 => absurd c75 (by omega)) (fun c75 => ?_)
        refine qw_aload_n 0 dX2_evaluate_78 rfl rfl ?_
        refine qw_getr fX2_18 dX2_evaluate_79 hS.1 rfl ?_
        refine qw_iload dX2_evaluate_82 rfl ?_
        refine qw_iload dX2_evaluate_84 rfl ?_
        refine qw_if_ltN 94 dX2_evaluate_86 (by decide) (by omega) ?_
        refine qw_iload dX2_evaluate_89 rfl ?_
        refine qw_goto 103 dX2_evaluate_91 (by decide) ?_
        refine qw_iast dX2_evaluate_103 hS.2.2.2 (by omega) (by omega) ?_
        refine qw_iincN 1 dX2_evaluate_104 rfl (by decide) rfl (by decide) ?_
        refine qw_goto 158 dX2_evaluate_107 (by decide) ?_
        refine qw_iincN 1 dX2_evaluate_158 rfl (by decide) rfl (by decide) ?_
        refine qw_goto 43 dX2_evaluate_161 (by decide) ?_
        have h := ih (i + 1) _ (by omega) (by omega) (q_evI_push hI (Or.inl ⟨t0, rfl⟩))
        rw [q_hgt, if_pos (by omega)] at h
        exact qw_weak _ (by simp [lq_le]) h
      · rw [show q_enc (tk i) = 4294967295 - (tk i).2 by simp [q_enc, t0]]
        refine qw_istore dX2_evaluate_59 rfl (by decide) ?_
        refine qw_iload dX2_evaluate_61 rfl ?_
        refine qw_bipush (-5) dX2_evaluate_63 (by decide) ?_
        refine qw_icmp_lt 110 dX2_evaluate_65 (by decide) (fun c65 => absurd c65 (q_l5 _ t1).1) (fun c65 => ?_)
        refine qw_iload dX2_evaluate_68 rfl ?_
        refine qw_aload_n 0 dX2_evaluate_70 rfl rfl ?_
        refine qw_getr fX2_18 dX2_evaluate_71 hS.1 rfl ?_
        refine qw_aleni dX2_evaluate_74 hS.2.2.2 ?_
        refine qw_icmp_geN 110 dX2_evaluate_75 (by decide) (by omega) (by omega) (fun c75 => absurd c75 (by omega)) (fun c75 => ?_)
        refine qw_aload_n 0 dX2_evaluate_78 rfl rfl ?_
        refine qw_getr fX2_18 dX2_evaluate_79 hS.1 rfl ?_
        refine qw_iload dX2_evaluate_82 rfl ?_
        refine qw_iload dX2_evaluate_84 rfl ?_
        refine qw_if_lt 94 dX2_evaluate_86 (by decide) (fun c86 => ?_) (fun c86 => absurd (q_l5 _ t1).2.1 c86)
        refine qw_aload_n 0 dX2_evaluate_94 rfl rfl ?_
        refine qw_getr fX2_15 dX2_evaluate_95 hS.1 rfl ?_
        refine qw_iconst (-1) dX2_evaluate_98 (by decide) ?_
        refine qw_iload dX2_evaluate_99 rfl ?_
        refine qw_isub dX2_evaluate_101 ?_
        refine qw_eqi (nI (tk i).2) (q_l5 _ t1).2.2 ?_
        refine qw_iald dX2_evaluate_102 hS.2.2.1 t1 (by omega) ?_
        rw [hI.1 _ t1]
        refine qw_iast dX2_evaluate_103 hS.2.2.2 (by omega) (by omega) ?_
        refine qw_iincN 1 dX2_evaluate_104 rfl (by decide) rfl (by decide) ?_
        refine qw_goto 158 dX2_evaluate_107 (by decide) ?_
        refine qw_iincN 1 dX2_evaluate_158 rfl (by decide) rfl (by decide) ?_
        refine qw_goto 43 dX2_evaluate_161 (by decide) ?_
        have h := ih (i + 1) _ (by omega) (by omega) (q_evI_push hI (Or.inr ⟨t0, rfl⟩))
        rw [q_hgt, if_pos (by omega)] at h
        exact qw_weak _ (by simp [lq_le]) h
      · rw [show q_enc (tk i) = 4294967292 - (tk i).1 by rw [q_enc, if_neg (by omega), if_neg (by omega)]]
        refine qw_istore dX2_evaluate_59 rfl (by decide) ?_
        refine qw_iload dX2_evaluate_61 rfl ?_
        refine qw_bipush (-5) dX2_evaluate_63 (by decide) ?_
        refine qw_icmp_lt 110 dX2_evaluate_65 (by decide) (fun c65 => ?_) (fun c65 => absurd (q_g5 _ (by omega) t0).1 c65)
        refine qw_iload dX2_evaluate_110 rfl ?_
        refine qw_bipush (-5) dX2_evaluate_112 (by decide) ?_
        refine qw_icmp_ge 158 dX2_evaluate_114 (by decide) (fun c114 => absurd c114 (q_g5 _ (by omega) t0).2) (fun c114 => ?_)
        refine qw_iload dX2_evaluate_117 rfl ?_
        refine qw_iconst (nI 2) dX2_evaluate_119 (by decide) ?_
        refine qw_icmp_ltN 158 dX2_evaluate_120 (by decide) (by omega) (by omega) (fun c120 => absurd c120 (by omega)) (fun c120 => ?_)
        refine qw_iincD (by omega) dX2_evaluate_123 rfl (by decide) rfl (by decide) ?_
        refine qw_aload_n 0 dX2_evaluate_126 rfl rfl ?_
        refine qw_getr fX2_18 dX2_evaluate_127 hS.1 rfl ?_
        refine qw_iload dX2_evaluate_130 rfl ?_
        refine qw_iconst (nI 1) dX2_evaluate_132 (by decide) ?_
        refine qw_subN (by omega) dX2_evaluate_133 ?_
        refine qw_iload dX2_evaluate_134 rfl ?_
        refine qw_aload_n 0 dX2_evaluate_136 rfl rfl ?_
        refine qw_getr fX2_18 dX2_evaluate_137 hS.1 rfl ?_
        refine qw_iload dX2_evaluate_140 rfl ?_
        refine qw_iconst (nI 1) dX2_evaluate_142 (by decide) ?_
        refine qw_subN (by omega) dX2_evaluate_143 ?_
        refine qw_iald dX2_evaluate_144 hS.2.2.2 (by omega) (by omega) ?_
        rw [hI.2.1 _ (by omega)]
        refine qw_i2l _ dX2_evaluate_145 rfl ?_
        rw [q_i2l (hev _ (by omega))]
        refine qw_aload_n 0 dX2_evaluate_146 rfl rfl ?_
        refine qw_getr fX2_18 dX2_evaluate_147 hS.1 rfl ?_
        refine qw_iload dX2_evaluate_150 rfl ?_
        refine qw_iald dX2_evaluate_152 hS.2.2.2 (by omega) (by omega) ?_
        rw [hI.2.1 _ (by omega)]
        refine qw_i2l _ dX2_evaluate_153 rfl ?_
        rw [q_i2l (hev _ (by omega))]
        refine qw_csp [_, _, _] (k_X2_operate ⟨t0, t1⟩ (hev _ (by omega)) (hev _ (by omega))) mX2_32 dX2_evaluate_154 rfl rfl (Nat.le_of_ble_eq_true rfl) (by omega) (by decide) rfl ?_
        refine qw_eqi _ (q_u_n _).symm ?_
        refine qw_iast dX2_evaluate_157 hS.2.2.2 (by omega) (by omega) ?_
        refine qw_iincN 1 dX2_evaluate_158 rfl (by decide) rfl (by decide) ?_
        refine qw_goto 43 dX2_evaluate_161 (by decide) ?_
        have h := ih (i + 1) _ (by omega) (by omega) (q_evI_op hI t0 t2 (q_u_n _))
        rw [q_hgt, if_neg (by omega)] at h
        exact qw_weak _ (by simp [lq_le]) h
theorem k_X2_evaluate {M : lq_M} {a n : Nat} {e : Nat → Nat} {tk : Nat → Nat × Nat} (hS : sh2 S a) (hn : n ≤ 800) (hw : q_fwf tk n) (he : ∀ k, k < 5 → e k ≤ 1000000) (hsz : M a 1 = n) (hcd : ∀ j, j < n → M (a + 1) j = q_enc (tk j)) : LM G YX2_evaluate 1 0 0 [.ref a, .int (nI (e 0)), .int (nI (e 1)), .int (nI (e 2)), .int (nI (e 3)), .int (nI (e 4))] z S M N (lq_mi z S N (fun x M1 => x = Int32.ofInt ((q_evn e tk n).2 0) ∧ ∀ b, b ≠ a + 2 → b ≠ a + 3 → M1 b = M b)) lq_no := by
  refine LM.of (by decide) rfl [some (.ref a), some (.int (nI (e 0))), some (.int (nI (e 1))), some (.int (nI (e 2))), some (.int (nI (e 3))), some (.int (nI (e 4))), none, none, none] rfl (Nat.le_of_ble_eq_true rfl) ?_
  refine qw_aload_n 0 dX2_evaluate_0 rfl rfl ?_
  refine qw_getr fX2_15 dX2_evaluate_1 hS.1 rfl ?_
  refine qw_iconst (nI 0) dX2_evaluate_4 (by decide) ?_
  refine qw_iload_n 1 dX2_evaluate_5 rfl rfl ?_
  refine qw_iast dX2_evaluate_6 hS.2.2.1 (by omega) (by omega) ?_
  refine qw_aload_n 0 dX2_evaluate_7 rfl rfl ?_
  refine qw_getr fX2_15 dX2_evaluate_8 hS.1 rfl ?_
  refine qw_iconst (nI 1) dX2_evaluate_11 (by decide) ?_
  refine qw_iload_n 2 dX2_evaluate_12 rfl rfl ?_
  refine qw_iast dX2_evaluate_13 hS.2.2.1 (by omega) (by omega) ?_
  refine qw_aload_n 0 dX2_evaluate_14 rfl rfl ?_
  refine qw_getr fX2_15 dX2_evaluate_15 hS.1 rfl ?_
  refine qw_iconst (nI 2) dX2_evaluate_18 (by decide) ?_
  refine qw_iload_n 3 dX2_evaluate_19 rfl rfl ?_
  refine qw_iast dX2_evaluate_20 hS.2.2.1 (by omega) (by omega) ?_
  refine qw_aload_n 0 dX2_evaluate_21 rfl rfl ?_
  refine qw_getr fX2_15 dX2_evaluate_22 hS.1 rfl ?_
  refine qw_iconst (nI 3) dX2_evaluate_25 (by decide) ?_
  refine qw_iload dX2_evaluate_26 rfl ?_
  refine qw_iast dX2_evaluate_28 hS.2.2.1 (by omega) (by omega) ?_
  refine qw_aload_n 0 dX2_evaluate_29 rfl rfl ?_
  refine qw_getr fX2_15 dX2_evaluate_30 hS.1 rfl ?_
  refine qw_iconst (nI 4) dX2_evaluate_33 (by decide) ?_
  refine qw_iload dX2_evaluate_34 rfl ?_
  refine qw_iast dX2_evaluate_36 hS.2.2.1 (by omega) (by omega) ?_
  refine qw_iconst (nI 0) dX2_evaluate_37 (by decide) ?_
  refine qw_istore dX2_evaluate_38 rfl (by decide) ?_
  refine qw_iconst (nI 0) dX2_evaluate_40 (by decide) ?_
  refine qw_istore dX2_evaluate_41 rfl (by decide) ?_
  refine qw_weak [some (.ref a), none, none, none, none, none, some (.int (nI (q_hgt tk 0))), some (.int (nI 0)), none] (by simp [lq_le, q_hgt]) (l_X2_evaluate hS hn hw he hsz hcd (n + 1) 0 _ (Nat.zero_le _) (by omega) ⟨fun k hk => ?_, fun j hj => absurd hj (Nat.not_lt_zero j), fun b b1 b2 => ?_⟩)
  · rcases (show k = 0 ∨ k = 1 ∨ k = 2 ∨ k = 3 ∨ k = 4 by omega) with rfl | rfl | rfl | rfl | rfl <;> simp [lq_up]
  · simp [lq_up, b1]
end EV1
