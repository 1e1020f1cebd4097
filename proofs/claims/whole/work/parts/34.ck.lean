/-! the checksum; taking in bytes -/
def q_h31 (f : Nat → Nat) : Nat → Int64 → Int64
  | 0, s => s
  | n + 1, s => 31 * q_h31 f n s + (nI (f n)).toInt64
theorem q_h31_cong {f g : Nat → Nat} : ∀ n s, (∀ j, j < n → f j = g j) → q_h31 f n s = q_h31 g n s
  | 0, _, _ => rfl
  | n + 1, s, h => by rw [q_h31, q_h31, q_h31_cong n s (fun j hj => h j (by omega)), h n (by omega)]
theorem q_adi_h {M : lq_M} {a p o : Nat} {f : Nat → Nat} {s : Int64} : ∀ k, (∀ j, j < k → M (a + 1 + j) p = f (o + j)) → q_adi M a p (q_h31 f o s) k = q_h31 f (o + k) s
  | 0, _ => rfl
  | k + 1, h => by
    rw [q_adi, q_adi_h k (fun j hj => h j (by omega)), h k (by omega)]
    rfl
theorem q_ado_h {M : lq_M} {a t : Nat} {f : Nat → Nat} {s : Int64} : ∀ n, (∀ p k, p < n → k < t → M (a + 1 + k) p = f (t * p + k)) → q_ado M a t s n = q_h31 f (t * n) s
  | 0, _ => rfl
  | n + 1, h => by
    rw [q_ado, q_ado_h n (fun p k hp hk => h p k (by omega) hk), q_adi_h t (fun j hj => h n j (by omega) hj), Nat.mul_succ]
def g_ck1 (g : Nat → Nat) : Nat → Int64
  | 0 => 0
  | k + 1 => q_h31 (fun i => g (13 + 30 * k + i)) (3 * g (12 + 30 * k)) (31 * g_ck1 g k + (nI (g (11 + 30 * k))).toInt64)
def g_ck (g : Nat → Nat) : Int64 := 31 * q_h31 (fun s => g (608 + 2 * s)) (g 1) (q_h31 (fun i => g (723 + i)) (4 * g 5) (g_ck1 g (g 0))) + (nI (g 6)).toInt64
theorem q_br.ck {M : lq_M} {b i : Nat} {g : Nat → Nat} (h : q_br M b g i) (s : Int64) : q_ado M (b + 1) 3 s (M (b + 1) 4) = q_h31 (fun j => g (13 + 30 * i + j)) (3 * g (12 + 30 * i)) s := by
  rw [h.2.2.2.2.2.1]
  refine q_ado_h _ (fun p k hp hk => ?_)
  have q := h.2.2.2.2.2.2 p hp
  rcases (show k = 0 ∨ k = 1 ∨ k = 2 by omega) with e | e | e
  · subst e; exact q.1.trans (congrArg g (by omega))
  · subst e; exact q.2.1.trans (congrArg g (by omega))
  · subst e; exact q.2.2.trans (congrArg g (by omega))
def q_byt (x : Int32) (k : Nat) : Nat := q_u ((x >>> (nI (24 - 8 * k) &&& 31)) &&& 255)
theorem q_byt_b (x : Int32) : x.toInt8.toInt32 = sb_b (q_u (x &&& 255)) := by
  unfold sb_b
  rw [q_u_n]
  refine congrArg Int8.toInt32 ?_
  apply Int8.toBitVec_inj.mp
  apply BitVec.eq_of_getLsbD_eq
  intro i hi
  have hk : ∀ j : Fin 8, (255 : BitVec 32).getLsbD j.1 = true := by decide
  have h9 := hk ⟨i, hi⟩
  simp [hi] at h9 ⊢
  intro h7
  exact h9
/-- one byte more in the buffer -/
def q_ap1 (M : lq_M) (b v : Nat) : lq_M := lq_up (lq_up M (b + 1) (M b 1) v) b 1 (M b 1 + 1)
def q_apw (M : lq_M) (b : Nat) (x : Int32) : lq_M := q_ap1 (q_ap1 (q_ap1 (q_ap1 M b (q_byt x 0)) b (q_byt x 1)) b (q_byt x 2)) b (q_byt x 3)
theorem q_ap1_f {M : lq_M} {b v : Nat} : q_ap1 M b v b 1 = M b 1 + 1 := by unfold q_ap1; rw [lq_up_s]
theorem q_ap1_o {M : lq_M} {b v j : Nat} (h : j ≠ 1) : q_ap1 M b v b j = M b j := by unfold q_ap1; rw [lq_up_c _ _ h, lq_up_n _ _ _ (by omega)]
theorem q_ap1_n {M : lq_M} {b v x : Nat} (h : x ≠ b) (h2 : x ≠ b + 1) : q_ap1 M b v x = M x := by unfold q_ap1; rw [lq_up_n _ _ _ h, lq_up_n _ _ _ h2]
theorem q_ap1_b {M : lq_M} {b v : Nat} : q_ap1 M b v (b + 1) = fun j => if j = M b 1 then v else M (b + 1) j := by unfold q_ap1; rw [lq_up_n _ _ _ (by omega), lq_up_a]
section PU5
variable {G : lq_G} {z : Nat} {S : lq_S} {N : lq_N} {M : lq_M}
theorem l2_X8_checksum {a b : Nat} {f : Nat → Option Nat} {g : Nat → Nat} {tk : Nat → Nat × Nat} {n : Nat} (hS : sh4 S a f q_id) (hR : q_pl M a q_id g tk n) (hW : g_wf g) {Q : lq_P} (hQ : Q (some (.long (g_ck g))) z S M N) : ∀ (n9 k : Nat), k ≤ g 1 → g 1 - k < n9 → LW G YX8_checksum 6 0 0 Q lq_no z S M N 75 [some (.ref b), some (.ref a), some (.long (q_h31 (fun s => g (608 + 2 * s)) k (q_h31 (fun i => g (723 + i)) (4 * g 5) (g_ck1 g (g 0))))), none, some (.int (nI k))] [] := by
  intro n9
  induction n9 with
  | zero => intro _ _ _; omega
  | succ n9 ih =>
    intro k hk hn9
    have h20 := hW.nb
    have h8 := hW.ns
    refine qw_iload dX8_checksum_75 rfl ?_
    refine qw_aload_n 1 dX8_checksum_77 rfl rfl ?_
    refine qw_geti fX8_83 dX8_checksum_78 hS.1 rfl ?_
    rw [hR.ns]
    refine qw_icmp_geN 105 dX8_checksum_81 (by decide) (by omega) (by omega) (fun c81 => ?_) (fun c81 => ?_)
    · refine qw_ldc2 dX8_checksum_105 kX8_252 ?_
      refine qw_lload_n 2 dX8_checksum_108 rfl rfl ?_
      refine qw_lmul dX8_checksum_109 ?_
      refine qw_aload_n 1 dX8_checksum_110 rfl rfl ?_
      refine qw_geti fX8_182 dX8_checksum_111 hS.1 rfl ?_
      rw [hR.inc]
      refine qw_i2l _ dX8_checksum_114 rfl ?_
      refine qw_ladd dX8_checksum_115 ?_
      exact qw_lreturn rfl dX8_checksum_116 (by rw [show k = g 1 by omega]; exact hQ)
    · refine qw_ldc2 dX8_checksum_84 kX8_252 ?_
      refine qw_lload_n 2 dX8_checksum_87 rfl rfl ?_
      refine qw_lmul dX8_checksum_88 ?_
      refine qw_aload_n 1 dX8_checksum_89 rfl rfl ?_
      refine qw_getr fX8_142 dX8_checksum_90 hS.1 rfl ?_
      refine qw_iload dX8_checksum_93 rfl ?_
      refine qw_iald dX8_checksum_95 hS.cap (by omega) (by omega) ?_
      rw [(hR.cat (s := k) (by omega)).2]
      refine qw_i2l _ dX8_checksum_96 rfl ?_
      refine qw_ladd dX8_checksum_97 ?_
      refine qw_lstore_n 2 dX8_checksum_98 rfl rfl (by decide) ?_
      refine qw_iincN 1 dX8_checksum_99 rfl (by decide) rfl (by decide) ?_
      refine qw_goto 75 dX8_checksum_102 (by decide) ?_
      exact qw_weak _ (by simp [lq_le, q_h31]) (ih (k + 1) (by omega) (by omega))
theorem l1_X8_checksum {a b : Nat} {f : Nat → Option Nat} {g : Nat → Nat} {tk : Nat → Nat × Nat} {n : Nat} (hS : sh4 S a f q_id) (hR : q_pl M a q_id g tk n) (hW : g_wf g) {Q : lq_P} (hQ : Q (some (.long (g_ck g))) z S M N) : ∀ (n9 k : Nat), k ≤ g 0 → g 0 - k < n9 → LW G YX8_checksum 6 0 0 Q lq_no z S M N 13 [some (.ref b), some (.ref a), some (.long (g_ck1 g k)), none, some (.int (nI k))] [] := by
  intro n9
  induction n9 with
  | zero => intro _ _ _; omega
  | succ n9 ih =>
    intro k hk hn9
    have h20 := hW.nb
    have h8 := hW.ns
    refine qw_iload dX8_checksum_13 rfl ?_
    refine qw_aload_n 1 dX8_checksum_15 rfl rfl ?_
    refine qw_geti fX8_77 dX8_checksum_16 hS.1 rfl ?_
    rw [hR.nb]
    refine qw_icmp_geN 62 dX8_checksum_19 (by decide) (by omega) (by omega) (fun c19 => ?_) (fun c19 => ?_)
    · refine qw_aload_n 1 dX8_checksum_62 rfl rfl ?_
      refine qw_getr fX8_152 dX8_checksum_63 hS.1 rfl ?_
      refine qw_lload_n 2 dX8_checksum_66 rfl rfl ?_
      refine qw_iconst (nI 4) dX8_checksum_67 (by decide) ?_
      refine qw_cvp [_, _] (k_X6_addTo hS.ow (by rw [hR.ow.1]; exact hW.no) (by decide) (t := 4) (by decide)) mX8_254 dX8_checksum_68 hS.ow.1 rfl rfl rfl (Nat.le_of_ble_eq_true rfl) (by omega) (by decide) rfl ?_
      have he : q_ado M (a + 129) 4 (g_ck1 g k) (M (a + 129) 4) = q_h31 (fun i => g (723 + i)) (4 * g 5) (g_ck1 g (g 0)) := by
        rw [hR.ow.1, show k = g 0 by omega]
        refine q_ado_h _ (fun p j hp hj => ?_)
        have q := hR.ow.2 p hp
        rcases (show j = 0 ∨ j = 1 ∨ j = 2 ∨ j = 3 by omega) with e | e | e | e
        · subst e; exact q.1.trans (congrArg g (by omega))
        · subst e; exact q.2.1.trans (congrArg g (by omega))
        · subst e; exact q.2.2.1.trans (congrArg g (by omega))
        · subst e; exact q.2.2.2.trans (congrArg g (by omega))
      rw [he]
      refine qw_lstore_n 2 dX8_checksum_71 rfl rfl (by decide) ?_
      refine qw_iconst (nI 0) dX8_checksum_72 (by decide) ?_
      refine qw_istore dX8_checksum_73 rfl (by decide) ?_
      exact qw_weak _ (by simp [lq_le, q_h31]) (l2_X8_checksum (b := b) hS hR hW hQ (g 1 + 1) 0 (Nat.zero_le _) (by omega))
    · refine qw_ldc2 dX8_checksum_22 kX8_252 ?_
      refine qw_lload_n 2 dX8_checksum_25 rfl rfl ?_
      refine qw_lmul dX8_checksum_26 ?_
      refine qw_aload_n 1 dX8_checksum_27 rfl rfl ?_
      refine qw_getr fX8_94 dX8_checksum_28 hS.1 rfl ?_
      refine qw_iload dX8_checksum_31 rfl ?_
      refine qw_aald dX8_checksum_33 hS.l rfl rfl (by omega) (by omega) (hS.el (i := k) (by omega)) ?_
      refine qw_geti fX8_111 dX8_checksum_34 (hS.b (i := k) (by omega)).1 rfl ?_
      have hb := hR.br (i := k) (by omega)
      have hbw := hW.br (i := k) (by omega)
      rw [hb.2.2.2.2.1]
      refine qw_i2l _ dX8_checksum_37 rfl ?_
      refine qw_ladd dX8_checksum_38 ?_
      refine qw_lstore_n 2 dX8_checksum_39 rfl rfl (by decide) ?_
      refine qw_aload_n 1 dX8_checksum_40 rfl rfl ?_
      refine qw_getr fX8_94 dX8_checksum_41 hS.1 rfl ?_
      refine qw_iload dX8_checksum_44 rfl ?_
      refine qw_aald dX8_checksum_46 hS.l rfl rfl (by omega) (by omega) (hS.el (i := k) (by omega)) ?_
      refine qw_getr fX8_114 dX8_checksum_47 (hS.b (i := k) (by omega)).1 rfl ?_
      refine qw_lload_n 2 dX8_checksum_50 rfl rfl ?_
      refine qw_iconst (nI 3) dX8_checksum_51 (by decide) ?_
      refine qw_cvp [_, _] (k_X6_addTo (hS.b (i := k) (by omega)).2 (by rw [hb.2.2.2.2.2.1]; exact hbw.2.2.2.2.2.1) (by decide) (t := 3) (by decide)) mX8_254 dX8_checksum_52 (hS.b (i := k) (by omega)).2.1 rfl rfl rfl (Nat.le_of_ble_eq_true rfl) (by omega) (by decide) rfl ?_
      rw [hb.ck]
      refine qw_lstore_n 2 dX8_checksum_55 rfl rfl (by decide) ?_
      refine qw_iincN 1 dX8_checksum_56 rfl (by decide) rfl (by decide) ?_
      refine qw_goto 13 dX8_checksum_59 (by decide) ?_
      exact qw_weak _ (by simp [lq_le, g_ck1]) (ih (k + 1) (by omega) (by omega))
theorem k_X8_checksum {b : Nat} {F : Nat → Nat → Option Nat} {fp fb : Nat → Option Nat} (h8 : sh8 S b F fp fb) {u : Nat} {H : Nat → Nat → Nat} {tk : Nat → Nat → Nat × Nat} {n : Nat → Nat} (hH : q_hi M (b + 139) u H tk n) : LM G YX8_checksum 6 0 0 [.ref b] z S M N (lq_pu z S M N (.long (g_ck (H 0)))) lq_no := by
  obtain ⟨c, hC⟩ := hH
  have hC2 := hC
  obtain ⟨h9, hc, hu, hu8, hp⟩ := hC2
  have hR : q_pl M (b + 139 + 2 + 134 * c) q_id (H 0) (tk 0) (n 0) := (hp 0 (Nat.zero_le u)).1
  obtain ⟨hW, hF, hn⟩ := (hp 0 (Nat.zero_le u)).2
  have hS : sh4 S (b + 139 + 2 + 134 * c) (F c) q_id := h8.2.1.2.2.2 c h9
  have hA := h8.2.2.1
  obtain ⟨a, ha⟩ : ∃ a, a = b + 139 + 2 + 134 * c := ⟨_, rfl⟩
  rw [← ha] at hR hS
  have h20 := hW.nb
  have hs8 := hW.ns
  have h160 := hW.no
  have e0 := hR.nb
  have e1 := hR.ns
  refine LM.of (by decide) rfl [some (.ref b), none, none, none, none] rfl (Nat.le_of_ble_eq_true rfl) ?_
  refine qw_aload_n 0 dX8_checksum_0 rfl rfl ?_
  refine qw_getr fX8_37 dX8_checksum_1 h8.1 rfl ?_
  refine qw_cvp [] (k_X3_latest h8.2.1 hc h9) mX8_80 dX8_checksum_4 h8.2.1.1 rfl rfl rfl (Nat.le_of_ble_eq_true rfl) (by omega) (by decide) rfl ?_
  rw [← ha]
  refine qw_astore_n 1 dX8_checksum_7 rfl rfl (by decide) ?_
  refine qw_lconst (0) dX8_checksum_8 (by decide) ?_
  refine qw_lstore_n 2 dX8_checksum_9 rfl rfl (by decide) ?_
  refine qw_iconst (nI 0) dX8_checksum_10 (by decide) ?_
  refine qw_istore dX8_checksum_11 rfl (by decide) ?_
  exact qw_weak _ (by simp [lq_le, g_ck1]) (l1_X8_checksum (b := b) hS hR hW ⟨rfl, rfl, rfl, rfl, rfl⟩ (H 0 0 + 1) 0 (Nat.zero_le _) (by omega))
theorem k_X8_appendWord {b : Nat} {F : Nat → Nat → Option Nat} {fp fb : Nat → Option Nat} (h8 : sh8 S b F fp fb) {x : Int32} (hf : M b 1 ≤ 796) : LM G YX8_appendWord 0 0 0 [.ref b, .int x] z S M N (lq_mv z S N (fun M1 => M1 = q_apw M b x)) lq_no := by
  refine LM.of (by decide) rfl [some (.ref b), some (.int x), none] rfl (Nat.le_of_ble_eq_true rfl) ?_
  refine qw_aload_n 0 dX8_appendWord_0 rfl rfl ?_
  refine qw_geti fX8_13 dX8_appendWord_1 h8.1 rfl ?_
  refine qw_sipush (nI 796) dX8_appendWord_4 (by decide) ?_
  refine qw_icmp_leN 11 dX8_appendWord_7 (by decide) (by omega) (by omega) (fun c7 => ?_) (fun c7 => absurd hf (by omega))
  refine qw_bipush (nI 24) dX8_appendWord_11 (by decide) ?_
  refine qw_istore_n 2 dX8_appendWord_13 rfl rfl (by decide) ?_
  refine qw_iload_n 2 dX8_appendWord_14 rfl rfl ?_
  refine qw_if_ltN 47 dX8_appendWord_15 (by decide) (by omega) ?_
  refine qw_aload_n 0 dX8_appendWord_18 rfl rfl ?_
  refine qw_getr fX8_9 dX8_appendWord_19 h8.1 rfl ?_
  refine qw_aload_n 0 dX8_appendWord_22 rfl rfl ?_
  refine qw_geti fX8_13 dX8_appendWord_23 h8.1 rfl ?_
  refine qw_iload_n 1 dX8_appendWord_26 rfl rfl ?_
  refine qw_iload_n 2 dX8_appendWord_27 rfl rfl ?_
  refine qw_ishr dX8_appendWord_28 ?_
  refine qw_i2b _ dX8_appendWord_29 rfl ?_
  rw [q_byt_b]
  refine qw_bast dX8_appendWord_30 h8.2.2.2 (by omega) (by omega) ?_
  refine qw_aload_n 0 dX8_appendWord_31 rfl rfl ?_
  refine qw_dup dX8_appendWord_32 rfl ?_
  refine qw_geti fX8_13 dX8_appendWord_33 h8.1 rfl ?_
  refine qw_iconst (nI 1) dX8_appendWord_36 (by decide) ?_
  refine qw_addN dX8_appendWord_37 ?_
  refine qw_puti fX8_13 dX8_appendWord_38 h8.1 rfl ?_
  refine qw_iinc (nI 16) dX8_appendWord_41 rfl (by decide) rfl (by decide) ?_
  rw [lq_up_n _ _ _ (show b ≠ b + 1 by omega)]
  refine qw_goto 14 dX8_appendWord_44 (by decide) ?_
  show LW G YX8_appendWord 0 0 0 _ _ z S (q_ap1 M b (q_byt x 0)) N _ _ _
  refine qw_iload_n 2 dX8_appendWord_14 rfl rfl ?_
  refine qw_if_lt 47 dX8_appendWord_15 (by decide) (fun c15 => absurd c15 (by decide)) (fun c15 => ?_)
  refine qw_aload_n 0 dX8_appendWord_18 rfl rfl ?_
  refine qw_getr fX8_9 dX8_appendWord_19 h8.1 rfl ?_
  refine qw_aload_n 0 dX8_appendWord_22 rfl rfl ?_
  refine qw_geti fX8_13 dX8_appendWord_23 h8.1 rfl ?_
  refine qw_iload_n 1 dX8_appendWord_26 rfl rfl ?_
  refine qw_iload_n 2 dX8_appendWord_27 rfl rfl ?_
  refine qw_ishr dX8_appendWord_28 ?_
  refine qw_i2b _ dX8_appendWord_29 rfl ?_
  rw [q_byt_b]
  refine qw_bast dX8_appendWord_30 h8.2.2.2 (by simp only [q_ap1_f]; omega) (by omega) ?_
  refine qw_aload_n 0 dX8_appendWord_31 rfl rfl ?_
  refine qw_dup dX8_appendWord_32 rfl ?_
  refine qw_geti fX8_13 dX8_appendWord_33 h8.1 rfl ?_
  refine qw_iconst (nI 1) dX8_appendWord_36 (by decide) ?_
  refine qw_addN dX8_appendWord_37 ?_
  refine qw_puti fX8_13 dX8_appendWord_38 h8.1 rfl ?_
  refine qw_iinc (nI 8) dX8_appendWord_41 rfl (by decide) rfl (by decide) ?_
  rw [lq_up_n _ _ _ (show b ≠ b + 1 by omega)]
  refine qw_goto 14 dX8_appendWord_44 (by decide) ?_
  show LW G YX8_appendWord 0 0 0 _ _ z S (q_ap1 (q_ap1 M b (q_byt x 0)) b (q_byt x 1)) N _ _ _
  refine qw_iload_n 2 dX8_appendWord_14 rfl rfl ?_
  refine qw_if_lt 47 dX8_appendWord_15 (by decide) (fun c15 => absurd c15 (by decide)) (fun c15 => ?_)
  refine qw_aload_n 0 dX8_appendWord_18 rfl rfl ?_
  refine qw_getr fX8_9 dX8_appendWord_19 h8.1 rfl ?_
  refine qw_aload_n 0 dX8_appendWord_22 rfl rfl ?_
  refine qw_geti fX8_13 dX8_appendWord_23 h8.1 rfl ?_
  refine qw_iload_n 1 dX8_appendWord_26 rfl rfl ?_
  refine qw_iload_n 2 dX8_appendWord_27 rfl rfl ?_
  refine qw_ishr dX8_appendWord_28 ?_
  refine qw_i2b _ dX8_appendWord_29 rfl ?_
  rw [q_byt_b]
  refine qw_bast dX8_appendWord_30 h8.2.2.2 (by simp only [q_ap1_f]; omega) (by omega) ?_
  refine qw_aload_n 0 dX8_appendWord_31 rfl rfl ?_
  refine qw_dup dX8_appendWord_32 rfl ?_
  refine qw_geti fX8_13 dX8_appendWord_33 h8.1 rfl ?_
  refine qw_iconst (nI 1) dX8_appendWord_36 (by decide) ?_
  refine qw_addN dX8_appendWord_37 ?_
  refine qw_puti fX8_13 dX8_appendWord_38 h8.1 rfl ?_
  refine qw_iinc (nI 0) dX8_appendWord_41 rfl (by decide) rfl (by decide) ?_
  rw [lq_up_n _ _ _ (show b ≠ b + 1 by omega)]
  refine qw_goto 14 dX8_appendWord_44 (by decide) ?_
  show LW G YX8_appendWord 0 0 0 _ _ z S (q_ap1 (q_ap1 (q_ap1 M b (q_byt x 0)) b (q_byt x 1)) b (q_byt x 2)) N _ _ _
  refine qw_iload_n 2 dX8_appendWord_14 rfl rfl ?_
  refine qw_if_lt 47 dX8_appendWord_15 (by decide) (fun c15 => absurd c15 (by decide)) (fun c15 => ?_)
  refine qw_aload_n 0 dX8_appendWord_18 rfl rfl ?_
  refine qw_getr fX8_9 dX8_appendWord_19 h8.1 rfl ?_
  refine qw_aload_n 0 dX8_appendWord_22 rfl rfl ?_
  refine qw_geti fX8_13 dX8_appendWord_23 h8.1 rfl ?_
  refine qw_iload_n 1 dX8_appendWord_26 rfl rfl ?_
  refine qw_iload_n 2 dX8_appendWord_27 rfl rfl ?_
  refine qw_ishr dX8_appendWord_28 ?_
  refine qw_i2b _ dX8_appendWord_29 rfl ?_
  rw [q_byt_b]
  refine qw_bast dX8_appendWord_30 h8.2.2.2 (by simp only [q_ap1_f]; omega) (by omega) ?_
  refine qw_aload_n 0 dX8_appendWord_31 rfl rfl ?_
  refine qw_dup dX8_appendWord_32 rfl ?_
  refine qw_geti fX8_13 dX8_appendWord_33 h8.1 rfl ?_
  refine qw_iconst (nI 1) dX8_appendWord_36 (by decide) ?_
  refine qw_addN dX8_appendWord_37 ?_
  refine qw_puti fX8_13 dX8_appendWord_38 h8.1 rfl ?_
  refine qw_iinc (-8) dX8_appendWord_41 rfl (by decide) rfl (by decide) ?_
  rw [lq_up_n _ _ _ (show b ≠ b + 1 by omega)]
  refine qw_goto 14 dX8_appendWord_44 (by decide) ?_
  refine qw_iload_n 2 dX8_appendWord_14 rfl rfl ?_
  refine qw_if_lt 47 dX8_appendWord_15 (by decide) (fun c15 => ?_) (fun c15 => absurd (by decide) c15)
  exact qw_return rfl dX8_appendWord_47 ⟨rfl, rfl, rfl, rfl, rfl⟩
def q_app (M : lq_M) (b : Nat) (x0 x1 x2 x3 x4 : Int32) : lq_M := q_apw (q_apw (q_apw (q_apw (q_apw M b x0) b x1) b x2) b x3) b x4
theorem q_apw_f {M : lq_M} {b : Nat} {x : Int32} : q_apw M b x b 1 = M b 1 + 4 := by unfold q_apw; rw [q_ap1_f, q_ap1_f, q_ap1_f, q_ap1_f]
theorem k_X8_append {b : Nat} {F : Nat → Nat → Option Nat} {fp fb : Nat → Option Nat} (h8 : sh8 S b F fp fb) {x0 x1 x2 x3 x4 : Int32} (hf : M b 1 ≤ 800) : LM G YX8_append 1 0 0 [.ref b, .int x0, .int x1, .int x2, .int x3, .int x4] z S M N (lq_mi z S N (fun x M1 => (780 < M b 1 ∧ x = -1 ∧ M1 = M) ∨ (M b 1 ≤ 780 ∧ x = nI (M b 1 + 20) ∧ M1 = q_app M b x0 x1 x2 x3 x4))) lq_no := by
  refine LM.of (by decide) rfl [some (.ref b), some (.int x0), some (.int x1), some (.int x2), some (.int x3), some (.int x4)] rfl (Nat.le_of_ble_eq_true rfl) ?_
  refine qw_aload_n 0 dX8_append_0 rfl rfl ?_
  refine qw_geti fX8_13 dX8_append_1 h8.1 rfl ?_
  refine qw_sipush (nI 780) dX8_append_4 (by decide) ?_
  refine qw_icmp_leN 12 dX8_append_7 (by decide) (by omega) (by omega) (fun c7 => ?_) (fun c7 => ?_)
  · refine qw_aload_n 0 dX8_append_12 rfl rfl ?_
    refine qw_iload_n 1 dX8_append_13 rfl rfl ?_
    refine qw_cvv [_] (k_X8_appendWord h8 (by omega)) mX8_48 dX8_append_14 h8.1 rfl rfl rfl (Nat.le_of_ble_eq_true rfl) (by omega) (by decide) rfl (fun M1 h1 => ?_)
    refine qw_aload_n 0 dX8_append_17 rfl rfl ?_
    refine qw_iload_n 2 dX8_append_18 rfl rfl ?_
    refine qw_cvv [_] (k_X8_appendWord h8 (by rw [h1, q_apw_f]; omega)) mX8_48 dX8_append_19 h8.1 rfl rfl rfl (Nat.le_of_ble_eq_true rfl) (by omega) (by decide) rfl (fun M2 h2 => ?_)
    refine qw_aload_n 0 dX8_append_22 rfl rfl ?_
    refine qw_iload_n 3 dX8_append_23 rfl rfl ?_
    refine qw_cvv [_] (k_X8_appendWord h8 (by rw [h2, h1, q_apw_f, q_apw_f]; omega)) mX8_48 dX8_append_24 h8.1 rfl rfl rfl (Nat.le_of_ble_eq_true rfl) (by omega) (by decide) rfl (fun M3 h3 => ?_)
    refine qw_aload_n 0 dX8_append_27 rfl rfl ?_
    refine qw_iload dX8_append_28 rfl ?_
    refine qw_cvv [_] (k_X8_appendWord h8 (by rw [h3, h2, h1, q_apw_f, q_apw_f, q_apw_f]; omega)) mX8_48 dX8_append_30 h8.1 rfl rfl rfl (Nat.le_of_ble_eq_true rfl) (by omega) (by decide) rfl (fun M4 h4 => ?_)
    refine qw_aload_n 0 dX8_append_33 rfl rfl ?_
    refine qw_iload dX8_append_34 rfl ?_
    refine qw_cvv [_] (k_X8_appendWord h8 (by rw [h4, h3, h2, h1, q_apw_f, q_apw_f, q_apw_f, q_apw_f]; omega)) mX8_48 dX8_append_36 h8.1 rfl rfl rfl (Nat.le_of_ble_eq_true rfl) (by omega) (by decide) rfl (fun M5 h5 => ?_)
    refine qw_aload_n 0 dX8_append_39 rfl rfl ?_
    refine qw_geti fX8_13 dX8_append_40 h8.1 rfl ?_
    exact qw_ireturn rfl rfl dX8_append_43 ⟨rfl, rfl, rfl, _, rfl, Or.inr ⟨c7, by rw [h5, h4, h3, h2, h1, q_apw_f, q_apw_f, q_apw_f, q_apw_f, q_apw_f], by rw [h5, h4, h3, h2, h1]; rfl⟩⟩
  · refine qw_iconst (-1) dX8_append_10 (by decide) ?_
    exact qw_ireturn rfl rfl dX8_append_11 ⟨rfl, rfl, rfl, _, rfl, Or.inl ⟨c7, rfl, rfl⟩⟩
end PU5
