/-! a plan: copying, clearing, filling -/
theorem q_br.cpb {M M1 : lq_M} {b bo i : Nat} {g : Nat → Nat} (h : q_br M bo g i) (hc : q_cpb M b bo M1) : q_br M1 b g i := by
  obtain ⟨b1, b2, b3, b4, b5, b6, b7⟩ := h
  obtain ⟨c1, c2, c3, c4⟩ := hc
  refine ⟨by rw [c1 0 (by decide)]; exact b1, by rw [c1 1 (by decide)]; exact b2, by rw [c1 2 (by decide)]; exact b3, by rw [c1 3 (by decide)]; exact b4, by rw [c1 4 (by decide)]; exact b5, by rw [c3]; exact b6, fun p hp => ?_⟩
  have hp2 : p < M (bo + 1) 4 := by rw [b6]; exact hp
  rw [c2 1 (by decide) (by decide) p hp2, c2 2 (by decide) (by decide) p hp2, c2 3 (by decide) (by decide) p hp2]
  exact b7 p hp
theorem q_br.eqM {M M1 : lq_M} {b i : Nat} {g : Nat → Nat} (h : q_br M b g i) (e : ∀ x, b ≤ x → x < b + 6 → M1 x = M x) : q_br M1 b g i := by
  unfold q_br
  rw [e b (by omega) (by omega), e (b + 1) (by omega) (by omega), e (b + 1 + 1) (by omega) (by omega), e (b + 1 + 2) (by omega) (by omega), e (b + 1 + 3) (by omega) (by omega)]
  exact h
theorem q_pl.eqM {M M1 : lq_M} {a : Nat} {σ g : Nat → Nat} {tk : Nat → Nat × Nat} {n : Nat} (h : q_pl M a σ g tk n) (hs : ∀ i, i < g 0 → σ i < 20) (e : ∀ x, a ≤ x → x < a + 134 → M1 x = M x) : q_pl M1 a σ g tk n := by
  obtain ⟨h1, h2, h3, h4, h5, h6, h7, h8⟩ := h
  refine ⟨by rw [e a (by omega) (by omega)]; exact h1, by rw [e a (by omega) (by omega)]; exact h2, by rw [e a (by omega) (by omega)]; exact h3, fun i hi => ?_, fun s hs => ?_, fun c hc => ?_, ?_, ?_⟩
  · have := hs i hi
    exact (h4 i hi).eqM (fun x x1 x2 => e x (by omega) (by omega))
  · rw [e (a + 122) (by omega) (by omega), e (a + 123) (by omega) (by omega)]
    exact h5 s hs
  · rw [e (a + 124) (by omega) (by omega)]
    exact h6 c hc
  · rw [e (a + 125) (by omega) (by omega), e (a + 125 + 1) (by omega) (by omega)]
    exact h7
  · rw [e (a + 129) (by omega) (by omega), e (a + 129 + 1) (by omega) (by omega), e (a + 129 + 2) (by omega) (by omega), e (a + 129 + 3) (by omega) (by omega), e (a + 129 + 4) (by omega) (by omega)]
    exact h8
def q_pcI (M0 : lq_M) (a o : Nat) (σ g : Nat → Nat) (nb ns nc : Nat) (M : lq_M) : Prop := M a 1 = g 0 ∧ (∀ j, j < nb → q_br M (a + 2 + 6 * σ j) g j) ∧ (∀ s, s < ns → M (a + 122) s = g (607 + 2 * s) ∧ M (a + 123) s = g (608 + 2 * s)) ∧ (∀ c, c < nc → M (a + 124) c = M0 (o + 124) c) ∧ q_fr a (a + 134) M0 M
def g_atN (g : Nat → Nat) (dd hh i : Nat) : Nat := if g (7 + 30 * i) = dd ∧ g (8 + 30 * i) = hh then 1 else 0
theorem g_atN_1 {g : Nat → Nat} {dd hh i : Nat} : g_atN g dd hh i = 1 ↔ (g (7 + 30 * i) = dd ∧ g (8 + 30 * i) = hh) := by
  unfold g_atN
  split
  · simp_all
  · simp_all
def g_as (g : Nat → Nat) (c p : Nat) : Nat → Nat := fun x => if x = 1 then g 1 + 1 else if x = 607 + 2 * g 1 then c else if x = 608 + 2 * g 1 then p else g x
def g_abn (g : Nat → Nat) (c e : Nat) : Nat → Nat := fun x => if x = 623 + 10 * c + e ∨ x = 623 + 10 * e + c then 1 else g x
def g_clr (g : Nat → Nat) : Nat → Nat := fun x => if x = 0 ∨ x = 1 ∨ x = 5 ∨ x = 6 then 0 else if 623 ≤ x ∧ x < 723 then 0 else g x
theorem q_orb {v b k : Nat} : (v ||| 2 ^ b) / 2 ^ k % 2 = if k = b then 1 else v / 2 ^ k % 2 := by
  have h1 := Nat.testBit_eq_decide_div_mod_eq (x := v ||| 2 ^ b) (i := k)
  have h2 := Nat.testBit_eq_decide_div_mod_eq (x := v) (i := k)
  rw [Nat.testBit_or, h2, Nat.testBit_two_pow] at h1
  have h3 : (v ||| 2 ^ b) / 2 ^ k % 2 < 2 := Nat.mod_lt _ (by decide)
  have h4 : v / 2 ^ k % 2 < 2 := Nat.mod_lt _ (by decide)
  by_cases e : k = b
  · subst e
    rw [if_pos rfl]
    simp at h1
    omega
  · rw [if_neg e]
    have e2 : ¬ b = k := fun q => e q.symm
    by_cases q : v / 2 ^ k % 2 = 1
    · simp [q] at h1
      omega
    · simp [q, e2] at h1
      omega
section PW3
variable {G : lq_G} {z : Nat} {S : lq_S} {N : lq_N}
theorem q_cpf {S : lq_S} {a o : Nat} {f : Nat → Option Nat} {σ σo g : Nat → Nat} {tk : Nat → Nat × Nat} {n : Nat} (hS : sh4 S a f σ) (hd : o + 133 < a ∨ a + 133 < o) {M0 M M1 M2 : lq_M} (hR : q_pl M0 o σo g tk n) (hW : g_wf g) (hI : q_pcI M0 a o σ g (g 0) (g 1) 10 M) (h4 : M a 4 = g 1) (h1 : q_fcp M (a + 125) (o + 125) M1) (h2 : q_cpyd M1 (a + 129) (o + 129) M2) : q_pl (lq_up M2 a 8 (M2 o 8)) a σ g tk n ∧ q_fr a (a + 134) M0 (lq_up M2 a 8 (M2 o 8)) := by
  have h20 := hW.nb
  obtain ⟨i1, i2, i3, i4, i5⟩ := hI
  obtain ⟨f1, f2, f3⟩ := h1
  obtain ⟨r1, r2, r3, r4⟩ := h2
  have e : ∀ b, b ≠ a → b ≠ a + 125 → b ≠ a + 126 → (b < a + 129 ∨ a + 134 ≤ b) → lq_up M2 a 8 (M2 o 8) b = M b := fun b b1 b2 b3 b4 => by
    rw [lq_up_n _ _ _ b1, r4 b b4, f3 b b2 b3]
  have ea : ∀ j, j ≠ 8 → lq_up M2 a 8 (M2 o 8) a j = M a j := fun j hj => by
    rw [lq_up_c _ _ hj, r4 a (by omega), f3 a (by omega) (by omega)]
  have eo : ∀ b, (b < a ∨ a + 134 ≤ b) → M1 b = M0 b := fun b hb => by rw [f3 b (by omega) (by omega), i5 b hb]
  refine ⟨⟨by rw [ea 1 (by decide)]; exact i1, by rw [ea 4 (by decide)]; exact h4, ?_, fun i hi => ?_, fun s hs => ?_, fun c hc => ?_, ?_, ?_⟩, fun b hb => ?_⟩
  · rw [lq_up_s, r4 o (by omega), eo o (by omega)]; exact hR.inc
  · have := hS.s (i := i) (by omega)
    exact (i2 i hi).eqM (fun x x1 x2 => e x (by omega) (by omega) (by omega) (by omega))
  · rw [e (a + 122) (by omega) (by omega) (by omega) (by omega), e (a + 123) (by omega) (by omega) (by omega) (by omega)]; exact i3 s hs
  · rw [e (a + 124) (by omega) (by omega) (by omega) (by omega), i4 c hc]; exact hR.ban hc
  · rw [lq_up_n _ _ _ (show a + 125 ≠ a by omega), lq_up_n _ _ _ (show a + 125 + 1 ≠ a by omega), r4 (a + 125) (by omega), r4 (a + 125 + 1) (by omega), f1]
    have e3 : M (o + 125) = M0 (o + 125) := i5 _ (by omega)
    have e4 : M (o + 125 + 1) = M0 (o + 125 + 1) := i5 _ (by omega)
    rw [e3] at f2 ⊢
    refine ⟨hR.fm.1, fun j hj => ?_⟩
    rw [f2 j (by rw [hR.fm.1]; exact hj), e4]
    exact hR.fm.2 j hj
  · rw [lq_up_n _ _ _ (show a + 129 ≠ a by omega), lq_up_n _ _ _ (show a + 129 + 1 ≠ a by omega), lq_up_n _ _ _ (show a + 129 + 2 ≠ a by omega), lq_up_n _ _ _ (show a + 129 + 3 ≠ a by omega), lq_up_n _ _ _ (show a + 129 + 4 ≠ a by omega), r2, eo (o + 129) (by omega)]
    refine ⟨hR.ow.1, fun k hk => ?_⟩
    have hk2 : k < M1 (o + 129) 4 := by rw [eo (o + 129) (by omega), hR.ow.1]; exact hk
    rw [r1 1 (by decide) (by decide) k hk2, r1 2 (by decide) (by decide) k hk2, r1 3 (by decide) (by decide) k hk2, r1 4 (by decide) (by decide) k hk2, eo (o + 129 + 1) (by omega), eo (o + 129 + 2) (by omega), eo (o + 129 + 3) (by omega), eo (o + 129 + 4) (by omega)]
    exact hR.ow.2 k hk
  · rw [e b (by omega) (by omega) (by omega) (by omega)]; exact i5 b hb
theorem l3_X4_copyFrom {a o : Nat} {f fo : Nat → Option Nat} {σ σo g : Nat → Nat} {tk : Nat → Nat × Nat} {n : Nat} (hS : sh4 S a f σ) (hO : sh4 S o fo σo) {M0 : lq_M} (hR : q_pl M0 o σo g tk n) (hW : g_wf g) (hn : n ≤ 800) (hd : o + 133 < a ∨ a + 133 < o) : ∀ (n9 c : Nat) (M : lq_M), c ≤ 10 → 10 - c < n9 → M a 4 = g 1 → q_pcI M0 a o σ g (g 0) (g 1) c M → LW G YX4_copyFrom 3 0 0 (lq_mv z S N (fun M1 => q_pl M1 a σ g tk n ∧ q_fr a (a + 134) M0 M1)) lq_no z S M N 89 [some (.ref a), some (.ref o), some (.int (nI c))] [] := by
  intro n9
  induction n9 with
  | zero => intro _ _ _ _ _ _; omega
  | succ n9 ih =>
    intro c M hc hn9 h4 hI
    have h20 := hW.nb
    have h160 := hW.no
    obtain ⟨i1, i2, i3, i4, i5⟩ := hI
    refine qw_iload_n 2 dX4_copyFrom_89 rfl rfl ?_
    refine qw_aload_n 0 dX4_copyFrom_90 rfl rfl ?_
    refine qw_getr fX4_25 dX4_copyFrom_91 hS.1 rfl ?_
    refine qw_aleni dX4_copyFrom_94 hS.ban ?_
    refine qw_icmp_geN 116 dX4_copyFrom_95 (by decide) (by omega) (by omega) (fun c95 => ?_) (fun c95 => ?_)
    · refine qw_aload_n 0 dX4_copyFrom_116 rfl rfl ?_
      refine qw_getr fX4_31 dX4_copyFrom_117 hS.1 rfl ?_
      refine qw_aload_n 1 dX4_copyFrom_120 rfl rfl ?_
      refine qw_getr fX4_31 dX4_copyFrom_121 hO.1 rfl ?_
      refine qw_cvv [_] (k_X2_copyFrom hS.fm hO.fm (by rw [i5 _ (by omega), hR.fm.1]; exact hn) (by omega)) mX4_64 dX4_copyFrom_124 hS.fm.1 rfl rfl rfl (Nat.le_of_ble_eq_true rfl) (by omega) (by decide) rfl (fun M1 h1 => ?_)
      refine qw_aload_n 0 dX4_copyFrom_127 rfl rfl ?_
      refine qw_getr fX4_40 dX4_copyFrom_128 hS.1 rfl ?_
      refine qw_aload_n 1 dX4_copyFrom_131 rfl rfl ?_
      refine qw_getr fX4_40 dX4_copyFrom_132 hO.1 rfl ?_
      refine qw_cvv [_] (k_X6_copyFrom hS.ow hO.ow (by decide) (by decide) (by rw [h1.2.2 _ (by omega) (by omega), i5 _ (by omega), hR.ow.1]; exact h160) (by rw [h1.2.2 _ (by omega) (by omega), i5 _ (by omega), hR.ow.1]; exact h160) (by omega)) mX4_67 dX4_copyFrom_135 hS.ow.1 rfl rfl rfl (Nat.le_of_ble_eq_true rfl) (by omega) (by decide) rfl (fun M2 h2 => ?_)
      refine qw_aload_n 0 dX4_copyFrom_138 rfl rfl ?_
      refine qw_aload_n 1 dX4_copyFrom_139 rfl rfl ?_
      refine qw_geti fX4_57 dX4_copyFrom_140 hO.1 rfl ?_
      refine qw_puti fX4_57 dX4_copyFrom_143 hS.1 rfl ?_
      exact qw_return rfl dX4_copyFrom_146 ⟨rfl, rfl, rfl, rfl, q_cpf hS hd hR hW ⟨i1, i2, i3, (fun k hk => i4 k (by omega)), i5⟩ h4 h1 h2⟩
    · refine qw_aload_n 0 dX4_copyFrom_98 rfl rfl ?_
      refine qw_getr fX4_25 dX4_copyFrom_99 hS.1 rfl ?_
      refine qw_iload_n 2 dX4_copyFrom_102 rfl rfl ?_
      refine qw_aload_n 1 dX4_copyFrom_103 rfl rfl ?_
      refine qw_getr fX4_25 dX4_copyFrom_104 hO.1 rfl ?_
      refine qw_iload_n 2 dX4_copyFrom_107 rfl rfl ?_
      refine qw_iald dX4_copyFrom_108 hO.ban (by omega) (by omega) ?_
      refine qw_iast dX4_copyFrom_109 hS.ban (by omega) (by omega) ?_
      refine qw_iincN 1 dX4_copyFrom_110 rfl (by decide) rfl (by decide) ?_
      refine qw_goto 89 dX4_copyFrom_113 (by decide) ?_
      refine ih (c + 1) _ (by omega) (by omega) ?_ ⟨?_, fun j hj => ?_, fun s hs => ?_, fun k hk => ?_, fun b hb => ?_⟩
      · rw [lq_up_n _ _ _ (by omega)]; exact h4
      · rw [lq_up_n _ _ _ (by omega)]; exact i1
      · have := hS.s (i := j) (by omega)
        exact (i2 j hj).eqM (fun x x1 x2 => lq_up_n _ _ _ (by omega))
      · rw [lq_up_n _ _ _ (by omega), lq_up_n _ _ _ (by omega)]; exact i3 s hs
      · by_cases e : k = c
        · rw [e, lq_up_s, i5 _ (by omega)]
        · rw [lq_up_c _ _ e]; exact i4 k (by omega)
      · rw [lq_up_n _ _ _ (by omega)]; exact i5 b hb
theorem l2_X4_copyFrom {a o : Nat} {f fo : Nat → Option Nat} {σ σo g : Nat → Nat} {tk : Nat → Nat × Nat} {n : Nat} (hS : sh4 S a f σ) (hO : sh4 S o fo σo) {M0 : lq_M} (hR : q_pl M0 o σo g tk n) (hW : g_wf g) (hn : n ≤ 800) (hd : o + 133 < a ∨ a + 133 < o) : ∀ (n9 s : Nat) (M : lq_M), s ≤ g 1 → g 1 - s < n9 → M a 4 = g 1 → q_pcI M0 a o σ g (g 0) s 0 M → LW G YX4_copyFrom 3 0 0 (lq_mv z S N (fun M1 => q_pl M1 a σ g tk n ∧ q_fr a (a + 134) M0 M1)) lq_no z S M N 49 [some (.ref a), some (.ref o), some (.int (nI s))] [] := by
  intro n9
  induction n9 with
  | zero => intro _ _ _ _ _ _; omega
  | succ n9 ih =>
    intro s M hs hn9 h4 hI
    have h20 := hW.nb
    have h8 := hW.ns
    have hI2 := hI
    obtain ⟨i1, i2, i3, i4, i5⟩ := hI
    refine qw_iload_n 2 dX4_copyFrom_49 rfl rfl ?_
    refine qw_aload_n 0 dX4_copyFrom_50 rfl rfl ?_
    refine qw_geti fX4_48 dX4_copyFrom_51 hS.1 rfl ?_
    rw [h4]
    refine qw_icmp_geN 87 dX4_copyFrom_54 (by decide) (by omega) (by omega) (fun c54 => ?_) (fun c54 => ?_)
    · refine qw_iconst (nI 0) dX4_copyFrom_87 (by decide) ?_
      refine qw_istore_n 2 dX4_copyFrom_88 rfl rfl (by decide) ?_
      exact qw_weak _ (by simp [lq_le]) (l3_X4_copyFrom hS hO hR hW hn hd 11 0 M (by omega) (by omega) h4 (by rw [show g 1 = s by omega]; exact hI2))
    · refine qw_aload_n 0 dX4_copyFrom_57 rfl rfl ?_
      refine qw_getr fX4_18 dX4_copyFrom_58 hS.1 rfl ?_
      refine qw_iload_n 2 dX4_copyFrom_61 rfl rfl ?_
      refine qw_aload_n 1 dX4_copyFrom_62 rfl rfl ?_
      refine qw_getr fX4_18 dX4_copyFrom_63 hO.1 rfl ?_
      refine qw_iload_n 2 dX4_copyFrom_66 rfl rfl ?_
      refine qw_iald dX4_copyFrom_67 hO.cat (by omega) (by omega) ?_
      refine qw_iast dX4_copyFrom_68 hS.cat (by omega) (by omega) ?_
      refine qw_aload_n 0 dX4_copyFrom_69 rfl rfl ?_
      refine qw_getr fX4_22 dX4_copyFrom_70 hS.1 rfl ?_
      refine qw_iload_n 2 dX4_copyFrom_73 rfl rfl ?_
      refine qw_aload_n 1 dX4_copyFrom_74 rfl rfl ?_
      refine qw_getr fX4_22 dX4_copyFrom_75 hO.1 rfl ?_
      refine qw_iload_n 2 dX4_copyFrom_78 rfl rfl ?_
      refine qw_iald dX4_copyFrom_79 hO.cap (by omega) (by omega) ?_
      refine qw_iast dX4_copyFrom_80 hS.cap (by omega) (by omega) ?_
      refine qw_iincN 1 dX4_copyFrom_81 rfl (by decide) rfl (by decide) ?_
      refine qw_goto 49 dX4_copyFrom_84 (by decide) ?_
      refine ih (s + 1) _ (by omega) (by omega) ?_ ⟨?_, fun j hj => ?_, fun k hk => ?_, fun k hk => absurd hk (Nat.not_lt_zero k), fun b hb => ?_⟩
      · rw [lq_up_n _ _ _ (by omega), lq_up_n _ _ _ (by omega)]; exact h4
      · rw [lq_up_n _ _ _ (by omega), lq_up_n _ _ _ (by omega)]; exact i1
      · have := hS.s (i := j) (by omega)
        exact (i2 j hj).eqM (fun x x1 x2 => by rw [lq_up_n _ _ _ (by omega), lq_up_n _ _ _ (by omega)])
      · have hc := hR.cat (s := s) (by omega)
        rw [lq_up_n _ _ _ (show a + 122 ≠ a + 123 by omega)]
        by_cases e : k = s
        · rw [e, lq_up_s, lq_up_s, lq_up_n _ _ _ (show o + 123 ≠ a + 122 by omega), i5 _ (by omega), i5 _ (by omega)]; exact hc
        · rw [lq_up_c _ _ e, lq_up_c _ _ e, lq_up_n _ _ _ (show a + 123 ≠ a + 122 by omega)]; exact i3 k (by omega)
      · rw [lq_up_n _ _ _ (by omega), lq_up_n _ _ _ (by omega)]; exact i5 b hb
theorem l1_X4_copyFrom {a o : Nat} {f fo : Nat → Option Nat} {σ σo g : Nat → Nat} {tk : Nat → Nat × Nat} {n : Nat} (hS : sh4 S a f σ) (hO : sh4 S o fo σo) {M0 : lq_M} (hR : q_pl M0 o σo g tk n) (hW : g_wf g) (hn : n ≤ 800) (hd : o + 133 < a ∨ a + 133 < o) : ∀ (n9 i : Nat) (M : lq_M), i ≤ g 0 → g 0 - i < n9 → q_pcI M0 a o σ g i 0 0 M → LW G YX4_copyFrom 3 0 0 (lq_mv z S N (fun M1 => q_pl M1 a σ g tk n ∧ q_fr a (a + 134) M0 M1)) lq_no z S M N 10 [some (.ref a), some (.ref o), some (.int (nI i))] [] := by
  intro n9
  induction n9 with
  | zero => intro _ _ _ _ _; omega
  | succ n9 ih =>
    intro i M hi hn9 hI
    have h20 := hW.nb
    have h8 := hW.ns
    have hI2 := hI
    obtain ⟨i1, i2, i3, i4, i5⟩ := hI
    refine qw_iload_n 2 dX4_copyFrom_10 rfl rfl ?_
    refine qw_aload_n 0 dX4_copyFrom_11 rfl rfl ?_
    refine qw_geti fX4_44 dX4_copyFrom_12 hS.1 rfl ?_
    rw [i1]
    refine qw_icmp_geN 39 dX4_copyFrom_15 (by decide) (by omega) (by omega) (fun c15 => ?_) (fun c15 => ?_)
    · refine qw_aload_n 0 dX4_copyFrom_39 rfl rfl ?_
      refine qw_aload_n 1 dX4_copyFrom_40 rfl rfl ?_
      refine qw_geti fX4_48 dX4_copyFrom_41 hO.1 rfl ?_
      refine qw_puti fX4_48 dX4_copyFrom_44 hS.1 rfl ?_
      refine qw_iconst (nI 0) dX4_copyFrom_47 (by decide) ?_
      refine qw_istore_n 2 dX4_copyFrom_48 rfl rfl (by decide) ?_
      refine qw_weak _ (by simp [lq_le]) (l2_X4_copyFrom hS hO hR hW hn hd (g 1 + 1) 0 _ (Nat.zero_le _) (by omega) ?_ ⟨?_, fun j hj => ?_, fun k hk => absurd hk (Nat.not_lt_zero k), fun k hk => absurd hk (Nat.not_lt_zero k), fun b hb => ?_⟩)
      · rw [lq_up_s, i5 _ (by omega)]; exact hR.ns
      · rw [lq_up_c _ _ (by decide)]; exact i1
      · have hsj := hS.s (i := j) (by omega)
        exact (i2 j (by omega)).eqM (fun x x1 x2 => lq_up_n _ _ _ (by omega))
      · rw [lq_up_n _ _ _ (by omega)]; exact i5 b hb
    · refine qw_aload_n 0 dX4_copyFrom_18 rfl rfl ?_
      refine qw_getr fX4_11 dX4_copyFrom_19 hS.1 rfl ?_
      refine qw_iload_n 2 dX4_copyFrom_22 rfl rfl ?_
      have hsi := hS.s (i := i) (by omega)
      have hso := hO.s (i := i) (by omega)
      have hbo : q_br M (o + 2 + 6 * σo i) g i := (hR.br (by omega)).eqM (fun x x1 x2 => i5 x (by omega))
      have hb8 := (hW.br (i := i) (by omega)).2.2.2.2.2.1
      refine qw_aald dX4_copyFrom_23 hS.l rfl rfl (by omega) (by omega) (hS.el (by omega)) ?_
      refine qw_aload_n 1 dX4_copyFrom_24 rfl rfl ?_
      refine qw_getr fX4_11 dX4_copyFrom_25 hO.1 rfl ?_
      refine qw_iload_n 2 dX4_copyFrom_28 rfl rfl ?_
      refine qw_aald dX4_copyFrom_29 hO.l rfl rfl (by omega) (by omega) (hO.el (i := i) (by omega)) ?_
      refine qw_cvv [_] (k_X0_copyFrom (hS.b (i := i) (by omega)) (hO.b (i := i) (by omega)) (by rw [hbo.2.2.2.2.2.1]; exact hb8) (by omega)) mX4_60 dX4_copyFrom_30 (hS.b (i := i) (by omega)).1 rfl rfl rfl (Nat.le_of_ble_eq_true rfl) (by omega) (by decide) rfl (fun M1 h1 => ?_)
      refine qw_iincN 1 dX4_copyFrom_33 rfl (by decide) rfl (by decide) ?_
      refine qw_goto 10 dX4_copyFrom_36 (by decide) ?_
      have hf := h1.2.2.2
      refine ih (i + 1) _ (by omega) (by omega) ⟨?_, fun j hj => ?_, fun k hk => absurd hk (Nat.not_lt_zero k), fun k hk => absurd hk (Nat.not_lt_zero k), fun b hb => ?_⟩
      · rw [hf a (by omega)]; exact i1
      · by_cases e : j = i
        · rw [e]; exact hbo.cpb h1
        · have hsj := hS.s (i := j) (by omega)
          have hne : σ j ≠ σ i := fun q => e (hS.inj (by omega) (by omega) q)
          exact (i2 j (by omega)).eqM (fun x x1 x2 => hf x (by omega))
      · rw [hf b (by omega)]; exact i5 b hb
theorem k_X4_copyFrom {a o : Nat} {f fo : Nat → Option Nat} {σ σo g : Nat → Nat} {tk : Nat → Nat × Nat} {n : Nat} (hS : sh4 S a f σ) (hO : sh4 S o fo σo) {M : lq_M} (hR : q_pl M o σo g tk n) (hW : g_wf g) (hn : n ≤ 800) (hd : o + 133 < a ∨ a + 133 < o) : LM G YX4_copyFrom 3 0 0 [.ref a, .ref o] z S M N (lq_mv z S N (fun M1 => q_pl M1 a σ g tk n ∧ q_fr a (a + 134) M M1)) lq_no := by
  refine LM.of (by decide) rfl [some (.ref a), some (.ref o), none] rfl (Nat.le_of_ble_eq_true rfl) ?_
  refine qw_aload_n 0 dX4_copyFrom_0 rfl rfl ?_
  refine qw_aload_n 1 dX4_copyFrom_1 rfl rfl ?_
  refine qw_geti fX4_44 dX4_copyFrom_2 hO.1 rfl ?_
  refine qw_puti fX4_44 dX4_copyFrom_5 hS.1 rfl ?_
  refine qw_iconst (nI 0) dX4_copyFrom_8 (by decide) ?_
  refine qw_istore_n 2 dX4_copyFrom_9 rfl rfl (by decide) ?_
  refine l1_X4_copyFrom hS hO hR hW hn hd (g 0 + 1) 0 _ (Nat.zero_le _) (by omega) ⟨?_, fun j hj => absurd hj (Nat.not_lt_zero j), fun k hk => absurd hk (Nat.not_lt_zero k), fun k hk => absurd hk (Nat.not_lt_zero k), fun b hb => lq_up_n _ _ _ (by omega)⟩
  rw [lq_up_s]; exact hR.nb
theorem l_X4_hasBreakAt {M : lq_M} {a : Nat} {f : Nat → Option Nat} {σ g : Nat → Nat} {tk : Nat → Nat × Nat} {n : Nat} (hS : sh4 S a f σ) (hR : q_pl M a σ g tk n) (hW : g_wf g) {dd hh : Nat} (hdd : dd < 2 ^ 31) (hhh : hh < 2 ^ 31) : ∀ (n9 i : Nat), i ≤ g 0 → g 0 - i < n9 → (∀ j, j < i → g_atN g dd hh j ≠ 1) → LW G YX4_hasBreakAt 0 0 0 (lq_pu z S M N (.int (nI (if q_fst (g_atN g dd hh) 1 (g 0) < g 0 then 1 else 0)))) lq_no z S M N 2 [some (.ref a), some (.int (nI dd)), some (.int (nI hh)), some (.int (nI i))] [] := by
  intro n9
  induction n9 with
  | zero => intro _ _ _ _; omega
  | succ n9 ih =>
    intro i hi hn9 hno
    have h20 := hW.nb
    refine qw_iload_n 3 dX4_hasBreakAt_2 rfl rfl ?_
    refine qw_aload_n 0 dX4_hasBreakAt_3 rfl rfl ?_
    refine qw_geti fX4_44 dX4_hasBreakAt_4 hS.1 rfl ?_
    rw [hR.nb]
    refine qw_icmp_geN 44 dX4_hasBreakAt_7 (by decide) (by omega) (by omega) (fun c7 => ?_) (fun c7 => ?_)
    · refine qw_iconst (nI 0) dX4_hasBreakAt_44 (by decide) ?_
      exact qw_ireturn rfl (by decide) dX4_hasBreakAt_45 ⟨by rw [if_neg (fun q => by obtain ⟨j, j1, j2⟩ := q_fst_lt.mp q; exact hno j (by omega) j2)], rfl, rfl, rfl, rfl⟩
    · refine qw_aload_n 0 dX4_hasBreakAt_10 rfl rfl ?_
      refine qw_getr fX4_11 dX4_hasBreakAt_11 hS.1 rfl ?_
      refine qw_iload_n 3 dX4_hasBreakAt_14 rfl rfl ?_
      have hsi := hS.s (i := i) (by omega)
      have hbi := hR.br (i := i) (by omega)
      have hwi := hW.br (i := i) (by omega)
      refine qw_aald dX4_hasBreakAt_15 hS.l rfl rfl (by omega) (by omega) (hS.el (by omega)) ?_
      refine qw_geti fX4_70 dX4_hasBreakAt_16 (hS.b (i := i) (by omega)).1 rfl ?_
      refine qw_iload_n 1 dX4_hasBreakAt_19 rfl rfl ?_
      rw [hbi.1]
      refine qw_icmp_neN 38 dX4_hasBreakAt_20 (by decide) (by omega) (by omega) (fun c20 => ?_) (fun c20 => ?_)
      · refine qw_iincN 1 dX4_hasBreakAt_38 rfl (by decide) rfl (by decide) ?_
        refine qw_goto 2 dX4_hasBreakAt_41 (by decide) ?_
        have hne : g_atN g dd hh i ≠ 1 := fun q => c20 (by have := (g_atN_1.mp q).1; omega)
        exact qw_weak _ (by simp [lq_le]) (ih (i + 1) (by omega) (by omega) (fun j hj => by
          by_cases e : j = i
          · rw [e]; exact hne
          · exact hno j (by omega)))
      · refine qw_aload_n 0 dX4_hasBreakAt_23 rfl rfl ?_
        refine qw_getr fX4_11 dX4_hasBreakAt_24 hS.1 rfl ?_
        refine qw_iload_n 3 dX4_hasBreakAt_27 rfl rfl ?_
        refine qw_aald dX4_hasBreakAt_28 hS.l rfl rfl (by omega) (by omega) (hS.el (by omega)) ?_
        refine qw_geti fX4_73 dX4_hasBreakAt_29 (hS.b (i := i) (by omega)).1 rfl ?_
        refine qw_iload_n 2 dX4_hasBreakAt_32 rfl rfl ?_
        rw [hbi.2.1]
        refine qw_icmp_neN 38 dX4_hasBreakAt_33 (by decide) (by omega) (by omega) (fun c33 => ?_) (fun c33 => ?_)
        · refine qw_iincN 1 dX4_hasBreakAt_38 rfl (by decide) rfl (by decide) ?_
          refine qw_goto 2 dX4_hasBreakAt_41 (by decide) ?_
          have hne : g_atN g dd hh i ≠ 1 := fun q => c33 (by have := (g_atN_1.mp q).2; omega)
          exact qw_weak _ (by simp [lq_le]) (ih (i + 1) (by omega) (by omega) (fun j hj => by
            by_cases e : j = i
            · rw [e]; exact hne
            · exact hno j (by omega)))
        · refine qw_iconst (nI 1) dX4_hasBreakAt_36 (by decide) ?_
          exact qw_ireturn rfl (by decide) dX4_hasBreakAt_37 ⟨by rw [if_pos (q_fst_lt.mpr ⟨i, by omega, g_atN_1.mpr ⟨by omega, by omega⟩⟩)], rfl, rfl, rfl, rfl⟩
theorem k_X4_hasBreakAt {M : lq_M} {a : Nat} {f : Nat → Option Nat} {σ g : Nat → Nat} {tk : Nat → Nat × Nat} {n : Nat} (hS : sh4 S a f σ) (hR : q_pl M a σ g tk n) (hW : g_wf g) {dd hh : Nat} (hdd : dd < 2 ^ 31) (hhh : hh < 2 ^ 31) : LM G YX4_hasBreakAt 0 0 0 [.ref a, .int (nI dd), .int (nI hh)] z S M N (lq_pu z S M N (.int (nI (if q_fst (g_atN g dd hh) 1 (g 0) < g 0 then 1 else 0)))) lq_no := by
  refine LM.of (by decide) rfl [some (.ref a), some (.int (nI dd)), some (.int (nI hh)), none] rfl (Nat.le_of_ble_eq_true rfl) ?_
  refine qw_iconst (nI 0) dX4_hasBreakAt_0 (by decide) ?_
  refine qw_istore_n 3 dX4_hasBreakAt_1 rfl rfl (by decide) ?_
  exact l_X4_hasBreakAt hS hR hW hdd hhh (g 0 + 1) 0 (Nat.zero_le _) (by omega) (fun j hj => absurd hj (Nat.not_lt_zero j))
theorem q_asp {M : lq_M} {a c p : Nat} {f : Nat → Option Nat} {σ g : Nat → Nat} {tk : Nat → Nat × Nat} {n : Nat} (hS : sh4 S a f σ) (hR : q_pl M a σ g tk n) (hW : g_wf g) (h8 : g 1 < 8) : q_pl (lq_up (lq_up (lq_up M (a + 122) (g 1) c) (a + 123) (g 1) p) a 4 (g 1 + 1)) a σ (g_as g c p) tk n ∧ q_fr a (a + 134) M (lq_up (lq_up (lq_up M (a + 122) (g 1) c) (a + 123) (g 1) p) a 4 (g 1 + 1)) := by
  have h20 := hW.nb
  have h160 := hW.no
  have e : ∀ b, b ≠ a → b ≠ a + 122 → b ≠ a + 123 → (lq_up (lq_up (lq_up M (a + 122) (g 1) c) (a + 123) (g 1) p) a 4 (g 1 + 1)) b = M b := fun b b1 b2 b3 => by rw [lq_up_n _ _ _ b1, lq_up_n _ _ _ b3, lq_up_n _ _ _ b2]
  have ea : ∀ j, j ≠ 4 → (lq_up (lq_up (lq_up M (a + 122) (g 1) c) (a + 123) (g 1) p) a 4 (g 1 + 1)) a j = M a j := fun j hj => by rw [lq_up_c _ _ hj, lq_up_n _ _ _ (show a ≠ a + 123 by omega), lq_up_n _ _ _ (show a ≠ a + 122 by omega)]
  have og : ∀ x, x ≠ 1 → (x < 607 ∨ 623 ≤ x) → g_as g c p x = g x := fun x x1 x2 => by
    unfold g_as
    rw [if_neg x1, if_neg (by omega), if_neg (by omega)]
  have o1 : g_as g c p 1 = g 1 + 1 := by unfold g_as; rw [if_pos rfl]
  refine ⟨⟨by rw [ea 1 (by decide), og 0 (by omega) (by omega)]; exact hR.nb, by rw [lq_up_s, o1], by rw [ea 8 (by decide), og 6 (by omega) (by omega)]; exact hR.inc, fun i hi => ?_, fun s hs => ?_, fun k hk => ?_, ?_, ?_⟩, fun b hb => e b (by omega) (by omega) (by omega)⟩
  · rw [og 0 (by omega) (by omega)] at hi
    have hsi := hS.s (i := i) (by omega)
    have hb := (hW.br hi).2.2.2.2.2.1
    have q := (hR.br hi).eqM (M1 := lq_up (lq_up (lq_up M (a + 122) (g 1) c) (a + 123) (g 1) p) a 4 (g 1 + 1)) (fun x x1 x2 => e x (by omega) (by omega) (by omega))
    unfold q_br at q ⊢
    rw [og (7 + 30 * i) (by omega) (by omega), og (8 + 30 * i) (by omega) (by omega), og (9 + 30 * i) (by omega) (by omega), og (10 + 30 * i) (by omega) (by omega), og (11 + 30 * i) (by omega) (by omega), og (12 + 30 * i) (by omega) (by omega)]
    refine ⟨q.1, q.2.1, q.2.2.1, q.2.2.2.1, q.2.2.2.2.1, q.2.2.2.2.2.1, fun x hx => ?_⟩
    rw [og (13 + 30 * i + 3 * x) (by omega) (by omega), og (14 + 30 * i + 3 * x) (by omega) (by omega), og (15 + 30 * i + 3 * x) (by omega) (by omega)]
    exact q.2.2.2.2.2.2 x hx
  · rw [o1] at hs
    rw [lq_up_n _ _ _ (show a + 122 ≠ a by omega), lq_up_n _ _ _ (show a + 123 ≠ a by omega), lq_up_n _ _ _ (show a + 122 ≠ a + 123 by omega)]
    unfold g_as
    rw [if_neg (show ¬ 607 + 2 * s = 1 by omega), if_neg (show ¬ 608 + 2 * s = 1 by omega)]
    by_cases q : s = g 1
    · rw [q, lq_up_s, lq_up_s, if_pos rfl, if_neg (by omega), if_pos rfl]
      exact ⟨rfl, rfl⟩
    · rw [lq_up_c _ _ q, lq_up_c _ _ q, lq_up_n _ _ _ (show a + 123 ≠ a + 122 by omega), if_neg (by omega), if_neg (by omega), if_neg (by omega), if_neg (by omega)]
      exact hR.cat (by omega)
  · rw [e (a + 124) (by omega) (by omega) (by omega)]
    refine ⟨(hR.ban hk).1, fun b hb => ?_⟩
    rw [og _ (by omega) (by omega)]
    exact (hR.ban hk).2 b hb
  · rw [e (a + 125) (by omega) (by omega) (by omega), e (a + 125 + 1) (by omega) (by omega) (by omega)]
    exact hR.fm
  · rw [e (a + 129) (by omega) (by omega) (by omega), e (a + 129 + 1) (by omega) (by omega) (by omega), e (a + 129 + 2) (by omega) (by omega) (by omega), e (a + 129 + 3) (by omega) (by omega) (by omega), e (a + 129 + 4) (by omega) (by omega) (by omega), og 5 (by omega) (by omega)]
    refine ⟨hR.ow.1, fun k hk => ?_⟩
    rw [og (723 + 4 * k) (by omega) (by omega), og (724 + 4 * k) (by omega) (by omega), og (725 + 4 * k) (by omega) (by omega), og (726 + 4 * k) (by omega) (by omega)]
    exact hR.ow.2 k hk
theorem k_X4_addSponsor {M : lq_M} {a : Nat} {f : Nat → Option Nat} {σ g : Nat → Nat} {tk : Nat → Nat × Nat} {n : Nat} (hS : sh4 S a f σ) (hR : q_pl M a σ g tk n) (hW : g_wf g) (h8 : g 1 < 8) {c p : Nat} : LM G YX4_addSponsor 0 0 0 [.ref a, .int (nI c), .int (nI p)] z S M N (lq_mv z S N (fun M1 => q_pl M1 a σ (g_as g c p) tk n ∧ q_fr a (a + 134) M M1)) lq_no := by
  have h20 := hW.nb
  have e4 := hR.ns
  refine LM.of (by decide) rfl [some (.ref a), some (.int (nI c)), some (.int (nI p))] rfl (Nat.le_of_ble_eq_true rfl) ?_
  refine qw_aload_n 0 dX4_addSponsor_0 rfl rfl ?_
  refine qw_geti fX4_48 dX4_addSponsor_1 hS.1 rfl ?_
  refine qw_bipush (nI 8) dX4_addSponsor_4 (by decide) ?_
  rw [e4]
  refine qw_icmp_ltN 10 dX4_addSponsor_6 (by decide) (by omega) (by omega) (fun c6 => ?_) (fun c6 => absurd h8 (by omega))
  refine qw_aload_n 0 dX4_addSponsor_10 rfl rfl ?_
  refine qw_getr fX4_18 dX4_addSponsor_11 hS.1 rfl ?_
  refine qw_aload_n 0 dX4_addSponsor_14 rfl rfl ?_
  refine qw_geti fX4_48 dX4_addSponsor_15 hS.1 rfl ?_
  rw [e4]
  refine qw_iload_n 1 dX4_addSponsor_18 rfl rfl ?_
  refine qw_iast dX4_addSponsor_19 hS.cat (by omega) (by omega) ?_
  refine qw_aload_n 0 dX4_addSponsor_20 rfl rfl ?_
  refine qw_getr fX4_22 dX4_addSponsor_21 hS.1 rfl ?_
  refine qw_aload_n 0 dX4_addSponsor_24 rfl rfl ?_
  refine qw_geti fX4_48 dX4_addSponsor_25 hS.1 rfl ?_
  rw [lq_up_n _ _ _ (show a ≠ a + 122 by omega), e4]
  refine qw_iload_n 2 dX4_addSponsor_28 rfl rfl ?_
  refine qw_iast dX4_addSponsor_29 hS.cap (by omega) (by omega) ?_
  refine qw_aload_n 0 dX4_addSponsor_30 rfl rfl ?_
  refine qw_dup dX4_addSponsor_31 rfl ?_
  refine qw_geti fX4_48 dX4_addSponsor_32 hS.1 rfl ?_
  rw [lq_up_n _ _ _ (show a ≠ a + 123 by omega), lq_up_n _ _ _ (show a ≠ a + 122 by omega), e4]
  refine qw_iconst (nI 1) dX4_addSponsor_35 (by decide) ?_
  refine qw_addN dX4_addSponsor_36 ?_
  refine qw_puti fX4_48 dX4_addSponsor_37 hS.1 rfl ?_
  exact qw_return rfl dX4_addSponsor_40 ⟨rfl, rfl, rfl, rfl, q_asp hS hR hW h8⟩
def g_ab1 (g : Nat → Nat) (x y : Nat) : Nat → Nat := fun k => if k = 623 + 10 * x + y then 1 else g k
theorem g_ab1_2 {g : Nat → Nat} {x y : Nat} : g_ab1 (g_ab1 g x y) y x = g_abn g x y := by
  funext k
  unfold g_ab1 g_abn
  by_cases h1 : k = 623 + 10 * y + x
  · rw [if_pos h1, if_pos (Or.inr h1)]
  · rw [if_neg h1]
    by_cases h2 : k = 623 + 10 * x + y
    · rw [if_pos h2, if_pos (Or.inl h2)]
    · rw [if_neg h2, if_neg (by omega)]
theorem q_ab1 {M : lq_M} {a x y : Nat} {f : Nat → Option Nat} {σ g : Nat → Nat} {tk : Nat → Nat × Nat} {n : Nat} (hS : sh4 S a f σ) (hR : q_pl M a σ g tk n) (h20 : g 0 ≤ 20) (h8 : g 1 ≤ 8) (hb8 : ∀ i, i < g 0 → g (12 + 30 * i) ≤ 8) (hx : x < 10) (hy : y < 10) : q_pl (lq_up M (a + 124) x (M (a + 124) x ||| 2 ^ y)) a σ (g_ab1 g x y) tk n := by
  have og : ∀ k, (k < 623 ∨ 723 ≤ k) → g_ab1 g x y k = g k := fun k hk => by
    unfold g_ab1
    rw [if_neg (by omega)]
  have e : ∀ b, b ≠ a + 124 → lq_up M (a + 124) x (M (a + 124) x ||| 2 ^ y) b = M b := fun b hb => lq_up_n _ _ _ hb
  refine ⟨by rw [e a (by omega), og 0 (by omega)]; exact hR.nb, by rw [e a (by omega), og 1 (by omega)]; exact hR.ns, by rw [e a (by omega), og 6 (by omega)]; exact hR.inc, fun i hi => ?_, fun s hs => ?_, fun k hk => ?_, ?_, ?_⟩
  · rw [og 0 (by omega)] at hi
    have hsi := hS.s (i := i) (by omega)
    have hb := hb8 i hi
    have q := (hR.br hi).eqM (M1 := lq_up M (a + 124) x (M (a + 124) x ||| 2 ^ y)) (fun x x1 x2 => e x (by omega))
    unfold q_br at q ⊢
    rw [og (7 + 30 * i) (by omega), og (8 + 30 * i) (by omega), og (9 + 30 * i) (by omega), og (10 + 30 * i) (by omega), og (11 + 30 * i) (by omega), og (12 + 30 * i) (by omega)]
    refine ⟨q.1, q.2.1, q.2.2.1, q.2.2.2.1, q.2.2.2.2.1, q.2.2.2.2.2.1, fun x hx => ?_⟩
    rw [og (13 + 30 * i + 3 * x) (by omega), og (14 + 30 * i + 3 * x) (by omega), og (15 + 30 * i + 3 * x) (by omega)]
    exact q.2.2.2.2.2.2 x hx
  · rw [og 1 (by omega)] at hs
    rw [e (a + 122) (by omega), e (a + 123) (by omega), og (607 + 2 * s) (by omega), og (608 + 2 * s) (by omega)]
    exact hR.cat hs
  · have hk2 := hR.ban hk
    by_cases q : k = x
    · subst q
      rw [lq_up_s]
      refine ⟨Nat.or_lt_two_pow (n := 10) hk2.1 (Nat.pow_lt_pow_right (by decide) hy), fun b hb => ?_⟩
      rw [q_orb]
      unfold g_ab1
      by_cases w : b = y
      · rw [if_pos w, if_pos (by omega)]
      · rw [if_neg w, if_neg (by omega)]
        exact hk2.2 b hb
    · rw [lq_up_c _ _ q]
      refine ⟨hk2.1, fun b hb => ?_⟩
      unfold g_ab1
      rw [if_neg (by omega)]
      exact hk2.2 b hb
  · rw [e (a + 125) (by omega), e (a + 125 + 1) (by omega)]
    exact hR.fm
  · rw [e (a + 129) (by omega), e (a + 129 + 1) (by omega), e (a + 129 + 2) (by omega), e (a + 129 + 3) (by omega), e (a + 129 + 4) (by omega), og 5 (by omega)]
    refine ⟨hR.ow.1, fun k hk => ?_⟩
    rw [og (723 + 4 * k) (by omega), og (724 + 4 * k) (by omega), og (725 + 4 * k) (by omega), og (726 + 4 * k) (by omega)]
    exact hR.ow.2 k hk
theorem k_X4_addBan {M : lq_M} {a : Nat} {f : Nat → Option Nat} {σ g : Nat → Nat} {tk : Nat → Nat × Nat} {n : Nat} (hS : sh4 S a f σ) (hR : q_pl M a σ g tk n) (hW : g_wf g) {x y : Nat} (hx : x < 10) (hy : y < 10) : LM G YX4_addBan 0 0 0 [.ref a, .int (nI x), .int (nI y)] z S M N (lq_mv z S N (fun M1 => q_pl M1 a σ (g_abn g x y) tk n ∧ q_fr a (a + 134) M M1)) lq_no := by
  have h20 := hW.nb
  have h8 := hW.ns
  have hb8 : ∀ i, i < g 0 → g (12 + 30 * i) ≤ 8 := fun i hi => (hW.br hi).2.2.2.2.2.1
  have p10 : ∀ k, k < 10 → 2 ^ k < 1024 := fun k hk => Nat.pow_lt_pow_right (n := 10) (by decide) hk
  have px := p10 x hx
  have py := p10 y hy
  have q1 := q_ab1 hS hR h20 h8 hb8 hx hy
  have q2 := q_ab1 (x := y) (y := x) hS q1 (by rw [g_ab1, if_neg (by omega)]; exact h20) (by rw [g_ab1, if_neg (by omega)]; exact h8) (fun i hi => by rw [g_ab1, if_neg (by omega)] at hi; rw [g_ab1, if_neg (by omega)]; exact hb8 i hi) hy hx
  rw [g_ab1_2] at q2
  refine LM.of (by decide) rfl [some (.ref a), some (.int (nI x)), some (.int (nI y))] rfl (Nat.le_of_ble_eq_true rfl) ?_
  refine qw_aload_n 0 dX4_addBan_0 rfl rfl ?_
  refine qw_getr fX4_25 dX4_addBan_1 hS.1 rfl ?_
  refine qw_iload_n 1 dX4_addBan_4 rfl rfl ?_
  refine qw_dup2 dX4_addBan_5 rfl rfl ?_
  refine qw_iald dX4_addBan_6 hS.ban (by omega) (by omega) ?_
  refine qw_iconst (nI 1) dX4_addBan_7 (by decide) ?_
  refine qw_iload_n 2 dX4_addBan_8 rfl rfl ?_
  refine qw_shlN (by omega) (by omega) dX4_addBan_9 ?_
  rw [Nat.one_mul]
  refine qw_orN dX4_addBan_10 ?_
  refine qw_iast dX4_addBan_11 hS.ban (by omega) (by omega) ?_
  refine qw_aload_n 0 dX4_addBan_12 rfl rfl ?_
  refine qw_getr fX4_25 dX4_addBan_13 hS.1 rfl ?_
  refine qw_iload_n 2 dX4_addBan_16 rfl rfl ?_
  refine qw_dup2 dX4_addBan_17 rfl rfl ?_
  refine qw_iald dX4_addBan_18 hS.ban (by omega) (by omega) ?_
  refine qw_iconst (nI 1) dX4_addBan_19 (by decide) ?_
  refine qw_iload_n 1 dX4_addBan_20 rfl rfl ?_
  refine qw_shlN (by omega) (by omega) dX4_addBan_21 ?_
  rw [Nat.one_mul]
  refine qw_orN dX4_addBan_22 ?_
  refine qw_iast dX4_addBan_23 hS.ban (by omega) (by omega) ?_
  exact qw_return rfl dX4_addBan_24 ⟨rfl, rfl, rfl, rfl, q2, fun b hb => by rw [lq_up_n _ _ _ (by omega), lq_up_n _ _ _ (by omega)]⟩
theorem l_X4_clear {a : Nat} {f : Nat → Option Nat} {σ g : Nat → Nat} (hS : sh4 S a f σ) {M0 : lq_M} (g0 : g 0 = 0) (g1 : g 1 = 0) (g5 : g 5 = 0) (g6 : g 6 = 0) (gb : ∀ x, 623 ≤ x → x < 723 → g x = 0) : ∀ (n9 c : Nat) (M : lq_M), c ≤ 10 → 10 - c < n9 → M a 1 = 0 → M a 4 = 0 → (∀ k, k < c → M (a + 124) k = 0) → q_fr a (a + 134) M0 M → LW G YX4_clear 2 0 0 (lq_mv z S N (fun M1 => q_pl M1 a σ g q_dft 5 ∧ q_fr a (a + 134) M0 M1)) lq_no z S M N 12 [some (.ref a), some (.int (nI c))] [] := by
  intro n9
  induction n9 with
  | zero => intro _ _ _ _ _ _ _ _; omega
  | succ n9 ih =>
    intro c M hc hn9 m1 m4 hb hq
    refine qw_iload_n 1 dX4_clear_12 rfl rfl ?_
    refine qw_aload_n 0 dX4_clear_13 rfl rfl ?_
    refine qw_getr fX4_25 dX4_clear_14 hS.1 rfl ?_
    refine qw_aleni dX4_clear_17 hS.ban ?_
    refine qw_icmp_geN 34 dX4_clear_18 (by decide) (by omega) (by omega) (fun c18 => ?_) (fun c18 => ?_)
    · refine qw_aload_n 0 dX4_clear_34 rfl rfl ?_
      refine qw_getr fX4_31 dX4_clear_35 hS.1 rfl ?_
      refine qw_cvv [] (k_X2_setDefault hS.fm) mX4_51 dX4_clear_38 hS.fm.1 rfl rfl rfl (Nat.le_of_ble_eq_true rfl) (by omega) (by decide) rfl (fun M1 h1 => ?_)
      refine qw_aload_n 0 dX4_clear_41 rfl rfl ?_
      refine qw_getr fX4_40 dX4_clear_42 hS.1 rfl ?_
      refine qw_iconst (nI 0) dX4_clear_45 (by decide) ?_
      refine qw_puti fX4_54 dX4_clear_46 hS.ow.1 rfl ?_
      refine qw_aload_n 0 dX4_clear_49 rfl rfl ?_
      refine qw_iconst (nI 0) dX4_clear_50 (by decide) ?_
      refine qw_puti fX4_57 dX4_clear_51 hS.1 rfl ?_
      exact qw_return rfl dX4_clear_54 ⟨rfl, rfl, rfl, rfl, by
        obtain ⟨f1, f2, f3⟩ := h1
        have e : ∀ b, b ≠ a → b ≠ a + 125 → b ≠ a + 126 → b ≠ a + 129 → lq_up (lq_up M1 (a + 129) 4 0) a 8 0 b = M b := fun b b1 b2 b3 b4 => by rw [lq_up_n _ _ _ b1, lq_up_n _ _ _ b4, f3 b b2 b3]
        have ea : ∀ j, j ≠ 8 → lq_up (lq_up M1 (a + 129) 4 0) a 8 0 a j = M a j := fun j hj => by rw [lq_up_c _ _ hj, lq_up_n _ _ _ (by omega), f3 a (by omega) (by omega)]
        refine ⟨⟨by rw [ea 1 (by decide), m1, g0], by rw [ea 4 (by decide), m4, g1], by rw [lq_up_s, g6], fun i hi => absurd hi (by omega), fun s hs => absurd hs (by omega), fun k hk => ?_, ?_, ?_⟩, fun b hb9 => by rw [e b (by omega) (by omega) (by omega) (by omega)]; exact hq b hb9⟩
        · rw [e (a + 124) (by omega) (by omega) (by omega) (by omega), hb k (by omega)]
          exact ⟨by decide, fun b hb9 => by rw [Nat.zero_div, gb _ (by omega) (by omega)]⟩
        · rw [lq_up_n _ _ _ (show a + 125 ≠ a by omega), lq_up_n _ _ _ (show a + 125 ≠ a + 129 by omega), lq_up_n _ _ _ (show a + 125 + 1 ≠ a by omega), lq_up_n _ _ _ (show a + 125 + 1 ≠ a + 129 by omega)]
          exact ⟨f1, f2⟩
        · rw [lq_up_n _ _ _ (show a + 129 ≠ a by omega), lq_up_s, g5]
          exact ⟨rfl, fun k hk => absurd hk (Nat.not_lt_zero k)⟩⟩
    · refine qw_aload_n 0 dX4_clear_21 rfl rfl ?_
      refine qw_getr fX4_25 dX4_clear_22 hS.1 rfl ?_
      refine qw_iload_n 1 dX4_clear_25 rfl rfl ?_
      refine qw_iconst (nI 0) dX4_clear_26 (by decide) ?_
      refine qw_iast dX4_clear_27 hS.ban (by omega) (by omega) ?_
      refine qw_iincN 1 dX4_clear_28 rfl (by decide) rfl (by decide) ?_
      refine qw_goto 12 dX4_clear_31 (by decide) ?_
      refine ih (c + 1) _ (by omega) (by omega) ?_ ?_ (fun k hk => ?_) (fun b hb => ?_)
      · rw [lq_up_n _ _ _ (by omega)]; exact m1
      · rw [lq_up_n _ _ _ (by omega)]; exact m4
      · by_cases e : k = c
        · rw [e, lq_up_s]
        · rw [lq_up_c _ _ e]; exact hb k (by omega)
      · rw [lq_up_n _ _ _ (by omega)]; exact hq b hb
theorem k_X4_clear {a : Nat} {f : Nat → Option Nat} {σ g : Nat → Nat} (hS : sh4 S a f σ) {M : lq_M} (g0 : g 0 = 0) (g1 : g 1 = 0) (g5 : g 5 = 0) (g6 : g 6 = 0) (gb : ∀ x, 623 ≤ x → x < 723 → g x = 0) : LM G YX4_clear 2 0 0 [.ref a] z S M N (lq_mv z S N (fun M1 => q_pl M1 a σ g q_dft 5 ∧ q_fr a (a + 134) M M1)) lq_no := by
  refine LM.of (by decide) rfl [some (.ref a), none] rfl (Nat.le_of_ble_eq_true rfl) ?_
  refine qw_aload_n 0 dX4_clear_0 rfl rfl ?_
  refine qw_iconst (nI 0) dX4_clear_1 (by decide) ?_
  refine qw_puti fX4_44 dX4_clear_2 hS.1 rfl ?_
  refine qw_aload_n 0 dX4_clear_5 rfl rfl ?_
  refine qw_iconst (nI 0) dX4_clear_6 (by decide) ?_
  refine qw_puti fX4_48 dX4_clear_7 hS.1 rfl ?_
  refine qw_iconst (nI 0) dX4_clear_10 (by decide) ?_
  refine qw_istore_n 1 dX4_clear_11 rfl rfl (by decide) ?_
  exact l_X4_clear hS g0 g1 g5 g6 gb 11 0 _ (by omega) (by omega) (by rw [lq_up_c _ _ (by decide), lq_up_s]) (by rw [lq_up_s]) (fun k hk => absurd hk (Nat.not_lt_zero k)) (fun b hb => by rw [lq_up_n _ _ _ (by omega), lq_up_n _ _ _ (by omega)])
end PW3
