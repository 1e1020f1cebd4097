/-! arrangements: friends, the table, the first order -/
theorem q_frs_z (g : Nat → Nat) (n c : Nat) : q_frs g n c 0 0 := ⟨by decide, fun k hk => by rw [Nat.zero_div, if_neg (fun q => absurd q.1 (Nat.not_lt_zero k))]⟩
theorem q_frs_no {g : Nat → Nat} {n c t v : Nat} (h : q_frs g n c t v) (h0 : g_cl g c t ≠ 0) : q_frs g n c (t + 1) v := by
  refine ⟨h.1, fun k hk => ?_⟩
  rw [h.2 k hk]
  by_cases e : k < t ∧ g_cl g c k = 0
  · rw [if_pos e, if_pos ⟨by omega, e.2⟩]
  · rw [if_neg e, if_neg (fun q => e ⟨by
      rcases Nat.lt_or_ge k t with w | w
      · exact w
      · exact absurd q.2 (by rw [show k = t by omega]; exact h0), q.2⟩)]
theorem q_frs_or {g : Nat → Nat} {n c t v : Nat} (h : q_frs g n c t v) (h0 : g_cl g c t = 0) (ht : t < 8) : q_frs g n c (t + 1) (v ||| 2 ^ t) := by
  refine ⟨Nat.or_lt_two_pow (n := 8) h.1 (q_pw8 ⟨t, ht⟩).2, fun k hk => ?_⟩
  rw [q_orb, h.2 k hk]
  by_cases e : k = t
  · rw [if_pos e, if_pos ⟨by omega, by rw [e]; exact h0⟩]
  · rw [if_neg e]
    by_cases e2 : k < t ∧ g_cl g c k = 0
    · rw [if_pos e2, if_pos ⟨by omega, e2.2⟩]
    · rw [if_neg e2, if_neg (fun q => e2 ⟨by omega, q.2⟩)]
theorem q_tb.eq {M M1 : lq_M} {a s : Nat} {g : Nat → Nat} (h : q_tb M a g s) (e : M1 (a + 3 + s) = M (a + 3 + s)) : q_tb M1 a g s := fun f hf hb => by rw [e]; exact h f hf hb
theorem q_sm_pos {f : Nat → Nat} : ∀ {n}, q_sm f n ≠ 0 → ∃ j, j < n ∧ f j ≠ 0
  | 0, h => absurd rfl h
  | n + 1, h => by
    by_cases e : f n = 0
    · obtain ⟨j, h1, h2⟩ := q_sm_pos (f := f) (n := n) (by rw [q_sm, e] at h; exact h)
      exact ⟨j, by omega, h2⟩
    · exact ⟨n, by omega, e⟩
theorem q_sm_ge {f : Nat → Nat} {j : Nat} : ∀ {n}, j < n → f j ≤ q_sm f n
  | 0, h => absurd h (Nat.not_lt_zero j)
  | n + 1, h => by
    rw [q_sm]
    by_cases e : j = n
    · subst e; omega
    · have := q_sm_ge (f := f) (j := j) (n := n) (by omega)
      omega
/-- who comes next: the first who begins an order of what is left and may stand beside the one before -/
noncomputable def g_nxN (g : Nat → Nat) (l p f : Nat) : Nat := by
  classical
  exact if g_or g l f ≠ 0 ∧ (p = 8 ∨ g_cl g p f = 0) then 1 else 0
theorem g_nxN_1 {g : Nat → Nat} {l p f : Nat} : g_nxN g l p f = 1 ↔ (g_or g l f ≠ 0 ∧ (p = 8 ∨ g_cl g p f = 0)) := by
  unfold g_nxN
  split
  · simp_all
  · simp_all
theorem g_nxN_le (g : Nat → Nat) (l p f : Nat) : g_nxN g l p f = 0 ∨ g_nxN g l p f = 1 := by
  unfold g_nxN
  split
  · exact Or.inr rfl
  · exact Or.inl rfl
noncomputable def g_nxt (g : Nat → Nat) (l p : Nat) : Nat := q_fst (g_nxN g l p) 1 8
noncomputable def g_fs (g : Nat → Nat) (s : Nat) : Nat → Nat × Nat
  | 0 => (s, 8)
  | k + 1 => ((g_fs g s k).1 - 2 ^ g_nxt g (g_fs g s k).1 (g_fs g s k).2, g_nxt g (g_fs g s k).1 (g_fs g s k).2)
theorem g_or_bit {g : Nat → Nat} {s f : Nat} (hs : s < 256) (hf : f < 8) (h : g_or g s f ≠ 0) : s / 2 ^ f % 2 = 1 := Decidable.byContradiction fun q => h (by rw [g_or_rec g hs hf, if_neg q])
/-- the first order can go on -/
def g_more (g : Nat → Nat) (l p : Nat) : Prop := ∃ f, f < 8 ∧ g_or g l f ≠ 0 ∧ (p = 8 ∨ g_cl g p f = 0)
theorem g_more.lt {g : Nat → Nat} {l p : Nat} (h : g_more g l p) : g_nxt g l p < 8 ∧ g_or g l (g_nxt g l p) ≠ 0 ∧ (p = 8 ∨ g_cl g p (g_nxt g l p) = 0) := by
  obtain ⟨f, h1, h2⟩ := h
  have hl : g_nxt g l p < 8 := q_fst_lt.mpr ⟨f, h1, g_nxN_1.mpr h2⟩
  exact ⟨hl, g_nxN_1.mp (q_fst_yes _ _ _ hl)⟩
theorem g_more.step {g : Nat → Nat} {l f : Nat} (hl : l < 256) (hf : f < 8) (h : g_or g l f ≠ 0) (h0 : l - 2 ^ f ≠ 0) : g_more g (l - 2 ^ f) f := by
  have hb := g_or_bit hl hf h
  rw [g_or_rec g hl hf, if_pos hb, if_neg (fun q => h0 (by rw [← q]; exact Nat.sub_self l))] at h
  obtain ⟨t, ht, h2⟩ := q_sm_pos h
  by_cases w : (l - 2 ^ f) / 2 ^ t % 2 = 1 ∧ g_cl g f t = 0
  · exact ⟨t, ht, by rw [if_pos w] at h2; exact h2, Or.inr w.2⟩
  · rw [if_neg w] at h2; exact absurd rfl h2
theorem g_co_more {g : Nat → Nat} {s : Nat} (h0 : s ≠ 0) : g_co g s ≠ 0 ↔ g_more g s 8 := by
  unfold g_co
  rw [if_neg h0]
  constructor
  · intro h
    obtain ⟨f, hf, h2⟩ := q_sm_pos h
    exact ⟨f, hf, h2, Or.inl rfl⟩
  · rintro ⟨f, hf, h2, -⟩
    have := q_sm_ge (f := fun f => g_or g s f) (j := f) (n := 8) hf
    have h3 : g_or g s f ≤ q_sm (fun f => g_or g s f) 8 := this
    omega
section AR2
variable {G : lq_G} {z : Nat} {S : lq_S} {N : lq_N}
theorem l1_X1_findFriends {a p : Nat} {fb f : Nat → Option Nat} {σ g : Nat → Nat} {tk : Nat → Nat × Nat} {n : Nat} (hA : sh1 S a fb) (hS : sh4 S p f σ) {M0 : lq_M} (hR : q_pl M0 p σ g tk n) (hW : g_wf g) (hd : a + 260 ≤ p ∨ p + 134 ≤ a) : ∀ (s : Nat), s < g 1 → (∀ M, (∀ s1, s1 < s + 1 → q_frs g (g 1) s1 (g 1) (M (a + 1) s1)) → (∀ b, b ≠ a + 1 → M b = M0 b) → LW G YX1_findFriends 2 0 0 (lq_mv z S N (fun M1 => (∀ s, s < g 1 → q_frs g (g 1) s (g 1) (M1 (a + 1) s)) ∧ ∀ b, b ≠ a + 1 → M1 b = M0 b)) lq_no z S M N 2 [some (.ref a), some (.ref p), some (.int (nI (s + 1))), none] []) → ∀ (n9 t : Nat) (M : lq_M), t ≤ g 1 → g 1 - t < n9 → (∀ s1, s1 < s → q_frs g (g 1) s1 (g 1) (M (a + 1) s1)) → q_frs g (g 1) s t (M (a + 1) s) → (∀ b, b ≠ a + 1 → M b = M0 b) → LW G YX1_findFriends 2 0 0 (lq_mv z S N (fun M1 => (∀ s, s < g 1 → q_frs g (g 1) s (g 1) (M1 (a + 1) s)) ∧ ∀ b, b ≠ a + 1 → M1 b = M0 b)) lq_no z S M N 19 [some (.ref a), some (.ref p), some (.int (nI s)), some (.int (nI t))] [] := by
  intro s hs K
  intro n9
  induction n9 with
  | zero => intro _ _ _ _ _ _ _; omega
  | succ n9 ih =>
    intro t M ht hn9 h1 h2 hq
    have h8 := hW.ns
    have h20 := hW.nb
    have hRM : q_pl M p σ g tk n := hR.eqM (fun i hi => hS.s (by omega)) (fun x x1 x2 => hq x (by omega))
    refine qw_iload_n 3 dX1_findFriends_19 rfl rfl ?_
    refine qw_aload_n 1 dX1_findFriends_20 rfl rfl ?_
    refine qw_geti fX1_42 dX1_findFriends_21 hS.1 rfl ?_
    rw [hRM.ns]
    refine qw_icmp_geN 54 dX1_findFriends_24 (by decide) (by omega) (by omega) (fun c24 => ?_) (fun c24 => ?_)
    · refine qw_iincN 1 dX1_findFriends_54 rfl (by decide) rfl (by decide) ?_
      refine qw_goto 2 dX1_findFriends_57 (by decide) ?_
      refine qw_weak _ (by simp [lq_le]) (K M (fun s1 hs1 => ?_) hq)
      by_cases e : s1 = s
      · rw [e]; rw [show t = g 1 by omega] at h2; exact h2
      · exact h1 s1 (by omega)
    · refine qw_aload_n 1 dX1_findFriends_27 rfl rfl ?_
      refine qw_iload_n 2 dX1_findFriends_28 rfl rfl ?_
      refine qw_iload_n 3 dX1_findFriends_29 rfl rfl ?_
      refine qw_cvp [_, _] (k_X4_clash hS hRM hW (by omega) (by omega)) mX1_48 dX1_findFriends_30 hS.1 rfl rfl rfl (Nat.le_of_ble_eq_true rfl) (by omega) (by decide) rfl ?_
      have hcl := (hW.cl (s := s) (t := t) (by omega) (by omega)).1
      refine qw_if_neN 48 dX1_findFriends_33 (by decide) (by omega) (fun c33 => ?_) (fun c33 => ?_)
      · refine qw_iincN 1 dX1_findFriends_48 rfl (by decide) rfl (by decide) ?_
        refine qw_goto 19 dX1_findFriends_51 (by decide) ?_
        exact qw_weak _ (by simp [lq_le]) (ih (t + 1) M (by omega) (by omega) h1 (q_frs_no h2 c33) hq)
      · refine qw_aload_n 0 dX1_findFriends_36 rfl rfl ?_
        refine qw_getr fX1_9 dX1_findFriends_37 hA.1 rfl ?_
        refine qw_iload_n 2 dX1_findFriends_40 rfl rfl ?_
        refine qw_dup2 dX1_findFriends_41 rfl rfl ?_
        refine qw_iald dX1_findFriends_42 hA.2.1 (by omega) (by omega) ?_
        refine qw_iconst (nI 1) dX1_findFriends_43 (by decide) ?_
        refine qw_iload_n 3 dX1_findFriends_44 rfl rfl ?_
        refine qw_shlN (by omega) (by have := (q_pw8 ⟨t, by omega⟩).2; have h9 : 2 ^ t < 256 := this; omega) dX1_findFriends_45 ?_
        refine qw_orN dX1_findFriends_46 ?_
        refine qw_iast dX1_findFriends_47 hA.2.1 (by omega) (by omega) ?_
        refine qw_iincN 1 dX1_findFriends_48 rfl (by decide) rfl (by decide) ?_
        refine qw_goto 19 dX1_findFriends_51 (by decide) ?_
        rw [Nat.one_mul]
        refine qw_weak _ (by simp [lq_le]) (ih (t + 1) _ (by omega) (by omega) (fun s1 hs1 => ?_) ?_ (fun b hb => by rw [lq_up_n _ _ _ hb]; exact hq b hb))
        · rw [lq_up_c _ _ (by omega)]; exact h1 s1 hs1
        · rw [lq_up_s]; exact q_frs_or h2 c33 (by omega)
theorem l_X1_findFriends {a p : Nat} {fb f : Nat → Option Nat} {σ g : Nat → Nat} {tk : Nat → Nat × Nat} {n : Nat} (hA : sh1 S a fb) (hS : sh4 S p f σ) {M0 : lq_M} (hR : q_pl M0 p σ g tk n) (hW : g_wf g) (hd : a + 260 ≤ p ∨ p + 134 ≤ a) : ∀ (n9 s : Nat) (M : lq_M), s ≤ g 1 → g 1 - s < n9 → (∀ s1, s1 < s → q_frs g (g 1) s1 (g 1) (M (a + 1) s1)) → (∀ b, b ≠ a + 1 → M b = M0 b) → LW G YX1_findFriends 2 0 0 (lq_mv z S N (fun M1 => (∀ s, s < g 1 → q_frs g (g 1) s (g 1) (M1 (a + 1) s)) ∧ ∀ b, b ≠ a + 1 → M1 b = M0 b)) lq_no z S M N 2 [some (.ref a), some (.ref p), some (.int (nI s)), none] [] := by
  intro n9
  induction n9 with
  | zero => intro _ _ _ _ _ _; omega
  | succ n9 ih =>
    intro s M hs hn9 h1 hq
    have h8 := hW.ns
    have hns : M p 4 = g 1 := by rw [hq p (by omega)]; exact hR.ns
    refine qw_iload_n 2 dX1_findFriends_2 rfl rfl ?_
    refine qw_aload_n 1 dX1_findFriends_3 rfl rfl ?_
    refine qw_geti fX1_42 dX1_findFriends_4 hS.1 rfl ?_
    rw [hns]
    refine qw_icmp_geN 60 dX1_findFriends_7 (by decide) (by omega) (by omega) (fun c7 => ?_) (fun c7 => ?_)
    · exact qw_return rfl dX1_findFriends_60 ⟨rfl, rfl, rfl, rfl, fun s1 hs1 => h1 s1 (by omega), hq⟩
    · refine qw_aload_n 0 dX1_findFriends_10 rfl rfl ?_
      refine qw_getr fX1_9 dX1_findFriends_11 hA.1 rfl ?_
      refine qw_iload_n 2 dX1_findFriends_14 rfl rfl ?_
      refine qw_iconst (nI 0) dX1_findFriends_15 (by decide) ?_
      refine qw_iast dX1_findFriends_16 hA.2.1 (by omega) (by omega) ?_
      refine qw_iconst (nI 0) dX1_findFriends_17 (by decide) ?_
      refine qw_istore_n 3 dX1_findFriends_18 rfl rfl (by decide) ?_
      refine qw_weak _ (by simp [lq_le]) (l1_X1_findFriends hA hS hR hW hd s (by omega) (fun M1 k1 k2 => ih (s + 1) M1 (by omega) (by omega) k1 k2) (g 1 + 1) 0 _ (Nat.zero_le _) (by omega) (fun s1 hs1 => ?_) ?_ (fun b hb => by rw [lq_up_n _ _ _ hb]; exact hq b hb))
      · rw [lq_up_c _ _ (by omega)]; exact h1 s1 hs1
      · rw [lq_up_s]; exact q_frs_z _ _ _
theorem k_X1_findFriends {a p : Nat} {fb f : Nat → Option Nat} {σ g : Nat → Nat} {tk : Nat → Nat × Nat} {n : Nat} (hA : sh1 S a fb) (hS : sh4 S p f σ) {M : lq_M} (hR : q_pl M p σ g tk n) (hW : g_wf g) (hd : a + 260 ≤ p ∨ p + 134 ≤ a) : LM G YX1_findFriends 2 0 0 [.ref a, .ref p] z S M N (lq_mv z S N (fun M1 => (∀ s, s < g 1 → q_frs g (g 1) s (g 1) (M1 (a + 1) s)) ∧ ∀ b, b ≠ a + 1 → M1 b = M b)) lq_no := by
  refine LM.of (by decide) rfl [some (.ref a), some (.ref p), none, none] rfl (Nat.le_of_ble_eq_true rfl) ?_
  refine qw_iconst (nI 0) dX1_findFriends_0 (by decide) ?_
  refine qw_istore_n 2 dX1_findFriends_1 rfl rfl (by decide) ?_
  exact l_X1_findFriends hA hS hR hW hd (g 1 + 1) 0 M (Nat.zero_le _) (by omega) (fun s1 hs1 => absurd hs1 (Nat.not_lt_zero s1)) (fun b hb => rfl)
theorem l_X1_countBeginnings {a : Nat} {fb : Nat → Option Nat} {g : Nat → Nat} (hA : sh1 S a fb) {M0 : lq_M} {p set : Nat} (hn8 : g 1 ≤ 8) (hset : set < 2 ^ g 1) : ∀ (n9 k : Nat) (M : lq_M), k ≤ 256 → 256 - k < n9 → 0 < k → (∀ s, s < g 1 → q_frs g (g 1) s (g 1) (M (a + 1) s)) → (∀ s, s < k → 0 < s → q_sub s set → q_tb M a g s) → q_fr (a + 1) (a + 259) M0 M → LW G YX1_countBeginnings 3 0 0 (lq_mv z S N (fun M1 => (∀ s, s < g 1 → q_frs g (g 1) s (g 1) (M1 (a + 1) s)) ∧ (∀ s, s ≤ set → 0 < s → q_sub s set → q_tb M1 a g s) ∧ q_fr (a + 1) (a + 259) M0 M1)) lq_no z S M N 7 [some (.ref a), some (.ref p), some (.int (nI set)), some (.int (nI k))] [] := by
  intro n9
  induction n9 with
  | zero => intro _ _ _ _ _ _ _ _; omega
  | succ n9 ih =>
    intro k M hk hn9 hk0 h1 hT hq
    have hs8 : set < 256 := Nat.lt_of_lt_of_le hset (Nat.pow_le_pow_right (n := 2) (by decide) hn8)
    refine qw_iload_n 3 dX1_countBeginnings_7 rfl rfl ?_
    refine qw_aload_n 0 dX1_countBeginnings_8 rfl rfl ?_
    refine qw_getr fX1_17 dX1_countBeginnings_9 hA.1 rfl ?_
    refine qw_alenr dX1_countBeginnings_12 hA.2.2.1 rfl ?_
    refine qw_icmp_geN 40 dX1_countBeginnings_13 (by decide) (by omega) (by omega) (fun c13 => ?_) (fun c13 => ?_)
    · exact qw_return rfl dX1_countBeginnings_40 ⟨rfl, rfl, rfl, rfl, h1, fun s s1 s2 s3 => hT s (by omega) s2 s3, hq⟩
    · refine qw_iload_n 3 dX1_countBeginnings_16 rfl rfl ?_
      refine qw_iload_n 2 dX1_countBeginnings_17 rfl rfl ?_
      refine qw_icmp_gtN 40 dX1_countBeginnings_18 (by decide) (by omega) (by omega) (fun c18 => ?_) (fun c18 => ?_)
      · exact qw_return rfl dX1_countBeginnings_40 ⟨rfl, rfl, rfl, rfl, h1, fun s s1 s2 s3 => hT s (by omega) s2 s3, hq⟩
      · refine qw_iload_n 3 dX1_countBeginnings_21 rfl rfl ?_
        refine qw_iload_n 2 dX1_countBeginnings_22 rfl rfl ?_
        refine qw_iconst (-1) dX1_countBeginnings_23 (by decide) ?_
        refine qw_ixor dX1_countBeginnings_24 ?_
        refine qw_iand dX1_countBeginnings_25 ?_
        refine qw_if_ne 34 dX1_countBeginnings_26 (by decide) (fun c26 => ?_) (fun c26 => ?_)
        · refine qw_iincN 1 dX1_countBeginnings_34 rfl (by decide) rfl (by decide) ?_
          refine qw_goto 7 dX1_countBeginnings_37 (by decide) ?_
          refine qw_weak _ (by simp [lq_le]) (ih (k + 1) M (by omega) (by omega) (by omega) h1 (fun s s1 s2 s3 => ?_) hq)
          by_cases e : s = k
          · rw [e] at s3
            exact absurd ((q_nsub2 (by omega) hs8).mpr s3) c26
          · exact hT s (by omega) s2 s3
        · refine qw_aload_n 0 dX1_countBeginnings_29 rfl rfl ?_
          refine qw_iload_n 3 dX1_countBeginnings_30 rfl rfl ?_
          refine qw_cvv [_] (k_X1_countBeginningsOf (ns := g 1) hA hn8 hset (by omega) hk0 ((q_nsub2 (by omega) hs8).mp c26) h1 hT) mX1_38 dX1_countBeginnings_31 hA.1 rfl rfl rfl (Nat.le_of_ble_eq_true rfl) (by omega) (by decide) rfl (fun M1 hM1 => ?_)
          obtain ⟨hT1, hq1⟩ := hM1
          refine qw_iincN 1 dX1_countBeginnings_34 rfl (by decide) rfl (by decide) ?_
          refine qw_goto 7 dX1_countBeginnings_37 (by decide) ?_
          refine qw_weak _ (by simp [lq_le]) (ih (k + 1) M1 (by omega) (by omega) (by omega) (fun s hs => by rw [hq1 (a + 1) (by omega)]; exact h1 s hs) (fun s s1 s2 s3 => ?_) (fun b hb => by rw [hq1 b (by omega)]; exact hq b hb))
          by_cases e : s = k
          · rw [e]; exact hT1
          · exact (hT s (by omega) s2 s3).eq (hq1 _ (by omega))
theorem k_X1_countBeginnings {a p : Nat} {fb f : Nat → Option Nat} {σ g : Nat → Nat} {tk : Nat → Nat × Nat} {n : Nat} (hA : sh1 S a fb) (hS : sh4 S p f σ) {M : lq_M} (hR : q_pl M p σ g tk n) (hW : g_wf g) (hd : a + 260 ≤ p ∨ p + 134 ≤ a) {set : Nat} (hset : set < 2 ^ g 1) : LM G YX1_countBeginnings 3 0 0 [.ref a, .ref p, .int (nI set)] z S M N (lq_mv z S N (fun M1 => (∀ s, s < g 1 → q_frs g (g 1) s (g 1) (M1 (a + 1) s)) ∧ (∀ s, s ≤ set → 0 < s → q_sub s set → q_tb M1 a g s) ∧ q_fr (a + 1) (a + 259) M M1)) lq_no := by
  have h8 := hW.ns
  refine LM.of (by decide) rfl [some (.ref a), some (.ref p), some (.int (nI set)), none] rfl (Nat.le_of_ble_eq_true rfl) ?_
  refine qw_aload_n 0 dX1_countBeginnings_0 rfl rfl ?_
  refine qw_aload_n 1 dX1_countBeginnings_1 rfl rfl ?_
  refine qw_cvv [_] (k_X1_findFriends hA hS hR hW hd) mX1_34 dX1_countBeginnings_2 hA.1 rfl rfl rfl (Nat.le_of_ble_eq_true rfl) (by omega) (by decide) rfl (fun M1 hM1 => ?_)
  obtain ⟨hf1, hq1⟩ := hM1
  refine qw_iconst (nI 1) dX1_countBeginnings_5 (by decide) ?_
  refine qw_istore_n 3 dX1_countBeginnings_6 rfl rfl (by decide) ?_
  exact l_X1_countBeginnings hA h8 hset 256 1 M1 (by omega) (by omega) (by omega) hf1 (fun s s1 s2 => absurd s1 (by omega)) (fun b hb => hq1 b (by omega))
theorem k_X1_countOrders {a p : Nat} {fb f : Nat → Option Nat} {σ g : Nat → Nat} {tk : Nat → Nat × Nat} {n : Nat} (hA : sh1 S a fb) (hS : sh4 S p f σ) {M : lq_M} (hR : q_pl M p σ g tk n) (hW : g_wf g) (hd : a + 260 ≤ p ∨ p + 134 ≤ a) {set : Nat} (hset : set < 2 ^ g 1) : LM G YX1_countOrders 4 0 0 [.ref a, .ref p, .int (nI set)] z S M N (lq_mi z S N (fun x M1 => x = nI (g_co g set) ∧ q_fr a (a + 260) M M1)) lq_no := by
  have h8 := hW.ns
  have hs8 : set < 256 := Nat.lt_of_lt_of_le hset (Nat.pow_le_pow_right (n := 2) (by decide) h8)
  refine LM.of (by decide) rfl [some (.ref a), some (.ref p), some (.int (nI set))] rfl (Nat.le_of_ble_eq_true rfl) ?_
  refine qw_iload_n 2 dX1_countOrders_0 rfl rfl ?_
  refine qw_if_neN 6 dX1_countOrders_1 (by decide) (by omega) (fun c1 => ?_) (fun c1 => ?_)
  · refine qw_aload_n 0 dX1_countOrders_6 rfl rfl ?_
    refine qw_aload_n 1 dX1_countOrders_7 rfl rfl ?_
    refine qw_iload_n 2 dX1_countOrders_8 rfl rfl ?_
    refine qw_cvv [_, _] (k_X1_countBeginnings hA hS hR hW hd hset) mX1_23 dX1_countOrders_9 hA.1 rfl rfl rfl (Nat.le_of_ble_eq_true rfl) (by omega) (by decide) rfl (fun M1 hM1 => ?_)
    obtain ⟨hf1, hT, hq⟩ := hM1
    refine qw_aload_n 0 dX1_countOrders_12 rfl rfl ?_
    refine qw_iload_n 2 dX1_countOrders_13 rfl rfl ?_
    refine qw_iload_n 2 dX1_countOrders_14 rfl rfl ?_
    refine qw_cvp [_, _] (k_X1_sumOver hA hs8 (by omega)) mX1_27 dX1_countOrders_15 hA.1 rfl rfl rfl (Nat.le_of_ble_eq_true rfl) (by omega) (by decide) rfl ?_
    exact qw_ireturn rfl rfl dX1_countOrders_18 ⟨rfl, rfl, rfl, _, rfl, by
      rw [g_co, if_neg c1]
      refine congrArg nI (q_sm_cong 8 (fun f hf => ?_))
      unfold g_sF
      by_cases hb : set / 2 ^ f % 2 = 1
      · rw [if_pos hb]; exact hT set (Nat.le_refl _) (by omega) (fun t ht q => q) f hf hb
      · rw [if_neg hb, g_or_rec g hs8 hf, if_neg hb], fun b hb => hq b (by omega)⟩
  · refine qw_iconst (nI 1) dX1_countOrders_4 (by decide) ?_
    exact qw_ireturn rfl rfl dX1_countOrders_5 ⟨rfl, rfl, rfl, _, rfl, by rw [g_co, if_pos c1], q_fr.rf⟩
end AR2
