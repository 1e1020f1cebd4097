/-! THE REFERENCE: its shape, its small methods -/
def sh9 (S : lq_S) (m : Nat) (fh fo : Nat → Option Nat) : Prop :=
  S m = some (.inl (9, [none, some (some (m + 1)), none, none, none, none, none, none, some (some (m + 2)), some (some (m + 3)), some (some (m + 4)), none, none, none, none, some (some (m + 13)), some (some (m + 14)), some (some (m + 271)), some (some (m + 272))])) ∧
  (S (m + 1) = some (.inr (.inl (0, 800))) ∧ S (m + 2) = some (.inr (.inl (0, 2663))) ∧ S (m + 3) = some (.inr (.inl (0, 2663)))) ∧
  (S (m + 4) = some (.inr (.inr (3, 8, fh))) ∧ (∀ k, k < 8 → fh k = some (m + 5 + k)) ∧ ∀ k, k < 8 → S (m + 5 + k) = some (.inr (.inl (0, 2663)))) ∧
  (S (m + 13) = some (.inr (.inl (2, 1300))) ∧ S (m + 14) = some (.inr (.inr (3, 256, fo))) ∧ (∀ k, k < 256 → fo k = some (m + 15 + k)) ∧ ∀ k, k < 256 → S (m + 15 + k) = some (.inr (.inl (0, 8)))) ∧
  S (m + 271) = some (.inr (.inl (0, 8))) ∧ S (m + 272) = some (.inr (.inl (0, 24)))
section SH9
variable {S : lq_S} {m : Nat} {fh fo : Nat → Option Nat}
theorem sh9.bu (h : sh9 S m fh fo) : S (m + 1) = some (.inr (.inl (0, 800))) := h.2.1.1
theorem sh9.da (h : sh9 S m fh fo) : S (m + 2) = some (.inr (.inl (0, 2663))) := h.2.1.2.1
theorem sh9.dr (h : sh9 S m fh fo) : S (m + 3) = some (.inr (.inl (0, 2663))) := h.2.1.2.2
theorem sh9.hi (h : sh9 S m fh fo) : S (m + 4) = some (.inr (.inr (3, 8, fh))) := h.2.2.1.1
theorem sh9.hf (h : sh9 S m fh fo) {k : Nat} (hk : k < 8) : fh k = some (m + 5 + k) := h.2.2.1.2.1 k hk
theorem sh9.hc (h : sh9 S m fh fo) {k : Nat} (hk : k < 8) : S (m + 5 + k) = some (.inr (.inl (0, 2663))) := h.2.2.1.2.2 k hk
theorem sh9.sk (h : sh9 S m fh fo) : S (m + 13) = some (.inr (.inl (2, 1300))) := h.2.2.2.1.1
theorem sh9.od (h : sh9 S m fh fo) : S (m + 14) = some (.inr (.inr (3, 256, fo))) := h.2.2.2.1.2.1
theorem sh9.of (h : sh9 S m fh fo) {k : Nat} (hk : k < 256) : fo k = some (m + 15 + k) := h.2.2.2.1.2.2.1 k hk
theorem sh9.oc (h : sh9 S m fh fo) {k : Nat} (hk : k < 256) : S (m + 15 + k) = some (.inr (.inl (0, 8))) := h.2.2.2.1.2.2.2 k hk
theorem sh9.rw (h : sh9 S m fh fo) : S (m + 271) = some (.inr (.inl (0, 8))) := h.2.2.2.2.1
theorem sh9.mo (h : sh9 S m fh fo) : S (m + 272) = some (.inr (.inl (0, 24))) := h.2.2.2.2.2
end SH9
section RJ
variable {G : lq_G} {Y : lq_Y} {d kc ks z : Nat} {S : lq_S} {M : lq_M} {N : lq_N} {Q : lq_P} {X : lq_E} {pc : Nat} {lv : List (Option Value)} {st : List Value}
theorem qw_iaj {a n j : Nat} (j' : Nat) (e : j = j') (hd : decode Y.2.1 pc = .ok (.iaload, 1)) (hS : S a = some (.inr (.inl (0, n)))) (hj : j' < n) (hn : n < 2 ^ 31) (k : LW G Y d kc ks Q X z S M N (pc + 1) lv (.int (nI (M a j')) :: st)) : LW G Y d kc ks Q X z S M N pc lv (.int (nI j) :: .ref a :: st) := by
  subst e
  exact qw_iald hd hS hj hn k
theorem qw_iasj {a n j v : Nat} (j' : Nat) (e : j = j') (hd : decode Y.2.1 pc = .ok (.iastore, 1)) (hS : S a = some (.inr (.inl (0, n)))) (hj : j' < n) (hn : n < 2 ^ 31) (k : LW G Y d kc ks Q X z S (lq_up M a j' v) N (pc + 1) lv st) : LW G Y d kc ks Q X z S M N pc lv (.int (nI v) :: .int (nI j) :: .ref a :: st) := by
  subst e
  exact qw_iast hd hS hj hn k
theorem qw_eqn {a : Nat} (b : Nat) (h : a = b) (k : LW G Y d kc ks Q X z S M N pc lv (.int (nI b) :: st)) : LW G Y d kc ks Q X z S M N pc lv (.int (nI a) :: st) := h ▸ k
theorem qw_eqM {M1 : lq_M} (h : M = M1) (k : LW G Y d kc ks Q X z S M1 N pc lv st) : LW G Y d kc ks Q X z S M N pc lv st := h ▸ k
end RJ
theorem q_pfv1 {x c : Nat} (h : x ≤ c + 1) (hc : c ≤ 100) : ((if x = c + 1 then (-1 : Int32) else nI x) = -1) ↔ x = c + 1 := by
  by_cases e : x = c + 1
  · rw [if_pos e]
    exact ⟨fun _ => e, fun _ => rfl⟩
  · rw [if_neg e]
    refine ⟨fun q => ?_, fun q => absurd q e⟩
    have h1 := nI_toInt (show x < 2 ^ 31 by omega)
    rw [q] at h1
    exact absurd h1 (by have : (-1 : Int32).toInt = -1 := rfl; omega)
section R1
variable {G : lq_G} {z : Nat} {S : lq_S} {M : lq_M} {N : lq_N} {m : Nat} {fh fo : Nat → Option Nat}
theorem k_X9_in {x a b : Int32} : LM G YX9_in 0 0 0 [.int x, .int a, .int b] z S M N (lq_pu z S M N (.int (nI (if a ≤ x ∧ x ≤ b then 1 else 0)))) lq_no := by
  refine LM.of (by decide) rfl [some (.int x), some (.int a), some (.int b)] rfl (Nat.le_of_ble_eq_true rfl) ?_
  refine qw_iload_n 0 dX9_in_0 rfl rfl ?_
  refine qw_iload_n 1 dX9_in_1 rfl rfl ?_
  refine qw_icmp_lt 14 dX9_in_2 (by decide) (fun c2 => ?_) (fun c2 => ?_)
  · refine qw_iconst (nI 0) dX9_in_14 (by decide) ?_
    exact qw_ireturn rfl (by decide) dX9_in_15 ⟨by rw [if_neg (fun q => absurd (Int32.not_le.mpr c2) (fun z => z q.1))], rfl, rfl, rfl, rfl⟩
  · refine qw_iload_n 0 dX9_in_5 rfl rfl ?_
    refine qw_iload_n 2 dX9_in_6 rfl rfl ?_
    refine qw_icmp_gt 14 dX9_in_7 (by decide) (fun c7 => ?_) (fun c7 => ?_)
    · refine qw_iconst (nI 0) dX9_in_14 (by decide) ?_
      exact qw_ireturn rfl (by decide) dX9_in_15 ⟨by rw [if_neg (fun q => absurd (Int32.not_le.mpr c7) (fun z => z q.2))], rfl, rfl, rfl, rfl⟩
    · refine qw_iconst (nI 1) dX9_in_10 (by decide) ?_
      refine qw_goto 15 dX9_in_11 (by decide) ?_
      exact qw_ireturn rfl (by decide) dX9_in_15 ⟨by rw [if_pos ⟨Int32.not_lt.mp c2, Int32.not_lt.mp c7⟩], rfl, rfl, rfl, rfl⟩
theorem k_X9_at {i : Nat} : LM G YX9_at 0 0 0 [.int (nI i)] z S M N (lq_pu z S M N (.int (nI (7 + 30 * i)))) lq_no := by
  refine LM.of (by decide) rfl [some (.int (nI i))] rfl (Nat.le_of_ble_eq_true rfl) ?_
  refine qw_bipush (nI 7) dX9_at_0 (by decide) ?_
  refine qw_bipush (nI 30) dX9_at_2 (by decide) ?_
  refine qw_iload_n 0 dX9_at_4 rfl rfl ?_
  refine qw_mulN dX9_at_5 ?_
  refine qw_addN dX9_at_6 ?_
  exact qw_ireturn rfl rfl dX9_at_7 ⟨rfl, rfl, rfl, rfl, rfl⟩
theorem k_X9_spotAt {i p : Nat} : LM G YX9_spotAt 1 0 0 [.int (nI i), .int (nI p)] z S M N (lq_pu z S M N (.int (nI (13 + 30 * i + 3 * p)))) lq_no := by
  refine LM.of (by decide) rfl [some (.int (nI i)), some (.int (nI p))] rfl (Nat.le_of_ble_eq_true rfl) ?_
  refine qw_iload_n 0 dX9_spotAt_0 rfl rfl ?_
  refine qw_csp [_] (k_X9_at) mX9_44 dX9_spotAt_1 rfl rfl (Nat.le_of_ble_eq_true rfl) (by omega) (by decide) rfl ?_
  refine qw_bipush (nI 6) dX9_spotAt_4 (by decide) ?_
  refine qw_addN dX9_spotAt_6 ?_
  refine qw_iconst (nI 3) dX9_spotAt_7 (by decide) ?_
  refine qw_iload_n 1 dX9_spotAt_8 rfl rfl ?_
  refine qw_mulN dX9_spotAt_9 ?_
  refine qw_addN dX9_spotAt_10 ?_
  exact qw_ireturn rfl rfl dX9_spotAt_11 ⟨by rw [show 7 + 30 * i + 6 + 3 * p = 13 + 30 * i + 3 * p by omega], rfl, rfl, rfl, rfl⟩
theorem k_X9_countOf (h9 : sh9 S m fh fo) {i : Nat} (hi : i < 20) : LM G YX9_countOf 1 0 0 [.ref m, .int (nI i)] z S M N (lq_pu z S M N (.int (nI (M (m + 2) (12 + 30 * i))))) lq_no := by
  refine LM.of (by decide) rfl [some (.ref m), some (.int (nI i))] rfl (Nat.le_of_ble_eq_true rfl) ?_
  refine qw_aload_n 0 dX9_countOf_0 rfl rfl ?_
  refine qw_getr fX9_17 dX9_countOf_1 h9.1 rfl ?_
  refine qw_iload_n 1 dX9_countOf_4 rfl rfl ?_
  refine qw_csp [_] (k_X9_at) mX9_44 dX9_countOf_5 rfl rfl (Nat.le_of_ble_eq_true rfl) (by omega) (by decide) rfl ?_
  refine qw_iconst (nI 5) dX9_countOf_8 (by decide) ?_
  refine qw_addN dX9_countOf_9 ?_
  refine qw_iaj (12 + 30 * i) (by omega) dX9_countOf_10 h9.da (by omega) (by omega) ?_
  exact qw_ireturn rfl rfl dX9_countOf_11 ⟨rfl, rfl, rfl, rfl, rfl⟩
theorem l_X9_usedOf (h9 : sh9 S m fh fo) (hW : g_wf (M (m + 2))) {i : Nat} (hi : i < M (m + 2) 0) : ∀ (n9 k : Nat), k ≤ M (m + 2) (12 + 30 * i) → M (m + 2) (12 + 30 * i) - k < n9 → LW G YX9_usedOf 2 0 0 (lq_pu z S M N (.int (nI (g_us (M (m + 2)) i)))) lq_no z S M N 4 [some (.ref m), some (.int (nI i)), some (.int (nI (q_sm (fun p => M (m + 2) (14 + 30 * i + 3 * p)) k))), some (.int (nI k))] [] := by
  intro n9
  induction n9 with
  | zero => intro _ _ _; omega
  | succ n9 ih =>
    intro k hk hn9
    have h20 := hW.nb
    have hc8 := (hW.br hi).2.2.2.2.2.1
    refine qw_iload_n 3 dX9_usedOf_4 rfl rfl ?_
    refine qw_aload_n 0 dX9_usedOf_5 rfl rfl ?_
    refine qw_iload_n 1 dX9_usedOf_6 rfl rfl ?_
    refine qw_cvp [_] (k_X9_countOf h9 (by omega)) mX9_185 dX9_usedOf_7 h9.1 rfl rfl rfl (Nat.le_of_ble_eq_true rfl) (by omega) (by decide) rfl ?_
    refine qw_icmp_geN 34 dX9_usedOf_10 (by decide) (by omega) (by omega) (fun c10 => ?_) (fun c10 => ?_)
    · refine qw_iload_n 2 dX9_usedOf_34 rfl rfl ?_
      exact qw_ireturn rfl rfl dX9_usedOf_35 ⟨by rw [show k = M (m + 2) (12 + 30 * i) by omega]; rfl, rfl, rfl, rfl, rfl⟩
    · refine qw_iload_n 2 dX9_usedOf_13 rfl rfl ?_
      refine qw_aload_n 0 dX9_usedOf_14 rfl rfl ?_
      refine qw_getr fX9_17 dX9_usedOf_15 h9.1 rfl ?_
      refine qw_iload_n 1 dX9_usedOf_18 rfl rfl ?_
      refine qw_iload_n 3 dX9_usedOf_19 rfl rfl ?_
      refine qw_csp [_, _] (k_X9_spotAt) mX9_188 dX9_usedOf_20 rfl rfl (Nat.le_of_ble_eq_true rfl) (by omega) (by decide) rfl ?_
      refine qw_iconst (nI 1) dX9_usedOf_23 (by decide) ?_
      refine qw_addN dX9_usedOf_24 ?_
      refine qw_iaj (14 + 30 * i + 3 * k) (by omega) dX9_usedOf_25 h9.da (by omega) (by omega) ?_
      refine qw_addN dX9_usedOf_26 ?_
      refine qw_istore_n 2 dX9_usedOf_27 rfl rfl (by decide) ?_
      refine qw_iincN 1 dX9_usedOf_28 rfl (by decide) rfl (by decide) ?_
      refine qw_goto 4 dX9_usedOf_31 (by decide) ?_
      exact ih (k + 1) (by omega) (by omega)
theorem k_X9_usedOf (h9 : sh9 S m fh fo) (hW : g_wf (M (m + 2))) {i : Nat} (hi : i < M (m + 2) 0) : LM G YX9_usedOf 2 0 0 [.ref m, .int (nI i)] z S M N (lq_pu z S M N (.int (nI (g_us (M (m + 2)) i)))) lq_no := by
  refine LM.of (by decide) rfl [some (.ref m), some (.int (nI i)), none, none] rfl (Nat.le_of_ble_eq_true rfl) ?_
  refine qw_iconst (nI 0) dX9_usedOf_0 (by decide) ?_
  refine qw_istore_n 2 dX9_usedOf_1 rfl rfl (by decide) ?_
  refine qw_iconst (nI 0) dX9_usedOf_2 (by decide) ?_
  refine qw_istore_n 3 dX9_usedOf_3 rfl rfl (by decide) ?_
  exact l_X9_usedOf h9 hW hi (M (m + 2) (12 + 30 * i) + 1) 0 (Nat.zero_le _) (by omega)
theorem l_X9_hasSpot (h9 : sh9 S m fh fo) (hW : g_wf (M (m + 2))) {i : Nat} (hi : i < M (m + 2) 0) {s : Nat} (hs : s < 2 ^ 31) : ∀ (n9 p : Nat), p ≤ M (m + 2) (12 + 30 * i) → M (m + 2) (12 + 30 * i) - p < n9 → (∀ q, q < p → M (m + 2) (13 + 30 * i + 3 * q) ≠ s) → LW G YX9_hasSpot 2 0 0 (lq_pu z S M N (.int (nI (g_hs (M (m + 2)) i s)))) lq_no z S M N 2 [some (.ref m), some (.int (nI i)), some (.int (nI s)), some (.int (nI p))] [] := by
  intro n9
  induction n9 with
  | zero => intro _ _ _ _; omega
  | succ n9 ih =>
    intro p hp hn9 hno
    have h20 := hW.nb
    have h8 := hW.ns
    have hc8 := (hW.br hi).2.2.2.2.2.1
    refine qw_iload_n 3 dX9_hasSpot_2 rfl rfl ?_
    refine qw_aload_n 0 dX9_hasSpot_3 rfl rfl ?_
    refine qw_iload_n 1 dX9_hasSpot_4 rfl rfl ?_
    refine qw_cvp [_] (k_X9_countOf h9 (by omega)) mX9_185 dX9_hasSpot_5 h9.1 rfl rfl rfl (Nat.le_of_ble_eq_true rfl) (by omega) (by decide) rfl ?_
    refine qw_icmp_geN 33 dX9_hasSpot_8 (by decide) (by omega) (by omega) (fun c8 => ?_) (fun c8 => ?_)
    · refine qw_iconst (nI 0) dX9_hasSpot_33 (by decide) ?_
      exact qw_ireturn rfl (by decide) dX9_hasSpot_34 ⟨by rw [show g_hs (M (m + 2)) i s = 0 from q_cnt_0 _ (fun j hj => hno j (by omega))], rfl, rfl, rfl, rfl⟩
    · refine qw_aload_n 0 dX9_hasSpot_11 rfl rfl ?_
      refine qw_getr fX9_17 dX9_hasSpot_12 h9.1 rfl ?_
      refine qw_iload_n 1 dX9_hasSpot_15 rfl rfl ?_
      refine qw_iload_n 3 dX9_hasSpot_16 rfl rfl ?_
      refine qw_csp [_, _] (k_X9_spotAt) mX9_188 dX9_hasSpot_17 rfl rfl (Nat.le_of_ble_eq_true rfl) (by omega) (by decide) rfl ?_
      refine qw_iald dX9_hasSpot_20 h9.da (by omega) (by omega) ?_
      have hsp := (hW.sp hi (p := p) (by omega)).1
      refine qw_iload_n 2 dX9_hasSpot_21 rfl rfl ?_
      refine qw_icmp_neN 27 dX9_hasSpot_22 (by decide) (by omega) (by omega) (fun c22 => ?_) (fun c22 => ?_)
      · refine qw_iincN 1 dX9_hasSpot_27 rfl (by decide) rfl (by decide) ?_
        refine qw_goto 2 dX9_hasSpot_30 (by decide) ?_
        refine ih (p + 1) (by omega) (by omega) (fun q hq => ?_)
        rcases Nat.lt_or_ge q p with h9 | h9
        · exact hno q h9
        · rw [show q = p by omega]; exact c22
      · refine qw_iconst (nI 1) dX9_hasSpot_25 (by decide) ?_
        exact qw_ireturn rfl (by decide) dX9_hasSpot_26 ⟨by rw [show g_hs (M (m + 2)) i s = 1 by have h1 := hW.hs hi s; have h2 : 0 < g_hs (M (m + 2)) i s := q_cnt_of (j := p) (by omega) c22; omega], rfl, rfl, rfl, rfl⟩
theorem k_X9_hasSpot (h9 : sh9 S m fh fo) (hW : g_wf (M (m + 2))) {i : Nat} (hi : i < M (m + 2) 0) {s : Nat} (hs : s < 2 ^ 31) : LM G YX9_hasSpot 2 0 0 [.ref m, .int (nI i), .int (nI s)] z S M N (lq_pu z S M N (.int (nI (g_hs (M (m + 2)) i s)))) lq_no := by
  refine LM.of (by decide) rfl [some (.ref m), some (.int (nI i)), some (.int (nI s)), none] rfl (Nat.le_of_ble_eq_true rfl) ?_
  refine qw_iconst (nI 0) dX9_hasSpot_0 (by decide) ?_
  refine qw_istore_n 3 dX9_hasSpot_1 rfl rfl (by decide) ?_
  exact l_X9_hasSpot h9 hW hi hs (M (m + 2) (12 + 30 * i) + 1) 0 (Nat.zero_le _) (by omega) (fun q hq => absurd hq (Nat.not_lt_zero q))
def q_sc (g : Nat → Nat) (dy o1 o2 : Int32) (i : Nat) : Prop := (dy = -1 ∨ nI (g (7 + 30 * i)) = dy) ∧ (nI (g (11 + 30 * i)) = o1 ∨ nI (g (11 + 30 * i)) = o2)
theorem l_X9_spotsOf (h9 : sh9 S m fh fo) (hW : g_wf (M (m + 2))) {s : Nat} (hs : s < 2 ^ 31) {dy o1 o2 : Int32} {c : Nat → Bool} (hc1 : ∀ i, i < M (m + 2) 0 → q_sc (M (m + 2)) dy o1 o2 i → c i = true) (hc2 : ∀ i, i < M (m + 2) 0 → ¬ q_sc (M (m + 2)) dy o1 o2 i → c i = true → g_hs (M (m + 2)) i s = 0) : ∀ (n9 i : Nat), i ≤ M (m + 2) 0 → M (m + 2) 0 - i < n9 → LW G YX9_spotsOf 3 0 0 (lq_pu z S M N (.int (nI (g_so (M (m + 2)) s c (M (m + 2) 0))))) lq_no z S M N 6 [some (.ref m), some (.int (nI s)), some (.int dy), some (.int o1), some (.int o2), some (.int (nI (g_so (M (m + 2)) s c i))), some (.int (nI i)), none] [] := by
  intro n9
  induction n9 with
  | zero => intro _ _ _; omega
  | succ n9 ih =>
    intro i hi hn9
    have h20 := hW.nb
    refine qw_iload dX9_spotsOf_6 rfl ?_
    refine qw_aload_n 0 dX9_spotsOf_8 rfl rfl ?_
    refine qw_getr fX9_17 dX9_spotsOf_9 h9.1 rfl ?_
    refine qw_iconst (nI 0) dX9_spotsOf_12 (by decide) ?_
    refine qw_iald dX9_spotsOf_13 h9.da (by omega) (by omega) ?_
    refine qw_icmp_geN 82 dX9_spotsOf_14 (by decide) (by omega) (by omega) (fun c14 => ?_) (fun c14 => ?_)
    · refine qw_iload dX9_spotsOf_82 rfl ?_
      exact qw_ireturn rfl rfl dX9_spotsOf_84 ⟨by rw [show i = M (m + 2) 0 by omega], rfl, rfl, rfl, rfl⟩
    · have hbr := hW.br (i := i) (by omega)
      refine qw_aload_n 0 dX9_spotsOf_17 rfl rfl ?_
      refine qw_getr fX9_17 dX9_spotsOf_18 h9.1 rfl ?_
      refine qw_iload dX9_spotsOf_21 rfl ?_
      refine qw_csp [_] (k_X9_at) mX9_44 dX9_spotsOf_23 rfl rfl (Nat.le_of_ble_eq_true rfl) (by omega) (by decide) rfl ?_
      refine qw_iconst (nI 4) dX9_spotsOf_26 (by decide) ?_
      refine qw_addN dX9_spotsOf_27 ?_
      refine qw_iaj (11 + 30 * i) (by omega) dX9_spotsOf_28 h9.da (by omega) (by omega) ?_
      refine qw_istore dX9_spotsOf_29 rfl (by decide) ?_
      refine qw_iload_n 2 dX9_spotsOf_31 rfl rfl ?_
      refine qw_iconst (-1) dX9_spotsOf_32 (by decide) ?_
      refine qw_icmp_eq 50 dX9_spotsOf_33 (by decide) (fun c33 => ?_) (fun c33 => ?_)
      · refine qw_iload dX9_spotsOf_50 rfl ?_
        refine qw_iload_n 3 dX9_spotsOf_52 rfl rfl ?_
        refine qw_icmp_eq 63 dX9_spotsOf_53 (by decide) (fun c53 => ?_) (fun c53 => ?_)
        · refine qw_aload_n 0 dX9_spotsOf_63 rfl rfl ?_
          refine qw_iload dX9_spotsOf_64 rfl ?_
          refine qw_iload_n 1 dX9_spotsOf_66 rfl rfl ?_
          refine qw_cvp [_, _] (k_X9_hasSpot h9 hW (by omega) hs) mX9_191 dX9_spotsOf_67 h9.1 rfl rfl rfl (Nat.le_of_ble_eq_true rfl) (by omega) (by decide) rfl ?_
          have hhs := hW.hs (i := i) (by omega) s
          refine qw_if_eqN 76 dX9_spotsOf_70 (by decide) (by omega) (fun c70 => ?_) (fun c70 => ?_)
          · refine qw_iincN 1 dX9_spotsOf_76 rfl (by decide) rfl (by decide) ?_
            refine qw_goto 6 dX9_spotsOf_79 (by decide) ?_
            have e8 : c i = true := hc1 i (by omega) ⟨(Or.inl c33), (Or.inl c53)⟩
            have h := ih (i + 1) (by omega) (by omega)
            rw [g_so] at h
            rw [if_pos e8, c70, Nat.add_zero] at h
            exact qw_weak _ (by simp [lq_le]) h
          · refine qw_iincN 1 dX9_spotsOf_73 rfl (by decide) rfl (by decide) ?_
            refine qw_iincN 1 dX9_spotsOf_76 rfl (by decide) rfl (by decide) ?_
            refine qw_goto 6 dX9_spotsOf_79 (by decide) ?_
            have e8 : c i = true := hc1 i (by omega) ⟨(Or.inl c33), (Or.inl c53)⟩
            have e7 : g_hs (M (m + 2)) i s = 1 := by have := hW.hs (i := i) (by omega) s; omega
            have h := ih (i + 1) (by omega) (by omega)
            rw [g_so] at h
            rw [if_pos e8, e7] at h
            exact qw_weak _ (by simp [lq_le]) h
        · refine qw_iload dX9_spotsOf_56 rfl ?_
          refine qw_iload dX9_spotsOf_58 rfl ?_
          refine qw_icmp_ne 76 dX9_spotsOf_60 (by decide) (fun c60 => ?_) (fun c60 => ?_)
          · refine qw_iincN 1 dX9_spotsOf_76 rfl (by decide) rfl (by decide) ?_
            refine qw_goto 6 dX9_spotsOf_79 (by decide) ?_
            have e9 : (if c i = true then g_hs (M (m + 2)) i s else 0) = 0 := by
                by_cases q9 : c i = true
                · rw [if_pos q9]; exact hc2 i (by omega) (fun q => (q.2.elim c53 c60)) q9
                · exact if_neg q9
            have h := ih (i + 1) (by omega) (by omega)
            rw [g_so] at h
            rw [e9, Nat.add_zero] at h
            exact qw_weak _ (by simp [lq_le]) h
          · refine qw_aload_n 0 dX9_spotsOf_63 rfl rfl ?_
            refine qw_iload dX9_spotsOf_64 rfl ?_
            refine qw_iload_n 1 dX9_spotsOf_66 rfl rfl ?_
            refine qw_cvp [_, _] (k_X9_hasSpot h9 hW (by omega) hs) mX9_191 dX9_spotsOf_67 h9.1 rfl rfl rfl (Nat.le_of_ble_eq_true rfl) (by omega) (by decide) rfl ?_
            have hhs := hW.hs (i := i) (by omega) s
            refine qw_if_eqN 76 dX9_spotsOf_70 (by decide) (by omega) (fun c70 => ?_) (fun c70 => ?_)
            · refine qw_iincN 1 dX9_spotsOf_76 rfl (by decide) rfl (by decide) ?_
              refine qw_goto 6 dX9_spotsOf_79 (by decide) ?_
              have e8 : c i = true := hc1 i (by omega) ⟨(Or.inl c33), (Or.inr c60)⟩
              have h := ih (i + 1) (by omega) (by omega)
              rw [g_so] at h
              rw [if_pos e8, c70, Nat.add_zero] at h
              exact qw_weak _ (by simp [lq_le]) h
            · refine qw_iincN 1 dX9_spotsOf_73 rfl (by decide) rfl (by decide) ?_
              refine qw_iincN 1 dX9_spotsOf_76 rfl (by decide) rfl (by decide) ?_
              refine qw_goto 6 dX9_spotsOf_79 (by decide) ?_
              have e8 : c i = true := hc1 i (by omega) ⟨(Or.inl c33), (Or.inr c60)⟩
              have e7 : g_hs (M (m + 2)) i s = 1 := by have := hW.hs (i := i) (by omega) s; omega
              have h := ih (i + 1) (by omega) (by omega)
              rw [g_so] at h
              rw [if_pos e8, e7] at h
              exact qw_weak _ (by simp [lq_le]) h
      · refine qw_aload_n 0 dX9_spotsOf_36 rfl rfl ?_
        refine qw_getr fX9_17 dX9_spotsOf_37 h9.1 rfl ?_
        refine qw_iload dX9_spotsOf_40 rfl ?_
        refine qw_csp [_] (k_X9_at) mX9_44 dX9_spotsOf_42 rfl rfl (Nat.le_of_ble_eq_true rfl) (by omega) (by decide) rfl ?_
        refine qw_iald dX9_spotsOf_45 h9.da (by omega) (by omega) ?_
        refine qw_iload_n 2 dX9_spotsOf_46 rfl rfl ?_
        refine qw_icmp_ne 76 dX9_spotsOf_47 (by decide) (fun c47 => ?_) (fun c47 => ?_)
        · refine qw_iincN 1 dX9_spotsOf_76 rfl (by decide) rfl (by decide) ?_
          refine qw_goto 6 dX9_spotsOf_79 (by decide) ?_
          have e9 : (if c i = true then g_hs (M (m + 2)) i s else 0) = 0 := by
              by_cases q9 : c i = true
              · rw [if_pos q9]; exact hc2 i (by omega) (fun q => (q.1.elim c33 c47)) q9
              · exact if_neg q9
          have h := ih (i + 1) (by omega) (by omega)
          rw [g_so] at h
          rw [e9, Nat.add_zero] at h
          exact qw_weak _ (by simp [lq_le]) h
        · refine qw_iload dX9_spotsOf_50 rfl ?_
          refine qw_iload_n 3 dX9_spotsOf_52 rfl rfl ?_
          refine qw_icmp_eq 63 dX9_spotsOf_53 (by decide) (fun c53 => ?_) (fun c53 => ?_)
          · refine qw_aload_n 0 dX9_spotsOf_63 rfl rfl ?_
            refine qw_iload dX9_spotsOf_64 rfl ?_
            refine qw_iload_n 1 dX9_spotsOf_66 rfl rfl ?_
            refine qw_cvp [_, _] (k_X9_hasSpot h9 hW (by omega) hs) mX9_191 dX9_spotsOf_67 h9.1 rfl rfl rfl (Nat.le_of_ble_eq_true rfl) (by omega) (by decide) rfl ?_
            have hhs := hW.hs (i := i) (by omega) s
            refine qw_if_eqN 76 dX9_spotsOf_70 (by decide) (by omega) (fun c70 => ?_) (fun c70 => ?_)
            · refine qw_iincN 1 dX9_spotsOf_76 rfl (by decide) rfl (by decide) ?_
              refine qw_goto 6 dX9_spotsOf_79 (by decide) ?_
              have e8 : c i = true := hc1 i (by omega) ⟨(Or.inr c47), (Or.inl c53)⟩
              have h := ih (i + 1) (by omega) (by omega)
              rw [g_so] at h
              rw [if_pos e8, c70, Nat.add_zero] at h
              exact qw_weak _ (by simp [lq_le]) h
            · refine qw_iincN 1 dX9_spotsOf_73 rfl (by decide) rfl (by decide) ?_
              refine qw_iincN 1 dX9_spotsOf_76 rfl (by decide) rfl (by decide) ?_
              refine qw_goto 6 dX9_spotsOf_79 (by decide) ?_
              have e8 : c i = true := hc1 i (by omega) ⟨(Or.inr c47), (Or.inl c53)⟩
              have e7 : g_hs (M (m + 2)) i s = 1 := by have := hW.hs (i := i) (by omega) s; omega
              have h := ih (i + 1) (by omega) (by omega)
              rw [g_so] at h
              rw [if_pos e8, e7] at h
              exact qw_weak _ (by simp [lq_le]) h
          · refine qw_iload dX9_spotsOf_56 rfl ?_
            refine qw_iload dX9_spotsOf_58 rfl ?_
            refine qw_icmp_ne 76 dX9_spotsOf_60 (by decide) (fun c60 => ?_) (fun c60 => ?_)
            · refine qw_iincN 1 dX9_spotsOf_76 rfl (by decide) rfl (by decide) ?_
              refine qw_goto 6 dX9_spotsOf_79 (by decide) ?_
              have e9 : (if c i = true then g_hs (M (m + 2)) i s else 0) = 0 := by
                  by_cases q9 : c i = true
                  · rw [if_pos q9]; exact hc2 i (by omega) (fun q => (q.2.elim c53 c60)) q9
                  · exact if_neg q9
              have h := ih (i + 1) (by omega) (by omega)
              rw [g_so] at h
              rw [e9, Nat.add_zero] at h
              exact qw_weak _ (by simp [lq_le]) h
            · refine qw_aload_n 0 dX9_spotsOf_63 rfl rfl ?_
              refine qw_iload dX9_spotsOf_64 rfl ?_
              refine qw_iload_n 1 dX9_spotsOf_66 rfl rfl ?_
              refine qw_cvp [_, _] (k_X9_hasSpot h9 hW (by omega) hs) mX9_191 dX9_spotsOf_67 h9.1 rfl rfl rfl (Nat.le_of_ble_eq_true rfl) (by omega) (by decide) rfl ?_
              have hhs := hW.hs (i := i) (by omega) s
              refine qw_if_eqN 76 dX9_spotsOf_70 (by decide) (by omega) (fun c70 => ?_) (fun c70 => ?_)
              · refine qw_iincN 1 dX9_spotsOf_76 rfl (by decide) rfl (by decide) ?_
                refine qw_goto 6 dX9_spotsOf_79 (by decide) ?_
                have e8 : c i = true := hc1 i (by omega) ⟨(Or.inr c47), (Or.inr c60)⟩
                have h := ih (i + 1) (by omega) (by omega)
                rw [g_so] at h
                rw [if_pos e8, c70, Nat.add_zero] at h
                exact qw_weak _ (by simp [lq_le]) h
              · refine qw_iincN 1 dX9_spotsOf_73 rfl (by decide) rfl (by decide) ?_
                refine qw_iincN 1 dX9_spotsOf_76 rfl (by decide) rfl (by decide) ?_
                refine qw_goto 6 dX9_spotsOf_79 (by decide) ?_
                have e8 : c i = true := hc1 i (by omega) ⟨(Or.inr c47), (Or.inr c60)⟩
                have e7 : g_hs (M (m + 2)) i s = 1 := by have := hW.hs (i := i) (by omega) s; omega
                have h := ih (i + 1) (by omega) (by omega)
                rw [g_so] at h
                rw [if_pos e8, e7] at h
                exact qw_weak _ (by simp [lq_le]) h
theorem k_X9_spotsOf (h9 : sh9 S m fh fo) (hW : g_wf (M (m + 2))) {s : Nat} (hs : s < 2 ^ 31) {dy o1 o2 : Int32} {c : Nat → Bool} (hc1 : ∀ i, i < M (m + 2) 0 → q_sc (M (m + 2)) dy o1 o2 i → c i = true) (hc2 : ∀ i, i < M (m + 2) 0 → ¬ q_sc (M (m + 2)) dy o1 o2 i → c i = true → g_hs (M (m + 2)) i s = 0) : LM G YX9_spotsOf 3 0 0 [.ref m, .int (nI s), .int dy, .int o1, .int o2] z S M N (lq_pu z S M N (.int (nI (g_so (M (m + 2)) s c (M (m + 2) 0))))) lq_no := by
  refine LM.of (by decide) rfl [some (.ref m), some (.int (nI s)), some (.int dy), some (.int o1), some (.int o2), none, none, none] rfl (Nat.le_of_ble_eq_true rfl) ?_
  refine qw_iconst (nI 0) dX9_spotsOf_0 (by decide) ?_
  refine qw_istore dX9_spotsOf_1 rfl (by decide) ?_
  refine qw_iconst (nI 0) dX9_spotsOf_3 (by decide) ?_
  refine qw_istore dX9_spotsOf_4 rfl (by decide) ?_
  exact l_X9_spotsOf h9 hW hs hc1 hc2 (M (m + 2) 0 + 1) 0 (Nat.zero_le _) (by omega)
theorem q_cz {g : Nat → Nat} (hW : g_wf g) {i s : Nat} (hi : i < g 0) (h : ¬ (nI (g (11 + 30 * i)) = nI 0 ∨ nI (g (11 + 30 * i)) = nI 1)) : g_hs g i s = 0 := by
  have hb := hW.br hi
  have h0 : g (11 + 30 * i) ≠ 0 := fun q => h (Or.inl (by rw [q]))
  have h1 : g (11 + 30 * i) ≠ 1 := fun q => h (Or.inr (by rw [q]))
  have h2 := hb.2.2.2.2.2.2 (by omega)
  unfold g_hs
  rw [h2]
  rfl
theorem k_X9_so_a (h9 : sh9 S m fh fo) (hW : g_wf (M (m + 2))) {s : Nat} (hs : s < 2 ^ 31) : LM G YX9_spotsOf 3 0 0 [.ref m, .int (nI s), .int (-1), .int (nI 0), .int (nI 1)] z S M N (lq_pu z S M N (.int (nI (g_sa (M (m + 2)) s)))) lq_no := k_X9_spotsOf (c := fun _ => true) h9 hW hs (fun _ _ _ => rfl) (fun i hi h _ => q_cz hW hi (fun q => h ⟨Or.inl rfl, q⟩))
theorem k_X9_so_d (h9 : sh9 S m fh fo) (hW : g_wf (M (m + 2))) {s dd : Nat} (hs : s < 2 ^ 31) (hd : dd < 2 ^ 31) : LM G YX9_spotsOf 3 0 0 [.ref m, .int (nI s), .int (nI dd), .int (nI 0), .int (nI 1)] z S M N (lq_pu z S M N (.int (nI (g_sd (M (m + 2)) s dd)))) lq_no := k_X9_spotsOf h9 hW hs (fun i hi h => by
    have hb := hW.br hi
    refine decide_eq_true ?_
    rcases h.1 with q | q
    · have h1 := nI_toInt hd
      rw [q] at h1
      have : (-1 : Int32).toInt = -1 := rfl
      omega
    · exact (nI_eq (by omega) hd).mp q) (fun i hi h hc => q_cz hW hi (fun q => h ⟨Or.inr (by rw [of_decide_eq_true hc]), q⟩))
theorem k_X9_so_1 (h9 : sh9 S m fh fo) (hW : g_wf (M (m + 2))) {s : Nat} (hs : s < 2 ^ 31) : LM G YX9_spotsOf 3 0 0 [.ref m, .int (nI s), .int (-1), .int (nI 1), .int (nI 1)] z S M N (lq_pu z S M N (.int (nI (g_s1 (M (m + 2)) s)))) lq_no := k_X9_spotsOf h9 hW hs (fun i hi h => by
    have hb := hW.br hi
    refine decide_eq_true ?_
    rcases h.2 with q | q
    · exact (nI_eq (by omega) (by decide)).mp q
    · exact (nI_eq (by omega) (by decide)).mp q) (fun i hi h hc => absurd ⟨Or.inl rfl, Or.inl (by rw [of_decide_eq_true hc])⟩ h)
theorem k_X9_clash (h9 : sh9 S m fh fo) (hW : g_wf (M (m + 2))) {s t : Nat} (hs : s < 8) (ht : t < 8) : LM G YX9_clash 0 0 0 [.ref m, .int (nI s), .int (nI t)] z S M N (lq_pu z S M N (.int (nI (g_cl (M (m + 2)) s t)))) lq_no := by
  have hb1 := (hW.cat hs).1
  have hb2 := (hW.cat ht).1
  have hcl : M (m + 2) (623 + 10 * M (m + 2) (607 + 2 * s) + M (m + 2) (607 + 2 * t)) ≤ 1 := (hW.cl hs ht).1
  refine LM.of (by decide) rfl [some (.ref m), some (.int (nI s)), some (.int (nI t))] rfl (Nat.le_of_ble_eq_true rfl) ?_
  refine qw_aload_n 0 dX9_clash_0 rfl rfl ?_
  refine qw_getr fX9_17 dX9_clash_1 h9.1 rfl ?_
  refine qw_sipush (nI 623) dX9_clash_4 (by decide) ?_
  refine qw_bipush (nI 10) dX9_clash_7 (by decide) ?_
  refine qw_aload_n 0 dX9_clash_9 rfl rfl ?_
  refine qw_getr fX9_17 dX9_clash_10 h9.1 rfl ?_
  refine qw_sipush (nI 607) dX9_clash_13 (by decide) ?_
  refine qw_iconst (nI 2) dX9_clash_16 (by decide) ?_
  refine qw_iload_n 1 dX9_clash_17 rfl rfl ?_
  refine qw_mulN dX9_clash_18 ?_
  refine qw_addN dX9_clash_19 ?_
  refine qw_iald dX9_clash_20 h9.da (by omega) (by omega) ?_
  refine qw_mulN dX9_clash_21 ?_
  refine qw_addN dX9_clash_22 ?_
  refine qw_aload_n 0 dX9_clash_23 rfl rfl ?_
  refine qw_getr fX9_17 dX9_clash_24 h9.1 rfl ?_
  refine qw_sipush (nI 607) dX9_clash_27 (by decide) ?_
  refine qw_iconst (nI 2) dX9_clash_30 (by decide) ?_
  refine qw_iload_n 2 dX9_clash_31 rfl rfl ?_
  refine qw_mulN dX9_clash_32 ?_
  refine qw_addN dX9_clash_33 ?_
  refine qw_iald dX9_clash_34 h9.da (by omega) (by omega) ?_
  refine qw_addN dX9_clash_35 ?_
  refine qw_iald dX9_clash_36 h9.da (by omega) (by omega) ?_
  refine qw_iconst (nI 1) dX9_clash_37 (by decide) ?_
  refine qw_icmp_neN 45 dX9_clash_38 (by decide) (by omega) (by omega) (fun c38 => ?_) (fun c38 => ?_)
  · refine qw_iconst (nI 0) dX9_clash_45 (by decide) ?_
    exact qw_ireturn rfl (by decide) dX9_clash_46 ⟨by rw [show g_cl (M (m + 2)) s t = 0 by unfold g_cl; omega], rfl, rfl, rfl, rfl⟩
  · refine qw_iconst (nI 1) dX9_clash_41 (by decide) ?_
    refine qw_goto 46 dX9_clash_42 (by decide) ?_
    exact qw_ireturn rfl (by decide) dX9_clash_46 ⟨by rw [show g_cl (M (m + 2)) s t = 1 from c38], rfl, rfl, rfl, rfl⟩
theorem l_X9_placeFor (h9 : sh9 S m fh fo) (hW : g_wf (M (m + 2))) {i : Nat} (hi : i < M (m + 2) 0) {s : Nat} (hs : s < M (m + 2) 1) : ∀ (n9 p : Nat), p ≤ M (m + 2) (12 + 30 * i) + 1 → M (m + 2) (12 + 30 * i) + 1 - p < n9 → (∀ q, q < p → ¬ g_fit (M (m + 2)) s i q) → LW G YX9_placeFor 2 0 0 (lq_pu z S M N (.int (if g_pf (M (m + 2)) s i = M (m + 2) (12 + 30 * i) + 1 then -1 else nI (g_pf (M (m + 2)) s i)))) lq_no z S M N 2 [some (.ref m), some (.int (nI s)), some (.int (nI i)), some (.int (nI p)), none] [] := by
  intro n9
  induction n9 with
  | zero => intro _ _ _ _; omega
  | succ n9 ih =>
    intro p hp hn9 hno
    have h20 := hW.nb
    have h8 := hW.ns
    have hc8 := (hW.br hi).2.2.2.2.2.1
    refine qw_iload_n 3 dX9_placeFor_2 rfl rfl ?_
    refine qw_aload_n 0 dX9_placeFor_3 rfl rfl ?_
    refine qw_iload_n 2 dX9_placeFor_4 rfl rfl ?_
    refine qw_cvp [_] (k_X9_countOf h9 (by omega)) mX9_185 dX9_placeFor_5 h9.1 rfl rfl rfl (Nat.le_of_ble_eq_true rfl) (by omega) (by decide) rfl ?_
    refine qw_icmp_gtN 82 dX9_placeFor_8 (by decide) (by omega) (by omega) (fun c8 => ?_) (fun c8 => ?_)
    · refine qw_iconst (-1) dX9_placeFor_82 (by decide) ?_
      exact qw_ireturn rfl rfl dX9_placeFor_83 ⟨by rw [g_pf, q_fst_miss (fun j hj q => hno j (by omega) (g_fiN_1.mp q)), if_pos rfl], rfl, rfl, rfl, rfl⟩
    · refine qw_iload_n 3 dX9_placeFor_11 rfl rfl ?_
      refine qw_if_eqN 35 dX9_placeFor_12 (by decide) (by omega) (fun c12 => ?_) (fun c12 => ?_)
      · refine qw_iconst (nI 1) dX9_placeFor_35 (by decide) ?_
        refine qw_goto 40 dX9_placeFor_36 (by decide) ?_
        refine qw_istore dX9_placeFor_40 rfl (by decide) ?_
        refine qw_iload dX9_placeFor_42 rfl ?_
        refine qw_if_eqN 76 dX9_placeFor_44 (by decide) (by omega) (fun c44 => absurd c44 (by decide)) (fun c44 => ?_)
        refine qw_iload_n 3 dX9_placeFor_47 rfl rfl ?_
        refine qw_aload_n 0 dX9_placeFor_48 rfl rfl ?_
        refine qw_iload_n 2 dX9_placeFor_49 rfl rfl ?_
        refine qw_cvp [_] (k_X9_countOf h9 (by omega)) mX9_185 dX9_placeFor_50 h9.1 rfl rfl rfl (Nat.le_of_ble_eq_true rfl) (by omega) (by decide) rfl ?_
        refine qw_icmp_eqN 74 dX9_placeFor_53 (by decide) (by omega) (by omega) (fun c53 => ?_) (fun c53 => ?_)
        · refine qw_iload_n 3 dX9_placeFor_74 rfl rfl ?_
          exact qw_ireturn rfl rfl dX9_placeFor_75 ⟨by rw [g_pf, q_fst_hit (i := p) (by omega) (g_fiN_1.mpr ⟨Or.inl c12, Or.inl c53⟩) (fun j hj q => hno j hj (g_fiN_1.mp q)), if_neg (by omega)], rfl, rfl, rfl, rfl⟩
        · refine qw_aload_n 0 dX9_placeFor_56 rfl rfl ?_
          refine qw_iload_n 1 dX9_placeFor_57 rfl rfl ?_
          refine qw_aload_n 0 dX9_placeFor_58 rfl rfl ?_
          refine qw_getr fX9_17 dX9_placeFor_59 h9.1 rfl ?_
          refine qw_iload_n 2 dX9_placeFor_62 rfl rfl ?_
          refine qw_iload_n 3 dX9_placeFor_63 rfl rfl ?_
          refine qw_csp [_, _] (k_X9_spotAt) mX9_188 dX9_placeFor_64 rfl rfl (Nat.le_of_ble_eq_true rfl) (by omega) (by decide) rfl ?_
          refine qw_iald dX9_placeFor_67 h9.da (by omega) (by omega) ?_
          have hsp := (hW.sp hi (p := p) (by omega)).1
          have hcp := (hW.cl (s := s) (t := M (m + 2) (13 + 30 * i + 3 * p)) (by omega) (by omega)).1
          refine qw_cvp [_, _] (k_X9_clash h9 hW (by omega) (by omega)) mX9_195 dX9_placeFor_68 h9.1 rfl rfl rfl (Nat.le_of_ble_eq_true rfl) (by omega) (by decide) rfl ?_
          refine qw_if_neN 76 dX9_placeFor_71 (by decide) (by omega) (fun c71 => ?_) (fun c71 => ?_)
          · refine qw_iincN 1 dX9_placeFor_76 rfl (by decide) rfl (by decide) ?_
            refine qw_goto 2 dX9_placeFor_79 (by decide) ?_
            refine qw_weak _ (by simp [lq_le]) (ih (p + 1) (by omega) (by omega) (fun q hq => ?_))
            rcases Nat.lt_or_ge q p with h9 | h9
            · exact hno q h9
            · rw [show q = p by omega]; exact (fun q => q.2.elim c53 c71)
          · refine qw_iload_n 3 dX9_placeFor_74 rfl rfl ?_
            exact qw_ireturn rfl rfl dX9_placeFor_75 ⟨by rw [g_pf, q_fst_hit (i := p) (by omega) (g_fiN_1.mpr ⟨Or.inl c12, Or.inr c71⟩) (fun j hj q => hno j hj (g_fiN_1.mp q)), if_neg (by omega)], rfl, rfl, rfl, rfl⟩
      · refine qw_aload_n 0 dX9_placeFor_15 rfl rfl ?_
        refine qw_aload_n 0 dX9_placeFor_16 rfl rfl ?_
        refine qw_getr fX9_17 dX9_placeFor_17 h9.1 rfl ?_
        refine qw_iload_n 2 dX9_placeFor_20 rfl rfl ?_
        refine qw_iload_n 3 dX9_placeFor_21 rfl rfl ?_
        refine qw_iconst (nI 1) dX9_placeFor_22 (by decide) ?_
        refine qw_subN (by omega) dX9_placeFor_23 ?_
        refine qw_csp [_, _] (k_X9_spotAt) mX9_188 dX9_placeFor_24 rfl rfl (Nat.le_of_ble_eq_true rfl) (by omega) (by decide) rfl ?_
        refine qw_iald dX9_placeFor_27 h9.da (by omega) (by omega) ?_
        have hsm := (hW.sp hi (p := p - 1) (by omega)).1
        have hcm := (hW.cl (s := M (m + 2) (13 + 30 * i + 3 * (p - 1))) (t := s) (by omega) (by omega)).1
        refine qw_iload_n 1 dX9_placeFor_28 rfl rfl ?_
        refine qw_cvp [_, _] (k_X9_clash h9 hW (by omega) (by omega)) mX9_195 dX9_placeFor_29 h9.1 rfl rfl rfl (Nat.le_of_ble_eq_true rfl) (by omega) (by decide) rfl ?_
        refine qw_if_neN 39 dX9_placeFor_32 (by decide) (by omega) (fun c32 => ?_) (fun c32 => ?_)
        · refine qw_iconst (nI 0) dX9_placeFor_39 (by decide) ?_
          refine qw_istore dX9_placeFor_40 rfl (by decide) ?_
          refine qw_iload dX9_placeFor_42 rfl ?_
          refine qw_if_eqN 76 dX9_placeFor_44 (by decide) (by omega) (fun c44 => ?_) (fun c44 => absurd rfl c44)
          refine qw_iincN 1 dX9_placeFor_76 rfl (by decide) rfl (by decide) ?_
          refine qw_goto 2 dX9_placeFor_79 (by decide) ?_
          refine qw_weak _ (by simp [lq_le]) (ih (p + 1) (by omega) (by omega) (fun q hq => ?_))
          rcases Nat.lt_or_ge q p with h9 | h9
          · exact hno q h9
          · rw [show q = p by omega]; exact (fun q => q.1.elim c12 (fun z => c32 ((hW.cl (by omega) (by omega)).2.trans z)))
        · refine qw_iconst (nI 1) dX9_placeFor_35 (by decide) ?_
          refine qw_goto 40 dX9_placeFor_36 (by decide) ?_
          refine qw_istore dX9_placeFor_40 rfl (by decide) ?_
          refine qw_iload dX9_placeFor_42 rfl ?_
          refine qw_if_eqN 76 dX9_placeFor_44 (by decide) (by omega) (fun c44 => absurd c44 (by decide)) (fun c44 => ?_)
          refine qw_iload_n 3 dX9_placeFor_47 rfl rfl ?_
          refine qw_aload_n 0 dX9_placeFor_48 rfl rfl ?_
          refine qw_iload_n 2 dX9_placeFor_49 rfl rfl ?_
          refine qw_cvp [_] (k_X9_countOf h9 (by omega)) mX9_185 dX9_placeFor_50 h9.1 rfl rfl rfl (Nat.le_of_ble_eq_true rfl) (by omega) (by decide) rfl ?_
          refine qw_icmp_eqN 74 dX9_placeFor_53 (by decide) (by omega) (by omega) (fun c53 => ?_) (fun c53 => ?_)
          · refine qw_iload_n 3 dX9_placeFor_74 rfl rfl ?_
            exact qw_ireturn rfl rfl dX9_placeFor_75 ⟨by rw [g_pf, q_fst_hit (i := p) (by omega) (g_fiN_1.mpr ⟨Or.inr ((hW.cl (by omega) (by omega)).2.trans c32), Or.inl c53⟩) (fun j hj q => hno j hj (g_fiN_1.mp q)), if_neg (by omega)], rfl, rfl, rfl, rfl⟩
          · refine qw_aload_n 0 dX9_placeFor_56 rfl rfl ?_
            refine qw_iload_n 1 dX9_placeFor_57 rfl rfl ?_
            refine qw_aload_n 0 dX9_placeFor_58 rfl rfl ?_
            refine qw_getr fX9_17 dX9_placeFor_59 h9.1 rfl ?_
            refine qw_iload_n 2 dX9_placeFor_62 rfl rfl ?_
            refine qw_iload_n 3 dX9_placeFor_63 rfl rfl ?_
            refine qw_csp [_, _] (k_X9_spotAt) mX9_188 dX9_placeFor_64 rfl rfl (Nat.le_of_ble_eq_true rfl) (by omega) (by decide) rfl ?_
            refine qw_iald dX9_placeFor_67 h9.da (by omega) (by omega) ?_
            have hsp := (hW.sp hi (p := p) (by omega)).1
            have hcp := (hW.cl (s := s) (t := M (m + 2) (13 + 30 * i + 3 * p)) (by omega) (by omega)).1
            refine qw_cvp [_, _] (k_X9_clash h9 hW (by omega) (by omega)) mX9_195 dX9_placeFor_68 h9.1 rfl rfl rfl (Nat.le_of_ble_eq_true rfl) (by omega) (by decide) rfl ?_
            refine qw_if_neN 76 dX9_placeFor_71 (by decide) (by omega) (fun c71 => ?_) (fun c71 => ?_)
            · refine qw_iincN 1 dX9_placeFor_76 rfl (by decide) rfl (by decide) ?_
              refine qw_goto 2 dX9_placeFor_79 (by decide) ?_
              refine qw_weak _ (by simp [lq_le]) (ih (p + 1) (by omega) (by omega) (fun q hq => ?_))
              rcases Nat.lt_or_ge q p with h9 | h9
              · exact hno q h9
              · rw [show q = p by omega]; exact (fun q => q.2.elim c53 c71)
            · refine qw_iload_n 3 dX9_placeFor_74 rfl rfl ?_
              exact qw_ireturn rfl rfl dX9_placeFor_75 ⟨by rw [g_pf, q_fst_hit (i := p) (by omega) (g_fiN_1.mpr ⟨Or.inr ((hW.cl (by omega) (by omega)).2.trans c32), Or.inr c71⟩) (fun j hj q => hno j hj (g_fiN_1.mp q)), if_neg (by omega)], rfl, rfl, rfl, rfl⟩
theorem k_X9_placeFor (h9 : sh9 S m fh fo) (hW : g_wf (M (m + 2))) {i : Nat} (hi : i < M (m + 2) 0) {s : Nat} (hs : s < M (m + 2) 1) : LM G YX9_placeFor 2 0 0 [.ref m, .int (nI s), .int (nI i)] z S M N (lq_pu z S M N (.int (if g_pf (M (m + 2)) s i = M (m + 2) (12 + 30 * i) + 1 then -1 else nI (g_pf (M (m + 2)) s i)))) lq_no := by
  refine LM.of (by decide) rfl [some (.ref m), some (.int (nI s)), some (.int (nI i)), none, none] rfl (Nat.le_of_ble_eq_true rfl) ?_
  refine qw_iconst (nI 0) dX9_placeFor_0 (by decide) ?_
  refine qw_istore_n 3 dX9_placeFor_1 rfl rfl (by decide) ?_
  exact l_X9_placeFor h9 hW hi hs (M (m + 2) (12 + 30 * i) + 1 + 1) 0 (Nat.zero_le _) (by omega) (fun q hq => absurd hq (Nat.not_lt_zero q))
theorem k_X9_reasonOf (h9 : sh9 S m fh fo) (hW : g_wf (M (m + 2))) {i : Nat} (hi : i < M (m + 2) 0) {s : Nat} (hs : s < M (m + 2) 1) {l : Nat} (hl : l ≤ 60) : LM G YX9_reasonOf 4 0 0 [.ref m, .int (nI s), .int (nI l), .int (nI i)] z S M N (lq_pu z S M N (.int (nI (g_rs (M (m + 2)) s l i)))) lq_no := by
  have h20 := hW.nb
  have h8 := hW.ns
  have hb := hW.br hi
  have hhs := hW.hs hi s
  have hus := hW.us hi
  have hcp := (hW.cat (s := s) (by omega)).2
  have hsd : g_sd (M (m + 2)) s (M (m + 2) (7 + 30 * i)) ≤ 20 := Nat.le_trans (g_so_le hW s _ _ (Nat.le_refl _)) h20
  have hpf := g_pf_le (M (m + 2)) s i
  refine LM.of (by decide) rfl [some (.ref m), some (.int (nI s)), some (.int (nI l)), some (.int (nI i)), none] rfl (Nat.le_of_ble_eq_true rfl) ?_
  refine qw_iload_n 3 dX9_reasonOf_0 rfl rfl ?_
  refine qw_csp [_] (k_X9_at) mX9_44 dX9_reasonOf_1 rfl rfl (Nat.le_of_ble_eq_true rfl) (by omega) (by decide) rfl ?_
  refine qw_istore dX9_reasonOf_4 rfl (by decide) ?_
  refine qw_aload_n 0 dX9_reasonOf_6 rfl rfl ?_
  refine qw_getr fX9_17 dX9_reasonOf_7 h9.1 rfl ?_
  refine qw_iload dX9_reasonOf_10 rfl ?_
  refine qw_iconst (nI 4) dX9_reasonOf_12 (by decide) ?_
  refine qw_addN dX9_reasonOf_13 ?_
  refine qw_iaj (11 + 30 * i) (by omega) dX9_reasonOf_14 h9.da (by omega) (by omega) ?_
  refine qw_if_eqN 20 dX9_reasonOf_15 (by decide) (by omega) (fun c15 => ?_) (fun c15 => ?_)
  · refine qw_aload_n 0 dX9_reasonOf_20 rfl rfl ?_
    refine qw_iload_n 3 dX9_reasonOf_21 rfl rfl ?_
    refine qw_iload_n 1 dX9_reasonOf_22 rfl rfl ?_
    refine qw_cvp [_, _] (k_X9_hasSpot h9 hW hi (by omega)) mX9_191 dX9_reasonOf_23 h9.1 rfl rfl rfl (Nat.le_of_ble_eq_true rfl) (by omega) (by decide) rfl ?_
    refine qw_if_eqN 31 dX9_reasonOf_26 (by decide) (by omega) (fun c26 => ?_) (fun c26 => ?_)
    · refine qw_aload_n 0 dX9_reasonOf_31 rfl rfl ?_
      refine qw_iload_n 1 dX9_reasonOf_32 rfl rfl ?_
      refine qw_aload_n 0 dX9_reasonOf_33 rfl rfl ?_
      refine qw_getr fX9_17 dX9_reasonOf_34 h9.1 rfl ?_
      refine qw_iload dX9_reasonOf_37 rfl ?_
      refine qw_iald dX9_reasonOf_39 h9.da (by omega) (by omega) ?_
      refine qw_iconst (nI 0) dX9_reasonOf_40 (by decide) ?_
      refine qw_iconst (nI 1) dX9_reasonOf_41 (by decide) ?_
      refine qw_cvp [_, _, _, _] (k_X9_so_d h9 hW (by omega) (by omega)) mX9_198 dX9_reasonOf_42 h9.1 rfl rfl rfl (Nat.le_of_ble_eq_true rfl) (by omega) (by decide) rfl ?_
      refine qw_aload_n 0 dX9_reasonOf_45 rfl rfl ?_
      refine qw_getr fX9_17 dX9_reasonOf_46 h9.1 rfl ?_
      refine qw_sipush (nI 607) dX9_reasonOf_49 (by decide) ?_
      refine qw_iconst (nI 2) dX9_reasonOf_52 (by decide) ?_
      refine qw_iload_n 1 dX9_reasonOf_53 rfl rfl ?_
      refine qw_mulN dX9_reasonOf_54 ?_
      refine qw_addN dX9_reasonOf_55 ?_
      refine qw_iconst (nI 1) dX9_reasonOf_56 (by decide) ?_
      refine qw_addN dX9_reasonOf_57 ?_
      refine qw_iaj (608 + 2 * s) (by omega) dX9_reasonOf_58 h9.da (by omega) (by omega) ?_
      refine qw_icmp_ltN 64 dX9_reasonOf_59 (by decide) (by omega) (by omega) (fun c59 => ?_) (fun c59 => ?_)
      · refine qw_aload_n 0 dX9_reasonOf_64 rfl rfl ?_
        refine qw_iload_n 3 dX9_reasonOf_65 rfl rfl ?_
        refine qw_cvp [_] (k_X9_usedOf h9 hW hi) mX9_202 dX9_reasonOf_66 h9.1 rfl rfl rfl (Nat.le_of_ble_eq_true rfl) (by omega) (by decide) rfl ?_
        refine qw_iload_n 2 dX9_reasonOf_69 rfl rfl ?_
        refine qw_addN dX9_reasonOf_70 ?_
        refine qw_aload_n 0 dX9_reasonOf_71 rfl rfl ?_
        refine qw_getr fX9_17 dX9_reasonOf_72 h9.1 rfl ?_
        refine qw_iload dX9_reasonOf_75 rfl ?_
        refine qw_iconst (nI 2) dX9_reasonOf_77 (by decide) ?_
        refine qw_addN dX9_reasonOf_78 ?_
        refine qw_iaj (9 + 30 * i) (by omega) dX9_reasonOf_79 h9.da (by omega) (by omega) ?_
        refine qw_icmp_leN 85 dX9_reasonOf_80 (by decide) (by omega) (by omega) (fun c80 => ?_) (fun c80 => ?_)
        · refine qw_aload_n 0 dX9_reasonOf_85 rfl rfl ?_
          refine qw_iload_n 1 dX9_reasonOf_86 rfl rfl ?_
          refine qw_iload_n 3 dX9_reasonOf_87 rfl rfl ?_
          refine qw_cvp [_, _] (k_X9_placeFor h9 hW hi hs) mX9_205 dX9_reasonOf_88 h9.1 rfl rfl rfl (Nat.le_of_ble_eq_true rfl) (by omega) (by decide) rfl ?_
          refine qw_iconst (-1) dX9_reasonOf_91 (by decide) ?_
          refine qw_icmp_ne 99 dX9_reasonOf_92 (by decide) (fun c92 => ?_) (fun c92 => ?_)
          · refine qw_iconst (nI 0) dX9_reasonOf_99 (by decide) ?_
            exact qw_ireturn rfl rfl dX9_reasonOf_100 ⟨by rw [g_rs_0 c15 (by omega) (by omega) (by omega) (fun q => c92 ((q_pfv1 hpf (by omega)).mpr q))], rfl, rfl, rfl, rfl⟩
          · refine qw_iconst (nI 5) dX9_reasonOf_95 (by decide) ?_
            refine qw_goto 100 dX9_reasonOf_96 (by decide) ?_
            exact qw_ireturn rfl rfl dX9_reasonOf_100 ⟨by rw [g_rs_5 c15 (by omega) (by omega) (by omega) ((q_pfv1 hpf (by omega)).mp c92)], rfl, rfl, rfl, rfl⟩
        · refine qw_iconst (nI 4) dX9_reasonOf_83 (by decide) ?_
          exact qw_ireturn rfl rfl dX9_reasonOf_84 ⟨by rw [g_rs_4 c15 (by omega) (by omega) (by omega)], rfl, rfl, rfl, rfl⟩
      · refine qw_iconst (nI 3) dX9_reasonOf_62 (by decide) ?_
        exact qw_ireturn rfl rfl dX9_reasonOf_63 ⟨by rw [g_rs_3 c15 (by omega) c59], rfl, rfl, rfl, rfl⟩
    · refine qw_iconst (nI 2) dX9_reasonOf_29 (by decide) ?_
      exact qw_ireturn rfl rfl dX9_reasonOf_30 ⟨by rw [g_rs_2 c15 (by omega)], rfl, rfl, rfl, rfl⟩
  · refine qw_iconst (nI 1) dX9_reasonOf_18 (by decide) ?_
    exact qw_ireturn rfl rfl dX9_reasonOf_19 ⟨by rw [g_rs_1 c15], rfl, rfl, rfl, rfl⟩
end R1
