/-! THE REFERENCE: its draft beside the class's, reading a break -/
/-- the first n breaks of the draft, put into the order of their times -/
noncomputable def r_G (u : Nat → Nat) : Nat → Nat → Nat
  | 0 => fun _ => 0
  | n + 1 => g_abk (r_G u n) (g_abp (r_G u n) (u (7 + 30 * n)) (u (8 + 30 * n)) n) (u (7 + 30 * n)) (u (8 + 30 * n)) (u (9 + 30 * n)) (u (10 + 30 * n))
theorem r_G_0 (u : Nat → Nat) : ∀ n, r_G u n 0 = n
  | 0 => rfl
  | n + 1 => by rw [r_G, g_abk, if_pos rfl, r_G_0 u n]
theorem g_abp_cong {g h : Nat → Nat} {dd hh : Nat} (e : ∀ x, 7 ≤ x → x < 607 → g x = h x) : ∀ m, m ≤ 20 → g_abp g dd hh m = g_abp h dd hh m
  | 0, _ => by rw [g_abp, g_abp]
  | m + 1, hm => by
    rw [g_abp, g_abp, g_abp_cong e m (by omega), e (7 + 30 * m) (by omega) (by omega), e (8 + 30 * m) (by omega) (by omega)]
theorem g_abk_cong {g h : Nat → Nat} {k dd hh ll uu : Nat} (e0 : g 0 = h 0) (e : ∀ x, 7 ≤ x → x < 607 → g x = h x) : ∀ x, 7 ≤ x → x < 607 → g_abk g k dd hh ll uu x = g_abk h k dd hh ll uu x := by
  intro x h1 h2
  unfold g_abk
  rw [if_neg (show ¬ x = 0 by omega), if_neg (show ¬ x = 0 by omega), e0]
  by_cases c : x < 7 + 30 * k ∨ 37 + 30 * h 0 ≤ x
  · rw [if_pos c, if_pos c]; exact e x h1 h2
  · rw [if_neg c, if_neg c]
    by_cases c2 : x < 37 + 30 * k
    · rw [if_pos c2, if_pos c2]
    · rw [if_neg c2, if_neg c2]; exact e (x - 30) (by omega) (by omega)
theorem r_G_cong {u v : Nat → Nat} : ∀ n, (∀ x, 7 ≤ x → x < 7 + 30 * n → u x = v x) → r_G u n = r_G v n
  | 0, _ => rfl
  | n + 1, h => by rw [r_G, r_G, r_G_cong n (fun x h1 h2 => h x h1 (by omega)), h (7 + 30 * n) (by omega) (by omega), h (8 + 30 * n) (by omega) (by omega), h (9 + 30 * n) (by omega) (by omega), h (10 + 30 * n) (by omega) (by omega)]
theorem r_G_k (u : Nat → Nat) (n : Nat) : g_abp (r_G u n) (u (7 + 30 * n)) (u (8 + 30 * n)) n ≤ n := g_abp_le _ _ _ _
/-- the block i of a list with a new break at k -/
theorem g_abk_b {g : Nat → Nat} {k dd hh ll uu i c : Nat} (hk : k ≤ g 0) (hi : i < g 0 + 1) (hc : c < 30) : g_abk g k dd hh ll uu (7 + c + 30 * i) = if i < k then g (7 + c + 30 * i) else if i = k then (if c = 0 then dd else if c = 1 then hh else if c = 2 then ll else if c = 3 then uu else 0) else g (7 + c + 30 * (i - 1)) := by
  by_cases e : i = k
  · rw [e, g_abk_k hk hc, if_neg (show ¬ k < k by omega), if_pos rfl]
  · unfold g_abk
    rw [if_neg (by omega)]
    by_cases e1 : i < k
    · rw [if_pos (by omega), if_pos e1]
    · rw [if_neg (by omega), if_neg (by omega), if_neg e1, if_neg e]
      exact congrArg g (by omega)
theorem r_G_mem {u : Nat → Nat} {dd hh : Nat} : ∀ n, (∃ i, i < n ∧ r_G u n (7 + 30 * i) = dd ∧ r_G u n (8 + 30 * i) = hh) ↔ ∃ j, j < n ∧ u (7 + 30 * j) = dd ∧ u (8 + 30 * j) = hh
  | 0 => ⟨fun ⟨i, h, _⟩ => absurd h (Nat.not_lt_zero i), fun ⟨i, h, _⟩ => absurd h (Nat.not_lt_zero i)⟩
  | n + 1 => by
    have ih := r_G_mem (u := u) (dd := dd) (hh := hh) n
    have h0 := r_G_0 u n
    have hk := r_G_k u n
    have hb := fun i (hi : i < n + 1) => g_abk_b (g := r_G u n) (k := g_abp (r_G u n) (u (7 + 30 * n)) (u (8 + 30 * n)) n) (dd := u (7 + 30 * n)) (hh := u (8 + 30 * n)) (ll := u (9 + 30 * n)) (uu := u (10 + 30 * n)) (i := i) (c := 0) (by rw [h0]; exact hk) (by rw [h0]; exact hi) (by decide)
    have hb1 := fun i (hi : i < n + 1) => g_abk_b (g := r_G u n) (k := g_abp (r_G u n) (u (7 + 30 * n)) (u (8 + 30 * n)) n) (dd := u (7 + 30 * n)) (hh := u (8 + 30 * n)) (ll := u (9 + 30 * n)) (uu := u (10 + 30 * n)) (i := i) (c := 1) (by rw [h0]; exact hk) (by rw [h0]; exact hi) (by decide)
    simp only [Nat.add_zero] at hb
    rw [show 7 + 1 = 8 from rfl] at hb1
    constructor
    · rintro ⟨i, hi, e1, e2⟩
      rw [r_G, hb i hi] at e1
      rw [r_G, hb1 i hi] at e2
      by_cases c1 : i < g_abp (r_G u n) (u (7 + 30 * n)) (u (8 + 30 * n)) n
      · rw [if_pos c1] at e1 e2
        obtain ⟨j, j1, j2⟩ := ih.mp ⟨i, by omega, e1, e2⟩
        exact ⟨j, by omega, j2⟩
      · rw [if_neg c1] at e1 e2
        by_cases c2 : i = g_abp (r_G u n) (u (7 + 30 * n)) (u (8 + 30 * n)) n
        · rw [if_pos c2] at e1 e2
          exact ⟨n, by omega, e1, e2⟩
        · rw [if_neg c2] at e1 e2
          obtain ⟨j, j1, j2⟩ := ih.mp ⟨i - 1, by omega, e1, e2⟩
          exact ⟨j, by omega, j2⟩
    · rintro ⟨j, hj, e1, e2⟩
      by_cases c : j = n
      · subst c
        refine ⟨g_abp (r_G u j) (u (7 + 30 * j)) (u (8 + 30 * j)) j, by omega, ?_, ?_⟩
        · rw [r_G, hb _ (by omega), if_neg (by omega), if_pos rfl]; exact e1
        · rw [r_G, hb1 _ (by omega), if_neg (by omega), if_pos rfl]; exact e2
      · obtain ⟨i, i1, i2, i3⟩ := ih.mpr ⟨j, by omega, e1, e2⟩
        by_cases c1 : i < g_abp (r_G u n) (u (7 + 30 * n)) (u (8 + 30 * n)) n
        · refine ⟨i, by omega, ?_, ?_⟩
          · rw [r_G, hb i (by omega), if_pos c1]; exact i2
          · rw [r_G, hb1 i (by omega), if_pos c1]; exact i3
        · refine ⟨i + 1, by omega, ?_, ?_⟩
          · rw [r_G, hb (i + 1) (by omega), if_neg (by omega), if_neg (by omega)]; exact i2
          · rw [r_G, hb1 (i + 1) (by omega), if_neg (by omega), if_neg (by omega)]; exact i3
/-- the reference's draft u beside the class's state -/
def r_dr (u : Nat → Nat) (s : p_St) : Prop := (u 0 = s.2.1 0 ∧ u 1 = s.2.1 1 ∧ u 2 = s.2.2.1 ∧ u 0 ≤ 20) ∧ (∀ x, 7 ≤ x → x < 607 → s.2.1 x = r_G u (u 0) x) ∧ (∀ x, 607 ≤ x → x < 1363 → u x = s.2.1 x) ∧ (u 5 = 0 ∧ u 6 = 0 ∧ s.2.1 6 = 0) ∧ (∀ j, j < u 0 → ∀ c, 4 ≤ c → c < 30 → u (7 + 30 * j + c) = 0) ∧ (∀ x, 7 + 30 * u 0 ≤ x → x < 607 → u x = 0) ∧ q_cd u s.2.2.2.2.2 s.2.2.2.2.1 ∧ (s.2.2.2.1 = 0 → u 4 = 0)
theorem r_dr.brk {u v : Nat → Nat} {s : p_St} {dd hh ll uu e1 : Nat} (h : r_dr u s) (h0 : u 0 < 20) (v0 : v 0 = u 0 + 1) (v1 : v (7 + 30 * u 0) = dd) (v2 : v (8 + 30 * u 0) = hh) (v3 : v (9 + 30 * u 0) = ll) (v4 : v (10 + 30 * u 0) = uu) (vo : ∀ x, x ≠ 0 → (x < 7 + 30 * u 0 ∨ 11 + 30 * u 0 ≤ x) → v x = u x) : r_dr v (e1, g_abk s.2.1 (g_abp s.2.1 dd hh (s.2.1 0)) dd hh ll uu, s.2.2) := by
  obtain ⟨⟨a0, a1, a2, a3⟩, b, c, ⟨d5, d6, d7⟩, e, f, hq, hp⟩ := h
  have hg : r_G v (u 0) = r_G u (u 0) := r_G_cong _ (fun x x1 x2 => vo x (by omega) (by omega))
  have hkl : g_abp s.2.1 dd hh (s.2.1 0) ≤ s.2.1 0 := g_abp_le _ _ _ _
  refine ⟨⟨?_, ?_, ?_, by omega⟩, fun x x1 x2 => ?_, fun x x1 x2 => ?_, ⟨?_, ?_, ?_⟩, fun j hj k k1 k2 => ?_, fun x x1 x2 => ?_, ?_, fun q => ?_⟩
  · show v 0 = g_abk s.2.1 (g_abp s.2.1 dd hh (s.2.1 0)) dd hh ll uu 0
    rw [g_abk, if_pos rfl, v0, a0]
  · show v 1 = g_abk s.2.1 (g_abp s.2.1 dd hh (s.2.1 0)) dd hh ll uu 1
    rw [g_abk, if_neg (by decide), if_pos (by omega), vo 1 (by decide) (by omega), a1]
  · rw [vo 2 (by decide) (by omega)]; exact a2
  · show g_abk s.2.1 (g_abp s.2.1 dd hh (s.2.1 0)) dd hh ll uu x = _
    rw [v0, r_G, hg, v1, v2, v3, v4, ← a0, ← g_abp_cong (g := s.2.1) (h := r_G u (u 0)) b (u 0) (by omega)]
    exact g_abk_cong (by rw [r_G_0, a0]) b x x1 x2
  · show v x = g_abk s.2.1 (g_abp s.2.1 dd hh (s.2.1 0)) dd hh ll uu x
    rw [g_abk, if_neg (by omega), if_pos (by omega), vo x (by omega) (by omega)]
    exact c x x1 x2
  · rw [vo 5 (by decide) (by omega)]; exact d5
  · rw [vo 6 (by decide) (by omega)]; exact d6
  · show g_abk s.2.1 (g_abp s.2.1 dd hh (s.2.1 0)) dd hh ll uu 6 = 0
    rw [g_abk, if_neg (by decide), if_pos (by omega)]; exact d7
  · rw [v0] at hj
    by_cases q : j = u 0
    · subst q
      rw [vo (7 + 30 * u 0 + k) (by omega) (by omega)]
      exact f _ (by omega) (by omega)
    · rw [vo (7 + 30 * j + k) (by omega) (by omega)]
      exact e j (by omega) k k1 k2
  · rw [v0] at x1
    rw [vo x (by omega) (by omega)]
    exact f x (by omega) x2
  · show q_cd v s.2.2.2.2.2 s.2.2.2.2.1
    rcases hq with ⟨h1, h2, h3⟩ | ⟨h1, h2, h3⟩
    · exact Or.inl ⟨by rw [vo 4 (by decide) (by omega)]; exact h1, h2, h3⟩
    · exact Or.inr ⟨h1, by rw [vo 4 (by decide) (by omega)]; exact h2, fun j hj => ⟨by rw [vo _ (by omega) (by omega)]; exact (h3 j hj).1, fun q => by rw [vo _ (by omega) (by omega)]; exact (h3 j hj).2 q⟩⟩
  · rw [vo 4 (by decide) (by omega)]; exact hp q
/-- there is a break at this time: in the draft, whatever its order -/
theorem r_dr.dup {u : Nat → Nat} {s : p_St} (h : r_dr u s) (hW : g_wf s.2.1) {dd hh : Nat} (hh23 : hh ≤ 23) : g_dup s.2.1 dd hh ↔ ∃ j, j < u 0 ∧ 24 * u (7 + 30 * j) + u (8 + 30 * j) = 24 * dd + hh := by
  obtain ⟨⟨a0, a1, a2, a3⟩, b, -⟩ := h
  have hm := fun d1 h1 => r_G_mem (u := u) (dd := d1) (hh := h1) (u 0)
  have hb23 : ∀ j, j < u 0 → u (8 + 30 * j) ≤ 23 := fun j hj => by
    obtain ⟨i, i1, i2, i3⟩ := (hm (u (7 + 30 * j)) (u (8 + 30 * j))).mpr ⟨j, hj, rfl, rfl⟩
    rw [← i3, ← b (8 + 30 * i) (by omega) (by omega)]
    exact (hW.br (i := i) (by omega)).2.1
  unfold g_dup
  rw [q_fst_lt]
  constructor
  · rintro ⟨i, hi, e⟩
    obtain ⟨e1, e2⟩ := g_atN_1.mp e
    obtain ⟨j, j1, j2, j3⟩ := (hm dd hh).mp ⟨i, by omega, by rw [← b _ (by omega) (by omega)]; exact e1, by rw [← b _ (by omega) (by omega)]; exact e2⟩
    exact ⟨j, j1, by omega⟩
  · rintro ⟨j, hj, e⟩
    have h1 := hb23 j hj
    obtain ⟨i, i1, i2, i3⟩ := (hm dd hh).mpr ⟨j, hj, by omega, by omega⟩
    exact ⟨i, by omega, g_atN_1.mpr ⟨by rw [b _ (by omega) (by omega)]; exact i2, by rw [b _ (by omega) (by omega)]; exact i3⟩⟩
def r_sf (m : Nat) (M M1 : lq_M) : Prop := (∀ j, j ≠ 4 → j ≠ 5 → j ≠ 6 → j ≠ 12 → j ≠ 13 → j ≠ 14 → M1 m j = M m j) ∧ ∀ b, b ≠ m → b ≠ m + 3 → M1 b = M b
theorem r_sf.rf {m : Nat} {M : lq_M} : r_sf m M M := ⟨fun _ _ _ _ _ _ _ => rfl, fun _ _ _ => rfl⟩
theorem r_sf.tr {m : Nat} {M M1 M2 : lq_M} (h : r_sf m M M1) (h2 : r_sf m M1 M2) : r_sf m M M2 := ⟨fun j a b c d e f => (h2.1 j a b c d e f).trans (h.1 j a b c d e f), fun b b1 b2 => (h2.2 b b1 b2).trans (h.2 b b1 b2)⟩
theorem r_mf.sf {m : Nat} {M M1 : lq_M} (h : r_mf m M M1) : r_sf m M M1 := ⟨fun j a b c d _ _ => h.1 j a b c d, fun b b1 _ => h.2 b b1⟩
theorem r_xf.sf {m : Nat} {M M1 : lq_M} (h : r_xf m M M1) : r_sf m M M1 := ⟨fun j a b c d e _ => h.1 j a b c d e, h.2.1⟩
theorem r_sf.dr {m k v : Nat} {M : lq_M} : r_sf m M (lq_up M (m + 3) k v) := ⟨fun j _ _ _ _ _ _ => by rw [lq_up_n _ _ _ (by omega)], fun b _ b2 => lq_up_n _ _ _ b2⟩
theorem r_sf.up {m k v : Nat} {M : lq_M} (h : k = 4 ∨ k = 5 ∨ k = 6 ∨ k = 12 ∨ k = 13 ∨ k = 14) : r_sf m M (lq_up M m k v) := ⟨fun j a b c d e f => lq_up_c _ _ (by omega), fun b b1 _ => lq_up_n _ _ _ b1⟩
def r_sP (m : Nat) (M M1 : lq_M) (t : Nat → Nat) (L : Nat) (res : p_T) : Prop := r_sf m M M1 ∧ match res with
  | .inl x => M1 m 5 = x.1 ∧ M1 m 6 = x.2 ∧ ¬ nI x.1 = 0
  | .inr s => M1 m 6 = M m 6 ∧ M1 m 5 = 0 ∧ r_at t L (M1 m 4) s.1 ∧ M1 m 13 = 0 ∧ M1 m 14 = s.2.2.2.1 ∧ r_dr (M1 (m + 3)) s
theorem r_sP.u4 {m v : Nat} {M M1 : lq_M} {t : Nat → Nat} {L : Nat} {res : p_T} (h : r_sP m (lq_up M m 4 v) M1 t L res) : r_sP m M M1 t L res := by
  refine ⟨(r_sf.up (by decide)).tr h.1, ?_⟩
  have h2 := h.2
  cases res with
  | inl x => exact h2
  | inr s => exact ⟨by rw [h2.1, lq_up_c _ _ (by decide)], h2.2⟩
/-- an error is noted: nothing but the draft moves any more -/
def r_bd (m : Nat) (M M1 : lq_M) : Prop := r_sf m M M1 ∧ M1 m 5 = M m 5 ∧ M1 m 6 = M m 6
theorem r_bd.dr {m k v : Nat} {M : lq_M} : r_bd m M (lq_up M (m + 3) k v) := ⟨r_sf.dr, by rw [lq_up_n _ _ _ (by omega)], by rw [lq_up_n _ _ _ (by omega)]⟩
theorem r_bd.tr {m : Nat} {M M1 M2 : lq_M} (h : r_bd m M M1) (h2 : r_bd m M1 M2) : r_bd m M M2 := ⟨h.1.tr h2.1, h2.2.1.trans h.2.1, h2.2.2.trans h.2.2⟩
section R15
variable {G : lq_G} {z : Nat} {S : lq_S} {M : lq_M} {N : lq_N} {m : Nat} {fh fo : Nat → Option Nat}
theorem k_X9_when {a : Nat} (ha : S a = some (.inr (.inl (0, 2663)))) {i : Nat} (hi : i < 20) : LM G YX9_when 1 0 0 [.ref a, .int (nI i)] z S M N (lq_pu z S M N (.int (nI (24 * M a (7 + 30 * i) + M a (8 + 30 * i))))) lq_no := by
  refine LM.of (by decide) rfl [some (.ref a), some (.int (nI i))] rfl (Nat.le_of_ble_eq_true rfl) ?_
  refine qw_bipush (nI 24) dX9_when_0 (by decide) ?_
  refine qw_aload_n 0 dX9_when_2 rfl rfl ?_
  refine qw_iload_n 1 dX9_when_3 rfl rfl ?_
  refine qw_csp [_] (k_X9_at) mX9_44 dX9_when_4 rfl rfl (Nat.le_of_ble_eq_true rfl) (by omega) (by decide) rfl ?_
  refine qw_iald dX9_when_7 ha (by omega) (by omega) ?_
  refine qw_mulN dX9_when_8 ?_
  refine qw_aload_n 0 dX9_when_9 rfl rfl ?_
  refine qw_iload_n 1 dX9_when_10 rfl rfl ?_
  refine qw_csp [_] (k_X9_at) mX9_44 dX9_when_11 rfl rfl (Nat.le_of_ble_eq_true rfl) (by omega) (by decide) rfl ?_
  refine qw_iconst (nI 1) dX9_when_14 (by decide) ?_
  refine qw_addN dX9_when_15 ?_
  refine qw_iaj (8 + 30 * i) (by omega) dX9_when_16 ha (by omega) (by omega) ?_
  refine qw_addN dX9_when_17 ?_
  exact qw_ireturn rfl rfl dX9_when_18 ⟨rfl, rfl, rfl, rfl, rfl⟩
theorem b4_X9_readBreak (h9 : sh9 S m fh fo) (h0 : ¬ nI (M m 5) = 0) {n : Nat} (hn : n < 20) {Q : lq_P} (hQ : ∀ M1, r_bd m M M1 → Q none z S M1 N) : LW G YX9_readBreak 3 0 0 Q lq_no z S M N 151 [some (.ref m), none, some (.int (nI n)), some (.int (nI (7 + 30 * n))), none] [] := by
  refine qw_aload_n 0 dX9_readBreak_151 rfl rfl ?_
  refine qw_getr fX9_20 dX9_readBreak_152 h9.1 rfl ?_
  refine qw_iconst (nI 0) dX9_readBreak_155 (by decide) ?_
  refine qw_dup2 dX9_readBreak_156 rfl rfl ?_
  refine qw_iald dX9_readBreak_157 h9.dr (by omega) (by omega) ?_
  refine qw_iconst (nI 1) dX9_readBreak_158 (by decide) ?_
  refine qw_addN dX9_readBreak_159 ?_
  refine qw_iast dX9_readBreak_160 h9.dr (by omega) (by omega) ?_
  exact qw_return rfl dX9_readBreak_161 (hQ _ r_bd.dr)
theorem b3_X9_readBreak (h9 : sh9 S m fh fo) (h0 : ¬ nI (M m 5) = 0) {n : Nat} (hn : n < 20) {Q : lq_P} (hQ : ∀ M1, r_bd m M M1 → Q none z S M1 N) : LW G YX9_readBreak 3 0 0 Q lq_no z S M N 135 [some (.ref m), none, some (.int (nI n)), some (.int (nI (7 + 30 * n))), none] [] := by
  refine qw_aload_n 0 dX9_readBreak_135 rfl rfl ?_
  refine qw_getr fX9_20 dX9_readBreak_136 h9.1 rfl ?_
  refine qw_iload_n 3 dX9_readBreak_139 rfl rfl ?_
  refine qw_iconst (nI 3) dX9_readBreak_140 (by decide) ?_
  refine qw_addN dX9_readBreak_141 ?_
  refine qw_aload_n 0 dX9_readBreak_142 rfl rfl ?_
  refine qw_iconst (nI 0) dX9_readBreak_143 (by decide) ?_
  refine qw_sipush (nI 999) dX9_readBreak_144 (by decide) ?_
  refine qw_cvp [_, _] (k_X9_number_b h9 h0) mX9_127 dX9_readBreak_147 h9.1 rfl rfl rfl (Nat.le_of_ble_eq_true rfl) (by omega) (by decide) rfl ?_
  refine qw_iast dX9_readBreak_150 h9.dr (by omega) (by omega) ?_
  exact b4_X9_readBreak h9 (by rw [lq_up_n _ _ _ (by omega)]; exact h0) hn (fun M1 h1 => hQ M1 (r_bd.dr.tr h1))
theorem b2_X9_readBreak (h9 : sh9 S m fh fo) (h0 : ¬ nI (M m 5) = 0) {n : Nat} (hn : n < 20) {Q : lq_P} (hQ : ∀ M1, r_bd m M M1 → Q none z S M1 N) : LW G YX9_readBreak 3 0 0 Q lq_no z S M N 118 [some (.ref m), none, some (.int (nI n)), some (.int (nI (7 + 30 * n))), none] [] := by
  refine qw_aload_n 0 dX9_readBreak_118 rfl rfl ?_
  refine qw_getr fX9_20 dX9_readBreak_119 h9.1 rfl ?_
  refine qw_iload_n 3 dX9_readBreak_122 rfl rfl ?_
  refine qw_iconst (nI 2) dX9_readBreak_123 (by decide) ?_
  refine qw_addN dX9_readBreak_124 ?_
  refine qw_aload_n 0 dX9_readBreak_125 rfl rfl ?_
  refine qw_bipush (nI 10) dX9_readBreak_126 (by decide) ?_
  refine qw_sipush (nI 300) dX9_readBreak_128 (by decide) ?_
  refine qw_cvp [_, _] (k_X9_number_b h9 h0) mX9_127 dX9_readBreak_131 h9.1 rfl rfl rfl (Nat.le_of_ble_eq_true rfl) (by omega) (by decide) rfl ?_
  refine qw_iast dX9_readBreak_134 h9.dr (by omega) (by omega) ?_
  exact b3_X9_readBreak h9 (by rw [lq_up_n _ _ _ (by omega)]; exact h0) hn (fun M1 h1 => hQ M1 (r_bd.dr.tr h1))
theorem b1_X9_readBreak (h9 : sh9 S m fh fo) (h0 : ¬ nI (M m 5) = 0) {n : Nat} (hn : n < 20) {Q : lq_P} (hQ : ∀ M1, r_bd m M M1 → Q none z S M1 N) {k : Nat} (hk : k ≤ 20) : LW G YX9_readBreak 3 0 0 Q lq_no z S M N 69 [some (.ref m), none, some (.int (nI n)), some (.int (nI (7 + 30 * n))), some (.int (nI k))] [] := by
  refine qw_iload dX9_readBreak_69 rfl ?_
  refine qw_iload_n 2 dX9_readBreak_71 rfl rfl ?_
  refine qw_icmp_geN 118 dX9_readBreak_72 (by decide) (by omega) (by omega) (fun c72 => ?_) (fun c72 => ?_)
  · exact qw_weak _ (by simp [lq_le]) (b2_X9_readBreak h9 h0 hn hQ)
  · refine qw_aload_n 0 dX9_readBreak_75 rfl rfl ?_
    refine qw_cvp [] (k_X9_isGood_b h9 h0) mX9_70 dX9_readBreak_76 h9.1 rfl rfl rfl (Nat.le_of_ble_eq_true rfl) (by omega) (by decide) rfl ?_
    refine qw_if_eqN 118 dX9_readBreak_79 (by decide) (by omega) (fun c79 => ?_) (fun c79 => absurd rfl c79)
    exact qw_weak _ (by simp [lq_le]) (b2_X9_readBreak h9 h0 hn hQ)
theorem b0_X9_readBreak (h9 : sh9 S m fh fo) (h0 : ¬ nI (M m 5) = 0) {n : Nat} (hn : n < 20) {Q : lq_P} (hQ : ∀ M1, r_bd m M M1 → Q none z S M1 N) : LW G YX9_readBreak 3 0 0 Q lq_no z S M N 51 [some (.ref m), none, some (.int (nI n)), some (.int (nI (7 + 30 * n))), none] [] := by
  refine qw_aload_n 0 dX9_readBreak_51 rfl rfl ?_
  refine qw_getr fX9_20 dX9_readBreak_52 h9.1 rfl ?_
  refine qw_iload_n 3 dX9_readBreak_55 rfl rfl ?_
  refine qw_iconst (nI 1) dX9_readBreak_56 (by decide) ?_
  refine qw_addN dX9_readBreak_57 ?_
  refine qw_aload_n 0 dX9_readBreak_58 rfl rfl ?_
  refine qw_iconst (nI 0) dX9_readBreak_59 (by decide) ?_
  refine qw_bipush (nI 23) dX9_readBreak_60 (by decide) ?_
  refine qw_cvp [_, _] (k_X9_number_b h9 h0) mX9_127 dX9_readBreak_62 h9.1 rfl rfl rfl (Nat.le_of_ble_eq_true rfl) (by omega) (by decide) rfl ?_
  refine qw_iast dX9_readBreak_65 h9.dr (by omega) (by omega) ?_
  refine qw_iconst (nI 0) dX9_readBreak_66 (by decide) ?_
  refine qw_istore dX9_readBreak_67 rfl (by decide) ?_
  exact b1_X9_readBreak h9 (by rw [lq_up_n _ _ _ (by omega)]; exact h0) hn (fun M1 h1 => hQ M1 (r_bd.dr.tr h1)) (Nat.zero_le _)
theorem l_X9_readBreak {L : Nat} (h9 : sh9 S m fh fo) (hL8 : L ≤ 800) {t : Nat → Nat} (ht : ∀ j, j < L → t j < 256) {n dd hh ns : Nat} (hn : n < 20) (h0 : M m 5 = 0) (h12 : M m 12 = ns) (hu1 : M (m + 3) (7 + 30 * n) = dd) (hu2 : M (m + 3) (8 + 30 * n) = hh) (hdd : dd ≤ 6) (hh23 : hh ≤ 23) (hub : ∀ j, j < n → M (m + 3) (7 + 30 * j) ≤ 6 ∧ M (m + 3) (8 + 30 * j) ≤ 23) {Q : lq_P} (kd : (∃ j, j < n ∧ 24 * M (m + 3) (7 + 30 * j) + M (m + 3) (8 + 30 * j) = 24 * dd + hh) → ∀ M1, r_bd m (lq_up (lq_up M m 5 4294967293) m 6 ns) M1 → Q none z S M1 N) (kk : (¬ ∃ j, j < n ∧ 24 * M (m + 3) (7 + 30 * j) + M (m + 3) (8 + 30 * j) = 24 * dd + hh) → LW G YX9_readBreak 3 0 0 Q lq_no z S M N 118 [some (.ref m), none, some (.int (nI n)), some (.int (nI (7 + 30 * n))), none] []) : ∀ (n9 k : Nat), k ≤ n → n - k < n9 → (∀ j, j < k → 24 * M (m + 3) (7 + 30 * j) + M (m + 3) (8 + 30 * j) ≠ 24 * dd + hh) → LW G YX9_readBreak 3 0 0 Q lq_no z S M N 69 [some (.ref m), none, some (.int (nI n)), some (.int (nI (7 + 30 * n))), some (.int (nI k))] [] := by
  intro n9
  induction n9 with
  | zero => intro _ _ _ _; omega
  | succ n9 ih =>
    intro k hk hn9 hno
    refine qw_iload dX9_readBreak_69 rfl ?_
    refine qw_iload_n 2 dX9_readBreak_71 rfl rfl ?_
    refine qw_icmp_geN 118 dX9_readBreak_72 (by decide) (by omega) (by omega) (fun c72 => ?_) (fun c72 => ?_)
    · have e9 : k = n := by omega
      exact qw_weak _ (by simp [lq_le]) (kk (fun q => by obtain ⟨j, j1, j2⟩ := q; exact hno j (by omega) j2))
    · refine qw_aload_n 0 dX9_readBreak_75 rfl rfl ?_
      refine qw_cvp [] (k_X9_isGood_g h9 h0) mX9_70 dX9_readBreak_76 h9.1 rfl rfl rfl (Nat.le_of_ble_eq_true rfl) (by omega) (by decide) rfl ?_
      refine qw_if_eqN 118 dX9_readBreak_79 (by decide) (by omega) (fun c79 => absurd c79 (by decide)) (fun c79 => ?_)
      refine qw_aload_n 0 dX9_readBreak_82 rfl rfl ?_
      refine qw_getr fX9_20 dX9_readBreak_83 h9.1 rfl ?_
      refine qw_iload dX9_readBreak_86 rfl ?_
      have hub1 := hub k (by omega)
      refine qw_csp [_, _] (k_X9_when h9.dr (by omega)) mX9_142 dX9_readBreak_88 rfl rfl (Nat.le_of_ble_eq_true rfl) (by omega) (by decide) rfl ?_
      refine qw_aload_n 0 dX9_readBreak_91 rfl rfl ?_
      refine qw_getr fX9_20 dX9_readBreak_92 h9.1 rfl ?_
      refine qw_iload_n 2 dX9_readBreak_95 rfl rfl ?_
      refine qw_csp [_, _] (k_X9_when h9.dr hn) mX9_142 dX9_readBreak_96 rfl rfl (Nat.le_of_ble_eq_true rfl) (by omega) (by decide) rfl ?_
      rw [hu1, hu2]
      refine qw_icmp_neN 112 dX9_readBreak_99 (by decide) (by omega) (by omega) (fun c99 => ?_) (fun c99 => ?_)
      · refine qw_iincN 1 dX9_readBreak_112 rfl (by decide) rfl (by decide) ?_
        refine qw_goto 69 dX9_readBreak_115 (by decide) ?_
        exact ih (k + 1) (by omega) (by omega) (fun j hj => by
          by_cases e9 : j = k
          · rw [e9]; exact c99
          · exact hno j (by omega))
      · refine qw_aload_n 0 dX9_readBreak_102 rfl rfl ?_
        refine qw_bipush (-3) dX9_readBreak_103 (by decide) ?_
        rw [show (-3 : Int32) = nI 4294967293 by decide]
        refine qw_aload_n 0 dX9_readBreak_105 rfl rfl ?_
        refine qw_geti fX9_95 dX9_readBreak_106 h9.1 rfl ?_
        rw [h12]
        refine qw_cvv [_, _] (k_X9_report_g h9 h0) mX9_87 dX9_readBreak_109 h9.1 rfl rfl rfl (Nat.le_of_ble_eq_true rfl) (by omega) (by decide) rfl (fun M2 h2 => ?_)
        subst h2
        refine qw_iincN 1 dX9_readBreak_112 rfl (by decide) rfl (by decide) ?_
        refine qw_goto 69 dX9_readBreak_115 (by decide) ?_
        exact b1_X9_readBreak h9 (by rw [lq_up_c _ _ (by decide), lq_up_s]; decide) hn (kd ⟨k, by omega, c99⟩) (by omega)
noncomputable def p_br3 (r : p_Q) (s : p_St) : p_T := match r with
  | .inl x => .inl x
  | .inr x => .inr (x.1, x.2, s.2.2)
theorem k_X9_readBreak {L : Nat} (h9 : sh9 S m fh fo) (hL8 : L ≤ 800) {t : Nat → Nat} (ht : ∀ j, j < L → t j < 256) {s : p_St} (hs : p_sw L s) (hM : ∀ j, j < L → M (m + 1) j = t j) (hL : M m 3 = L) (h0 : M m 5 = 0) (h4 : M m 4 = t_en t L (t_sk t L s.1)) (h13 : M m 13 = 0) (h14 : M m 14 = s.2.2.2.1) (hD : r_dr (M (m + 3)) s) : LM G YX9_readBreak 3 0 0 [.ref m, .int (nI (t_sk t L s.1))] z S M N (lq_mv z S N (fun M1 => r_sP m M M1 t L (p_br3 (p_brk t L s.2.1 s.1) s))) lq_no := by
  have hW := hs.2.1
  have he := hs.1
  obtain ⟨⟨a0, a1, a2, a3⟩, -⟩ := id hD
  have hsk := t_sk_le (t := t) he
  have hen := t_en_le (t := t) hsk
  refine LM.of (by decide) rfl [some (.ref m), some (.int (nI (t_sk t L s.1))), none, none, none] rfl (Nat.le_of_ble_eq_true rfl) ?_
  refine qw_aload_n 0 dX9_readBreak_0 rfl rfl ?_
  refine qw_getr fX9_20 dX9_readBreak_1 h9.1 rfl ?_
  refine qw_iconst (nI 0) dX9_readBreak_4 (by decide) ?_
  refine qw_iald dX9_readBreak_5 h9.dr (by omega) (by omega) ?_
  refine qw_bipush (nI 20) dX9_readBreak_6 (by decide) ?_
  refine qw_icmp_neN 18 dX9_readBreak_8 (by decide) (by omega) (by omega) (fun c8 => ?_) (fun c8 => ?_)
  · refine qw_aload_n 0 dX9_readBreak_18 rfl rfl ?_
    refine qw_cvp [] (k_X9_isGood_g h9 h0) mX9_70 dX9_readBreak_19 h9.1 rfl rfl rfl (Nat.le_of_ble_eq_true rfl) (by omega) (by decide) rfl ?_
    refine qw_if_neN 26 dX9_readBreak_22 (by decide) (by omega) (fun c22 => ?_) (fun c22 => absurd c22 (by decide))
    have c8n : ¬ 20 ≤ s.2.1 0 := by omega
    have hub : ∀ j, j < M (m + 3) 0 → M (m + 3) (7 + 30 * j) ≤ 6 ∧ M (m + 3) (8 + 30 * j) ≤ 23 := fun j hj => by
      obtain ⟨i, j1, j2, j3⟩ := (r_G_mem (u := M (m + 3)) (dd := M (m + 3) (7 + 30 * j)) (hh := M (m + 3) (8 + 30 * j)) (M (m + 3) 0)).mpr ⟨j, hj, rfl, rfl⟩
      have hb9 := hW.br (i := i) (by omega)
      rw [← j2, ← j3, ← hD.2.1 (7 + 30 * i) (by omega) (by omega), ← hD.2.1 (8 + 30 * i) (by omega) (by omega)]
      exact ⟨hb9.1, hb9.2.1⟩
    refine qw_aload_n 0 dX9_readBreak_26 rfl rfl ?_
    refine qw_getr fX9_20 dX9_readBreak_27 h9.1 rfl ?_
    refine qw_iconst (nI 0) dX9_readBreak_30 (by decide) ?_
    refine qw_iald dX9_readBreak_31 h9.dr (by omega) (by omega) ?_
    refine qw_istore_n 2 dX9_readBreak_32 rfl rfl (by decide) ?_
    refine qw_iload_n 2 dX9_readBreak_33 rfl rfl ?_
    refine qw_csp [_] (k_X9_at) mX9_44 dX9_readBreak_34 rfl rfl (Nat.le_of_ble_eq_true rfl) (by omega) (by decide) rfl ?_
    refine qw_istore_n 3 dX9_readBreak_37 rfl rfl (by decide) ?_
    refine qw_aload_n 0 dX9_readBreak_38 rfl rfl ?_
    refine qw_getr fX9_20 dX9_readBreak_39 h9.1 rfl ?_
    refine qw_iload_n 3 dX9_readBreak_42 rfl rfl ?_
    refine qw_aload_n 0 dX9_readBreak_43 rfl rfl ?_
    refine qw_iconst (nI 0) dX9_readBreak_44 (by decide) ?_
    refine qw_bipush (nI 6) dX9_readBreak_45 (by decide) ?_
    refine qw_cvi [_, _] (k_X9_number_g (lo := 0) (hi := 6) (e := (t_en t L (t_sk t L s.1))) h9 hL8 ht hM hL h4 ⟨hen, rfl⟩ h0 (by decide) (by decide)) mX9_127 dX9_readBreak_47 h9.1 rfl rfl rfl (Nat.le_of_ble_eq_true rfl) (by omega) (by decide) rfl (fun y1 M1 h1 => ?_)
    cases hr1 : p_nu t L 0 6 (t_en t L (t_sk t L s.1)) with
    | inl x0 =>
      rw [hr1] at h1
      obtain ⟨q1, q2, q3, q4⟩ := h1
      have hb : p_br3 (p_brk t L s.2.1 s.1) s = .inl x0 := by unfold p_br3 p_brk; rw [if_neg c8n]; simp only [hr1]
      rw [← q_u_n y1]
      refine qw_iasj (7 + 30 * M (m + 3) 0) (by omega) dX9_readBreak_50 h9.dr (by omega) (by omega) ?_
      refine qw_weak [some (.ref m), none, some (.int (nI (M (m + 3) 0))), some (.int (nI (7 + 30 * M (m + 3) 0))), none] (by simp [lq_le]) (b0_X9_readBreak h9 (by rw [lq_up_n _ _ _ (by omega), q1]; exact q4) (by omega) (fun MZ hz => ⟨rfl, rfl, rfl, rfl, by rw [hb]; exact ⟨((r_sf.rf (m := m) (M := M)).tr q3.sf).tr (r_sf.dr.tr hz.1), by rw [hz.2.1, lq_up_n _ _ _ (by omega)]; exact q1, by rw [hz.2.2, lq_up_n _ _ _ (by omega)]; exact q2, q4⟩⟩))
    | inr x1 =>
      rw [hr1] at h1
      have i1 := p_nu_inr hen hr1
      obtain ⟨rfl, g15, g14, g112, g16, g1r⟩ := h1
      refine qw_iasj (7 + 30 * M (m + 3) 0) (by omega) dX9_readBreak_50 h9.dr (by omega) (by omega) ?_
      have f1 : r_sf m M (lq_up M1 (m + 3) (7 + 30 * M (m + 3) 0) x1.1) := (g1r.sf).tr r_sf.dr
      have tM1 : ∀ j, j < L → (lq_up M1 (m + 3) (7 + 30 * M (m + 3) 0) x1.1) (m + 1) j = t j := fun j hj => by rw [f1.2 (m + 1) (by omega) (by omega)]; exact hM j hj
      have tL1 : (lq_up M1 (m + 3) (7 + 30 * M (m + 3) 0) x1.1) m 3 = L := by rw [f1.1 3 (by decide) (by decide) (by decide) (by decide) (by decide) (by decide)]; exact hL
      have t01 : (lq_up M1 (m + 3) (7 + 30 * M (m + 3) 0) x1.1) m 5 = 0 := by rw [lq_up_n _ _ _ (by omega)]; exact g15
      have t61 : (lq_up M1 (m + 3) (7 + 30 * M (m + 3) 0) x1.1) m 6 = M m 6 := by rw [lq_up_n _ _ _ (by omega), g16]
      have t41 : (lq_up M1 (m + 3) (7 + 30 * M (m + 3) 0) x1.1) m 4 = x1.2 := by rw [lq_up_n _ _ _ (by omega)]; exact g14
      have t131 : (lq_up M1 (m + 3) (7 + 30 * M (m + 3) 0) x1.1) m 13 = 0 := by rw [lq_up_n _ _ _ (by omega), g1r.1 13 (by decide) (by decide) (by decide) (by decide)]; exact h13
      have t141 : (lq_up M1 (m + 3) (7 + 30 * M (m + 3) 0) x1.1) m 14 = s.2.2.2.1 := by rw [lq_up_n _ _ _ (by omega), g1r.1 14 (by decide) (by decide) (by decide) (by decide)]; exact h14
      have u1 : (lq_up M1 (m + 3) (7 + 30 * M (m + 3) 0) x1.1) (m + 3) = fun x => if x = 7 + 30 * M (m + 3) 0 then x1.1 else M (m + 3) x := by rw [lq_up_a, g1r.2 (m + 3) (by omega)]
      refine qw_aload_n 0 dX9_readBreak_51 rfl rfl ?_
      refine qw_getr fX9_20 dX9_readBreak_52 h9.1 rfl ?_
      refine qw_iload_n 3 dX9_readBreak_55 rfl rfl ?_
      refine qw_iconst (nI 1) dX9_readBreak_56 (by decide) ?_
      refine qw_addN dX9_readBreak_57 ?_
      refine qw_aload_n 0 dX9_readBreak_58 rfl rfl ?_
      refine qw_iconst (nI 0) dX9_readBreak_59 (by decide) ?_
      refine qw_bipush (nI 23) dX9_readBreak_60 (by decide) ?_
      refine qw_cvi [_, _] (k_X9_number_g (lo := 0) (hi := 23) (e := x1.2) h9 hL8 ht tM1 tL1 t41 ⟨i1.2.2.2.2.2, rfl⟩ t01 (by decide) (by decide)) mX9_127 dX9_readBreak_62 h9.1 rfl rfl rfl (Nat.le_of_ble_eq_true rfl) (by omega) (by decide) rfl (fun y2 M2 h2 => ?_)
      cases hr2 : p_nu t L 0 23 x1.2 with
      | inl x0 =>
        rw [hr2] at h2
        obtain ⟨q1, q2, q3, q4⟩ := h2
        have hb : p_br3 (p_brk t L s.2.1 s.1) s = .inl x0 := by unfold p_br3 p_brk; rw [if_neg c8n]; simp only [hr1, hr2]
        rw [← q_u_n y2]
        refine qw_iasj (8 + 30 * M (m + 3) 0) (by omega) dX9_readBreak_65 h9.dr (by omega) (by omega) ?_
        refine qw_iconst (nI 0) dX9_readBreak_66 (by decide) ?_
        refine qw_istore dX9_readBreak_67 rfl (by decide) ?_
        refine qw_weak [some (.ref m), none, some (.int (nI (M (m + 3) 0))), some (.int (nI (7 + 30 * M (m + 3) 0))), some (.int (nI 0))] (by simp [lq_le]) (b1_X9_readBreak h9 (by rw [lq_up_n _ _ _ (by omega), q1]; exact q4) (by omega) (fun MZ hz => ⟨rfl, rfl, rfl, rfl, by rw [hb]; exact ⟨(f1.tr q3.sf).tr (r_sf.dr.tr hz.1), by rw [hz.2.1, lq_up_n _ _ _ (by omega)]; exact q1, by rw [hz.2.2, lq_up_n _ _ _ (by omega)]; exact q2, q4⟩⟩) (Nat.zero_le _))
      | inr x2 =>
        rw [hr2] at h2
        have i2 := p_nu_inr i1.2.2.2.2.2 hr2
        obtain ⟨rfl, g25, g24, g212, g26, g2r⟩ := h2
        refine qw_iasj (8 + 30 * M (m + 3) 0) (by omega) dX9_readBreak_65 h9.dr (by omega) (by omega) ?_
        have f2 : r_sf m M (lq_up M2 (m + 3) (8 + 30 * M (m + 3) 0) x2.1) := ((f1).tr g2r.sf).tr r_sf.dr
        have tM2 : ∀ j, j < L → (lq_up M2 (m + 3) (8 + 30 * M (m + 3) 0) x2.1) (m + 1) j = t j := fun j hj => by rw [f2.2 (m + 1) (by omega) (by omega)]; exact hM j hj
        have tL2 : (lq_up M2 (m + 3) (8 + 30 * M (m + 3) 0) x2.1) m 3 = L := by rw [f2.1 3 (by decide) (by decide) (by decide) (by decide) (by decide) (by decide)]; exact hL
        have t02 : (lq_up M2 (m + 3) (8 + 30 * M (m + 3) 0) x2.1) m 5 = 0 := by rw [lq_up_n _ _ _ (by omega)]; exact g25
        have t62 : (lq_up M2 (m + 3) (8 + 30 * M (m + 3) 0) x2.1) m 6 = M m 6 := by rw [lq_up_n _ _ _ (by omega), g26]; exact t61
        have t42 : (lq_up M2 (m + 3) (8 + 30 * M (m + 3) 0) x2.1) m 4 = x2.2 := by rw [lq_up_n _ _ _ (by omega)]; exact g24
        have t132 : (lq_up M2 (m + 3) (8 + 30 * M (m + 3) 0) x2.1) m 13 = 0 := by rw [lq_up_n _ _ _ (by omega), g2r.1 13 (by decide) (by decide) (by decide) (by decide)]; exact t131
        have t142 : (lq_up M2 (m + 3) (8 + 30 * M (m + 3) 0) x2.1) m 14 = s.2.2.2.1 := by rw [lq_up_n _ _ _ (by omega), g2r.1 14 (by decide) (by decide) (by decide) (by decide)]; exact t141
        have u2 : (lq_up M2 (m + 3) (8 + 30 * M (m + 3) 0) x2.1) (m + 3) = fun x => if x = 8 + 30 * M (m + 3) 0 then x2.1 else (lq_up M1 (m + 3) (7 + 30 * M (m + 3) 0) x1.1) (m + 3) x := by rw [lq_up_a, g2r.2 (m + 3) (by omega)]
        have hux : ∀ x, (lq_up M2 (m + 3) (8 + 30 * M (m + 3) 0) x2.1) (m + 3) x = if x = 8 + 30 * M (m + 3) 0 then x2.1 else if x = 7 + 30 * M (m + 3) 0 then x1.1 else M (m + 3) x := fun x => by rw [u2, u1]
        refine qw_iconst (nI 0) dX9_readBreak_66 (by decide) ?_
        refine qw_istore dX9_readBreak_67 rfl (by decide) ?_
        refine qw_weak _ (by simp [lq_le]) (l_X9_readBreak h9 hL8 ht (n := M (m + 3) 0) (dd := x1.1) (hh := x2.1) (ns := t_sk t L x1.2) (by omega) t02 (by rw [lq_up_n _ _ _ (by omega)]; exact g212) (by rw [hux]; rw [if_neg (by omega), if_pos rfl]) (by rw [hux]; rw [if_pos rfl]) i1.2.2.2.1 i2.2.2.2.1 (fun j hj => by rw [hux, hux, if_neg (by omega), if_neg (by omega), if_neg (by omega), if_neg (by omega)]; exact hub j hj) (fun hx MZ hz => ?_) (fun hx => ?_) (M (m + 3) 0 + 1) 0 (Nat.zero_le _) (by omega) (fun j hj => absurd hj (Nat.not_lt_zero j)))
        · have hdp : g_dup s.2.1 x1.1 x2.1 := (hD.dup hW i2.2.2.2.1).mpr (by obtain ⟨j, j1, j2⟩ := hx; rw [hux, hux, if_neg (by omega), if_neg (by omega), if_neg (by omega), if_neg (by omega)] at j2; exact ⟨j, j1, j2⟩)
          have hb : p_br3 (p_brk t L s.2.1 s.1) s = .inl (4294967293, t_sk t L x1.2) := by unfold p_br3 p_brk; rw [if_neg c8n]; simp only [hr1, hr2, if_pos hdp]
          exact ⟨rfl, rfl, rfl, rfl, by rw [hb]; exact ⟨(f2.tr ((r_sf.up (by decide)).tr (r_sf.up (by decide)))).tr hz.1, by rw [hz.2.1, lq_up_c _ _ (by decide), lq_up_s], by rw [hz.2.2, lq_up_s], (show ¬ nI 4294967293 = 0 from by decide)⟩⟩
        · have hnd : ¬ g_dup s.2.1 x1.1 x2.1 := fun q => hx (by obtain ⟨j, j1, j2⟩ := (hD.dup hW i2.2.2.2.1).mp q; exact ⟨j, j1, by rw [hux, hux, if_neg (by omega), if_neg (by omega), if_neg (by omega), if_neg (by omega)]; exact j2⟩)
          refine qw_aload_n 0 dX9_readBreak_118 rfl rfl ?_
          refine qw_getr fX9_20 dX9_readBreak_119 h9.1 rfl ?_
          refine qw_iload_n 3 dX9_readBreak_122 rfl rfl ?_
          refine qw_iconst (nI 2) dX9_readBreak_123 (by decide) ?_
          refine qw_addN dX9_readBreak_124 ?_
          refine qw_aload_n 0 dX9_readBreak_125 rfl rfl ?_
          refine qw_bipush (nI 10) dX9_readBreak_126 (by decide) ?_
          refine qw_sipush (nI 300) dX9_readBreak_128 (by decide) ?_
          refine qw_cvi [_, _] (k_X9_number_g (lo := 10) (hi := 300) (e := x2.2) h9 hL8 ht tM2 tL2 t42 ⟨i2.2.2.2.2.2, rfl⟩ t02 (by decide) (by decide)) mX9_127 dX9_readBreak_131 h9.1 rfl rfl rfl (Nat.le_of_ble_eq_true rfl) (by omega) (by decide) rfl (fun y3 M3 h3 => ?_)
          cases hr3 : p_nu t L 10 300 x2.2 with
          | inl x0 =>
            rw [hr3] at h3
            obtain ⟨q1, q2, q3, q4⟩ := h3
            have hb : p_br3 (p_brk t L s.2.1 s.1) s = .inl x0 := by unfold p_br3 p_brk; rw [if_neg c8n]; simp only [hr1, hr2, if_neg hnd, hr3]
            rw [← q_u_n y3]
            refine qw_iasj (9 + 30 * M (m + 3) 0) (by omega) dX9_readBreak_134 h9.dr (by omega) (by omega) ?_
            refine qw_weak [some (.ref m), none, some (.int (nI (M (m + 3) 0))), some (.int (nI (7 + 30 * M (m + 3) 0))), none] (by simp [lq_le]) (b3_X9_readBreak h9 (by rw [lq_up_n _ _ _ (by omega), q1]; exact q4) (by omega) (fun MZ hz => ⟨rfl, rfl, rfl, rfl, by rw [hb]; exact ⟨(f2.tr q3.sf).tr (r_sf.dr.tr hz.1), by rw [hz.2.1, lq_up_n _ _ _ (by omega)]; exact q1, by rw [hz.2.2, lq_up_n _ _ _ (by omega)]; exact q2, q4⟩⟩))
          | inr x3 =>
            rw [hr3] at h3
            have i3 := p_nu_inr i2.2.2.2.2.2 hr3
            obtain ⟨rfl, g35, g34, g312, g36, g3r⟩ := h3
            refine qw_iasj (9 + 30 * M (m + 3) 0) (by omega) dX9_readBreak_134 h9.dr (by omega) (by omega) ?_
            have f3 : r_sf m M (lq_up M3 (m + 3) (9 + 30 * M (m + 3) 0) x3.1) := ((f2).tr g3r.sf).tr r_sf.dr
            have tM3 : ∀ j, j < L → (lq_up M3 (m + 3) (9 + 30 * M (m + 3) 0) x3.1) (m + 1) j = t j := fun j hj => by rw [f3.2 (m + 1) (by omega) (by omega)]; exact hM j hj
            have tL3 : (lq_up M3 (m + 3) (9 + 30 * M (m + 3) 0) x3.1) m 3 = L := by rw [f3.1 3 (by decide) (by decide) (by decide) (by decide) (by decide) (by decide)]; exact hL
            have t03 : (lq_up M3 (m + 3) (9 + 30 * M (m + 3) 0) x3.1) m 5 = 0 := by rw [lq_up_n _ _ _ (by omega)]; exact g35
            have t63 : (lq_up M3 (m + 3) (9 + 30 * M (m + 3) 0) x3.1) m 6 = M m 6 := by rw [lq_up_n _ _ _ (by omega), g36]; exact t62
            have t43 : (lq_up M3 (m + 3) (9 + 30 * M (m + 3) 0) x3.1) m 4 = x3.2 := by rw [lq_up_n _ _ _ (by omega)]; exact g34
            have t133 : (lq_up M3 (m + 3) (9 + 30 * M (m + 3) 0) x3.1) m 13 = 0 := by rw [lq_up_n _ _ _ (by omega), g3r.1 13 (by decide) (by decide) (by decide) (by decide)]; exact t132
            have t143 : (lq_up M3 (m + 3) (9 + 30 * M (m + 3) 0) x3.1) m 14 = s.2.2.2.1 := by rw [lq_up_n _ _ _ (by omega), g3r.1 14 (by decide) (by decide) (by decide) (by decide)]; exact t142
            have u3 : (lq_up M3 (m + 3) (9 + 30 * M (m + 3) 0) x3.1) (m + 3) = fun x => if x = 9 + 30 * M (m + 3) 0 then x3.1 else (lq_up M2 (m + 3) (8 + 30 * M (m + 3) 0) x2.1) (m + 3) x := by rw [lq_up_a, g3r.2 (m + 3) (by omega)]
            refine qw_aload_n 0 dX9_readBreak_135 rfl rfl ?_
            refine qw_getr fX9_20 dX9_readBreak_136 h9.1 rfl ?_
            refine qw_iload_n 3 dX9_readBreak_139 rfl rfl ?_
            refine qw_iconst (nI 3) dX9_readBreak_140 (by decide) ?_
            refine qw_addN dX9_readBreak_141 ?_
            refine qw_aload_n 0 dX9_readBreak_142 rfl rfl ?_
            refine qw_iconst (nI 0) dX9_readBreak_143 (by decide) ?_
            refine qw_sipush (nI 999) dX9_readBreak_144 (by decide) ?_
            refine qw_cvi [_, _] (k_X9_number_g (lo := 0) (hi := 999) (e := x3.2) h9 hL8 ht tM3 tL3 t43 ⟨i3.2.2.2.2.2, rfl⟩ t03 (by decide) (by decide)) mX9_127 dX9_readBreak_147 h9.1 rfl rfl rfl (Nat.le_of_ble_eq_true rfl) (by omega) (by decide) rfl (fun y4 M4 h4 => ?_)
            cases hr4 : p_nu t L 0 999 x3.2 with
            | inl x0 =>
              rw [hr4] at h4
              obtain ⟨q1, q2, q3, q4⟩ := h4
              have hb : p_br3 (p_brk t L s.2.1 s.1) s = .inl x0 := by unfold p_br3 p_brk; rw [if_neg c8n]; simp only [hr1, hr2, if_neg hnd, hr3, hr4]
              rw [← q_u_n y4]
              refine qw_iasj (10 + 30 * M (m + 3) 0) (by omega) dX9_readBreak_150 h9.dr (by omega) (by omega) ?_
              refine qw_weak [some (.ref m), none, some (.int (nI (M (m + 3) 0))), some (.int (nI (7 + 30 * M (m + 3) 0))), none] (by simp [lq_le]) (b4_X9_readBreak h9 (by rw [lq_up_n _ _ _ (by omega), q1]; exact q4) (by omega) (fun MZ hz => ⟨rfl, rfl, rfl, rfl, by rw [hb]; exact ⟨(f3.tr q3.sf).tr (r_sf.dr.tr hz.1), by rw [hz.2.1, lq_up_n _ _ _ (by omega)]; exact q1, by rw [hz.2.2, lq_up_n _ _ _ (by omega)]; exact q2, q4⟩⟩))
            | inr x4 =>
              rw [hr4] at h4
              have i4 := p_nu_inr i3.2.2.2.2.2 hr4
              obtain ⟨rfl, g45, g44, g412, g46, g4r⟩ := h4
              refine qw_iasj (10 + 30 * M (m + 3) 0) (by omega) dX9_readBreak_150 h9.dr (by omega) (by omega) ?_
              have f4 : r_sf m M (lq_up M4 (m + 3) (10 + 30 * M (m + 3) 0) x4.1) := ((f3).tr g4r.sf).tr r_sf.dr
              have tM4 : ∀ j, j < L → (lq_up M4 (m + 3) (10 + 30 * M (m + 3) 0) x4.1) (m + 1) j = t j := fun j hj => by rw [f4.2 (m + 1) (by omega) (by omega)]; exact hM j hj
              have tL4 : (lq_up M4 (m + 3) (10 + 30 * M (m + 3) 0) x4.1) m 3 = L := by rw [f4.1 3 (by decide) (by decide) (by decide) (by decide) (by decide) (by decide)]; exact hL
              have t04 : (lq_up M4 (m + 3) (10 + 30 * M (m + 3) 0) x4.1) m 5 = 0 := by rw [lq_up_n _ _ _ (by omega)]; exact g45
              have t64 : (lq_up M4 (m + 3) (10 + 30 * M (m + 3) 0) x4.1) m 6 = M m 6 := by rw [lq_up_n _ _ _ (by omega), g46]; exact t63
              have t44 : (lq_up M4 (m + 3) (10 + 30 * M (m + 3) 0) x4.1) m 4 = x4.2 := by rw [lq_up_n _ _ _ (by omega)]; exact g44
              have t134 : (lq_up M4 (m + 3) (10 + 30 * M (m + 3) 0) x4.1) m 13 = 0 := by rw [lq_up_n _ _ _ (by omega), g4r.1 13 (by decide) (by decide) (by decide) (by decide)]; exact t133
              have t144 : (lq_up M4 (m + 3) (10 + 30 * M (m + 3) 0) x4.1) m 14 = s.2.2.2.1 := by rw [lq_up_n _ _ _ (by omega), g4r.1 14 (by decide) (by decide) (by decide) (by decide)]; exact t143
              have u4 : (lq_up M4 (m + 3) (10 + 30 * M (m + 3) 0) x4.1) (m + 3) = fun x => if x = 10 + 30 * M (m + 3) 0 then x4.1 else (lq_up M3 (m + 3) (9 + 30 * M (m + 3) 0) x3.1) (m + 3) x := by rw [lq_up_a, g4r.2 (m + 3) (by omega)]
              have hu0 : (lq_up M4 (m + 3) (10 + 30 * M (m + 3) 0) x4.1) (m + 3) 0 = M (m + 3) 0 := by rw [u4]; show (if 0 = _ then _ else (lq_up M3 (m + 3) (9 + 30 * M (m + 3) 0) x3.1) (m + 3) 0) = _; rw [if_neg (by omega), u3]; show (if 0 = _ then _ else (lq_up M2 (m + 3) (8 + 30 * M (m + 3) 0) x2.1) (m + 3) 0) = _; rw [if_neg (by omega), u2]; show (if 0 = _ then _ else (lq_up M1 (m + 3) (7 + 30 * M (m + 3) 0) x1.1) (m + 3) 0) = _; rw [if_neg (by omega), u1]; show (if 0 = _ then _ else M (m + 3) 0) = _; rw [if_neg (by omega)]
              have hux : ∀ x, (lq_up M4 (m + 3) (10 + 30 * M (m + 3) 0) x4.1) (m + 3) x = if x = 10 + 30 * M (m + 3) 0 then x4.1 else if x = 9 + 30 * M (m + 3) 0 then x3.1 else if x = 8 + 30 * M (m + 3) 0 then x2.1 else if x = 7 + 30 * M (m + 3) 0 then x1.1 else M (m + 3) x := fun x => by rw [u4, u3, u2, u1]
              have hb : p_br3 (p_brk t L s.2.1 s.1) s = .inr (x4.2, g_abk s.2.1 (g_abp s.2.1 x1.1 x2.1 (s.2.1 0)) x1.1 x2.1 x3.1 x4.1, s.2.2) := by unfold p_br3 p_brk; rw [if_neg c8n]; simp only [hr1, hr2, if_neg hnd, hr3, hr4]
              refine qw_aload_n 0 dX9_readBreak_151 rfl rfl ?_
              refine qw_getr fX9_20 dX9_readBreak_152 h9.1 rfl ?_
              refine qw_iconst (nI 0) dX9_readBreak_155 (by decide) ?_
              refine qw_dup2 dX9_readBreak_156 rfl rfl ?_
              refine qw_iald dX9_readBreak_157 h9.dr (by omega) (by omega) ?_
              refine qw_iconst (nI 1) dX9_readBreak_158 (by decide) ?_
              refine qw_addN dX9_readBreak_159 ?_
              refine qw_iast dX9_readBreak_160 h9.dr (by omega) (by omega) ?_
              exact qw_return rfl dX9_readBreak_161 ⟨rfl, rfl, rfl, rfl, by rw [hb]; exact ⟨f4.tr r_sf.dr, by rw [lq_up_n _ _ _ (by omega)]; exact t64, by rw [lq_up_n _ _ _ (by omega)]; exact t04, by rw [lq_up_n _ _ _ (by omega), t44]; exact ⟨i4.2.2.2.2.2, rfl⟩, by rw [lq_up_n _ _ _ (by omega)]; exact t134, by rw [lq_up_n _ _ _ (by omega)]; exact t144, hD.brk (by omega) (by rw [lq_up_s, hu0]) (by rw [lq_up_c _ _ (by omega), hux, if_neg (by omega), if_neg (by omega), if_neg (by omega), if_pos rfl]) (by rw [lq_up_c _ _ (by omega), hux, if_neg (by omega), if_neg (by omega), if_pos rfl]) (by rw [lq_up_c _ _ (by omega), hux, if_neg (by omega), if_pos rfl]) (by rw [lq_up_c _ _ (by omega), hux, if_pos rfl]) (fun x x1 x2 => by rw [lq_up_c _ _ x1, hux, if_neg (by omega), if_neg (by omega), if_neg (by omega), if_neg (by omega)])⟩⟩
  · refine qw_aload_n 0 dX9_readBreak_11 rfl rfl ?_
    refine qw_bipush (-4) dX9_readBreak_12 (by decide) ?_
    rw [show (-4 : Int32) = nI 4294967292 by decide]
    refine qw_iload_n 1 dX9_readBreak_14 rfl rfl ?_
    refine qw_cvv [_, _] (k_X9_report_g h9 h0) mX9_87 dX9_readBreak_15 h9.1 rfl rfl rfl (Nat.le_of_ble_eq_true rfl) (by omega) (by decide) rfl (fun M2 h2 => ?_)
    subst h2
    refine qw_aload_n 0 dX9_readBreak_18 rfl rfl ?_
    refine qw_cvp [] (k_X9_isGood_b h9 (by rw [lq_up_c _ _ (by decide), lq_up_s]; decide)) mX9_70 dX9_readBreak_19 h9.1 rfl rfl rfl (Nat.le_of_ble_eq_true rfl) (by omega) (by decide) rfl ?_
    refine qw_if_neN 26 dX9_readBreak_22 (by decide) (by omega) (fun c22 => absurd rfl c22) (fun c22 => ?_)
    exact qw_return rfl dX9_readBreak_25 ⟨rfl, rfl, rfl, rfl, by rw [show p_br3 (p_brk t L s.2.1 s.1) s = .inl (4294967292, t_sk t L s.1) by unfold p_br3 p_brk; rw [if_pos (by omega)]]; exact ⟨(r_sf.up (by decide)).tr (r_sf.up (by decide)), by rw [lq_up_c _ _ (by decide), lq_up_s], by rw [lq_up_s], (show ¬ nI 4294967292 = 0 from by decide)⟩⟩
end R15
