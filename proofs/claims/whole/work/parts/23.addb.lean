/-! a plan takes a break at its place in time; the history -/
def g_lat (g : Nat → Nat) (dd hh i : Nat) : Prop := dd < g (7 + 30 * i) ∨ (g (7 + 30 * i) = dd ∧ hh < g (8 + 30 * i))
def g_abp (g : Nat → Nat) (dd hh : Nat) : Nat → Nat
  | 0 => 0
  | m + 1 => if dd < g (7 + 30 * m) ∨ (g (7 + 30 * m) = dd ∧ hh < g (8 + 30 * m)) then g_abp g dd hh m else m + 1
theorem g_abp_le (g : Nat → Nat) (dd hh : Nat) : ∀ m, g_abp g dd hh m ≤ m
  | 0 => Nat.le_refl 0
  | m + 1 => by
    have := g_abp_le g dd hh m
    rw [g_abp]
    split <;> omega
/-- a break put in at place k -/
def g_abk (g : Nat → Nat) (k dd hh ll uu : Nat) : Nat → Nat := fun x => if x = 0 then g 0 + 1 else if x < 7 + 30 * k ∨ 37 + 30 * g 0 ≤ x then g x else if x < 37 + 30 * k then (if x = 7 + 30 * k then dd else if x = 8 + 30 * k then hh else if x = 9 + 30 * k then ll else if x = 10 + 30 * k then uu else 0) else g (x - 30)
def q_tau (k m : Nat) : Nat → Nat := fun j => if j < k then j else if j = k then m else if j ≤ m then j - 1 else j
theorem q_tau_lt {k m j : Nat} (hk : k ≤ m) (hm : m < 20) (hj : j < 20) : q_tau k m j < 20 := by
  unfold q_tau
  split
  · omega
  · split
    · omega
    · split <;> omega
theorem q_tau_inj {k m i j : Nat} (hk : k ≤ m) (e : q_tau k m i = q_tau k m j) : i = j := by
  unfold q_tau at e
  by_cases i1 : i < k
  · rw [if_pos i1] at e
    by_cases j1 : j < k
    · rw [if_pos j1] at e; exact e
    · rw [if_neg j1] at e
      by_cases j2 : j = k
      · rw [if_pos j2] at e; omega
      · rw [if_neg j2] at e
        by_cases j3 : j ≤ m
        · rw [if_pos j3] at e; omega
        · rw [if_neg j3] at e; omega
  · rw [if_neg i1] at e
    by_cases i2 : i = k
    · rw [if_pos i2] at e
      by_cases j1 : j < k
      · rw [if_pos j1] at e; omega
      · rw [if_neg j1] at e
        by_cases j2 : j = k
        · omega
        · rw [if_neg j2] at e
          by_cases j3 : j ≤ m
          · rw [if_pos j3] at e; omega
          · rw [if_neg j3] at e; omega
    · rw [if_neg i2] at e
      by_cases i3 : i ≤ m
      · rw [if_pos i3] at e
        by_cases j1 : j < k
        · rw [if_pos j1] at e; omega
        · rw [if_neg j1] at e
          by_cases j2 : j = k
          · rw [if_pos j2] at e; omega
          · rw [if_neg j2] at e
            by_cases j3 : j ≤ m
            · rw [if_pos j3] at e; omega
            · rw [if_neg j3] at e; omega
      · rw [if_neg i3] at e
        by_cases j1 : j < k
        · rw [if_pos j1] at e; omega
        · rw [if_neg j1] at e
          by_cases j2 : j = k
          · rw [if_pos j2] at e; omega
          · rw [if_neg j2] at e
            by_cases j3 : j ≤ m
            · rw [if_pos j3] at e; omega
            · rw [if_neg j3] at e; omega
theorem sh4.tau {S S1 : lq_S} {a k m : Nat} {f f1 : Nat → Option Nat} {σ : Nat → Nat} (hS : sh4 S a f σ) (hk : k ≤ m) (hm : m < 20) (e : ∀ b, b ≠ a + 1 → S1 b = S b) (e1 : S1 (a + 1) = some (.inr (.inr (4, 20, f1)))) (ef : ∀ i, i < 20 → f1 i = f (q_tau k m i)) : sh4 S1 a f1 (fun j => σ (q_tau k m j)) := by
  obtain ⟨h1, h2, h3, h4, h5, h6, h7, h8, h9, h10, h11⟩ := hS
  refine ⟨by rw [e a (by omega)]; exact h1, e1, fun i hi => by rw [ef i hi]; exact h3 _ (q_tau_lt hk hm hi), fun j hj => ?_, fun i hi => h5 _ (q_tau_lt hk hm hi), fun i j hi hj q => q_tau_inj hk (h6 _ _ (q_tau_lt hk hm hi) (q_tau_lt hk hm hj) q), by rw [e _ (by omega)]; exact h7, by rw [e _ (by omega)]; exact h8, by rw [e _ (by omega)]; exact h9, ?_, ?_⟩
  · have q := h4 j hj
    unfold sh0 sh6 at q ⊢
    rw [e (a + 2 + 6 * j) (by omega), e (a + 2 + 6 * j + 1) (by omega), e (a + 2 + 6 * j + 1 + 1) (by omega), e (a + 2 + 6 * j + 1 + 2) (by omega), e (a + 2 + 6 * j + 1 + 3) (by omega), e (a + 2 + 6 * j + 1 + 4) (by omega)]
    exact q
  · unfold sh2 at h10 ⊢
    rw [e (a + 125) (by omega), e (a + 125 + 1) (by omega), e (a + 125 + 2) (by omega), e (a + 125 + 3) (by omega)]
    exact h10
  · unfold sh6 at h11 ⊢
    rw [e (a + 129) (by omega), e (a + 129 + 1) (by omega), e (a + 129 + 2) (by omega), e (a + 129 + 3) (by omega), e (a + 129 + 4) (by omega)]
    exact h11
theorem q_pl.abk {S : lq_S} {M M1 : lq_M} {a k dd hh ll uu : Nat} {f : Nat → Option Nat} {σ g : Nat → Nat} {tk : Nat → Nat × Nat} {n : Nat} (hS : sh4 S a f σ) (hR : q_pl M a σ g tk n) (hW : g_wf g) (h20 : g 0 < 20) (hk : k ≤ g 0) (h1 : q_bsd M (a + 2 + 6 * σ (g 0)) dd hh ll uu M1) : q_pl (lq_up M1 a 1 (g 0 + 1)) a (fun j => σ (q_tau k (g 0) j)) (g_abk g k dd hh ll uu) tk n ∧ q_fr a (a + 134) M (lq_up M1 a 1 (g 0 + 1)) := by
  obtain ⟨b0, b1, b2, b3, b4, b5, b6⟩ := h1
  have h8 := hW.ns
  have hs0 := hS.s (i := g 0) h20
  have e : ∀ b, b ≠ a → (b < a + 2 ∨ a + 122 ≤ b) → lq_up M1 a 1 (g 0 + 1) b = M b := fun b x1 x2 => by rw [lq_up_n _ _ _ x1, b6 b (by omega) (by omega)]
  have ea : ∀ j, j ≠ 1 → lq_up M1 a 1 (g 0 + 1) a j = M a j := fun j hj => by rw [lq_up_c _ _ hj, b6 a (by omega) (by omega)]
  have og : ∀ x, x ≠ 0 → (x < 7 ∨ 607 ≤ x) → g_abk g k dd hh ll uu x = g x := fun x x1 x2 => by
    unfold g_abk
    rw [if_neg x1, if_pos (by omega)]
  have o0 : g_abk g k dd hh ll uu 0 = g 0 + 1 := by unfold g_abk; rw [if_pos rfl]
  refine ⟨⟨by rw [lq_up_s, o0], by rw [ea 4 (by decide), og 1 (by omega) (by omega)]; exact hR.ns, by rw [ea 8 (by decide), og 6 (by omega) (by omega)]; exact hR.inc, fun i hi => ?_, fun s hs => ?_, fun c hc => ?_, ?_, ?_⟩, fun b hb => by rw [lq_up_n _ _ _ (by omega), b6 b (by omega) (by omega)]⟩
  · rw [o0] at hi
    by_cases q1 : i = k
    · subst q1
      have et : q_tau i (g 0) i = g 0 := by unfold q_tau; rw [if_neg (Nat.lt_irrefl i), if_pos rfl]
      have oc : ∀ c, c < 30 → g_abk g i dd hh ll uu (7 + c + 30 * i) = (if c = 0 then dd else if c = 1 then hh else if c = 2 then ll else if c = 3 then uu else 0) := fun c hc => by
        unfold g_abk
        rw [if_neg (by omega), if_neg (by omega), if_pos (by omega)]
        rcases (show c = 0 ∨ c = 1 ∨ c = 2 ∨ c = 3 ∨ 4 ≤ c by omega) with w | w | w | w | w
        · subst w; rw [if_pos (by omega)]; rfl
        · subst w; rw [if_neg (by omega), if_pos (by omega)]; rfl
        · subst w; rw [if_neg (by omega), if_neg (by omega), if_pos (by omega)]; rfl
        · subst w; rw [if_neg (by omega), if_neg (by omega), if_neg (by omega), if_pos (by omega)]; rfl
        · rw [if_neg (by omega), if_neg (by omega), if_neg (by omega), if_neg (by omega), if_neg (by omega), if_neg (by omega), if_neg (by omega), if_neg (by omega)]
      have c0 := oc 0 (by decide)
      have c1 := oc 1 (by decide)
      have c2 := oc 2 (by decide)
      have c3 := oc 3 (by decide)
      have c4 := oc 4 (by decide)
      have c5 := oc 5 (by decide)
      simp only [Nat.reduceAdd] at c0 c1 c2 c3 c4 c5
      show q_br _ (a + 2 + 6 * σ (q_tau i (g 0) i)) _ i
      unfold q_br
      rw [et, c0, c1, c2, c3, c4, c5, lq_up_n _ _ _ (show a + 2 + 6 * σ (g 0) ≠ a by omega), lq_up_n _ _ _ (show a + 2 + 6 * σ (g 0) + 1 ≠ a by omega)]
      exact ⟨b0, b1, b2, b3, b4, b5, fun p hp => absurd hp (Nat.not_lt_zero p)⟩
    · have hj : ∃ j, q_tau k (g 0) i = j ∧ j < g 0 ∧ ∀ c, c < 30 → g_abk g k dd hh ll uu (7 + c + 30 * i) = g (7 + c + 30 * j) := by
        by_cases q2 : i < k
        · refine ⟨i, by unfold q_tau; rw [if_pos q2], by omega, fun c hc => ?_⟩
          unfold g_abk
          rw [if_neg (by omega), if_pos (by omega)]
        · refine ⟨i - 1, by unfold q_tau; rw [if_neg q2, if_neg q1, if_pos (by omega)], by omega, fun c hc => ?_⟩
          unfold g_abk
          rw [if_neg (by omega), if_neg (by omega), if_neg (by omega)]
          exact congrArg g (by omega)
      obtain ⟨j, ej, hj, oc⟩ := hj
      have c0 := oc 0 (by decide)
      have c1 := oc 1 (by decide)
      have c2 := oc 2 (by decide)
      have c3 := oc 3 (by decide)
      have c4 := oc 4 (by decide)
      have c5 := oc 5 (by decide)
      simp only [Nat.reduceAdd] at c0 c1 c2 c3 c4 c5
      have hsj := hS.s (i := j) (by omega)
      have hne : σ j ≠ σ (g 0) := fun q => by have := hS.inj (by omega) h20 q; omega
      have hb := (hW.br hj).2.2.2.2.2.1
      have q := (hR.br hj).eqM (M1 := lq_up M1 a 1 (g 0 + 1)) (fun x x1 x2 => by rw [lq_up_n _ _ _ (by omega), b6 x (by omega) (by omega)])
      show q_br _ (a + 2 + 6 * σ (q_tau k (g 0) i)) _ i
      rw [ej]
      unfold q_br at q ⊢
      rw [c0, c1, c2, c3, c4, c5]
      refine ⟨q.1, q.2.1, q.2.2.1, q.2.2.2.1, q.2.2.2.2.1, q.2.2.2.2.2.1, fun p hp => ?_⟩
      have p0 := oc (6 + 3 * p) (by omega)
      have p1 := oc (7 + 3 * p) (by omega)
      have p2 := oc (8 + 3 * p) (by omega)
      rw [show 7 + (6 + 3 * p) + 30 * i = 13 + 30 * i + 3 * p by omega, show 7 + (6 + 3 * p) + 30 * j = 13 + 30 * j + 3 * p by omega] at p0
      rw [show 7 + (7 + 3 * p) + 30 * i = 14 + 30 * i + 3 * p by omega, show 7 + (7 + 3 * p) + 30 * j = 14 + 30 * j + 3 * p by omega] at p1
      rw [show 7 + (8 + 3 * p) + 30 * i = 15 + 30 * i + 3 * p by omega, show 7 + (8 + 3 * p) + 30 * j = 15 + 30 * j + 3 * p by omega] at p2
      rw [p0, p1, p2]
      exact q.2.2.2.2.2.2 p hp
  · rw [og 1 (by omega) (by omega)] at hs
    rw [e (a + 122) (by omega) (by omega), e (a + 123) (by omega) (by omega), og (607 + 2 * s) (by omega) (by omega), og (608 + 2 * s) (by omega) (by omega)]
    exact hR.cat hs
  · rw [e (a + 124) (by omega) (by omega)]
    refine ⟨(hR.ban hc).1, fun b hb => ?_⟩
    rw [og _ (by omega) (by omega)]
    exact (hR.ban hc).2 b hb
  · rw [e (a + 125) (by omega) (by omega), e (a + 125 + 1) (by omega) (by omega)]
    exact hR.fm
  · rw [e (a + 129) (by omega) (by omega), e (a + 129 + 1) (by omega) (by omega), e (a + 129 + 2) (by omega) (by omega), e (a + 129 + 3) (by omega) (by omega), e (a + 129 + 4) (by omega) (by omega), og 5 (by omega) (by omega)]
    refine ⟨hR.ow.1, fun k hk => ?_⟩
    rw [og (723 + 4 * k) (by omega) (by omega), og (724 + 4 * k) (by omega) (by omega), og (725 + 4 * k) (by omega) (by omega), og (726 + 4 * k) (by omega) (by omega)]
    exact hR.ow.2 k hk
section PW4
variable {G : lq_G} {z : Nat} {N : lq_N}
theorem l_X4_addBreak {S0 : lq_S} {a : Nat} {f : Nat → Option Nat} {σ g : Nat → Nat} {tk : Nat → Nat × Nat} {n : Nat} (hS : sh4 S0 a f σ) {M0 M : lq_M} (hR : q_pl M0 a σ g tk n) (hW : g_wf g) (h20 : g 0 < 20) {dd hh ll uu : Nat} (hd7 : dd < 2 ^ 31) (hh7 : hh < 2 ^ 31) (h1 : q_bsd M0 (a + 2 + 6 * σ (g 0)) dd hh ll uu M) : ∀ (m : Nat) (S : lq_S) (fm : Nat → Option Nat), m ≤ g 0 → (S a = some (.inl (4, [some (some (a + 1)), none, some (some (a + 122)), some (some (a + 123)), none, some (some (a + 124)), some (some (a + 125)), some (some (a + 129)), none])) ∧ S (a + 1) = some (.inr (.inr (4, 20, fm)))) → (∀ b, b ≠ a + 1 → S b = S0 b) → (∀ j, j < m → fm j = f j) → (∀ j, m < j → j ≤ g 0 → fm j = f (j - 1)) → (∀ j, g 0 < j → fm j = f j) → g_abp g dd hh m = g_abp g dd hh (g 0) → LW G YX4_addBreak 1 0 0 (fun r z1 S1 M1 N1 => z1 = z ∧ N1 = N ∧ r = none ∧ ∃ f1 σ1, sh4 S1 a f1 σ1 ∧ (∀ b, b ≠ a + 1 → S1 b = S0 b) ∧ q_pl M1 a σ1 (g_abk g (g_abp g dd hh (g 0)) dd hh ll uu) tk n ∧ q_fr a (a + 134) M0 M1) lq_no z S M N 37 [some (.ref a), some (.int (nI dd)), some (.int (nI hh)), none, none, some (.ref (a + 2 + 6 * σ (g 0))), some (.int (nI m))] [] := by
  intro m
  induction m with
  | zero =>
    intro S fm hm hP eS f1 f2 f3 hK
    replace hK : g_abp g dd hh (g 0) = 0 := hK.symm
    have hs0 := hS.s (i := g 0) h20
    have hbb := h1.2.2.2.2.2.2
    have hc0 : M a 1 = g 0 := by rw [hbb a (by omega) (by omega)]; exact hR.nb
    refine qw_iload dX4_addBreak_37 rfl ?_
    refine qw_if_leN 81 dX4_addBreak_39 (by decide) (by omega) (fun c39 => ?_) (fun c39 => absurd c39 (by omega))
    refine qw_aload_n 0 dX4_addBreak_81 rfl rfl ?_
    refine qw_getr fX4_11 dX4_addBreak_82 hP.1 rfl ?_
    refine qw_iload dX4_addBreak_85 rfl ?_
    refine qw_aload dX4_addBreak_87 rfl ?_
    refine qw_aast dX4_addBreak_89 hP.2 rfl ((eS _ (by omega)).trans (hS.b h20).1) rfl (by omega) (by decide) ?_
    have hP2 : lq_us S (a + 1) (.inr (.inr (4, 20, fun q => if q = 0 then some (a + 2 + 6 * σ (g 0)) else fm q))) a = some (.inl (4, [some (some (a + 1)), none, some (some (a + 122)), some (some (a + 123)), none, some (some (a + 124)), some (some (a + 125)), some (some (a + 129)), none])) := by
      rw [lq_us_n _ _ (by omega)]; exact hP.1
    refine qw_aload_n 0 dX4_addBreak_90 rfl rfl ?_
    refine qw_dup dX4_addBreak_91 rfl ?_
    refine qw_geti fX4_44 dX4_addBreak_92 hP2 rfl ?_
    rw [hc0]
    refine qw_iconst (nI 1) dX4_addBreak_95 (by decide) ?_
    refine qw_addN dX4_addBreak_96 ?_
    refine qw_puti fX4_44 dX4_addBreak_97 hP2 rfl ?_
    refine qw_return rfl dX4_addBreak_100 ⟨rfl, rfl, rfl, _, _, hS.tau (k := 0) (m := g 0) (f1 := fun q => if q = 0 then some (a + 2 + 6 * σ (g 0)) else fm q) (by omega) h20 (fun b hb => by rw [lq_us_n _ _ hb]; exact eS b hb) (by rw [lq_us_s]) (fun j hj => ?_), fun b hb => by rw [lq_us_n _ _ hb]; exact eS b hb, by rw [hK]; exact (hR.abk hS hW h20 (by omega) h1).1, (hR.abk hS hW h20 (k := 0) (by omega) h1).2⟩
    show (if j = 0 then some (a + 2 + 6 * σ (g 0)) else fm j) = f (q_tau 0 (g 0) j)
    unfold q_tau
    by_cases q1 : j < 0
    · rw [if_neg (by omega), if_pos q1]; exact f1 j q1
    · rw [if_neg q1]
      by_cases q2 : j = 0
      · rw [if_pos q2, if_pos q2]; exact (hS.el h20).symm
      · rw [if_neg q2, if_neg q2]
        by_cases q3 : j ≤ g 0
        · rw [if_pos q3]; exact f2 j (by omega) q3
        · rw [if_neg q3]; exact f3 j (by omega)
  | succ m ih =>
    intro S fm hm hP eS f1 f2 f3 hK
    have hs0 := hS.s (i := g 0) h20
    have hbb := h1.2.2.2.2.2.2
    have hc0 : M a 1 = g 0 := by rw [hbb a (by omega) (by omega)]; exact hR.nb
    refine qw_iload dX4_addBreak_37 rfl ?_
    refine qw_if_leN 81 dX4_addBreak_39 (by decide) (by omega) (fun c39 => absurd c39 (by omega)) (fun c39 => ?_)
    refine qw_aload_n 0 dX4_addBreak_42 rfl rfl ?_
    refine qw_getr fX4_11 dX4_addBreak_43 hP.1 rfl ?_
    refine qw_iload dX4_addBreak_46 rfl ?_
    refine qw_iconst (nI 1) dX4_addBreak_48 (by decide) ?_
    have hsm := hS.s (i := m) (by omega)
    refine qw_subN (by omega) dX4_addBreak_49 ?_
    rw [show m + 1 - 1 = m by omega]
    have hbS : sh0 S (a + 2 + 6 * σ m) := by
      have q := hS.b (i := m) (by omega)
      unfold sh0 sh6 at q ⊢
      rw [eS (a + 2 + 6 * σ m) (by omega), eS (a + 2 + 6 * σ m + 1) (by omega), eS (a + 2 + 6 * σ m + 1 + 1) (by omega), eS (a + 2 + 6 * σ m + 1 + 2) (by omega), eS (a + 2 + 6 * σ m + 1 + 3) (by omega), eS (a + 2 + 6 * σ m + 1 + 4) (by omega)]
      exact q
    have hne : σ m ≠ σ (g 0) := fun q => by have := hS.inj (by omega) h20 q; omega
    have hwm := hW.br (i := m) (by omega)
    have hbm : q_br M (a + 2 + 6 * σ m) g m := (hR.br (by omega)).eqM (fun x x1 x2 => hbb x (by omega) (by omega))
    refine qw_aald dX4_addBreak_50 hP.2 rfl rfl (by omega) (by omega) ((f1 m (by omega)).trans (hS.el (by omega))) ?_
    refine qw_iload_n 1 dX4_addBreak_51 rfl rfl ?_
    refine qw_iload_n 2 dX4_addBreak_52 rfl rfl ?_
    refine qw_cvp [_, _] (k_X0_isLaterThan hbS (by rw [hbm.1]; omega) (by rw [hbm.2.1]; omega) hd7 hh7) mX4_80 dX4_addBreak_53 hbS.1 rfl rfl rfl (Nat.le_of_ble_eq_true rfl) (by omega) (by decide) rfl ?_
    rw [hbm.1, hbm.2.1]
    refine qw_if_eq 81 dX4_addBreak_56 (by decide) (fun c56 => ?_) (fun c56 => ?_)
    · have hnl : ¬ (dd < g (7 + 30 * m) ∨ (g (7 + 30 * m) = dd ∧ hh < g (8 + 30 * m))) := fun q => by rw [if_pos q] at c56; exact absurd c56 (by decide)
      have hK2 : g_abp g dd hh (m + 1) = m + 1 := by
        rw [g_abp, if_neg hnl]
      rw [hK2] at hK
      replace hK := hK.symm
      refine qw_aload_n 0 dX4_addBreak_81 rfl rfl ?_
      refine qw_getr fX4_11 dX4_addBreak_82 hP.1 rfl ?_
      refine qw_iload dX4_addBreak_85 rfl ?_
      refine qw_aload dX4_addBreak_87 rfl ?_
      refine qw_aast dX4_addBreak_89 hP.2 rfl ((eS _ (by omega)).trans (hS.b h20).1) rfl (by omega) (by decide) ?_
      have hP2 : lq_us S (a + 1) (.inr (.inr (4, 20, fun q => if q = (m + 1) then some (a + 2 + 6 * σ (g 0)) else fm q))) a = some (.inl (4, [some (some (a + 1)), none, some (some (a + 122)), some (some (a + 123)), none, some (some (a + 124)), some (some (a + 125)), some (some (a + 129)), none])) := by
        rw [lq_us_n _ _ (by omega)]; exact hP.1
      refine qw_aload_n 0 dX4_addBreak_90 rfl rfl ?_
      refine qw_dup dX4_addBreak_91 rfl ?_
      refine qw_geti fX4_44 dX4_addBreak_92 hP2 rfl ?_
      rw [hc0]
      refine qw_iconst (nI 1) dX4_addBreak_95 (by decide) ?_
      refine qw_addN dX4_addBreak_96 ?_
      refine qw_puti fX4_44 dX4_addBreak_97 hP2 rfl ?_
      refine qw_return rfl dX4_addBreak_100 ⟨rfl, rfl, rfl, _, _, hS.tau (k := (m + 1)) (m := g 0) (f1 := fun q => if q = (m + 1) then some (a + 2 + 6 * σ (g 0)) else fm q) (by omega) h20 (fun b hb => by rw [lq_us_n _ _ hb]; exact eS b hb) (by rw [lq_us_s]) (fun j hj => ?_), fun b hb => by rw [lq_us_n _ _ hb]; exact eS b hb, by rw [hK]; exact (hR.abk hS hW h20 (by omega) h1).1, (hR.abk hS hW h20 (k := (m + 1)) (by omega) h1).2⟩
      show (if j = (m + 1) then some (a + 2 + 6 * σ (g 0)) else fm j) = f (q_tau (m + 1) (g 0) j)
      unfold q_tau
      by_cases q1 : j < (m + 1)
      · rw [if_neg (by omega), if_pos q1]; exact f1 j q1
      · rw [if_neg q1]
        by_cases q2 : j = (m + 1)
        · rw [if_pos q2, if_pos q2]; exact (hS.el h20).symm
        · rw [if_neg q2, if_neg q2]
          by_cases q3 : j ≤ g 0
          · rw [if_pos q3]; exact f2 j (by omega) q3
          · rw [if_neg q3]; exact f3 j (by omega)
    · refine qw_aload_n 0 dX4_addBreak_59 rfl rfl ?_
      refine qw_getr fX4_11 dX4_addBreak_60 hP.1 rfl ?_
      refine qw_iload dX4_addBreak_63 rfl ?_
      refine qw_aload_n 0 dX4_addBreak_65 rfl rfl ?_
      refine qw_getr fX4_11 dX4_addBreak_66 hP.1 rfl ?_
      refine qw_iload dX4_addBreak_69 rfl ?_
      refine qw_iconst (nI 1) dX4_addBreak_71 (by decide) ?_
      refine qw_subN (by omega) dX4_addBreak_72 ?_
      rw [show m + 1 - 1 = m by omega]
      refine qw_aald dX4_addBreak_73 hP.2 rfl rfl (by omega) (by omega) ((f1 m (by omega)).trans (hS.el (by omega))) ?_
      refine qw_aast dX4_addBreak_74 hP.2 rfl hbS.1 rfl (by omega) (by decide) ?_
      refine qw_iincD (by omega) dX4_addBreak_75 rfl (by decide) rfl (by decide) ?_
      rw [show m + 1 - 1 = m by omega]
      refine qw_goto 37 dX4_addBreak_78 (by decide) ?_
      have hl : dd < g (7 + 30 * m) ∨ (g (7 + 30 * m) = dd ∧ hh < g (8 + 30 * m)) := Decidable.byContradiction fun q => by rw [if_neg q] at c56; exact c56 rfl
      refine qw_weak _ (by simp [lq_le]) (ih _ (fun q => if q = m + 1 then some (a + 2 + 6 * σ m) else fm q) (by omega) ⟨by rw [lq_us_n _ _ (by omega)]; exact hP.1, by rw [lq_us_s]⟩ (fun b hb => by rw [lq_us_n _ _ hb]; exact eS b hb) (fun j hj => ?_) (fun j j1 j2 => ?_) (fun j hj => ?_) ?_)
      · show (if j = m + 1 then _ else fm j) = f j
        rw [if_neg (by omega)]; exact f1 j (by omega)
      · show (if j = m + 1 then _ else fm j) = f (j - 1)
        by_cases q : j = m + 1
        · rw [if_pos q, q, show m + 1 - 1 = m by omega]; exact (hS.el (by omega)).symm
        · rw [if_neg q]; exact f2 j (by omega) j2
      · show (if j = m + 1 then _ else fm j) = f j
        rw [if_neg (by omega)]; exact f3 j hj
      · rw [g_abp, if_pos hl] at hK; exact hK
theorem k_X4_addBreak {S : lq_S} {a : Nat} {f : Nat → Option Nat} {σ g : Nat → Nat} {tk : Nat → Nat × Nat} {n : Nat} (hS : sh4 S a f σ) {M : lq_M} (hR : q_pl M a σ g tk n) (hW : g_wf g) (h20 : g 0 < 20) {dd hh ll uu : Nat} (hd7 : dd < 2 ^ 31) (hh7 : hh < 2 ^ 31) : LM G YX4_addBreak 1 0 0 [.ref a, .int (nI dd), .int (nI hh), .int (nI ll), .int (nI uu)] z S M N (fun r z1 S1 M1 N1 => z1 = z ∧ N1 = N ∧ r = none ∧ ∃ f1 σ1, sh4 S1 a f1 σ1 ∧ (∀ b, b ≠ a + 1 → S1 b = S b) ∧ q_pl M1 a σ1 (g_abk g (g_abp g dd hh (g 0)) dd hh ll uu) tk n ∧ q_fr a (a + 134) M M1) lq_no := by
  have hs0 := hS.s (i := g 0) h20
  refine LM.of (by decide) rfl [some (.ref a), some (.int (nI dd)), some (.int (nI hh)), some (.int (nI ll)), some (.int (nI uu)), none, none] rfl (Nat.le_of_ble_eq_true rfl) ?_
  refine qw_aload_n 0 dX4_addBreak_0 rfl rfl ?_
  refine qw_geti fX4_44 dX4_addBreak_1 hS.1 rfl ?_
  refine qw_bipush (nI 20) dX4_addBreak_4 (by decide) ?_
  rw [hR.nb]
  refine qw_icmp_ltN 10 dX4_addBreak_6 (by decide) (by omega) (by omega) (fun c6 => ?_) (fun c6 => absurd c6 (by omega))
  refine qw_aload_n 0 dX4_addBreak_10 rfl rfl ?_
  refine qw_getr fX4_11 dX4_addBreak_11 hS.1 rfl ?_
  refine qw_aload_n 0 dX4_addBreak_14 rfl rfl ?_
  refine qw_geti fX4_44 dX4_addBreak_15 hS.1 rfl ?_
  rw [hR.nb]
  refine qw_aald dX4_addBreak_18 hS.l rfl rfl (by omega) (by omega) (hS.el h20) ?_
  refine qw_astore dX4_addBreak_19 rfl (by decide) ?_
  refine qw_aload dX4_addBreak_21 rfl ?_
  refine qw_iload_n 1 dX4_addBreak_23 rfl rfl ?_
  refine qw_iload_n 2 dX4_addBreak_24 rfl rfl ?_
  refine qw_iload_n 3 dX4_addBreak_25 rfl rfl ?_
  refine qw_iload dX4_addBreak_26 rfl ?_
  refine qw_cvv [_, _, _, _] (k_X0_setUp (hS.b h20)) mX4_76 dX4_addBreak_28 (hS.b h20).1 rfl rfl rfl (Nat.le_of_ble_eq_true rfl) (by omega) (by decide) rfl (fun M1 h1 => ?_)
  refine qw_aload_n 0 dX4_addBreak_31 rfl rfl ?_
  refine qw_geti fX4_44 dX4_addBreak_32 hS.1 rfl ?_
  rw [h1.2.2.2.2.2.2 a (by omega) (by omega), hR.nb]
  refine qw_istore dX4_addBreak_35 rfl (by decide) ?_
  exact qw_weak _ (by simp [lq_le]) (l_X4_addBreak hS hR hW h20 hd7 hh7 h1 (g 0) S f (Nat.le_refl _) ⟨hS.1, hS.l⟩ (fun b hb => rfl) (fun j hj => rfl) (fun j j1 j2 => absurd j2 (by omega)) (fun j hj => rfl) rfl)
end PW4
