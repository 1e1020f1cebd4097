/-! a plan: writes -/
theorem q_subw {a b : Nat} (h : b ≤ 4294967296) : nI a - nI b = nI (a + (4294967296 - b)) := by
  have e : nI (a + (4294967296 - b)) + nI b = nI a := by
    rw [nI_add, show a + (4294967296 - b) + b = a + 4294967296 by omega]
    apply Int32.toBitVec_inj.mp
    apply BitVec.eq_of_toNat_eq
    show (BitVec.ofNat 32 _).toNat = (BitVec.ofNat 32 _).toNat
    rw [BitVec.toNat_ofNat, BitVec.toNat_ofNat]
    omega
  rw [← e]
  exact Int32.add_sub_cancel _ _
theorem q_pl.row {S : lq_S} {M M1 : lq_M} {a : Nat} {f : Nat → Option Nat} {σ g g1 : Nat → Nat} {tk : Nat → Nat × Nat} {n i : Nat} (hS : sh4 S a f σ) (hW : g_wf g) (h : q_pl M a σ g tk n) (hi : i < g 0)
    (ho : ∀ b, b ≠ a → b ≠ a + 125 + 2 → b ≠ a + 125 + 3 → (b < a + 2 + 6 * σ i ∨ a + 2 + 6 * σ i + 6 ≤ b) → M1 b = M b) (h1 : M1 a 1 = M a 1) (h4 : M1 a 4 = M a 4) (h8 : M1 a 8 = g1 6)
    (hg : ∀ k, k ≠ 6 → (k < 7 + 30 * i ∨ 37 + 30 * i ≤ k) → g1 k = g k) (hb : q_br M1 (a + 2 + 6 * σ i) g1 i) : q_pl M1 a σ g1 tk n := by
  have h20 := hW.nb
  have h160 := hW.no
  have hn8 := hW.ns
  have hsi := hS.s (i := i) (by omega)
  obtain ⟨p1, p2, p3, p4, p5, p6, p7, p8⟩ := h
  refine ⟨by rw [h1, hg 0 (by omega) (by omega)]; exact p1, by rw [h4, hg 1 (by omega) (by omega)]; exact p2, h8, fun j hj => ?_, fun s hs => ?_, fun c hc => ?_, ?_, ?_⟩
  · rw [hg 0 (by omega) (by omega)] at hj
    by_cases e : j = i
    · subst e; exact hb
    · have hsj := hS.s (i := j) (by omega)
      have hne : σ j ≠ σ i := fun q => e (hS.inj (by omega) (by omega) q)
      have hbj := (hW.br hj).2.2.2.2.2.1
      have q := p4 j hj
      unfold q_br at q ⊢
      rw [ho (a + 2 + 6 * σ j) (by omega) (by omega) (by omega) (by omega), ho (a + 2 + 6 * σ j + 1) (by omega) (by omega) (by omega) (by omega), ho (a + 2 + 6 * σ j + 1 + 1) (by omega) (by omega) (by omega) (by omega), ho (a + 2 + 6 * σ j + 1 + 2) (by omega) (by omega) (by omega) (by omega), ho (a + 2 + 6 * σ j + 1 + 3) (by omega) (by omega) (by omega) (by omega)]
      rw [hg (7 + 30 * j) (by omega) (by omega), hg (8 + 30 * j) (by omega) (by omega), hg (9 + 30 * j) (by omega) (by omega), hg (10 + 30 * j) (by omega) (by omega), hg (11 + 30 * j) (by omega) (by omega), hg (12 + 30 * j) (by omega) (by omega)]
      refine ⟨q.1, q.2.1, q.2.2.1, q.2.2.2.1, q.2.2.2.2.1, q.2.2.2.2.2.1, fun p hp => ?_⟩
      rw [hg (13 + 30 * j + 3 * p) (by omega) (by omega), hg (14 + 30 * j + 3 * p) (by omega) (by omega), hg (15 + 30 * j + 3 * p) (by omega) (by omega)]
      exact q.2.2.2.2.2.2 p hp
  · rw [hg 1 (by omega) (by omega)] at hs
    rw [ho (a + 122) (by omega) (by omega) (by omega) (by omega), ho (a + 123) (by omega) (by omega) (by omega) (by omega), hg (607 + 2 * s) (by omega) (by omega), hg (608 + 2 * s) (by omega) (by omega)]
    exact p5 s hs
  · rw [ho (a + 124) (by omega) (by omega) (by omega) (by omega)]
    refine ⟨(p6 c hc).1, fun b hb => ?_⟩
    rw [hg (623 + 10 * c + b) (by omega) (by omega)]
    exact (p6 c hc).2 b hb
  · rw [ho (a + 125) (by omega) (by omega) (by omega) (by omega), ho (a + 125 + 1) (by omega) (by omega) (by omega) (by omega)]
    exact p7
  · rw [ho (a + 129) (by omega) (by omega) (by omega) (by omega), ho (a + 129 + 1) (by omega) (by omega) (by omega) (by omega), ho (a + 129 + 2) (by omega) (by omega) (by omega) (by omega), ho (a + 129 + 3) (by omega) (by omega) (by omega) (by omega), ho (a + 129 + 4) (by omega) (by omega) (by omega) (by omega), hg 5 (by omega) (by omega)]
    refine ⟨p8.1, fun k hk => ?_⟩
    rw [hg (723 + 4 * k) (by omega) (by omega), hg (724 + 4 * k) (by omega) (by omega), hg (725 + 4 * k) (by omega) (by omega), hg (726 + 4 * k) (by omega) (by omega)]
    exact p8.2 k hk
theorem q_br.put {M M1 : lq_M} {b i p s l r u v : Nat} {g : Nat → Nat} (h : q_br M b g i) (hI : q_insd M (b + 1) p s l r u M1) (hp : p ≤ g (12 + 30 * i)) (hc : g (12 + 30 * i) ≤ 7) : q_br M1 b (g_inc (g_put g i p s l r) v) i := by
  obtain ⟨h1, h2, h3, h4⟩ := hI
  obtain ⟨b1, b2, b3, b4, b5, b6, b7⟩ := h
  have eb : M1 b = M b := h4 b (by omega)
  have o : ∀ k, k ≠ 6 → (k < 12 + 30 * i ∨ 37 + 30 * i ≤ k) → g_inc (g_put g i p s l r) v k = g k := fun k hk ho => by rw [g_inc_o hk, g_put_o ho hp hc]
  have ec : g_inc (g_put g i p s l r) v (12 + 30 * i) = g (12 + 30 * i) + 1 := by rw [g_inc_o (by omega), g_put_c]
  refine ⟨by rw [eb, o _ (by omega) (by omega)]; exact b1, by rw [eb, o _ (by omega) (by omega)]; exact b2, by rw [eb, o _ (by omega) (by omega)]; exact b3, by rw [eb, o _ (by omega) (by omega)]; exact b4, by rw [eb, o _ (by omega) (by omega)]; exact b5, by rw [ec, h2, b6], fun q hq => ?_⟩
  rw [ec] at hq
  rw [g_inc_o (by omega), g_inc_o (by omega), g_inc_o (by omega), g_put_1 (by omega), g_put_2 (by omega), g_put_3 (by omega), h1 1 (by decide) (by decide) q (by omega), h1 2 (by decide) (by decide) q (by omega), h1 3 (by decide) (by decide) q (by omega)]
  exact ⟨q_in_cong (n := g (12 + 30 * i)) (fun j hj => (b7 j hj).1) hp hq, q_in_cong (n := g (12 + 30 * i)) (fun j hj => (b7 j hj).2.1) hp hq, q_in_cong (n := g (12 + 30 * i)) (fun j hj => (b7 j hj).2.2) hp hq⟩
theorem q_br.del {M M1 : lq_M} {b i p v : Nat} {g : Nat → Nat} (h : q_br M b g i) (hI : q_deld M (b + 1) p M1) (hp : p < g (12 + 30 * i)) (hc : g (12 + 30 * i) ≤ 8) : q_br M1 b (g_inc (g_del g i p) v) i := by
  obtain ⟨h1, h2, h3, h4⟩ := hI
  obtain ⟨b1, b2, b3, b4, b5, b6, b7⟩ := h
  have eb : M1 b = M b := h4 b (by omega)
  have o : ∀ k, k ≠ 6 → (k < 12 + 30 * i ∨ 37 + 30 * i ≤ k) → g_inc (g_del g i p) v k = g k := fun k hk ho => by rw [g_inc_o hk, g_del_o ho hc]
  have ec : g_inc (g_del g i p) v (12 + 30 * i) = g (12 + 30 * i) - 1 := by rw [g_inc_o (by omega), g_del_c]
  refine ⟨by rw [eb, o _ (by omega) (by omega)]; exact b1, by rw [eb, o _ (by omega) (by omega)]; exact b2, by rw [eb, o _ (by omega) (by omega)]; exact b3, by rw [eb, o _ (by omega) (by omega)]; exact b4, by rw [eb, o _ (by omega) (by omega)]; exact b5, by rw [ec, h2, b6], fun q hq => ?_⟩
  rw [ec] at hq
  have d0 := g_del_j (g := g) (i := i) (p := p) 0 (q := q) (by omega) hq
  have d1 := g_del_j (g := g) (i := i) (p := p) 1 (q := q) (by omega) hq
  have d2 := g_del_j (g := g) (i := i) (p := p) 2 (q := q) (by omega) hq
  simp only [Nat.reduceAdd] at d0 d1 d2
  rw [g_inc_o (by omega), g_inc_o (by omega), g_inc_o (by omega), d0, d1, d2, h1 1 (by decide) (by decide) q (by omega), h1 2 (by decide) (by decide) q (by omega), h1 3 (by decide) (by decide) q (by omega)]
  have dc : ∀ {f f2 : Nat → Nat}, (∀ j, j < g (12 + 30 * i) → f j = f2 j) → q_de f p q = q_de f2 p q := by
    intro f f2 hf
    unfold q_de
    by_cases e : q < p
    · rw [if_pos e, if_pos e, hf q (by omega)]
    · rw [if_neg e, if_neg e, hf (q + 1) (by omega)]
  exact ⟨dc (fun j hj => (b7 j hj).1), dc (fun j hj => (b7 j hj).2.1), dc (fun j hj => (b7 j hj).2.2)⟩
noncomputable def g_bk (g : Nat → Nat) (tk : Nat → Nat × Nat) (n s l i : Nat) : Nat → Nat := if g_rs g s l i = 0 then g_inc (g_put g i (g_pf g s i) s l (g_pc g tk n s l i)) (g_pc g tk n s l i) else g
noncomputable def g_bkr (g : Nat → Nat) (s l i : Nat) : Int32 := if g_rs g s l i = 0 then nI (g_pf g s i) else -nI (g_rs g s l i)
theorem g_wf.bk {g : Nat → Nat} {tk : Nat → Nat × Nat} {n s l i : Nat} (h : g_wf g) (hs : s < g 1) (hl : l ≤ 60) (hi : i < g 0) : g_wf (g_bk g tk n s l i) := by
  unfold g_bk
  by_cases e : g_rs g s l i = 0
  · rw [if_pos e]
    obtain ⟨e1, e2, e3, e4, e5⟩ := g_rs_ok e
    have := g_pf_le g s i
    exact h.put hi hs hl (g_pc_le _ _ _ _ _ _) (by omega) e2 e1
  · rw [if_neg e]; exact h
theorem g_bk_01 {g : Nat → Nat} {tk : Nat → Nat × Nat} {n s l i : Nat} (h : g_wf g) (hs : s < g 1) (hi : i < g 0) : g_bk g tk n s l i 0 = g 0 ∧ g_bk g tk n s l i 1 = g 1 := by
  unfold g_bk
  by_cases e : g_rs g s l i = 0
  · rw [if_pos e]
    obtain ⟨e1, e2, e3, e4, e5⟩ := g_rs_ok e
    have h7 := h.seven hi hs e2
    have := g_pf_le g s i
    exact ⟨by rw [g_inc_o (by omega), g_put_o (by omega) (by omega) h7], by rw [g_inc_o (by omega), g_put_o (by omega) (by omega) h7]⟩
  · rw [if_neg e]
    exact ⟨rfl, rfl⟩
def g_rem (g : Nat → Nat) (i p : Nat) : Nat → Nat := g_inc (g_del g i p) (4294967296 - g (15 + 30 * i + 3 * p) / 2)
def q_cnI (M0 : lq_M) (a : Nat) (g : Nat → Nat) (i t : Nat) (M : lq_M) : Prop := M (a + 129) 4 = g 5 + t ∧ (∀ k, 1 ≤ k → k ≤ 4 → ∀ q, q < g 5 → M (a + 129 + k) q = M0 (a + 129 + k) q) ∧ (∀ q, q < t → M (a + 129 + 1) (g 5 + q) = g (13 + 30 * i + 3 * q) ∧ M (a + 129 + 2) (g 5 + q) = g (14 + 30 * i + 3 * q) ∧ M (a + 129 + 3) (g 5 + q) = g (15 + 30 * i + 3 * q) ∧ M (a + 129 + 4) (g 5 + q) = g (10 + 30 * i)) ∧ q_fr (a + 129) (a + 134) M0 M
theorem q_cnI_s {M0 M M1 : lq_M} {a i t : Nat} {g : Nat → Nat} {x y r : Nat} (h : q_cnI M0 a g i t M) (hI : q_insd M (a + 129) (M (a + 129) 4) x y r (g (10 + 30 * i)) M1) (hx : x = g (13 + 30 * i + 3 * t)) (hy : y = g (14 + 30 * i + 3 * t)) (hr : r = g (15 + 30 * i + 3 * t)) : q_cnI M0 a g i (t + 1) M1 := by
  obtain ⟨h1, h2, h3, h4⟩ := h
  obtain ⟨i1, i2, i3, i4⟩ := hI
  have e : ∀ k, 1 ≤ k → k ≤ 4 → ∀ q, q < g 5 + t → M1 (a + 129 + k) q = M (a + 129 + k) q := fun k k1 k4 q hq => by
    rw [i1 k k1 k4 q (by omega), q_in, if_pos (by omega)]
  have e2 : ∀ k, 1 ≤ k → k ≤ 4 → M1 (a + 129 + k) (g 5 + t) = q_4 x y r (g (10 + 30 * i)) k := fun k k1 k4 => by
    rw [i1 k k1 k4 _ (by omega), q_in, if_neg (by omega), if_pos (by omega)]
  refine ⟨by rw [i2, h1]; omega, fun k k1 k4 q hq => by rw [e k k1 k4 q (by omega)]; exact h2 k k1 k4 q hq, fun q hq => ?_, h4.trans i4⟩
  by_cases q9 : q = t
  · subst q9
    rw [e2 1 (by decide) (by decide), e2 2 (by decide) (by decide), e2 3 (by decide) (by decide), e2 4 (by decide) (by decide)]
    exact ⟨hx, hy, hr, rfl⟩
  · rw [e 1 (by decide) (by decide) _ (by omega), e 2 (by decide) (by decide) _ (by omega), e 3 (by decide) (by decide) _ (by omega), e 4 (by decide) (by decide) _ (by omega)]
    exact h3 q (by omega)
theorem q_cnI_fin {S : lq_S} {M0 M : lq_M} {a : Nat} {f : Nat → Option Nat} {σ g : Nat → Nat} {tk : Nat → Nat × Nat} {n i : Nat} (hS : sh4 S a f σ) (hW : g_wf g) (h : q_pl M0 a σ g tk n) (hi : i < g 0) (hc : q_cnI M0 a g i (g (12 + 30 * i)) M) : q_pl (lq_up (lq_up M (a + 2 + 6 * σ i + 1) 4 0) (a + 2 + 6 * σ i) 4 2) a σ (g_can2 g i) tk n := by
  have h20 := hW.nb
  have h160 := hW.no
  have hn8 := hW.ns
  have hsi := hS.s (i := i) (by omega)
  have h8 := (hW.br hi).2.2.2.2.2.1
  obtain ⟨p1, p2, p3, p4, p5, p6, p7, p8⟩ := h
  obtain ⟨c1, c2, c3, c4⟩ := hc
  have o : ∀ k, k ≠ 11 + 30 * i → k ≠ 12 + 30 * i → k ≠ 5 → k < 723 → g_can2 g i k = g k := fun k a b c d => g_can2_o a b c (by omega)
  have e5 : g_can2 g i 5 = g 5 + g (12 + 30 * i) := by unfold g_can2; rw [if_neg (by omega), if_neg (by omega), if_pos rfl]
  have e11 : g_can2 g i (11 + 30 * i) = 2 := by unfold g_can2; rw [if_pos rfl]
  have e12 : g_can2 g i (12 + 30 * i) = 0 := by unfold g_can2; rw [if_neg (by omega), if_pos rfl]
  have m : ∀ b, b ≠ a + 2 + 6 * σ i → b ≠ a + 2 + 6 * σ i + 1 → lq_up (lq_up M (a + 2 + 6 * σ i + 1) 4 0) (a + 2 + 6 * σ i) 4 2 b = M b := fun b b1 b2 => by rw [lq_up_n _ _ _ b1, lq_up_n _ _ _ b2]
  have m0 : ∀ b, b ≠ a + 2 + 6 * σ i → b ≠ a + 2 + 6 * σ i + 1 → (b < a + 129 ∨ a + 134 ≤ b) → lq_up (lq_up M (a + 2 + 6 * σ i + 1) 4 0) (a + 2 + 6 * σ i) 4 2 b = M0 b := fun b b1 b2 b3 => by rw [m b b1 b2]; exact c4 b b3
  refine ⟨by rw [m0 a (by omega) (by omega) (by omega), o 0 (by omega) (by omega) (by omega) (by omega)]; exact p1, by rw [m0 a (by omega) (by omega) (by omega), o 1 (by omega) (by omega) (by omega) (by omega)]; exact p2, by rw [m0 a (by omega) (by omega) (by omega), o 6 (by omega) (by omega) (by omega) (by omega)]; exact p3, fun j hj => ?_, fun s hs => ?_, fun c hc => ?_, ?_, ?_⟩
  · rw [o 0 (by omega) (by omega) (by omega) (by omega)] at hj
    have hbj := (hW.br hj).2.2.2.2.2.1
    have q := p4 j hj
    unfold q_br at q ⊢
    rw [o (7 + 30 * j) (by omega) (by omega) (by omega) (by omega), o (8 + 30 * j) (by omega) (by omega) (by omega) (by omega), o (9 + 30 * j) (by omega) (by omega) (by omega) (by omega), o (10 + 30 * j) (by omega) (by omega) (by omega) (by omega)]
    by_cases e : j = i
    · subst e
      rw [e11, e12, lq_up_s, lq_up_c _ _ (by decide), lq_up_c _ _ (by decide), lq_up_c _ _ (by decide), lq_up_c _ _ (by decide), lq_up_n _ _ _ (show a + 2 + 6 * σ j ≠ a + 2 + 6 * σ j + 1 by omega), lq_up_n _ _ _ (show a + 2 + 6 * σ j + 1 ≠ a + 2 + 6 * σ j by omega), lq_up_s, c4 _ (by omega)]
      exact ⟨q.1, q.2.1, q.2.2.1, q.2.2.2.1, rfl, rfl, fun p hp => absurd hp (Nat.not_lt_zero p)⟩
    · have hsj := hS.s (i := j) (by omega)
      have hne : σ j ≠ σ i := fun q => e (hS.inj (by omega) (by omega) q)
      rw [m0 (a + 2 + 6 * σ j) (by omega) (by omega) (by omega), m0 (a + 2 + 6 * σ j + 1) (by omega) (by omega) (by omega), m0 (a + 2 + 6 * σ j + 1 + 1) (by omega) (by omega) (by omega), m0 (a + 2 + 6 * σ j + 1 + 2) (by omega) (by omega) (by omega), m0 (a + 2 + 6 * σ j + 1 + 3) (by omega) (by omega) (by omega)]
      rw [o (11 + 30 * j) (by omega) (by omega) (by omega) (by omega), o (12 + 30 * j) (by omega) (by omega) (by omega) (by omega)]
      refine ⟨q.1, q.2.1, q.2.2.1, q.2.2.2.1, q.2.2.2.2.1, q.2.2.2.2.2.1, fun p hp => ?_⟩
      rw [o (13 + 30 * j + 3 * p) (by omega) (by omega) (by omega) (by omega), o (14 + 30 * j + 3 * p) (by omega) (by omega) (by omega) (by omega), o (15 + 30 * j + 3 * p) (by omega) (by omega) (by omega) (by omega)]
      exact q.2.2.2.2.2.2 p hp
  · rw [o 1 (by omega) (by omega) (by omega) (by omega)] at hs
    rw [m0 (a + 122) (by omega) (by omega) (by omega), m0 (a + 123) (by omega) (by omega) (by omega), o (607 + 2 * s) (by omega) (by omega) (by omega) (by omega), o (608 + 2 * s) (by omega) (by omega) (by omega) (by omega)]
    exact p5 s hs
  · rw [m0 (a + 124) (by omega) (by omega) (by omega)]
    refine ⟨(p6 c hc).1, fun b hb => ?_⟩
    rw [o (623 + 10 * c + b) (by omega) (by omega) (by omega) (by omega)]
    exact (p6 c hc).2 b hb
  · rw [m0 (a + 125) (by omega) (by omega) (by omega), m0 (a + 125 + 1) (by omega) (by omega) (by omega)]
    exact p7
  · rw [m (a + 129) (by omega) (by omega), m (a + 129 + 1) (by omega) (by omega), m (a + 129 + 2) (by omega) (by omega), m (a + 129 + 3) (by omega) (by omega), m (a + 129 + 4) (by omega) (by omega), e5]
    refine ⟨c1, fun k hk => ?_⟩
    by_cases e : k < g 5
    · rw [g_can2_o (by omega) (by omega) (by omega) (by omega), g_can2_o (by omega) (by omega) (by omega) (by omega), g_can2_o (by omega) (by omega) (by omega) (by omega), g_can2_o (by omega) (by omega) (by omega) (by omega), c2 1 (by decide) (by decide) k e, c2 2 (by decide) (by decide) k e, c2 3 (by decide) (by decide) k e, c2 4 (by decide) (by decide) k e]
      exact p8.2 k e
    · obtain ⟨q, rfl⟩ : ∃ q, k = g 5 + q := ⟨k - g 5, by omega⟩
      have w0 := g_can2_w (g := g) (i := i) (q := q) (c := 0) (by omega) (by omega) (by omega)
      have w1 := g_can2_w (g := g) (i := i) (q := q) (c := 1) (by omega) (by omega) (by omega)
      have w2 := g_can2_w (g := g) (i := i) (q := q) (c := 2) (by omega) (by omega) (by omega)
      simp only [Nat.reduceAdd] at w0 w1 w2
      rw [w0, w1, w2, g_can2_w3 (by omega) (by omega)]
      exact c3 q (by omega)
section PW1
variable {G : lq_G} {z : Nat} {S : lq_S} {N : lq_N}
theorem k_X4_bookSpot {M : lq_M} {a : Nat} {f : Nat → Option Nat} {σ g : Nat → Nat} {tk : Nat → Nat × Nat} {n : Nat} (hS : sh4 S a f σ) (hR : q_pl M a σ g tk n) (hW : g_wf g) (hF : q_fwf tk n) (hn : n ≤ 800) {s l i : Nat} (hs : s < g 1) (hl : l ≤ 60) (hi : i < g 0) : LM G YX4_bookSpot 4 0 0 [.ref a, .int (nI s), .int (nI l), .int (nI i)] z S M N (lq_mi z S N (fun x M1 => x = g_bkr g s l i ∧ q_pl M1 a σ (g_bk g tk n s l i) tk n ∧ q_fr a (a + 134) M M1)) lq_no := by
  have h20 := hW.nb
  have h8 := hW.ns
  have hbr := hR.br hi
  have hbw := hW.br hi
  have hcn := hbr.2.2.2.2.2.1
  have hsi := hS.s (i := i) (by omega)
  have hrl : g_rs g s l i ≤ 5 := g_rs_le
  have hs20 : ∀ i, i < g 0 → σ i < 20 := fun i hi => hS.s (by omega)
  refine LM.of (by decide) rfl [some (.ref a), some (.int (nI s)), some (.int (nI l)), some (.int (nI i)), none, none, none, none] rfl (Nat.le_of_ble_eq_true rfl) ?_
  refine qw_aload_n 0 dX4_bookSpot_0 rfl rfl ?_
  refine qw_iload_n 1 dX4_bookSpot_1 rfl rfl ?_
  refine qw_iload_n 2 dX4_bookSpot_2 rfl rfl ?_
  refine qw_iload_n 3 dX4_bookSpot_3 rfl rfl ?_
  refine qw_cvp [_, _, _] (k_X4_refusal hS hR hW hs hl hi) mX4_140 dX4_bookSpot_4 hS.1 rfl rfl rfl (Nat.le_of_ble_eq_true rfl) (by omega) (by decide) rfl ?_
  refine qw_istore dX4_bookSpot_7 rfl (by decide) ?_
  refine qw_iload dX4_bookSpot_9 rfl ?_
  refine qw_if_eqN 18 dX4_bookSpot_11 (by decide) (by omega) (fun c11 => ?_) (fun c11 => ?_)
  · refine qw_aload_n 0 dX4_bookSpot_18 rfl rfl ?_
    refine qw_iload_n 1 dX4_bookSpot_19 rfl rfl ?_
    refine qw_iload_n 2 dX4_bookSpot_20 rfl rfl ?_
    refine qw_iload_n 3 dX4_bookSpot_21 rfl rfl ?_
    refine qw_cvi [_, _, _] (k_X4_priceOf hS hR hW hF hn hs hl hi) mX4_144 dX4_bookSpot_22 hS.1 rfl rfl rfl (Nat.le_of_ble_eq_true rfl) (by omega) (by decide) rfl (fun x1 M1 h1 => ?_)
    obtain ⟨hx1, hm1⟩ := h1
    subst hx1
    have hR1 := hR.fq hs20 hm1
    have hok := g_rs_ok c11
    have h7 := hW.seven hi hs hok.2.1
    have hbr1 := hR1.br hi
    have hcn1 := hbr1.2.2.2.2.2.1
    have hpf := g_pf_le g s i
    have hpcl := g_pc_le g tk n s l i
    refine qw_istore dX4_bookSpot_25 rfl (by decide) ?_
    refine qw_aload_n 0 dX4_bookSpot_27 rfl rfl ?_
    refine qw_getr fX4_11 dX4_bookSpot_28 hS.1 rfl ?_
    refine qw_iload_n 3 dX4_bookSpot_31 rfl rfl ?_
    refine qw_aald dX4_bookSpot_32 hS.l rfl rfl (by omega) (by omega) (hS.el (by omega)) ?_
    refine qw_getr fX4_87 dX4_bookSpot_33 (hS.b (i := i) (by omega)).1 rfl ?_
    refine qw_astore dX4_bookSpot_36 rfl (by decide) ?_
    refine qw_aload_n 0 dX4_bookSpot_38 rfl rfl ?_
    refine qw_iload_n 1 dX4_bookSpot_39 rfl rfl ?_
    refine qw_aload dX4_bookSpot_40 rfl ?_
    refine qw_cvp [_, _] (k_X4_placeFor hS hR1 hW hs hi) mX4_111 dX4_bookSpot_42 hS.1 rfl rfl rfl (Nat.le_of_ble_eq_true rfl) (by omega) (by decide) rfl ?_
    rw [if_neg hok.2.2.2.2]
    refine qw_istore dX4_bookSpot_45 rfl (by decide) ?_
    refine qw_aload dX4_bookSpot_47 rfl ?_
    refine qw_iload dX4_bookSpot_49 rfl ?_
    refine qw_iload_n 1 dX4_bookSpot_51 rfl rfl ?_
    refine qw_iload_n 2 dX4_bookSpot_52 rfl rfl ?_
    refine qw_iload dX4_bookSpot_53 rfl ?_
    refine qw_iconst (nI 0) dX4_bookSpot_55 (by decide) ?_
    refine qw_cvv [_, _, _, _, _] (k_X6_insert (hS.b (i := i) (by omega)).2 (by decide) (by rw [hcn1]; omega) (by rw [hcn1]; omega)) mX4_147 dX4_bookSpot_56 (hS.b (i := i) (by omega)).2.1 rfl rfl rfl (Nat.le_of_ble_eq_true rfl) (by omega) (by decide) rfl (fun M2 h2 => ?_)
    refine qw_aload_n 0 dX4_bookSpot_59 rfl rfl ?_
    refine qw_dup dX4_bookSpot_60 rfl ?_
    refine qw_geti fX4_57 dX4_bookSpot_61 hS.1 rfl ?_
    refine qw_iload dX4_bookSpot_64 rfl ?_
    refine qw_addN dX4_bookSpot_66 ?_
    refine qw_puti fX4_57 dX4_bookSpot_67 hS.1 rfl ?_
    refine qw_iload dX4_bookSpot_70 rfl ?_
    exact qw_ireturn rfl rfl dX4_bookSpot_72 ⟨rfl, rfl, rfl, _, rfl, by rw [g_bkr, if_pos c11], by
          rw [g_bk, if_pos c11]
          have hq := h2.2.2.2
          have hb2 := hbr1.put (v := g_pc g tk n s l i) h2 (by omega) h7
          refine hR1.row (M1 := lq_up M2 a 8 (M2 a 8 + g_pc g tk n s l i)) hS hW hi (fun b b1 b2 b3 b4 => by rw [lq_up_n _ _ _ b1]; exact hq b (by omega)) (by rw [lq_up_c _ _ (by decide), hq a (by omega)]) (by rw [lq_up_c _ _ (by decide), hq a (by omega)]) (by rw [lq_up_s, hq a (by omega), hR1.inc, g_inc_6, g_put_o (by omega) (by omega) h7]) (fun k k1 k2 => by rw [g_inc_o k1, g_put_o (by omega) (by omega) h7]) ?_
          unfold q_br at hb2 ⊢
          rw [lq_up_n _ _ _ (show a + 2 + 6 * σ i ≠ a by omega), lq_up_n _ _ _ (show a + 2 + 6 * σ i + 1 ≠ a by omega), lq_up_n _ _ _ (show a + 2 + 6 * σ i + 1 + 1 ≠ a by omega), lq_up_n _ _ _ (show a + 2 + 6 * σ i + 1 + 2 ≠ a by omega), lq_up_n _ _ _ (show a + 2 + 6 * σ i + 1 + 3 ≠ a by omega)]
          exact hb2, fun b hb => by rw [lq_up_n _ _ _ (by omega), h2.2.2.2 b (by omega), hm1 b (by omega) (by omega)]⟩
  · refine qw_iload dX4_bookSpot_14 rfl ?_
    refine qw_ineg dX4_bookSpot_16 ?_
    exact qw_ireturn rfl rfl dX4_bookSpot_17 ⟨rfl, rfl, rfl, _, rfl, by rw [g_bkr, if_neg c11], by rw [g_bk, if_neg c11]; exact hR, q_fr.rf⟩
theorem k_X4_takeOut {M : lq_M} {a : Nat} {f : Nat → Option Nat} {σ g : Nat → Nat} {tk : Nat → Nat × Nat} {n : Nat} (hS : sh4 S a f σ) (hR : q_pl M a σ g tk n) (hW : g_wf g) {i p : Nat} (hi : i < g 0) (hp : p < g (12 + 30 * i)) : LM G YX4_takeOut 2 0 0 [.ref a, .int (nI i), .int (nI p)] z S M N (lq_mi z S N (fun x M1 => x = nI (g (15 + 30 * i + 3 * p) / 2) ∧ q_pl M1 a σ (g_rem g i p) tk n ∧ q_fr a (a + 134) M M1)) lq_no := by
  have h20 := hW.nb
  have h8 := hW.ns
  have hbr := hR.br hi
  have hbw := hW.br hi
  have hcn := hbr.2.2.2.2.2.1
  have hsi := hS.s (i := i) (by omega)
  have hpr := (hbr.2.2.2.2.2.2 p hp).2.2
  have hwp := (hW.sp hi hp).2.2
  refine LM.of (by decide) rfl [some (.ref a), some (.int (nI i)), some (.int (nI p)), none, none] rfl (Nat.le_of_ble_eq_true rfl) ?_
  refine qw_aload_n 0 dX4_takeOut_0 rfl rfl ?_
  refine qw_getr fX4_11 dX4_takeOut_1 hS.1 rfl ?_
  refine qw_iload_n 1 dX4_takeOut_4 rfl rfl ?_
  refine qw_aald dX4_takeOut_5 hS.l rfl rfl (by omega) (by omega) (hS.el (by omega)) ?_
  refine qw_getr fX4_87 dX4_takeOut_6 (hS.b (i := i) (by omega)).1 rfl ?_
  refine qw_astore_n 3 dX4_takeOut_9 rfl rfl (by decide) ?_
  refine qw_aload_n 3 dX4_takeOut_10 rfl rfl ?_
  refine qw_getr fX4_161 dX4_takeOut_11 (hS.b (i := i) (by omega)).2.1 rfl ?_
  refine qw_iload_n 2 dX4_takeOut_14 rfl rfl ?_
  refine qw_iald dX4_takeOut_15 (hS.b (i := i) (by omega)).2.2.2.2.1 (by omega) (by omega) ?_
  rw [hpr]
  refine qw_iconst (nI 2) dX4_takeOut_16 (by decide) ?_
  refine qw_divN (by omega) (by decide) (by decide) dX4_takeOut_17 ?_
  refine qw_istore dX4_takeOut_18 rfl (by decide) ?_
  refine qw_aload_n 3 dX4_takeOut_20 rfl rfl ?_
  refine qw_iload_n 2 dX4_takeOut_21 rfl rfl ?_
  refine qw_cvv [_] (k_X6_delete (hS.b (i := i) (by omega)).2 (by decide) (by rw [hcn]; exact hp) (by rw [hcn]; omega)) mX4_164 dX4_takeOut_22 (hS.b (i := i) (by omega)).2.1 rfl rfl rfl (Nat.le_of_ble_eq_true rfl) (by omega) (by decide) rfl (fun M2 h2 => ?_)
  refine qw_aload_n 0 dX4_takeOut_25 rfl rfl ?_
  refine qw_dup dX4_takeOut_26 rfl ?_
  refine qw_geti fX4_57 dX4_takeOut_27 hS.1 rfl ?_
  refine qw_iload dX4_takeOut_30 rfl ?_
  refine qw_isub dX4_takeOut_32 ?_
  refine qw_eqi _ (q_subw (by omega)) ?_
  refine qw_puti fX4_57 dX4_takeOut_33 hS.1 rfl ?_
  refine qw_iload dX4_takeOut_36 rfl ?_
  exact qw_ireturn rfl rfl dX4_takeOut_38 ⟨rfl, rfl, rfl, _, rfl, rfl, by
        have hq := h2.2.2.2
        have hb2 := hbr.del (v := 4294967296 - g (15 + 30 * i + 3 * p) / 2) h2 hp (by omega)
        refine hR.row (g1 := g_rem g i p) hS hW hi (fun b b1 b2 b3 b4 => by rw [lq_up_n _ _ _ b1]; exact hq b (by omega)) (by rw [lq_up_c _ _ (by decide), hq a (by omega)]) (by rw [lq_up_c _ _ (by decide), hq a (by omega)]) (by rw [lq_up_s, hq a (by omega), hR.inc, g_rem, g_inc_6, g_del_o (by omega) (by omega)]) (fun k k1 k2 => by rw [g_rem, g_inc_o k1, g_del_o (by omega) (by omega)]) ?_
        unfold q_br at hb2 ⊢
        rw [lq_up_n _ _ _ (show a + 2 + 6 * σ i ≠ a by omega), lq_up_n _ _ _ (show a + 2 + 6 * σ i + 1 ≠ a by omega), lq_up_n _ _ _ (show a + 2 + 6 * σ i + 1 + 1 ≠ a by omega), lq_up_n _ _ _ (show a + 2 + 6 * σ i + 1 + 2 ≠ a by omega), lq_up_n _ _ _ (show a + 2 + 6 * σ i + 1 + 3 ≠ a by omega)]
        exact hb2, fun b hb => by rw [lq_up_n _ _ _ (by omega), h2.2.2.2 b (by omega)]⟩
theorem l_X4_cancelBreak {M0 : lq_M} {a : Nat} {f : Nat → Option Nat} {σ g : Nat → Nat} {tk : Nat → Nat × Nat} {n : Nat} (hS : sh4 S a f σ) (hR : q_pl M0 a σ g tk n) (hW : g_wf g) {i : Nat} (hi : i < g 0) (h0 : g (11 + 30 * i) = 0) : ∀ (n9 t : Nat) (M : lq_M), t ≤ g (12 + 30 * i) → g (12 + 30 * i) - t < n9 → q_cnI M0 a g i t M → LW G YX4_cancelBreak 3 0 0 (lq_mv z S N (fun M1 => q_pl M1 a σ (g_can2 g i) tk n ∧ q_fr a (a + 134) M0 M1)) lq_no z S M N 9 [some (.ref a), some (.int (nI i)), some (.ref (a + 2 + 6 * σ i)), some (.int (nI t))] [] := by
  intro n9
  induction n9 with
  | zero => intro _ _ _ _ _; omega
  | succ n9 ih =>
    intro t M ht hn9 hc
    have h20 := hW.nb
    have h8 := hW.ns
    have hbr := hR.br hi
    have hbw := hW.br hi
    have hcn := hbr.2.2.2.2.2.1
    have hsi := hS.s (i := i) (by omega)
    have h160 := hW.no
    have hcn9 := (hW.can2 hi h0).no
    have e5 : g_can2 g i 5 = g 5 + g (12 + 30 * i) := by unfold g_can2; rw [if_neg (by omega), if_neg (by omega), if_pos rfl]
    rw [e5] at hcn9
    have em : ∀ b, (b < a + 129 ∨ a + 134 ≤ b) → M b = M0 b := hc.2.2.2
    have eb0 := em (a + 2 + 6 * σ i) (by omega)
    have eb1 := em (a + 2 + 6 * σ i + 1) (by omega)
    have e1 := em (a + 2 + 6 * σ i + 1 + 1) (by omega)
    have e2 := em (a + 2 + 6 * σ i + 1 + 2) (by omega)
    have e3 := em (a + 2 + 6 * σ i + 1 + 3) (by omega)
    have hcnt : M (a + 2 + 6 * σ i + 1) 4 = g (12 + 30 * i) := by rw [eb1]; exact hcn
    refine qw_iload_n 3 dX4_cancelBreak_9 rfl rfl ?_
    refine qw_aload_n 2 dX4_cancelBreak_10 rfl rfl ?_
    refine qw_getr fX4_87 dX4_cancelBreak_11 (hS.b (i := i) (by omega)).1 rfl ?_
    refine qw_geti fX4_54 dX4_cancelBreak_14 (hS.b (i := i) (by omega)).2.1 rfl ?_
    rw [hcnt]
    refine qw_icmp_geN 49 dX4_cancelBreak_17 (by decide) (by omega) (by omega) (fun c17 => ?_) (fun c17 => ?_)
    · refine qw_aload_n 2 dX4_cancelBreak_49 rfl rfl ?_
      refine qw_getr fX4_87 dX4_cancelBreak_50 (hS.b (i := i) (by omega)).1 rfl ?_
      refine qw_iconst (nI 0) dX4_cancelBreak_53 (by decide) ?_
      refine qw_puti fX4_54 dX4_cancelBreak_54 (hS.b (i := i) (by omega)).2.1 rfl ?_
      refine qw_aload_n 2 dX4_cancelBreak_57 rfl rfl ?_
      refine qw_iconst (nI 2) dX4_cancelBreak_58 (by decide) ?_
      refine qw_puti fX4_94 dX4_cancelBreak_59 (hS.b (i := i) (by omega)).1 rfl ?_
      exact qw_return rfl dX4_cancelBreak_62 ⟨rfl, rfl, rfl, rfl, q_cnI_fin hS hW hR hi ((show t = g (12 + 30 * i) by omega) ▸ hc), fun b hb => by rw [lq_up_n _ _ _ (by omega), lq_up_n _ _ _ (by omega)]; exact em b (by omega)⟩
    · have hsp := hbr.2.2.2.2.2.2 t (by omega)
      refine qw_aload_n 0 dX4_cancelBreak_20 rfl rfl ?_
      refine qw_getr fX4_40 dX4_cancelBreak_21 hS.1 rfl ?_
      refine qw_aload_n 2 dX4_cancelBreak_24 rfl rfl ?_
      refine qw_getr fX4_87 dX4_cancelBreak_25 (hS.b (i := i) (by omega)).1 rfl ?_
      refine qw_iload_n 3 dX4_cancelBreak_28 rfl rfl ?_
      refine qw_aload_n 0 dX4_cancelBreak_29 rfl rfl ?_
      refine qw_getr fX4_40 dX4_cancelBreak_30 hS.1 rfl ?_
      refine qw_geti fX4_54 dX4_cancelBreak_33 hS.ow.1 rfl ?_
      refine qw_aload_n 2 dX4_cancelBreak_36 rfl rfl ?_
      refine qw_geti fX4_121 dX4_cancelBreak_37 (hS.b (i := i) (by omega)).1 rfl ?_
      rw [eb0, hbr.2.2.2.1]
      refine qw_cvv [_, _, _, _] (k_X6_takeOver hS.ow (hS.b (i := i) (by omega)).2 (by decide) (by decide) (by rw [hcnt]; omega) (by rw [hcnt]; omega) (Nat.le_refl _) (by rw [hc.1]; omega)) mX4_167 dX4_cancelBreak_40 hS.ow.1 rfl rfl rfl (Nat.le_of_ble_eq_true rfl) (by omega) (by decide) rfl (fun M1 h1 => ?_)
      refine qw_iincN 1 dX4_cancelBreak_43 rfl (by decide) rfl (by decide) ?_
      refine qw_goto 9 dX4_cancelBreak_46 (by decide) ?_
      exact ih (t + 1) M1 (by omega) (by omega) (q_cnI_s hc h1 (by rw [e1]; exact hsp.1) (by rw [e2]; exact hsp.2.1) (by rw [e3]; exact hsp.2.2))
theorem k_X4_cancelBreak {M : lq_M} {a : Nat} {f : Nat → Option Nat} {σ g : Nat → Nat} {tk : Nat → Nat × Nat} {n : Nat} (hS : sh4 S a f σ) (hR : q_pl M a σ g tk n) (hW : g_wf g) {i : Nat} (hi : i < g 0) (h0 : g (11 + 30 * i) = 0) : LM G YX4_cancelBreak 3 0 0 [.ref a, .int (nI i)] z S M N (lq_mv z S N (fun M1 => q_pl M1 a σ (g_can2 g i) tk n ∧ q_fr a (a + 134) M M1)) lq_no := by
  have h20 := hW.nb
  refine LM.of (by decide) rfl [some (.ref a), some (.int (nI i)), none, none] rfl (Nat.le_of_ble_eq_true rfl) ?_
  refine qw_aload_n 0 dX4_cancelBreak_0 rfl rfl ?_
  refine qw_getr fX4_11 dX4_cancelBreak_1 hS.1 rfl ?_
  refine qw_iload_n 1 dX4_cancelBreak_4 rfl rfl ?_
  refine qw_aald dX4_cancelBreak_5 hS.l rfl rfl (by omega) (by omega) (hS.el (by omega)) ?_
  refine qw_astore_n 2 dX4_cancelBreak_6 rfl rfl (by decide) ?_
  refine qw_iconst (nI 0) dX4_cancelBreak_7 (by decide) ?_
  refine qw_istore_n 3 dX4_cancelBreak_8 rfl rfl (by decide) ?_
  exact l_X4_cancelBreak hS hR hW hi h0 (g (12 + 30 * i) + 1) 0 M (Nat.zero_le _) (by omega) ⟨hR.ow.1, fun _ _ _ _ _ => rfl, fun q hq => absurd hq (Nat.not_lt_zero q), q_fr.rf⟩
end PW1
