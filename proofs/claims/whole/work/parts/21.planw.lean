/-! a plan: bookings in an order, campaigns, making good -/
theorem q_br.mov {M M1 : lq_M} {b i f t : Nat} {c : Nat → Nat} (h : q_br M b c i) (hm : q_movd M (b + 1) f t M1) (ht : t ≤ f) (hf : f < c (12 + 30 * i)) : q_br M1 b (g_prm c i (q_mvi f t)) i := by
  obtain ⟨h1, h2, h3⟩ := hm
  obtain ⟨b1, b2, b3, b4, b5, b6, b7⟩ := h
  have eb : M1 b = M b := h3 b (by omega)
  have o : ∀ k, k < 13 + 30 * i → g_prm c i (q_mvi f t) k = c k := fun k hk => g_prm_o (Or.inl hk)
  have hp := (q_mvi_p (m := c (12 + 30 * i)) ht hf).1
  refine ⟨by rw [eb, o _ (by omega)]; exact b1, by rw [eb, o _ (by omega)]; exact b2, by rw [eb, o _ (by omega)]; exact b3, by rw [eb, o _ (by omega)]; exact b4, by rw [eb, o _ (by omega)]; exact b5, by rw [o _ (by omega), h2]; exact b6, fun q hq => ?_⟩
  rw [o _ (by omega)] at hq
  have j0 := g_prm_j (h := c) (i := i) (π := q_mvi f t) 0 (q := q) (by omega) hq
  have j1 := g_prm_j (h := c) (i := i) (π := q_mvi f t) 1 (q := q) (by omega) hq
  have j2 := g_prm_j (h := c) (i := i) (π := q_mvi f t) 2 (q := q) (by omega) hq
  simp only [Nat.reduceAdd] at j0 j1 j2
  rw [j0, j1, j2, h1 1 (by decide) (by decide) q (by omega), h1 2 (by decide) (by decide) q (by omega), h1 3 (by decide) (by decide) q (by omega), q_mvi_in ht, q_mvi_in ht, q_mvi_in ht]
  exact b7 _ (hp q hq)
def g_vw (h : Nat → Nat) (left k m : Nat) : Nat → Nat := fun x => if x = 5 then left + (m - k) else if 723 + 4 * left ≤ x ∧ x < 723 + 4 * (left + (m - k)) then h (x + 4 * (k - left)) else h x
def g_dow (c : Nat → Nat) (left : Nat) : Nat → Nat := fun x => if x = 5 then c 5 - 1 else if 723 + 4 * left ≤ x ∧ x < 723 + 4 * (c 5 - 1) then c (x + 4) else c x
theorem g_vw_o {h : Nat → Nat} {left k m x : Nat} (h1 : x ≠ 5) (h2 : x < 723) : g_vw h left k m x = h x := by
  unfold g_vw
  rw [if_neg h1, if_neg (by omega)]
theorem g_vw_j {h : Nat → Nat} {left k m j : Nat} (c : Nat) (hc : c < 4) (hj : j < left + (m - k)) (hl : left ≤ k) : g_vw h left k m (723 + c + 4 * j) = h (723 + c + 4 * (if j < left then j else j - left + k)) := by
  unfold g_vw
  rw [if_neg (by omega)]
  by_cases e : j < left
  · rw [if_neg (by omega), if_pos e]
  · rw [if_pos (by omega), if_neg e]
    exact congrArg h (by omega)
theorem g_vw_cpo {h : Nat → Nat} {left k m : Nat} (hl : left ≤ k) (hk : k < m) : g_vw (g_cpo h k left) (left + 1) (k + 1) m = g_vw h left k m := by
  funext x
  unfold g_vw g_cpo
  by_cases e5 : x = 5
  · rw [if_pos e5, if_pos e5]; omega
  · rw [if_neg e5, if_neg e5]
    by_cases e1 : 723 + 4 * (left + 1) ≤ x ∧ x < 723 + 4 * (left + 1 + (m - (k + 1)))
    · rw [if_pos e1, if_neg (by omega), if_pos (by omega)]
      exact congrArg h (by omega)
    · rw [if_neg e1]
      by_cases e2 : 723 + 4 * left ≤ x ∧ x < 727 + 4 * left
      · rw [if_pos e2, if_pos (by omega)]
      · rw [if_neg e2, if_neg (by omega)]
theorem g_vw_put {h : Nat → Nat} {left k m i p s l r : Nat} (hl : left ≤ k) (hk : k < m) (hi : i < 20) (hp : p ≤ h (12 + 30 * i)) (h7 : h (12 + 30 * i) ≤ 7) : (∀ x, x < 723 → g_vw (g_put h i p s l r) left (k + 1) m x = g_dow (g_put (g_vw h left k m) i p s l r) left x) ∧ ∀ x, 723 ≤ x → x < 723 + 4 * (left + (m - (k + 1))) → g_vw (g_put h i p s l r) left (k + 1) m x = g_dow (g_put (g_vw h left k m) i p s l r) left x := by
  have e12 : g_vw h left k m (12 + 30 * i) = h (12 + 30 * i) := g_vw_o (by omega) (by omega)
  have hi9 : ∀ x, (x < 12 + 30 * i ∨ 37 + 30 * i ≤ x) → g_put (g_vw h left k m) i p s l r x = g_vw h left k m x := fun x hx => g_put_o hx (by rw [e12]; exact hp) (by rw [e12]; exact h7)
  have hi8 : ∀ x, (x < 12 + 30 * i ∨ 37 + 30 * i ≤ x) → g_put h i p s l r x = h x := fun x hx => g_put_o hx hp h7
  have e5 : g_put (g_vw h left k m) i p s l r 5 = left + (m - k) := by
    rw [hi9 5 (by omega)]
    unfold g_vw
    rw [if_pos rfl]
  refine ⟨fun x hx => ?_, fun x h1 h2 => ?_⟩
  · unfold g_dow
    rw [e5]
    by_cases x5 : x = 5
    · rw [if_pos x5, g_vw, if_pos x5]; omega
    · rw [if_neg x5, if_neg (by omega), g_vw_o x5 hx]
      by_cases hr : x < 12 + 30 * i ∨ 37 + 30 * i ≤ x
      · rw [hi8 x hr, hi9 x hr, g_vw_o x5 hx]
      · unfold g_put
        rw [e12, g_vw_o x5 hx, g_vw_o (x := x - 3) (by omega) (by omega)]
  · unfold g_dow
    rw [e5, if_neg (by omega)]
    by_cases e1 : 723 + 4 * left ≤ x
    · rw [if_pos (by omega), hi9 _ (by omega), g_vw, if_neg (by omega), if_pos (by omega), g_vw, if_neg (by omega), if_pos (by omega), hi8 _ (by omega)]
      exact congrArg h (by omega)
    · rw [if_neg (by omega), hi9 _ (by omega), g_vw, if_neg (by omega), if_neg (by omega), g_vw, if_neg (by omega), if_neg (by omega), hi8 _ (by omega)]
theorem q_pl.cong {M : lq_M} {a : Nat} {σ c c1 : Nat → Nat} {tk : Nat → Nat × Nat} {n : Nat} (hW : g_wf c) (h : q_pl M a σ c tk n) (e1 : ∀ x, x < 723 → c1 x = c x) (e2 : ∀ x, 723 ≤ x → x < 723 + 4 * c 5 → c1 x = c x) : q_pl M a σ c1 tk n := by
  have h20 := hW.nb
  have h8 := hW.ns
  obtain ⟨p1, p2, p3, p4, p5, p6, p7, p8⟩ := h
  refine ⟨by rw [e1 0 (by omega)]; exact p1, by rw [e1 1 (by omega)]; exact p2, by rw [e1 6 (by omega)]; exact p3, fun j hj => ?_, fun s hs => ?_, fun d hd => ⟨(p6 d hd).1, fun b hb => ?_⟩, p7, by rw [e1 5 (by omega)]; exact p8.1, fun k hk => ?_⟩
  · rw [e1 0 (by omega)] at hj
    have q := p4 j hj
    have hb := (hW.br hj).2.2.2.2.2.1
    unfold q_br at q ⊢
    rw [e1 (7 + 30 * j) (by omega), e1 (8 + 30 * j) (by omega), e1 (9 + 30 * j) (by omega), e1 (10 + 30 * j) (by omega), e1 (11 + 30 * j) (by omega), e1 (12 + 30 * j) (by omega)]
    refine ⟨q.1, q.2.1, q.2.2.1, q.2.2.2.1, q.2.2.2.2.1, q.2.2.2.2.2.1, fun p hp => ?_⟩
    rw [e1 (13 + 30 * j + 3 * p) (by omega), e1 (14 + 30 * j + 3 * p) (by omega), e1 (15 + 30 * j + 3 * p) (by omega)]
    exact q.2.2.2.2.2.2 p hp
  · rw [e1 1 (by omega)] at hs
    rw [e1 (607 + 2 * s) (by omega), e1 (608 + 2 * s) (by omega)]
    exact p5 s hs
  · rw [e1 (623 + 10 * d + b) (by omega)]
    exact (p6 d hd).2 b hb
  · rw [e1 5 (by omega)] at hk
    rw [e2 (723 + 4 * k) (by omega) (by omega), e2 (724 + 4 * k) (by omega) (by omega), e2 (725 + 4 * k) (by omega) (by omega), e2 (726 + 4 * k) (by omega) (by omega)]
    exact p8.2 k hk
theorem q_pl.dow {S : lq_S} {M M1 : lq_M} {a left : Nat} {f : Nat → Option Nat} {σ c : Nat → Nat} {tk : Nat → Nat × Nat} {n : Nat} (hS : sh4 S a f σ) (hW : g_wf c) (h : q_pl M a σ c tk n) (hd : q_deld M (a + 129) left M1) : q_pl M1 a σ (g_dow c left) tk n := by
  have h20 := hW.nb
  have h8 := hW.ns
  obtain ⟨p1, p2, p3, p4, p5, p6, p7, p8⟩ := h
  obtain ⟨d1, d2, d3, d4⟩ := hd
  have o : ∀ x, x ≠ 5 → x < 723 → g_dow c left x = c x := fun x h1 h2 => by unfold g_dow; rw [if_neg h1, if_neg (by omega)]
  have o5 : g_dow c left 5 = c 5 - 1 := by unfold g_dow; rw [if_pos rfl]
  have m : ∀ b, (b < a + 129 ∨ a + 134 ≤ b) → M1 b = M b := d4
  refine ⟨by rw [m a (by omega), o 0 (by omega) (by omega)]; exact p1, by rw [m a (by omega), o 1 (by omega) (by omega)]; exact p2, by rw [m a (by omega), o 6 (by omega) (by omega)]; exact p3, fun j hj => ?_, fun s hs => ?_, fun e he => ?_, ?_, by rw [o5, d2, p8.1], fun k hk => ?_⟩
  · rw [o 0 (by omega) (by omega)] at hj
    have q := p4 j hj
    have hb := (hW.br hj).2.2.2.2.2.1
    have hsj := hS.s (i := j) (by omega)
    unfold q_br at q ⊢
    rw [m (a + 2 + 6 * σ j) (by omega), m (a + 2 + 6 * σ j + 1) (by omega), m (a + 2 + 6 * σ j + 1 + 1) (by omega), m (a + 2 + 6 * σ j + 1 + 2) (by omega), m (a + 2 + 6 * σ j + 1 + 3) (by omega)]
    rw [o (7 + 30 * j) (by omega) (by omega), o (8 + 30 * j) (by omega) (by omega), o (9 + 30 * j) (by omega) (by omega), o (10 + 30 * j) (by omega) (by omega), o (11 + 30 * j) (by omega) (by omega), o (12 + 30 * j) (by omega) (by omega)]
    refine ⟨q.1, q.2.1, q.2.2.1, q.2.2.2.1, q.2.2.2.2.1, q.2.2.2.2.2.1, fun p hp => ?_⟩
    rw [o (13 + 30 * j + 3 * p) (by omega) (by omega), o (14 + 30 * j + 3 * p) (by omega) (by omega), o (15 + 30 * j + 3 * p) (by omega) (by omega)]
    exact q.2.2.2.2.2.2 p hp
  · rw [o 1 (by omega) (by omega)] at hs
    rw [m (a + 122) (by omega), m (a + 123) (by omega), o (607 + 2 * s) (by omega) (by omega), o (608 + 2 * s) (by omega) (by omega)]
    exact p5 s hs
  · rw [m (a + 124) (by omega)]
    refine ⟨(p6 e he).1, fun b hb => ?_⟩
    rw [o (623 + 10 * e + b) (by omega) (by omega)]
    exact (p6 e he).2 b hb
  · rw [m (a + 125) (by omega), m (a + 125 + 1) (by omega)]
    exact p7
  · rw [o5] at hk
    have hk2 : k < M (a + 129) 4 - 1 := by rw [p8.1]; exact hk
    rw [d1 1 (by decide) (by decide) k hk2, d1 2 (by decide) (by decide) k hk2, d1 3 (by decide) (by decide) k hk2, d1 4 (by decide) (by decide) k hk2]
    unfold q_de g_dow
    rw [if_neg (show ¬ 723 + 4 * k = 5 by omega), if_neg (show ¬ 724 + 4 * k = 5 by omega), if_neg (show ¬ 725 + 4 * k = 5 by omega), if_neg (show ¬ 726 + 4 * k = 5 by omega)]
    by_cases e : k < left
    · rw [if_pos e, if_pos e, if_pos e, if_pos e, if_neg (show ¬ (723 + 4 * left ≤ 723 + 4 * k ∧ 723 + 4 * k < 723 + 4 * (c 5 - 1)) by omega), if_neg (show ¬ (723 + 4 * left ≤ 724 + 4 * k ∧ 724 + 4 * k < 723 + 4 * (c 5 - 1)) by omega), if_neg (show ¬ (723 + 4 * left ≤ 725 + 4 * k ∧ 725 + 4 * k < 723 + 4 * (c 5 - 1)) by omega), if_neg (show ¬ (723 + 4 * left ≤ 726 + 4 * k ∧ 726 + 4 * k < 723 + 4 * (c 5 - 1)) by omega)]
      exact p8.2 k (by omega)
    · rw [if_neg e, if_neg e, if_neg e, if_neg e, if_pos (show 723 + 4 * left ≤ 723 + 4 * k ∧ 723 + 4 * k < 723 + 4 * (c 5 - 1) by omega), if_pos (show 723 + 4 * left ≤ 724 + 4 * k ∧ 724 + 4 * k < 723 + 4 * (c 5 - 1) by omega), if_pos (show 723 + 4 * left ≤ 725 + 4 * k ∧ 725 + 4 * k < 723 + 4 * (c 5 - 1) by omega), if_pos (show 723 + 4 * left ≤ 726 + 4 * k ∧ 726 + 4 * k < 723 + 4 * (c 5 - 1) by omega)]
      have q := p8.2 (k + 1) (by omega)
      rw [show 723 + 4 * k + 4 = 723 + 4 * (k + 1) by omega, show 724 + 4 * k + 4 = 724 + 4 * (k + 1) by omega, show 725 + 4 * k + 4 = 725 + 4 * (k + 1) by omega, show 726 + 4 * k + 4 = 726 + 4 * (k + 1) by omega]
      exact q
theorem g_wf.vw {h : Nat → Nat} (hW : g_wf h) {left k m : Nat} (hm : m = h 5) (hl : left ≤ k) (hk : k ≤ m) : g_wf (g_vw h left k m) := by
  have h20 := hW.nb
  have h8 := hW.ns
  have h160 := hW.no
  have o : ∀ x, x ≠ 5 → x < 723 → g_vw h left k m x = h x := fun x h1 h2 => g_vw_o h1 h2
  have o5 : g_vw h left k m 5 = left + (m - k) := by unfold g_vw; rw [if_pos rfl]
  refine ⟨by rw [o 0 (by omega) (by omega)]; exact h20, by rw [o 1 (by omega) (by omega)]; exact h8, fun j hj => ?_, fun j p hj hp => ?_, fun j p q hj hp hq e => ?_, fun s hs => ?_, fun a b ha hb => ?_, fun j hj => ?_, ?_⟩
  · rw [o 0 (by omega) (by omega)] at hj
    rw [o (7 + 30 * j) (by omega) (by omega), o (8 + 30 * j) (by omega) (by omega), o (9 + 30 * j) (by omega) (by omega), o (10 + 30 * j) (by omega) (by omega), o (11 + 30 * j) (by omega) (by omega), o (12 + 30 * j) (by omega) (by omega)]
    exact hW.br hj
  · rw [o 0 (by omega) (by omega)] at hj
    rw [o (12 + 30 * j) (by omega) (by omega)] at hp
    have hb := (hW.br hj).2.2.2.2.2.1
    rw [o 1 (by omega) (by omega), o (13 + 30 * j + 3 * p) (by omega) (by omega), o (14 + 30 * j + 3 * p) (by omega) (by omega), o (15 + 30 * j + 3 * p) (by omega) (by omega)]
    exact hW.sp hj hp
  · rw [o 0 (by omega) (by omega)] at hj
    rw [o (12 + 30 * j) (by omega) (by omega)] at hp hq
    have hb := (hW.br hj).2.2.2.2.2.1
    rw [o (13 + 30 * j + 3 * p) (by omega) (by omega), o (13 + 30 * j + 3 * q) (by omega) (by omega)] at e
    exact hW.ne hj hp hq e
  · rw [o (607 + 2 * s) (by omega) (by omega), o (608 + 2 * s) (by omega) (by omega)]; exact hW.cat hs
  · rw [o (623 + 10 * a + b) (by omega) (by omega), o (623 + 10 * b + a) (by omega) (by omega)]; exact hW.ban ha hb
  · rw [o5] at hj
    have j0 := g_vw_j (h := h) (left := left) (k := k) (m := m) (j := j) 0 (by omega) hj hl
    have j1 := g_vw_j (h := h) (left := left) (k := k) (m := m) (j := j) 1 (by omega) hj hl
    have j2 := g_vw_j (h := h) (left := left) (k := k) (m := m) (j := j) 2 (by omega) hj hl
    have j3 := g_vw_j (h := h) (left := left) (k := k) (m := m) (j := j) 3 (by omega) hj hl
    simp only [Nat.reduceAdd] at j0 j1 j2 j3
    rw [j0, j1, j2, j3, o 1 (by omega) (by omega)]
    have hx : (if j < left then j else j - left + k) < h 5 := by
      by_cases e : j < left
      · rw [if_pos e]; omega
      · rw [if_neg e]; omega
    exact hW.ow hx
  · rw [o5, o 0 (by omega) (by omega), g_cn_cong (g := g_vw h left k m) (g' := h) (h 0) (fun j hj => o (11 + 30 * j) (by omega) (by omega))]
    have := hW.2.2.2.2.2.2.2.2
    omega
theorem g_vw_ag {h : Nat → Nat} {left k m : Nat} : g_ag h (g_vw h left k m) := fun x h1 _ h3 => g_vw_o h1 h3
theorem g_vw_gf {h : Nat → Nat} (hW : g_wf h) {left k m : Nat} (hm : m = h 5) (hl : left ≤ k) (hk : k < m) : g_gf (g_vw h left k m) left = g_gf h k := by
  have h20 := hW.nb
  have how := hW.ow (k := k) (by omega)
  have j0 := g_vw_j (h := h) (left := left) (k := k) (m := m) (j := left) 0 (by omega) (by omega) hl
  have j1 := g_vw_j (h := h) (left := left) (k := k) (m := m) (j := left) 1 (by omega) (by omega) hl
  have j3 := g_vw_j (h := h) (left := left) (k := k) (m := m) (j := left) 3 (by omega) (by omega) hl
  simp only [Nat.reduceAdd, Nat.lt_irrefl, if_false, Nat.sub_self, Nat.zero_add] at j0 j1 j3
  unfold g_gf
  rw [g_vw_o (x := 0) (by omega) (by omega)]
  refine q_fst_cong 1 _ (fun i hi => ?_)
  unfold g_gdN
  rw [j0, j1, j3, g_vw_o (x := 10 + 30 * i) (by omega) (by omega), (g_vw_ag (h := h) (left := left) (k := k) (m := m)).rs hW hi how.1]
theorem g_wf.dow {c : Nat → Nat} (h : g_wf c) {left : Nat} (hl : left < c 5) : g_wf (g_dow c left) := by
  have h20 := h.nb
  have h8 := h.ns
  have h160 := h.no
  have o : ∀ x, x ≠ 5 → x < 723 → g_dow c left x = c x := fun x h1 h2 => by unfold g_dow; rw [if_neg h1, if_neg (by omega)]
  have o5 : g_dow c left 5 = c 5 - 1 := by unfold g_dow; rw [if_pos rfl]
  refine ⟨by rw [o 0 (by omega) (by omega)]; exact h20, by rw [o 1 (by omega) (by omega)]; exact h8, fun j hj => ?_, fun j p hj hp => ?_, fun j p q hj hp hq e => ?_, fun s hs => ?_, fun a b ha hb => ?_, fun j hj => ?_, ?_⟩
  · rw [o 0 (by omega) (by omega)] at hj
    rw [o (7 + 30 * j) (by omega) (by omega), o (8 + 30 * j) (by omega) (by omega), o (9 + 30 * j) (by omega) (by omega), o (10 + 30 * j) (by omega) (by omega), o (11 + 30 * j) (by omega) (by omega), o (12 + 30 * j) (by omega) (by omega)]
    exact h.br hj
  · rw [o 0 (by omega) (by omega)] at hj
    rw [o (12 + 30 * j) (by omega) (by omega)] at hp
    have hb := (h.br hj).2.2.2.2.2.1
    rw [o 1 (by omega) (by omega), o (13 + 30 * j + 3 * p) (by omega) (by omega), o (14 + 30 * j + 3 * p) (by omega) (by omega), o (15 + 30 * j + 3 * p) (by omega) (by omega)]
    exact h.sp hj hp
  · rw [o 0 (by omega) (by omega)] at hj
    rw [o (12 + 30 * j) (by omega) (by omega)] at hp hq
    have hb := (h.br hj).2.2.2.2.2.1
    rw [o (13 + 30 * j + 3 * p) (by omega) (by omega), o (13 + 30 * j + 3 * q) (by omega) (by omega)] at e
    exact h.ne hj hp hq e
  · rw [o (607 + 2 * s) (by omega) (by omega), o (608 + 2 * s) (by omega) (by omega)]; exact h.cat hs
  · rw [o (623 + 10 * a + b) (by omega) (by omega), o (623 + 10 * b + a) (by omega) (by omega)]; exact h.ban ha hb
  · rw [o5] at hj
    rw [o 1 (by omega) (by omega)]
    unfold g_dow
    rw [if_neg (show ¬ 723 + 4 * j = 5 by omega), if_neg (show ¬ 724 + 4 * j = 5 by omega), if_neg (show ¬ 725 + 4 * j = 5 by omega), if_neg (show ¬ 726 + 4 * j = 5 by omega)]
    by_cases e : j < left
    · rw [if_neg (show ¬ (723 + 4 * left ≤ 723 + 4 * j ∧ 723 + 4 * j < 723 + 4 * (c 5 - 1)) by omega), if_neg (show ¬ (723 + 4 * left ≤ 724 + 4 * j ∧ 724 + 4 * j < 723 + 4 * (c 5 - 1)) by omega), if_neg (show ¬ (723 + 4 * left ≤ 725 + 4 * j ∧ 725 + 4 * j < 723 + 4 * (c 5 - 1)) by omega), if_neg (show ¬ (723 + 4 * left ≤ 726 + 4 * j ∧ 726 + 4 * j < 723 + 4 * (c 5 - 1)) by omega)]
      exact h.ow (by omega)
    · rw [if_pos (show 723 + 4 * left ≤ 723 + 4 * j ∧ 723 + 4 * j < 723 + 4 * (c 5 - 1) by omega), if_pos (show 723 + 4 * left ≤ 724 + 4 * j ∧ 724 + 4 * j < 723 + 4 * (c 5 - 1) by omega), if_pos (show 723 + 4 * left ≤ 725 + 4 * j ∧ 725 + 4 * j < 723 + 4 * (c 5 - 1) by omega), if_pos (show 723 + 4 * left ≤ 726 + 4 * j ∧ 726 + 4 * j < 723 + 4 * (c 5 - 1) by omega)]
      rw [show 723 + 4 * j + 4 = 723 + 4 * (j + 1) by omega, show 724 + 4 * j + 4 = 724 + 4 * (j + 1) by omega, show 725 + 4 * j + 4 = 725 + 4 * (j + 1) by omega, show 726 + 4 * j + 4 = 726 + 4 * (j + 1) by omega]
      exact h.ow (by omega)
  · rw [o5, o 0 (by omega) (by omega), g_cn_cong (g := g_dow c left) (g' := c) (c 0) (fun j hj => o (11 + 30 * j) (by omega) (by omega))]
    have := h.2.2.2.2.2.2.2.2
    omega
section PW2
variable {G : lq_G} {z : Nat} {S : lq_S} {N : lq_N}
theorem l_X4_bookCheapest {a : Nat} {f : Nat → Option Nat} {σ : Nat → Nat} {tk : Nat → Nat × Nat} {n : Nat} (hS : sh4 S a f σ) (hF : q_fwf tk n) (hn : n ≤ 800) {s l : Nat} (hl : l ≤ 60) {M0 : lq_M} {most : Nat} (hmo : most ≤ 20) {R : (Nat → Nat) × Nat} : ∀ (k b : Nat) (M : lq_M) (g : Nat → Nat), b + k = most → q_pl M a σ g tk n → g_wf g → s < g 1 → R = ((g_camp tk n s l k g).1, b + (g_camp tk n s l k g).2) → q_fr a (a + 134) M0 M → LW G YX4_bookCheapest 5 0 0 (lq_mi z S N (fun x M1 => x = nI R.2 ∧ q_pl M1 a σ R.1 tk n ∧ q_fr a (a + 134) M0 M1)) lq_no z S M N 3 [some (.ref a), some (.int (nI s)), some (.int (nI l)), some (.int (nI most)), some (.int (nI b)), none] [] := by
  intro k
  induction k with
  | zero =>
    intro b M g hb hR hW hs hRR hq
    refine qw_iload dX4_bookCheapest_3 rfl ?_
    refine qw_iload_n 3 dX4_bookCheapest_5 rfl rfl ?_
    refine qw_icmp_geN 40 dX4_bookCheapest_6 (by decide) (by omega) (by omega) (fun c6 => ?_) (fun c6 => absurd c6 (by omega))
    refine qw_iload_n 3 dX4_bookCheapest_40 rfl rfl ?_
    exact qw_ireturn rfl rfl dX4_bookCheapest_41 ⟨rfl, rfl, rfl, _, rfl, by rw [hRR, g_camp]; show nI most = nI (b + 0); rw [show b + 0 = most by omega], by rw [hRR, g_camp]; exact hR, hq⟩
  | succ k ih =>
    intro b M g hb hR hW hs hRR hq
    have h20 := hW.nb
    have hle := g_chp_le g tk n s l (g 0)
    have hm := q_m1_neg (k := (g_chp g tk n s l (g 0)).1) (by omega)
    have hs20 : ∀ i, i < g 0 → σ i < 20 := fun i hi => hS.s (by omega)
    refine qw_iload dX4_bookCheapest_3 rfl ?_
    refine qw_iload_n 3 dX4_bookCheapest_5 rfl rfl ?_
    refine qw_icmp_geN 40 dX4_bookCheapest_6 (by decide) (by omega) (by omega) (fun c6 => absurd c6 (by omega)) (fun c6 => ?_)
    refine qw_aload_n 0 dX4_bookCheapest_9 rfl rfl ?_
    refine qw_iload_n 1 dX4_bookCheapest_10 rfl rfl ?_
    refine qw_iload_n 2 dX4_bookCheapest_11 rfl rfl ?_
    refine qw_cvi [_, _] (k_X4_cheapestBreak hS hR hW hF hn hs hl) mX4_155 dX4_bookCheapest_12 hS.1 rfl rfl rfl (Nat.le_of_ble_eq_true rfl) (by omega) (by decide) rfl (fun x1 M1 h1 => ?_)
    obtain ⟨hx1, hm1⟩ := h1
    subst hx1
    have hR1 := hR.fq hs20 hm1
    refine qw_istore dX4_bookCheapest_15 rfl (by decide) ?_
    refine qw_iload dX4_bookCheapest_17 rfl ?_
    refine qw_if_ge 25 dX4_bookCheapest_19 (by decide) (fun c19 => ?_) (fun c19 => ?_)
    · have hk0 : (g_chp g tk n s l (g 0)).1 ≠ 0 := fun q => (Int32.not_lt.mpr c19) (hm.mpr q)
      rw [show q_m1 (g_chp g tk n s l (g 0)).1 = nI ((g_chp g tk n s l (g 0)).1 - 1) from if_neg hk0]
      refine qw_aload_n 0 dX4_bookCheapest_25 rfl rfl ?_
      refine qw_iload_n 1 dX4_bookCheapest_26 rfl rfl ?_
      refine qw_iload_n 2 dX4_bookCheapest_27 rfl rfl ?_
      refine qw_iload dX4_bookCheapest_28 rfl ?_
      refine qw_cvi [_, _, _] (k_X4_bookSpot hS hR1 hW hF hn hs hl (by omega)) mX4_158 dX4_bookCheapest_30 hS.1 rfl rfl rfl (Nat.le_of_ble_eq_true rfl) (by omega) (by decide) rfl (fun x2 M2 h2 => ?_)
      obtain ⟨hx2, hR2, hq2⟩ := h2
      refine qw_pop dX4_bookCheapest_33 rfl ?_
      refine qw_iincN 1 dX4_bookCheapest_34 rfl (by decide) rfl (by decide) ?_
      refine qw_goto 3 dX4_bookCheapest_37 (by decide) ?_
      exact qw_weak _ (by simp [lq_le]) (ih (b + 1) M2 _ (by omega) hR2 (hW.bk hs hl (by omega)) (by rw [(g_bk_01 hW hs (by omega)).2]; exact hs) (by rw [hRR, g_camp, if_neg hk0]; show (_, _) = (_, _); rw [show ∀ u : Nat, b + (u + 1) = b + 1 + u from fun u => by omega]) (fun x hx => by rw [hq2 x hx, hm1 x (by omega) (by omega)]; exact hq x hx))
    · refine qw_iload dX4_bookCheapest_22 rfl ?_
      exact qw_ireturn rfl rfl dX4_bookCheapest_24 ⟨rfl, rfl, rfl, _, rfl, by rw [hRR, g_camp, if_pos (hm.mp (Int32.not_le.mp c19))]; rfl, by rw [hRR, g_camp, if_pos (hm.mp (Int32.not_le.mp c19))]; exact hR1, fun x hx => by rw [hm1 x (by omega) (by omega)]; exact hq x hx⟩
theorem k_X4_bookCheapest {M : lq_M} {a : Nat} {f : Nat → Option Nat} {σ g : Nat → Nat} {tk : Nat → Nat × Nat} {n : Nat} (hS : sh4 S a f σ) (hR : q_pl M a σ g tk n) (hW : g_wf g) (hF : q_fwf tk n) (hn : n ≤ 800) {s l most : Nat} (hs : s < g 1) (hl : l ≤ 60) (hmo : most ≤ 20) : LM G YX4_bookCheapest 5 0 0 [.ref a, .int (nI s), .int (nI l), .int (nI most)] z S M N (lq_mi z S N (fun x M1 => x = nI (g_camp tk n s l most g).2 ∧ q_pl M1 a σ (g_camp tk n s l most g).1 tk n ∧ q_fr a (a + 134) M M1)) lq_no := by
  refine LM.of (by decide) rfl [some (.ref a), some (.int (nI s)), some (.int (nI l)), some (.int (nI most)), none, none] rfl (Nat.le_of_ble_eq_true rfl) ?_
  refine qw_iconst (nI 0) dX4_bookCheapest_0 (by decide) ?_
  refine qw_istore dX4_bookCheapest_1 rfl (by decide) ?_
  exact l_X4_bookCheapest hS hF hn hl hmo (R := g_camp tk n s l most g) most 0 M g (by omega) hR hW hs (by rw [Nat.zero_add]) q_fr.rf
theorem l_X4_bookInOrder {a : Nat} {f : Nat → Option Nat} {σ h : Nat → Nat} {tk : Nat → Nat × Nat} {n : Nat} (hS : sh4 S a f σ) (hW : g_wf h) {i o m : Nat} (hi : i < h 0) (hm : m = h (12 + 30 * i)) (hO : S o = some (.inr (.inl (0, 8)))) (ho : o < a ∨ a + 134 ≤ o) {ord : Nat → Nat} {M0 : lq_M} (hM : ∀ j, j < m → M0 o j = ord j) (hord : ∀ j, j < m → ∃ q, q < m ∧ h (13 + 30 * i + 3 * q) = ord j) (hinj : ∀ x y, x < m → y < m → ord x = ord y → x = y) : ∀ (n9 t : Nat) (M : lq_M) (π : Nat → Nat), t ≤ m → m - t < n9 → q_pl M a σ (g_prm h i π) tk n → q_perm m π → (∀ j, j < t → h (13 + 30 * i + 3 * π j) = ord j) → q_fr a (a + 134) M0 M → LW G YX4_bookInOrder 4 0 0 (lq_mv z S N (fun M1 => q_pl M1 a σ (g_reo h i ord) tk n ∧ q_fr a (a + 134) M0 M1)) lq_no z S M N 49 [some (.ref a), none, none, none, some (.ref o), none, some (.ref (a + 2 + 6 * σ i + 1)), some (.int (nI t))] [] := by
  intro n9
  induction n9 with
  | zero => intro _ _ _ _ _ _ _ _ _; omega
  | succ n9 ih =>
    intro t M π ht hn9 hR hp hdone hq
    have h20 := hW.nb
    have hbw := hW.br hi
    have hsi := hS.s (i := i) (by omega)
    have hwc : g_wf (g_prm h i π) := hW.prm hi (hm ▸ hp)
    have hic : i < g_prm h i π 0 := by rw [g_prm_o (by omega)]; exact hi
    have hbr := hR.br hic
    have hcn := hbr.2.2.2.2.2.1
    rw [g_prm_o (by omega), ← hm] at hcn
    refine qw_iload dX4_bookInOrder_49 rfl ?_
    refine qw_aload dX4_bookInOrder_51 rfl ?_
    refine qw_geti fX4_54 dX4_bookInOrder_53 (hS.b (i := i) (by omega)).2.1 rfl ?_
    rw [hcn]
    refine qw_icmp_geN 90 dX4_bookInOrder_56 (by decide) (by omega) (by omega) (fun c56 => ?_) (fun c56 => ?_)
    · exact qw_return rfl dX4_bookInOrder_90 ⟨rfl, rfl, rfl, rfl, by
          have e : g_reo h i ord = g_prm h i π := g_prm_cong (fun j hj => q_fst_hit (hm ▸ hp.1 j (by omega)) (hdone j (by omega)) (fun q hq2 e => by
            have z := hW.ne hi (p := q) (q := π j) (by have := hp.1 j (by omega); omega) (by have := hp.1 j (by omega); omega) (e.trans (hdone j (by omega)).symm)
            omega))
          rw [e]
          exact hR, hq⟩
    · refine qw_iload dX4_bookInOrder_59 rfl ?_
      refine qw_aload dX4_bookInOrder_61 rfl ?_
      refine qw_aleni dX4_bookInOrder_63 hO ?_
      refine qw_icmp_geN 90 dX4_bookInOrder_64 (by decide) (by omega) (by omega) (fun c64 => absurd c64 (by omega)) (fun c64 => ?_)
      have hof : M o t = ord t := by rw [hq o (by omega)]; exact hM t (by omega)
      obtain ⟨q0, hq0, hq1⟩ := hord t (by omega)
      obtain ⟨j0, hj0, hj1⟩ := hp.2.2 q0 hq0
      have j0v : ∀ q, q < m → M (a + 2 + 6 * σ i + 1 + 1) q = h (13 + 30 * i + 3 * π q) := fun q hq9 => by
        have z1 := (hbr.2.2.2.2.2.2 q (by rw [g_prm_o (by omega), ← hm]; exact hq9)).1
        have z2 := g_prm_j (h := h) (i := i) (π := π) 0 (q := q) (by omega) (by omega)
        simp only [Nat.reduceAdd] at z2
        rw [z1, z2]
      have hfl : q_fst (M (a + 2 + 6 * σ i + 1 + 1)) (ord t) (M (a + 2 + 6 * σ i + 1) 4) < M (a + 2 + 6 * σ i + 1) 4 := q_fst_lt.mpr ⟨j0, by rw [hcn]; exact hj0, by rw [j0v j0 hj0, hj1]; exact hq1⟩
      have hfy := q_fst_yes _ _ _ hfl
      obtain ⟨fx, hfx⟩ : ∃ x, x = q_fst (M (a + 2 + 6 * σ i + 1 + 1)) (ord t) (M (a + 2 + 6 * σ i + 1) 4) := ⟨_, rfl⟩
      rw [← hfx] at hfl hfy
      rw [hcn] at hfl
      rw [j0v fx hfl] at hfy
      have hft : t ≤ fx := Decidable.byContradiction fun q => by
        have z := hinj fx t (by omega) (by omega) (by rw [← hdone fx (by omega), hfy])
        omega
      have hsb : ∀ j, j < m → M (a + 2 + 6 * σ i + 1 + 1) j < 2 ^ 31 := fun j hj => by
        have z := (hW.sp hi (p := π j) (by rw [← hm]; exact hp.1 j hj)).1
        have z2 := hW.ns
        rw [j0v j hj]
        omega
      have hordb : ord t < 2 ^ 31 := by rw [← hfy, ← j0v fx hfl]; exact hsb fx hfl
      refine qw_aload dX4_bookInOrder_67 rfl ?_
      refine qw_aload dX4_bookInOrder_69 rfl ?_
      refine qw_aload dX4_bookInOrder_71 rfl ?_
      refine qw_iload dX4_bookInOrder_73 rfl ?_
      refine qw_iald dX4_bookInOrder_75 hO (by omega) (by omega) ?_
      rw [hof]
      refine qw_cvp [_] (k_X6_placeOf (hS.b (i := i) (by omega)).2 (by rw [hcn]; omega) (by decide) hordb (fun j hj => hsb j (by rw [hcn] at hj; exact hj))) mX4_97 dX4_bookInOrder_76 (hS.b (i := i) (by omega)).2.1 rfl rfl rfl (Nat.le_of_ble_eq_true rfl) (by omega) (by decide) rfl ?_
      rw [show q_plv (M (a + 2 + 6 * σ i + 1 + 1)) (ord t) (M (a + 2 + 6 * σ i + 1) 4) = nI fx by rw [q_plv, ← hfx, if_pos (by rw [hcn]; exact hfl)]]
      refine qw_iload dX4_bookInOrder_79 rfl ?_
      refine qw_cvv [_, _] (k_X6_moveForward (hS.b (i := i) (by omega)).2 (by decide) hft (by rw [hcn]; exact hfl) (by rw [hcn]; omega)) mX4_151 dX4_bookInOrder_81 (hS.b (i := i) (by omega)).2.1 rfl rfl rfl (Nat.le_of_ble_eq_true rfl) (by omega) (by decide) rfl (fun M1 h1 => ?_)
      refine qw_iincN 1 dX4_bookInOrder_84 rfl (by decide) rfl (by decide) ?_
      refine qw_goto 49 dX4_bookInOrder_87 (by decide) ?_
      have hb2 := hbr.mov h1 hft (by rw [g_prm_o (by omega), ← hm]; exact hfl)
      have hq1' := h1.2.2
      have hR2 : q_pl M1 a σ (g_prm (g_prm h i π) i (q_mvi fx t)) tk n := hR.row hS hwc hic (fun b b1 b2 b3 b4 => hq1' b (by omega)) (by rw [hq1' a (by omega)]) (by rw [hq1' a (by omega)]) (by rw [hq1' a (by omega), hR.inc]; rw [g_prm_o (h := g_prm h i π) (by rw [g_prm_o (by omega)]; omega)]) (fun k k1 k2 => g_prm_o (by rw [g_prm_o (by omega)]; omega)) hb2
      have hpm := q_mvi_p (m := m) hft hfl
      rw [g_prm_prm (by rw [← hm]; exact hpm.1)] at hR2
      refine ih (t + 1) M1 (fun j => π (q_mvi fx t j)) (by omega) (by omega) hR2 (hp.comp hpm) (fun j hj => ?_) (fun x hx => by rw [hq1' x (by omega)]; exact hq x hx)
      show h (13 + 30 * i + 3 * π (q_mvi fx t j)) = ord j
      by_cases e : j = t
      · rw [show q_mvi fx t j = fx by rw [e, q_mvi, if_neg (Nat.lt_irrefl t), if_pos rfl], e]; exact hfy
      · rw [show q_mvi fx t j = j by rw [q_mvi, if_pos (by omega)]]; exact hdone j (by omega)
theorem k_X4_bookInOrder {M : lq_M} {a : Nat} {f : Nat → Option Nat} {σ g : Nat → Nat} {tk : Nat → Nat × Nat} {n : Nat} (hS : sh4 S a f σ) (hR : q_pl M a σ g tk n) (hW : g_wf g) (hF : q_fwf tk n) (hn : n ≤ 800) {s l i o : Nat} (hs : s < g 1) (hl : l ≤ 60) (hi : i < g 0) (hst : g (11 + 30 * i) = 0) (h0 : ¬ 0 < g_hs g i s) (hO : S o = some (.inr (.inl (0, 8)))) (ho : o < a ∨ a + 134 ≤ o) {ord h : Nat → Nat} (hh : h = g_inc (g_put g i (g (12 + 30 * i)) s l (g_pc g tk n s l i)) (g_pc g tk n s l i)) (hM : ∀ j, j < h (12 + 30 * i) → M o j = ord j) (hord : ∀ j, j < h (12 + 30 * i) → ∃ q, q < h (12 + 30 * i) ∧ h (13 + 30 * i + 3 * q) = ord j) (hinj : ∀ x y, x < h (12 + 30 * i) → y < h (12 + 30 * i) → ord x = ord y → x = y) : LM G YX4_bookInOrder 4 0 0 [.ref a, .int (nI s), .int (nI l), .int (nI i), .ref o] z S M N (lq_mv z S N (fun M1 => q_pl M1 a σ (g_reo h i ord) tk n ∧ q_fr a (a + 134) M M1)) lq_no := by
  have h20 := hW.nb
  have hsi := hS.s (i := i) (by omega)
  have hs20 : ∀ i, i < g 0 → σ i < 20 := fun i hi => hS.s (by omega)
  have h7 := hW.seven hi hs h0
  have hpcl := g_pc_le g tk n s l i
  have hwh : g_wf h := by rw [hh]; exact hW.put hi hs hl hpcl (Nat.le_refl _) h0 hst
  have hhc : h (12 + 30 * i) = g (12 + 30 * i) + 1 := by rw [hh, g_inc_o (by omega), g_put_c]
  have hh0 : h 0 = g 0 := by rw [hh, g_inc_o (by omega), g_put_o (by omega) (Nat.le_refl _) h7]
  refine LM.of (by decide) rfl [some (.ref a), some (.int (nI s)), some (.int (nI l)), some (.int (nI i)), some (.ref o), none, none, none] rfl (Nat.le_of_ble_eq_true rfl) ?_
  refine qw_aload_n 0 dX4_bookInOrder_0 rfl rfl ?_
  refine qw_iload_n 1 dX4_bookInOrder_1 rfl rfl ?_
  refine qw_iload_n 2 dX4_bookInOrder_2 rfl rfl ?_
  refine qw_iload_n 3 dX4_bookInOrder_3 rfl rfl ?_
  refine qw_cvi [_, _, _] (k_X4_priceOf hS hR hW hF hn hs hl hi) mX4_144 dX4_bookInOrder_4 hS.1 rfl rfl rfl (Nat.le_of_ble_eq_true rfl) (by omega) (by decide) rfl (fun x1 M1 h1 => ?_)
  obtain ⟨hx1, hm1⟩ := h1
  subst hx1
  have hR1 := hR.fq hs20 hm1
  have hbr1 := hR1.br hi
  have hcn1 := hbr1.2.2.2.2.2.1
  refine qw_istore dX4_bookInOrder_7 rfl (by decide) ?_
  refine qw_aload_n 0 dX4_bookInOrder_9 rfl rfl ?_
  refine qw_getr fX4_11 dX4_bookInOrder_10 hS.1 rfl ?_
  refine qw_iload_n 3 dX4_bookInOrder_13 rfl rfl ?_
  refine qw_aald dX4_bookInOrder_14 hS.l rfl rfl (by omega) (by omega) (hS.el (by omega)) ?_
  refine qw_getr fX4_87 dX4_bookInOrder_15 (hS.b (i := i) (by omega)).1 rfl ?_
  refine qw_astore dX4_bookInOrder_18 rfl (by decide) ?_
  refine qw_aload dX4_bookInOrder_20 rfl ?_
  refine qw_aload dX4_bookInOrder_22 rfl ?_
  refine qw_geti fX4_54 dX4_bookInOrder_24 (hS.b (i := i) (by omega)).2.1 rfl ?_
  rw [hcn1]
  refine qw_iload_n 1 dX4_bookInOrder_27 rfl rfl ?_
  refine qw_iload_n 2 dX4_bookInOrder_28 rfl rfl ?_
  refine qw_iload dX4_bookInOrder_29 rfl ?_
  refine qw_iconst (nI 0) dX4_bookInOrder_31 (by decide) ?_
  refine qw_cvv [_, _, _, _, _] (k_X6_insert (hS.b (i := i) (by omega)).2 (by decide) (by rw [hcn1]; exact Nat.le_refl _) (by rw [hcn1]; omega)) mX4_147 dX4_bookInOrder_32 (hS.b (i := i) (by omega)).2.1 rfl rfl rfl (Nat.le_of_ble_eq_true rfl) (by omega) (by decide) rfl (fun M2 h2 => ?_)
  refine qw_aload_n 0 dX4_bookInOrder_35 rfl rfl ?_
  refine qw_dup dX4_bookInOrder_36 rfl ?_
  refine qw_geti fX4_57 dX4_bookInOrder_37 hS.1 rfl ?_
  refine qw_iload dX4_bookInOrder_40 rfl ?_
  refine qw_addN dX4_bookInOrder_42 ?_
  refine qw_puti fX4_57 dX4_bookInOrder_43 hS.1 rfl ?_
  refine qw_iconst (nI 0) dX4_bookInOrder_46 (by decide) ?_
  refine qw_istore dX4_bookInOrder_47 rfl (by decide) ?_
  have hq2 := h2.2.2.2
  have hb2 := hbr1.put (v := g_pc g tk n s l i) h2 (Nat.le_refl _) h7
  rw [← hh] at hb2
  have hR3 : q_pl (lq_up M2 a 8 (M2 a 8 + g_pc g tk n s l i)) a σ (g_prm h i (fun j => j)) tk n := by
    rw [g_prm_id]
    refine hR1.row hS hW hi (fun b b1 b2 b3 b4 => by rw [lq_up_n _ _ _ b1]; exact hq2 b (by omega)) (by rw [lq_up_c _ _ (by decide), hq2 a (by omega)]) (by rw [lq_up_c _ _ (by decide), hq2 a (by omega)]) (by rw [lq_up_s, hq2 a (by omega), hR1.inc, hh, g_inc_6, g_put_o (by omega) (Nat.le_refl _) h7]) (fun k k1 k2 => by rw [hh, g_inc_o k1, g_put_o (by omega) (Nat.le_refl _) h7]) ?_
    unfold q_br at hb2 ⊢
    rw [lq_up_n _ _ _ (show a + 2 + 6 * σ i ≠ a by omega), lq_up_n _ _ _ (show a + 2 + 6 * σ i + 1 ≠ a by omega), lq_up_n _ _ _ (show a + 2 + 6 * σ i + 1 + 1 ≠ a by omega), lq_up_n _ _ _ (show a + 2 + 6 * σ i + 1 + 2 ≠ a by omega), lq_up_n _ _ _ (show a + 2 + 6 * σ i + 1 + 3 ≠ a by omega)]
    exact hb2
  exact qw_weak _ (by simp [lq_le]) (l_X4_bookInOrder hS hwh (by rw [hh0]; exact hi) rfl hO ho hM hord hinj (h (12 + 30 * i) + 1) 0 _ (fun j => j) (Nat.zero_le _) (by omega) hR3 q_perm.id (fun j hj => absurd hj (Nat.not_lt_zero j)) (fun b hb => by rw [lq_up_n _ _ _ (by omega), hq2 b (by omega), hm1 b (by omega) (by omega)]))
theorem l_X4_settleOwed {a : Nat} {f : Nat → Option Nat} {σ g : Nat → Nat} {tk : Nat → Nat × Nat} {n : Nat} (hS : sh4 S a f σ) (hW : g_wf g) {M0 : lq_M} : ∀ (n9 k : Nat) (M : lq_M), k ≤ g 5 → g 5 - k < n9 → q_pl M a σ (g_vw (g_mgs g k).1 (g_mgs g k).2 k (g 5)) tk n → q_fr a (a + 134) M0 M → LW G YX4_settleOwed 5 0 0 (lq_mi z S N (fun x M1 => x = nI (g 5 - (g_mgs g (g 5)).2) ∧ q_pl M1 a σ (g_mkg g) tk n ∧ q_fr a (a + 134) M0 M1)) lq_no z S M N 12 [some (.ref a), some (.int (nI (g 5))), some (.int (nI (g_mgs g k).2)), some (.int (nI k)), none, none] [] := by
  intro n9
  induction n9 with
  | zero => intro _ _ _ _ _ _; omega
  | succ n9 ih =>
    intro k M hk hn9 hR hq
    have h20 := hW.nb
    have h8 := hW.ns
    have h160 := hW.no
    obtain ⟨i1, i2, i3, i5, i6, i7⟩ := hW.mgs k hk
    have hle := g_mgs_le g k
    have hwv := i1.vw i5.symm hle hk
    have hcnt : M (a + 129) 4 = (g_mgs g k).2 + (g 5 - k) := by rw [hR.ow.1, g_vw, if_pos rfl]
    have v0 : g_vw (g_mgs g k).1 (g_mgs g k).2 k (g 5) 0 = g 0 := by rw [g_vw_o (by omega) (by omega)]; exact i2
    have v1 : g_vw (g_mgs g k).1 (g_mgs g k).2 k (g 5) 1 = g 1 := by rw [g_vw_o (by omega) (by omega)]; exact i3
    have v5 : g_vw (g_mgs g k).1 (g_mgs g k).2 k (g 5) 5 = (g_mgs g k).2 + (g 5 - k) := by rw [g_vw, if_pos rfl]
    refine qw_iload_n 3 dX4_settleOwed_12 rfl rfl ?_
    refine qw_iload_n 1 dX4_settleOwed_13 rfl rfl ?_
    refine qw_icmp_geN 98 dX4_settleOwed_14 (by decide) (by omega) (by omega) (fun c14 => ?_) (fun c14 => ?_)
    · refine qw_iload_n 1 dX4_settleOwed_98 rfl rfl ?_
      refine qw_aload_n 0 dX4_settleOwed_99 rfl rfl ?_
      refine qw_getr fX4_40 dX4_settleOwed_100 hS.1 rfl ?_
      refine qw_geti fX4_54 dX4_settleOwed_103 hS.ow.1 rfl ?_
      rw [hcnt, show (g_mgs g k).2 + (g 5 - k) = (g_mgs g k).2 by omega]
      refine qw_subN (by omega) dX4_settleOwed_106 ?_
      exact qw_ireturn rfl rfl dX4_settleOwed_107 ⟨rfl, rfl, rfl, _, rfl, by rw [show k = g 5 by omega], by
            refine hR.cong hwv (fun x hx => ?_) (fun x h1 h2 => ?_)
            · rw [show k = g 5 by omega, g_mkg, g_vw]
              by_cases e : x = 5
              · rw [if_pos e, if_pos e]; omega
              · rw [if_neg e, if_neg e, if_neg (by omega)]
            · rw [v5] at h2
              rw [show k = g 5 by omega, g_mkg, if_neg (by omega), g_vw, if_neg (by omega), if_neg (by omega)], hq⟩
    · refine qw_iload_n 2 dX4_settleOwed_17 rfl rfl ?_
      refine qw_aload_n 0 dX4_settleOwed_18 rfl rfl ?_
      refine qw_getr fX4_40 dX4_settleOwed_19 hS.1 rfl ?_
      refine qw_geti fX4_54 dX4_settleOwed_22 hS.ow.1 rfl ?_
      rw [hcnt]
      refine qw_icmp_geN 98 dX4_settleOwed_25 (by decide) (by omega) (by omega) (fun c25 => ?_) (fun c25 => ?_)
      · refine qw_iload_n 1 dX4_settleOwed_98 rfl rfl ?_
        refine qw_aload_n 0 dX4_settleOwed_99 rfl rfl ?_
        refine qw_getr fX4_40 dX4_settleOwed_100 hS.1 rfl ?_
        refine qw_geti fX4_54 dX4_settleOwed_103 hS.ow.1 rfl ?_
        rw [hcnt, show (g_mgs g k).2 + (g 5 - k) = (g_mgs g k).2 by omega]
        refine qw_subN (by omega) dX4_settleOwed_106 ?_
        exact qw_ireturn rfl rfl dX4_settleOwed_107 ⟨rfl, rfl, rfl, _, rfl, by rw [show k = g 5 by omega], by
              refine hR.cong hwv (fun x hx => ?_) (fun x h1 h2 => ?_)
              · rw [show k = g 5 by omega, g_mkg, g_vw]
                by_cases e : x = 5
                · rw [if_pos e, if_pos e]; omega
                · rw [if_neg e, if_neg e, if_neg (by omega)]
              · rw [v5] at h2
                rw [show k = g 5 by omega, g_mkg, if_neg (by omega), g_vw, if_neg (by omega), if_neg (by omega)], hq⟩
      · have hgf := g_vw_gf i1 i5.symm hle (show k < g 5 by omega)
        have how := i1.ow (k := k) (by omega)
        have hgl : g_gf (g_mgs g k).1 k ≤ g 0 := by
          have := q_fst_le (g_gdN (g_mgs g k).1 k) 1 ((g_mgs g k).1 0)
          rw [← i2]
          exact this
        have ho0 := hR.ow.2 (g_mgs g k).2 (by omega)
        have w0 := g_vw_j (h := (g_mgs g k).1) (left := (g_mgs g k).2) (k := k) (m := g 5) (j := (g_mgs g k).2) 0 (by omega) (by omega) hle
        have w1 := g_vw_j (h := (g_mgs g k).1) (left := (g_mgs g k).2) (k := k) (m := g 5) (j := (g_mgs g k).2) 1 (by omega) (by omega) hle
        have w2 := g_vw_j (h := (g_mgs g k).1) (left := (g_mgs g k).2) (k := k) (m := g 5) (j := (g_mgs g k).2) 2 (by omega) (by omega) hle
        simp only [Nat.reduceAdd, Nat.lt_irrefl, if_false, Nat.sub_self, Nat.zero_add] at w0 w1 w2
        rw [w0, w1, w2] at ho0
        refine qw_aload_n 0 dX4_settleOwed_28 rfl rfl ?_
        refine qw_iload_n 2 dX4_settleOwed_29 rfl rfl ?_
        refine qw_cvp [_] (k_X4_breakForOwed hS hR hwv (by omega)) mX4_171 dX4_settleOwed_30 hS.1 rfl rfl rfl (Nat.le_of_ble_eq_true rfl) (by omega) (by decide) rfl ?_
        rw [v0, hgf]
        refine qw_istore dX4_settleOwed_33 rfl (by decide) ?_
        refine qw_iload dX4_settleOwed_35 rfl ?_
        refine qw_if_ge 46 dX4_settleOwed_37 (by decide) (fun c37 => ?_) (fun c37 => ?_)
        · have hyes : g_gf (g_mgs g k).1 k < g 0 := Decidable.byContradiction fun q => by rw [if_neg q] at c37; exact absurd c37 (by decide)
          rw [if_pos hyes]
          have hi : g_gf (g_mgs g k).1 k < (g_mgs g k).1 0 := by rw [i2]; exact hyes
          have hiv : g_gf (g_mgs g k).1 k < g_vw (g_mgs g k).1 (g_mgs g k).2 k (g 5) 0 := by rw [v0]; exact hyes
          have hok := g_rs_ok (g_gf_ok hi)
          have h7 := i1.seven hi how.1 hok.2.1
          have hpf := g_pf_le (g_mgs g k).1 ((g_mgs g k).1 (723 + 4 * k)) (g_gf (g_mgs g k).1 k)
          have hpfe : g_pf (g_vw (g_mgs g k).1 (g_mgs g k).2 k (g 5)) ((g_mgs g k).1 (723 + 4 * k)) (g_gf (g_mgs g k).1 k) = g_pf (g_mgs g k).1 ((g_mgs g k).1 (723 + 4 * k)) (g_gf (g_mgs g k).1 k) := g_vw_ag.pf i1 hi how.1
          have e12 : g_vw (g_mgs g k).1 (g_mgs g k).2 k (g 5) (12 + 30 * g_gf (g_mgs g k).1 k) = (g_mgs g k).1 (12 + 30 * g_gf (g_mgs g k).1 k) := g_vw_o (by omega) (by omega)
          have hbr := hR.br hiv
          have hcn := hbr.2.2.2.2.2.1
          have hsi := hS.s (i := g_gf (g_mgs g k).1 k) (by omega)
          refine qw_aload_n 0 dX4_settleOwed_46 rfl rfl ?_
          refine qw_getr fX4_11 dX4_settleOwed_47 hS.1 rfl ?_
          refine qw_iload dX4_settleOwed_50 rfl ?_
          refine qw_aald dX4_settleOwed_52 hS.l rfl rfl (by omega) (by omega) (hS.el (by omega)) ?_
          refine qw_getr fX4_87 dX4_settleOwed_53 (hS.b (i := (g_gf (g_mgs g k).1 k)) (by omega)).1 rfl ?_
          refine qw_astore dX4_settleOwed_56 rfl (by decide) ?_
          refine qw_aload dX4_settleOwed_58 rfl ?_
          refine qw_aload_n 0 dX4_settleOwed_60 rfl rfl ?_
          refine qw_getr fX4_40 dX4_settleOwed_61 hS.1 rfl ?_
          refine qw_iload_n 2 dX4_settleOwed_64 rfl rfl ?_
          refine qw_aload_n 0 dX4_settleOwed_65 rfl rfl ?_
          refine qw_aload_n 0 dX4_settleOwed_66 rfl rfl ?_
          refine qw_getr fX4_40 dX4_settleOwed_67 hS.1 rfl ?_
          refine qw_getr fX4_115 dX4_settleOwed_70 hS.ow.1 rfl ?_
          refine qw_iload_n 2 dX4_settleOwed_73 rfl rfl ?_
          refine qw_iald dX4_settleOwed_74 hS.ow.2.1 (by omega) (by omega) ?_
          refine qw_aload dX4_settleOwed_75 rfl ?_
          rw [ho0.1]
          refine qw_cvp [_, _] (k_X4_placeFor (i := g_gf (g_mgs g k).1 k) hS hR hwv (by rw [v1, ← i3]; exact how.1) (by rw [v0]; exact hyes)) mX4_111 dX4_settleOwed_77 hS.1 rfl rfl rfl (Nat.le_of_ble_eq_true rfl) (by omega) (by decide) rfl ?_
          rw [if_neg (by rw [hpfe, e12]; exact hok.2.2.2.2), hpfe]
          refine qw_iconst (nI 0) dX4_settleOwed_80 (by decide) ?_
          refine qw_cvv [_, _, _, _] (k_X6_takeOver (hS.b (i := g_gf (g_mgs g k).1 k) (by omega)).2 hS.ow (by decide) (by decide) (by rw [hcnt]; omega) (by rw [hcnt]; omega) (by rw [hcn, e12]; omega) (by rw [hcn, e12]; omega)) mX4_167 dX4_settleOwed_81 (hS.b (i := (g_gf (g_mgs g k).1 k)) (by omega)).2.1 rfl rfl rfl (Nat.le_of_ble_eq_true rfl) (by omega) (by decide) rfl (fun M1 h1 => ?_)
          have hq1 := h1.2.2.2
          have ho1 := congrFun (hq1 (a + 129) (by omega)) 4
          refine qw_aload_n 0 dX4_settleOwed_84 rfl rfl ?_
          refine qw_getr fX4_40 dX4_settleOwed_85 hS.1 rfl ?_
          refine qw_iload_n 2 dX4_settleOwed_88 rfl rfl ?_
          refine qw_cvv [_] (k_X6_delete hS.ow (by decide) (by rw [ho1, hcnt]; omega) (by rw [ho1, hcnt]; omega)) mX4_164 dX4_settleOwed_89 hS.ow.1 rfl rfl rfl (Nat.le_of_ble_eq_true rfl) (by omega) (by decide) rfl (fun M2 h2 => ?_)
          refine qw_iincN 1 dX4_settleOwed_92 rfl (by decide) rfl (by decide) ?_
          refine qw_goto 12 dX4_settleOwed_95 (by decide) ?_
          have hb2 := hbr.put (v := 0) h1 (by rw [e12]; omega) (by rw [e12]; exact h7)
          rw [g_inc0] at hb2
          rw [ho0.1, ho0.2.1, ho0.2.2.1] at hb2
          have hR1 := hR.row (g1 := g_put (g_vw (g_mgs g k).1 (g_mgs g k).2 k (g 5)) (g_gf (g_mgs g k).1 k) (g_pf (g_mgs g k).1 ((g_mgs g k).1 (723 + 4 * k)) (g_gf (g_mgs g k).1 k)) ((g_mgs g k).1 (723 + 4 * k)) ((g_mgs g k).1 (724 + 4 * k)) ((g_mgs g k).1 (725 + 4 * k))) hS hwv hiv (fun b b1 b2 b3 b4 => hq1 b (by omega)) (by rw [hq1 a (by omega)]) (by rw [hq1 a (by omega)]) (by rw [hq1 a (by omega), hR.inc, g_put_o (by omega) (by rw [e12]; omega) (by rw [e12]; exact h7)]) (fun x k1 k2 => by rw [g_put_o (by omega) (by rw [e12]; omega) (by rw [e12]; exact h7)]) hb2
          have hw1 : g_wf (g_put (g_vw (g_mgs g k).1 (g_mgs g k).2 k (g 5)) (g_gf (g_mgs g k).1 k) (g_pf (g_mgs g k).1 ((g_mgs g k).1 (723 + 4 * k)) (g_gf (g_mgs g k).1 k)) ((g_mgs g k).1 (723 + 4 * k)) ((g_mgs g k).1 (724 + 4 * k)) ((g_mgs g k).1 (725 + 4 * k))) := by
            have z := hwv.put (v := 0) hiv (by rw [v1, ← i3]; exact how.1) how.2.1 how.2.2.1 (p := g_pf (g_mgs g k).1 ((g_mgs g k).1 (723 + 4 * k)) (g_gf (g_mgs g k).1 k)) (by rw [e12]; omega) (by rw [g_vw_ag.hs i1 hi]; exact hok.2.1) (by rw [g_vw_o (by omega) (by omega)]; exact hok.1)
            rw [g_inc0] at z
            exact z
          have hR2 := hR1.dow hS hw1 h2
          have hvp := g_vw_put (s := (g_mgs g k).1 (723 + 4 * k)) (l := (g_mgs g k).1 (724 + 4 * k)) (r := (g_mgs g k).1 (725 + 4 * k)) hle (show k < g 5 by omega) (show g_gf (g_mgs g k).1 k < 20 by omega) (show g_pf (g_mgs g k).1 ((g_mgs g k).1 (723 + 4 * k)) (g_gf (g_mgs g k).1 k) ≤ _ by omega) h7
          have hstep := g_mgs_le g (k + 1)
          have hwd : g_wf (g_dow (g_put (g_vw (g_mgs g k).1 (g_mgs g k).2 k (g 5)) (g_gf (g_mgs g k).1 k) (g_pf (g_mgs g k).1 ((g_mgs g k).1 (723 + 4 * k)) (g_gf (g_mgs g k).1 k)) ((g_mgs g k).1 (723 + 4 * k)) ((g_mgs g k).1 (724 + 4 * k)) ((g_mgs g k).1 (725 + 4 * k))) (g_mgs g k).2) := hw1.dow (by rw [g_put_o (by omega) (by rw [e12]; omega) (by rw [e12]; exact h7), v5]; omega)
          have h := ih (k + 1) M2 (by omega) (by omega) (by
            rw [g_mgs, if_pos hyes]
            refine hR2.cong hwd hvp.1 (fun x x1 x2 => hvp.2 x x1 ?_)
            rw [g_dow, if_pos rfl, g_put_o (by omega) (by rw [e12]; omega) (by rw [e12]; exact h7), v5] at x2
            omega) (fun x hx => by rw [h2.2.2.2 x (by omega), hq1 x (by omega)]; exact hq x hx)
          rw [g_mgs, if_pos hyes] at h
          exact qw_weak _ (by simp [lq_le]) h
        · have hno : ¬ g_gf (g_mgs g k).1 k < g 0 := fun q => c37 (by rw [if_pos q]; exact nI_pos' (by omega))
          refine qw_iincN 1 dX4_settleOwed_40 rfl (by decide) rfl (by decide) ?_
          refine qw_goto 92 dX4_settleOwed_43 (by decide) ?_
          refine qw_iincN 1 dX4_settleOwed_92 rfl (by decide) rfl (by decide) ?_
          refine qw_goto 12 dX4_settleOwed_95 (by decide) ?_
          have h := ih (k + 1) M (by omega) (by omega) (by
            rw [g_mgs, if_neg hno]
            dsimp only
            rw [g_vw_cpo hle (by omega)]
            exact hR) hq
          rw [g_mgs, if_neg hno] at h
          exact qw_weak _ (by simp [lq_le]) h
theorem k_X4_settleOwed {M : lq_M} {a : Nat} {f : Nat → Option Nat} {σ g : Nat → Nat} {tk : Nat → Nat × Nat} {n : Nat} (hS : sh4 S a f σ) (hR : q_pl M a σ g tk n) (hW : g_wf g) : LM G YX4_settleOwed 5 0 0 [.ref a] z S M N (lq_mi z S N (fun x M1 => x = nI (g 5 - (g_mgs g (g 5)).2) ∧ q_pl M1 a σ (g_mkg g) tk n ∧ q_fr a (a + 134) M M1)) lq_no := by
  have h20 := hW.nb
  refine LM.of (by decide) rfl [some (.ref a), none, none, none, none, none] rfl (Nat.le_of_ble_eq_true rfl) ?_
  refine qw_aload_n 0 dX4_settleOwed_0 rfl rfl ?_
  refine qw_getr fX4_40 dX4_settleOwed_1 hS.1 rfl ?_
  refine qw_geti fX4_54 dX4_settleOwed_4 hS.ow.1 rfl ?_
  rw [hR.ow.1]
  refine qw_istore_n 1 dX4_settleOwed_7 rfl rfl (by decide) ?_
  refine qw_iconst (nI 0) dX4_settleOwed_8 (by decide) ?_
  refine qw_istore_n 2 dX4_settleOwed_9 rfl rfl (by decide) ?_
  refine qw_iconst (nI 0) dX4_settleOwed_10 (by decide) ?_
  refine qw_istore_n 3 dX4_settleOwed_11 rfl rfl (by decide) ?_
  have hR0 : q_pl M a σ (g_vw (g_mgs g 0).1 (g_mgs g 0).2 0 (g 5)) tk n := by
    refine hR.cong hW (fun x hx => ?_) (fun x h1 h2 => ?_)
    · rw [g_vw]
      by_cases e : x = 5
      · rw [if_pos e, e]
        show 0 + (g 5 - 0) = g 5
        omega
      · rw [if_neg e, if_neg (by omega)]
        rfl
    · rw [g_vw, if_neg (by omega)]
      by_cases e : 723 + 4 * (g_mgs g 0).2 ≤ x ∧ x < 723 + 4 * ((g_mgs g 0).2 + (g 5 - 0))
      · rw [if_pos e]; rfl
      · rw [if_neg e]; rfl
  exact l_X4_settleOwed hS hW (g 5 + 1) 0 M (Nat.zero_le _) (by omega) hR0 q_fr.rf
end PW2
