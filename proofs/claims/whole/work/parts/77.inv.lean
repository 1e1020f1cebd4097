/-! THE LAW: what holds between two calls -/
/-- the cells that the class knows -/
def q_eq (h g : Nat → Nat) : Prop := ∀ x, x < 1363 → x ≠ 2 → x ≠ 3 → x ≠ 4 → h x = g x
theorem g_cn_cong2 {g h : Nat → Nat} (e : q_eq h g) : ∀ n, n ≤ 20 → g_cn h n = g_cn g n
  | 0, _ => rfl
  | n + 1, hn => by rw [g_cn, g_cn, g_cn_cong2 e n (by omega), e (11 + 30 * n) (by omega) (by omega) (by omega) (by omega)]
theorem g_wf.cong2 {g h : Nat → Nat} (hW : g_wf g) (e : q_eq h g) : g_wf h := by
  have h20 := hW.nb
  have h8 := hW.ns
  have h160 := hW.no
  have e0 := e 0 (by decide) (by decide) (by decide) (by decide)
  have e1 := e 1 (by decide) (by decide) (by decide) (by decide)
  have e5 := e 5 (by decide) (by decide) (by decide) (by decide)
  have eo : ∀ x, 7 ≤ x → x < 1363 → h x = g x := fun x x1 x2 => e x x2 (by omega) (by omega) (by omega)
  refine ⟨by omega, by omega, fun i hi => ?_, fun i p hi hp => ?_, fun i p q hi hp hq hpq => ?_, fun s hs => ?_, fun a b ha hb => ?_, fun k hk => ?_, ?_⟩
  · rw [eo (7 + 30 * i) (by omega) (by omega), eo (8 + 30 * i) (by omega) (by omega), eo (9 + 30 * i) (by omega) (by omega), eo (10 + 30 * i) (by omega) (by omega), eo (11 + 30 * i) (by omega) (by omega), eo (12 + 30 * i) (by omega) (by omega)]
    exact hW.br (by omega)
  · rw [eo (12 + 30 * i) (by omega) (by omega)] at hp
    have hb := (hW.br (i := i) (by omega)).2.2.2.2.2.1
    rw [e1, eo (13 + 30 * i + 3 * p) (by omega) (by omega), eo (14 + 30 * i + 3 * p) (by omega) (by omega), eo (15 + 30 * i + 3 * p) (by omega) (by omega)]
    exact hW.sp (by omega) hp
  · rw [eo (12 + 30 * i) (by omega) (by omega)] at hp hq
    have hb := (hW.br (i := i) (by omega)).2.2.2.2.2.1
    rw [eo (13 + 30 * i + 3 * p) (by omega) (by omega), eo (13 + 30 * i + 3 * q) (by omega) (by omega)] at hpq
    exact hW.ne (by omega) hp hq hpq
  · rw [eo (607 + 2 * s) (by omega) (by omega), eo (608 + 2 * s) (by omega) (by omega)]
    exact hW.cat hs
  · rw [eo (623 + 10 * a + b) (by omega) (by omega), eo (623 + 10 * b + a) (by omega) (by omega)]
    exact hW.ban ha hb
  · rw [e1, eo (723 + 4 * k) (by omega) (by omega), eo (724 + 4 * k) (by omega) (by omega), eo (725 + 4 * k) (by omega) (by omega), eo (726 + 4 * k) (by omega) (by omega)]
    exact hW.ow (by omega)
  · rw [e5, e0, g_cn_cong2 e _ h20]
    exact hW.2.2.2.2.2.2.2.2
theorem q_pl.cong2 {M : lq_M} {a : Nat} {σ c c1 : Nat → Nat} {tk : Nat → Nat × Nat} {n : Nat} (hW : g_wf c) (h : q_pl M a σ c tk n) (e : q_eq c1 c) : q_pl M a σ c1 tk n := by
  have h20 := hW.nb
  have h8 := hW.ns
  have h160 := hW.no
  have e0 := e 0 (by decide) (by decide) (by decide) (by decide)
  have e1 := e 1 (by decide) (by decide) (by decide) (by decide)
  have e5 := e 5 (by decide) (by decide) (by decide) (by decide)
  have e6 := e 6 (by decide) (by decide) (by decide) (by decide)
  have eo : ∀ x, 7 ≤ x → x < 1363 → c1 x = c x := fun x x1 x2 => e x x2 (by omega) (by omega) (by omega)
  obtain ⟨p1, p2, p3, p4, p5, p6, p7, p8⟩ := h
  refine ⟨by rw [e0]; exact p1, by rw [e1]; exact p2, by rw [e6]; exact p3, fun j hj => ?_, fun s hs => ?_, fun d hd => ⟨(p6 d hd).1, fun b hb => ?_⟩, p7, by rw [e5]; exact p8.1, fun k hk => ?_⟩
  · rw [e0] at hj
    have q := p4 j hj
    have hb := (hW.br hj).2.2.2.2.2.1
    unfold q_br at q ⊢
    rw [eo (7 + 30 * j) (by omega) (by omega), eo (8 + 30 * j) (by omega) (by omega), eo (9 + 30 * j) (by omega) (by omega), eo (10 + 30 * j) (by omega) (by omega), eo (11 + 30 * j) (by omega) (by omega), eo (12 + 30 * j) (by omega) (by omega)]
    refine ⟨q.1, q.2.1, q.2.2.1, q.2.2.2.1, q.2.2.2.2.1, q.2.2.2.2.2.1, fun p hp => ?_⟩
    rw [eo (13 + 30 * j + 3 * p) (by omega) (by omega), eo (14 + 30 * j + 3 * p) (by omega) (by omega), eo (15 + 30 * j + 3 * p) (by omega) (by omega)]
    exact q.2.2.2.2.2.2 p hp
  · rw [e1] at hs
    rw [eo (607 + 2 * s) (by omega) (by omega), eo (608 + 2 * s) (by omega) (by omega)]
    exact p5 s hs
  · rw [eo (623 + 10 * d + b) (by omega) (by omega)]
    exact (p6 d hd).2 b hb
  · rw [e5] at hk
    rw [eo (723 + 4 * k) (by omega) (by omega), eo (724 + 4 * k) (by omega) (by omega), eo (725 + 4 * k) (by omega) (by omega), eo (726 + 4 * k) (by omega) (by omega)]
    exact p8.2 k hk
theorem q_st.cong2 {g h : Nat → Nat} {tk : Nat → Nat × Nat} {n : Nat} (hs : q_st g tk n) (e : q_eq h g) : q_st h tk n :=
  ⟨hs.1.cong2 e, hs.2.1.imp id (fun q => by rw [e 0 (by decide) (by decide) (by decide) (by decide), e 1 (by decide) (by decide) (by decide) (by decide)]; exact q), hs.2.2⟩
theorem q_hi.re {M : lq_M} {h u : Nat} {H : Nat → Nat → Nat} {tk : Nat → Nat → Nat × Nat} {n : Nat → Nat} {g : Nat → Nat} (hC : q_hi M h u H tk n) (e : q_eq g (H 0)) : q_hi M h u (q_h0 g H) tk n := by
  obtain ⟨c, h9, c1, c2, c3, c4⟩ := hC
  refine ⟨c, h9, c1, c2, c3, fun j hj => ?_⟩
  obtain ⟨d1, d2⟩ := c4 j hj
  unfold q_h0
  by_cases q : j = 0
  · rw [if_pos q]
    subst q
    exact ⟨d1.cong2 d2.1 e, d2.cong2 e⟩
  · rw [if_neg q]
    exact ⟨d1, d2⟩
/-- the reference's codes are the class's expression, or there is nothing to price -/
def q_cx (g : Nat → Nat) (tk : Nat → Nat × Nat) (n : Nat) : Prop := (q_fwf tk n ∧ n ≤ 800 ∧ q_cd g tk n) ∨ (g 0 = 0 ∧ g 1 = 0 ∧ g 4 = 0)
theorem q_cx.go {g h : Nat → Nat} {tk : Nat → Nat × Nat} {n : Nat} (hc : q_cx g tk n) (e4 : h 4 = g 4) (e : ∀ x, 1363 ≤ x → x < 2663 → h x = g x) (e0 : g 0 = 0 → g 1 = 0 → h 0 = 0 ∧ h 1 = 0) : q_cx h tk n := by
  rcases hc with ⟨hF, hn, hd⟩ | ⟨h0, h1, h4⟩
  · exact Or.inl ⟨hF, hn, hd.cong hF hn e4 e⟩
  · exact Or.inr ⟨(e0 h0 h1).1, (e0 h0 h1).2, by rw [e4]; exact h4⟩
/-- an expression for the reference's contracts: where nothing can be priced, the default one -/
theorem q_cx.pick {g : Nat → Nat} {tk : Nat → Nat × Nat} {n : Nat} (hc : q_cx g tk n) : ∃ (tk1 : Nat → Nat × Nat) (n1 : Nat), q_fwf tk1 n1 ∧ n1 ≤ 800 ∧ q_cd g tk1 n1 ∧ ((tk1 = tk ∧ n1 = n) ∨ (g 0 = 0 ∧ g 1 = 0)) := by
  rcases hc with ⟨hF, hn, hd⟩ | ⟨h0, h1, h4⟩
  · exact ⟨tk, n, hF, hn, hd, Or.inl ⟨rfl, rfl⟩⟩
  · exact ⟨q_dft, 5, q_fwf_dft, (by decide), Or.inl ⟨h4, rfl, fun j hj => rfl⟩, Or.inr ⟨h0, h1⟩⟩
/-- the shapes: the class at b, the reference at m, the law's long at o -/
def q_sh9 (S : lq_S) (b m o : Nat) : Prop := (∃ F fp fb, sh8 S b F fp fb) ∧ (∃ x0 nb0, sh5 S (b + 2) x0 nb0) ∧ (∃ f σ, sh4 S (b + 5) f σ) ∧ (∃ fh fo, sh9 S m fh fo) ∧ S o = some (.inr (.inl (2, 1)))
/-- between two calls: u changes can be undone, H 0 is the state, H 1 the one before .. -/
def q_I (b m u : Nat) (H : Nat → Nat → Nat) (tk : Nat → Nat → Nat × Nat) (n : Nat → Nat) (M : lq_M) : Prop :=
  q_hi M (b + 139) u H tk n ∧ q_hr M m u H ∧ H 0 = M (m + 2) ∧ (∀ j, j ≤ u → q_cx (H j) (tk j) (n j)) ∧
  M b 1 = M m 2 ∧ M m 2 ≤ 800 ∧ (∀ j, M (b + 1) j = M (m + 1) j ∧ M (m + 1) j < 256) ∧ M b 2 = M m 7
theorem q_hi.eqM {M M1 : lq_M} {h u : Nat} {H : Nat → Nat → Nat} {tk : Nat → Nat → Nat × Nat} {n : Nat → Nat} (hC : q_hi M h u H tk n) (hq : ∀ x, h ≤ x → x < h + 1208 → M1 x = M x) : q_hi M1 h u H tk n := by
  obtain ⟨c, hc⟩ := hC
  exact ⟨c, hc.eqM hq⟩
section QI
variable {b m u : Nat} {H : Nat → Nat → Nat} {tk : Nat → Nat → Nat × Nat} {n : Nat → Nat} {M M1 M2 : lq_M}
theorem q_I.hW (h : q_I b m u H tk n M) : g_wf (M (m + 2)) := by
  obtain ⟨⟨c, hc⟩, -, h3, -⟩ := h
  rw [← h3]
  exact (hc.2.2.2.2 0 (Nat.zero_le u)).2.1
/-- the class has read -/
theorem q_I.cl (h : q_I b m u H tk n M) (hb : b + 1607 ≤ m) (h1 : q_hi M1 (b + 139) u H tk n) (hf : q_fr (b + 139) (b + 1607) M M1) : q_I b m u H tk n M1 := by
  obtain ⟨g1, ⟨k1, k2, k3⟩, g3, g4, g5, g6, g7, g8⟩ := h
  have e : ∀ x, x < b + 139 ∨ b + 1607 ≤ x → M1 x = M x := hf
  refine ⟨h1, ⟨by rw [e m (by omega)]; exact k1, k2, fun j j1 j2 k hk => by rw [e _ (by omega)]; exact k3 j j1 j2 k hk⟩, by rw [e (m + 2) (by omega)]; exact g3, g4, by rw [e m (by omega), e b (by omega)]; exact g5, by rw [e m (by omega)]; exact g6, fun j => ?_, by rw [e m (by omega), e b (by omega)]; exact g8⟩
  rw [e (b + 1) (by omega), e (m + 1) (by omega)]
  exact g7 j
/-- the reference has read -/
theorem q_I.rf (h : q_I b m u H tk n M) (hb : b + 1607 ≤ m) (h0 : ∀ j, j ≠ 0 → M1 m j = M m j) (hf : ∀ x, x ≠ m → x < m + 15 ∨ m + 273 ≤ x → M1 x = M x) : q_I b m u H tk n M1 := by
  obtain ⟨g1, ⟨k1, k2, k3⟩, g3, g4, g5, g6, g7, g8⟩ := h
  refine ⟨g1.eqM (fun x x1 x2 => hf x (by omega) (by omega)), ⟨by rw [h0 11 (by decide)]; exact k1, k2, fun j j1 j2 k hk => by rw [hf _ (by omega) (by omega)]; exact k3 j j1 j2 k hk⟩, by rw [hf (m + 2) (by omega) (by omega)]; exact g3, g4, by rw [h0 2 (by decide), hf b (by omega) (by omega)]; exact g5, by rw [h0 2 (by decide)]; exact g6, fun j => ?_, by rw [h0 7 (by decide), hf b (by omega) (by omega)]; exact g8⟩
  rw [hf (b + 1) (by omega) (by omega), hf (m + 1) (by omega) (by omega)]
  exact g7 j
theorem q_I.up (h : q_I b m u H tk n M) (hb : b + 1607 ≤ m) (e : Nat) : q_I b m u H tk n (lq_up M m 0 e) := h.rf hb (fun j hj => lq_up_c _ _ hj) (fun x x1 x2 => lq_up_n _ _ _ x1)
/-- both have changed the state to g -/
theorem q_I.mut {g : Nat → Nat} (h : q_I b m u H tk n M) (hb : b + 1607 ≤ m) (h1 : q_hi M1 (b + 139) (min (u + 1) 8) (q_nw g H) (q_sh tk) (q_sh n)) (hf : q_fr (b + 139) (b + 1607) M M1) (h2 : q_mut m u H M1 M2 g) (hc : q_cx g (tk 0) (n 0)) : q_I b m (min (u + 1) 8) (q_nw g H) (q_sh tk) (q_sh n) M2 := by
  obtain ⟨g1, ⟨k1, k2, k3⟩, g3, g4, g5, g6, g7, g8⟩ := h
  obtain ⟨a1, a2, a3, a4, a5, a6⟩ := h2
  have e : ∀ x, x < b + 139 ∨ b + 1607 ≤ x → M1 x = M x := hf
  have e2 : ∀ x, x < m ∨ m + 273 ≤ x → M2 x = M1 x := a4
  refine ⟨h1.eqM (fun x x1 x2 => e2 x (by omega)), ⟨a2.1, a2.2.1, fun j j1 j2 k hk => ?_⟩, a1.symm, fun j hj => ?_, by rw [a6 2 (by decide) (by decide), e2 b (by omega), e m (by omega), e b (by omega)]; exact g5, by rw [a6 2 (by decide) (by decide), e m (by omega)]; exact g6, fun j => ?_, by rw [a6 7 (by decide) (by decide), e2 b (by omega), e m (by omega), e b (by omega)]; exact g8⟩
  · rw [a2.2.2 j j1 j2 k hk, q_sh, q_nw, if_neg (by omega)]
  · unfold q_nw q_sh
    by_cases q : j = 0
    · rw [if_pos q, q]; exact hc
    · rw [if_neg q]; exact g4 (j - 1) (by omega)
  · rw [e2 (b + 1) (by omega), a5, e (b + 1) (by omega), e (m + 1) (by omega)]
    exact g7 j
end QI
