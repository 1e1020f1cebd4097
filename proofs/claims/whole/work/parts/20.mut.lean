/-! what refuses a spot looks at the breaks, the sponsors and the bans alone -/
def g_ag (g h : Nat → Nat) : Prop := ∀ k, k ≠ 5 → k ≠ 6 → k < 723 → h k = g k
section AG
variable {g h : Nat → Nat}
theorem g_ag.hs (e : g_ag g h) (hW : g_wf g) {i : Nat} (hi : i < g 0) (s : Nat) : g_hs h i s = g_hs g i s := by
  have h20 := hW.nb
  have h8 := (hW.br hi).2.2.2.2.2.1
  unfold g_hs
  rw [e (12 + 30 * i) (by omega) (by omega) (by omega)]
  exact q_cnt_cong s _ (fun p hp => e _ (by omega) (by omega) (by omega))
theorem g_ag.us (e : g_ag g h) (hW : g_wf g) {i : Nat} (hi : i < g 0) : g_us h i = g_us g i := by
  have h20 := hW.nb
  have h8 := (hW.br hi).2.2.2.2.2.1
  unfold g_us
  rw [e (12 + 30 * i) (by omega) (by omega) (by omega)]
  exact q_sm_cong _ (fun p hp => e _ (by omega) (by omega) (by omega))
theorem g_ag.so (e : g_ag g h) (hW : g_wf g) (s : Nat) {c c2 : Nat → Bool} (hc : ∀ i, i < g 0 → c2 i = c i) : ∀ n, n ≤ g 0 → g_so h s c2 n = g_so g s c n
  | 0, _ => rfl
  | n + 1, hn => by rw [g_so, g_so, e.so hW s hc n (by omega), hc n (by omega), e.hs hW (by omega) s]
theorem g_ag.cl (e : g_ag g h) (hW : g_wf g) {s t : Nat} (hs : s < 8) (ht : t < 8) : g_cl h s t = g_cl g s t := by
  have h1 := (hW.cat hs).1
  have h2 := (hW.cat ht).1
  unfold g_cl
  rw [e (607 + 2 * s) (by omega) (by omega) (by omega), e (607 + 2 * t) (by omega) (by omega) (by omega), e _ (by omega) (by omega) (by omega)]
theorem g_ag.pf (e : g_ag g h) (hW : g_wf g) {i s : Nat} (hi : i < g 0) (hs : s < g 1) : g_pf h s i = g_pf g s i := by
  have h20 := hW.nb
  have hn := hW.ns
  have h8 := (hW.br hi).2.2.2.2.2.1
  have e12 := e (12 + 30 * i) (by omega) (by omega) (by omega)
  unfold g_pf
  rw [e12]
  refine q_fst_cong 1 _ (fun p hp => ?_)
  have ef : g_fit h s i p ↔ g_fit g s i p := by
    unfold g_fit
    rw [e12]
    have c1 : 0 < p → g_cl h s (h (13 + 30 * i + 3 * (p - 1))) = g_cl g s (g (13 + 30 * i + 3 * (p - 1))) := fun hp0 => by
      have := (hW.sp hi (p := p - 1) (by omega)).1
      rw [e (13 + 30 * i + 3 * (p - 1)) (by omega) (by omega) (by omega)]
      exact e.cl hW (by omega) (by omega)
    have c2 : p < g (12 + 30 * i) → g_cl h s (h (13 + 30 * i + 3 * p)) = g_cl g s (g (13 + 30 * i + 3 * p)) := fun hp0 => by
      have := (hW.sp hi (p := p) (by omega)).1
      rw [e (13 + 30 * i + 3 * p) (by omega) (by omega) (by omega)]
      exact e.cl hW (by omega) (by omega)
    constructor
    · rintro ⟨a, b⟩
      refine ⟨?_, ?_⟩
      · rcases a with a | a
        · exact Or.inl a
        · by_cases q : p = 0
          · exact Or.inl q
          · exact Or.inr ((c1 (by omega)).symm.trans a)
      · rcases b with b | b
        · exact Or.inl b
        · by_cases q : p = g (12 + 30 * i)
          · exact Or.inl q
          · exact Or.inr ((c2 (by omega)).symm.trans b)
    · rintro ⟨a, b⟩
      refine ⟨?_, ?_⟩
      · rcases a with a | a
        · exact Or.inl a
        · by_cases q : p = 0
          · exact Or.inl q
          · exact Or.inr ((c1 (by omega)).trans a)
      · rcases b with b | b
        · exact Or.inl b
        · by_cases q : p = g (12 + 30 * i)
          · exact Or.inl q
          · exact Or.inr ((c2 (by omega)).trans b)
  unfold g_fiN
  by_cases q : g_fit g s i p
  · rw [if_pos q, if_pos (ef.mpr q)]
  · rw [if_neg q, if_neg (fun z => q (ef.mp z))]
theorem g_ag.rs (e : g_ag g h) (hW : g_wf g) {i s l : Nat} (hi : i < g 0) (hs : s < g 1) : g_rs h s l i = g_rs g s l i := by
  have h20 := hW.nb
  have hn := hW.ns
  unfold g_rs g_sd
  rw [e.hs hW hi s, e.us hW hi, e.pf hW hi hs, e 0 (by omega) (by omega) (by omega), e (11 + 30 * i) (by omega) (by omega) (by omega), e (608 + 2 * s) (by omega) (by omega) (by omega), e (7 + 30 * i) (by omega) (by omega) (by omega), e (9 + 30 * i) (by omega) (by omega) (by omega), e (12 + 30 * i) (by omega) (by omega) (by omega)]
  rw [e.so hW s (c := fun j => decide (g (7 + 30 * j) = g (7 + 30 * i))) (c2 := fun j => decide (h (7 + 30 * j) = g (7 + 30 * i))) (fun j hj => by rw [e (7 + 30 * j) (by omega) (by omega) (by omega)]) (g 0) (Nat.le_refl _)]
end AG
/-! the spots of a break in another order -/
def g_prm (h : Nat → Nat) (i : Nat) (π : Nat → Nat) : Nat → Nat := fun k => if 13 + 30 * i ≤ k ∧ k < 13 + 30 * i + 3 * h (12 + 30 * i) then h (13 + 30 * i + 3 * π ((k - (13 + 30 * i)) / 3) + (k - (13 + 30 * i)) % 3) else h k
theorem g_prm_o {h : Nat → Nat} {i k : Nat} {π : Nat → Nat} (hk : k < 13 + 30 * i ∨ 13 + 30 * i + 3 * h (12 + 30 * i) ≤ k) : g_prm h i π k = h k := by
  unfold g_prm
  rw [if_neg (by omega)]
theorem g_prm_j {h : Nat → Nat} {i : Nat} {π : Nat → Nat} (c : Nat) {q : Nat} (hc : c < 3) (hq : q < h (12 + 30 * i)) : g_prm h i π (13 + c + 30 * i + 3 * q) = h (13 + c + 30 * i + 3 * π q) := by
  unfold g_prm
  rw [if_pos (by omega), show (13 + c + 30 * i + 3 * q - (13 + 30 * i)) / 3 = q by omega, show (13 + c + 30 * i + 3 * q - (13 + 30 * i)) % 3 = c by omega]
  exact congrArg h (by omega)
def q_perm (m : Nat) (π : Nat → Nat) : Prop := (∀ j, j < m → π j < m) ∧ (∀ i j, i < m → j < m → π i = π j → i = j) ∧ ∀ q, q < m → ∃ j, j < m ∧ π j = q
def q_mvi (f t q : Nat) : Nat := if q < t then q else if q = t then f else if q ≤ f then q - 1 else q
theorem q_mvi_in {F : Nat → Nat} {f t q : Nat} (h : t ≤ f) : q_in (q_de F f) t (F f) q = F (q_mvi f t q) := by
  unfold q_in q_de q_mvi
  by_cases a : q < t
  · rw [if_pos a, if_pos a, if_pos (by omega)]
  · rw [if_neg a, if_neg a]
    by_cases b : q = t
    · rw [if_pos b, if_pos b]
    · rw [if_neg b, if_neg b]
      by_cases c : q ≤ f
      · rw [if_pos c, if_pos (by omega)]
      · rw [if_neg c, if_neg (by omega)]
        exact congrArg F (by omega)
theorem q_mvi_p {f t m : Nat} (h : t ≤ f) (hf : f < m) : q_perm m (q_mvi f t) := by
  refine ⟨fun j hj => ?_, fun i j hi hj e => ?_, fun q hq => ?_⟩
  · unfold q_mvi
    split
    · omega
    · split
      · omega
      · split <;> omega
  · have v : ∀ q, (q < t ∧ q_mvi f t q = q) ∨ (q = t ∧ q_mvi f t q = f) ∨ (t < q ∧ q ≤ f ∧ q_mvi f t q = q - 1) ∨ (f < q ∧ q_mvi f t q = q) := by
      intro q
      unfold q_mvi
      by_cases a : q < t
      · exact Or.inl ⟨a, if_pos a⟩
      · rw [if_neg a]
        by_cases b : q = t
        · exact Or.inr (Or.inl ⟨b, if_pos b⟩)
        · rw [if_neg b]
          by_cases c : q ≤ f
          · exact Or.inr (Or.inr (Or.inl ⟨by omega, c, if_pos c⟩))
          · exact Or.inr (Or.inr (Or.inr ⟨by omega, if_neg c⟩))
    rcases v i with ⟨a1, a2⟩ | ⟨a1, a2⟩ | ⟨a0, a1, a2⟩ | ⟨a1, a2⟩ <;> rcases v j with ⟨b1, b2⟩ | ⟨b1, b2⟩ | ⟨b0, b1, b2⟩ | ⟨b1, b2⟩ <;> rw [a2, b2] at e <;> omega
  · by_cases a : q < t
    · exact ⟨q, hq, by rw [q_mvi, if_pos a]⟩
    · by_cases b : q = f
      · exact ⟨t, by omega, by rw [q_mvi, if_neg (by omega), if_pos rfl, b]⟩
      · by_cases c : q < f
        · exact ⟨q + 1, by omega, by rw [q_mvi, if_neg (by omega), if_neg (by omega), if_pos (by omega)]; omega⟩
        · exact ⟨q, hq, by rw [q_mvi, if_neg (by omega), if_neg (by omega), if_neg (by omega)]⟩
theorem q_perm.comp {m : Nat} {π ρ : Nat → Nat} (h : q_perm m π) (h2 : q_perm m ρ) : q_perm m (fun j => π (ρ j)) := by
  refine ⟨fun j hj => h.1 _ (h2.1 j hj), fun i j hi hj e => h2.2.1 i j hi hj (h.2.1 _ _ (h2.1 i hi) (h2.1 j hj) e), fun q hq => ?_⟩
  obtain ⟨j, hj, e⟩ := h.2.2 q hq
  obtain ⟨i, hi, e2⟩ := h2.2.2 j hj
  exact ⟨i, hi, by show π (ρ i) = q; rw [e2]; exact e⟩
theorem q_perm.id {m : Nat} : q_perm m (fun j => j) := ⟨fun _ h => h, fun _ _ _ _ e => e, fun q hq => ⟨q, hq, rfl⟩⟩
theorem g_prm_prm {h : Nat → Nat} {i : Nat} {π ρ : Nat → Nat} (hρ : ∀ j, j < h (12 + 30 * i) → ρ j < h (12 + 30 * i)) : g_prm (g_prm h i π) i ρ = g_prm h i (fun j => π (ρ j)) := by
  funext k
  have e12 : g_prm h i π (12 + 30 * i) = h (12 + 30 * i) := g_prm_o (by omega)
  by_cases hk : 13 + 30 * i ≤ k ∧ k < 13 + 30 * i + 3 * h (12 + 30 * i)
  · obtain ⟨q, c, hc, hq, rfl⟩ : ∃ q c, c < 3 ∧ q < h (12 + 30 * i) ∧ k = 13 + c + 30 * i + 3 * q := ⟨(k - (13 + 30 * i)) / 3, (k - (13 + 30 * i)) % 3, by omega, by omega, by omega⟩
    rw [g_prm_j c hc (by rw [e12]; exact hq), g_prm_j c hc (hρ q hq), g_prm_j c hc hq]
  · rw [g_prm_o (by rw [e12]; omega), g_prm_o (by omega), g_prm_o (by omega)]
theorem g_prm_id {h : Nat → Nat} {i : Nat} : g_prm h i (fun j => j) = h := by
  funext k
  unfold g_prm
  by_cases hk : 13 + 30 * i ≤ k ∧ k < 13 + 30 * i + 3 * h (12 + 30 * i)
  · rw [if_pos hk]
    show h (13 + 30 * i + 3 * ((k - (13 + 30 * i)) / 3) + (k - (13 + 30 * i)) % 3) = h k
    exact congrArg h (by omega)
  · rw [if_neg hk]
theorem g_prm_cong {h : Nat → Nat} {i : Nat} {π ρ : Nat → Nat} (e : ∀ j, j < h (12 + 30 * i) → π j = ρ j) : g_prm h i π = g_prm h i ρ := by
  funext k
  unfold g_prm
  by_cases hk : 13 + 30 * i ≤ k ∧ k < 13 + 30 * i + 3 * h (12 + 30 * i)
  · rw [if_pos hk, if_pos hk, e _ (by omega)]
  · rw [if_neg hk, if_neg hk]
theorem g_wf.prm {h : Nat → Nat} {i : Nat} {π : Nat → Nat} (hW : g_wf h) (hi : i < h 0) (hp : q_perm (h (12 + 30 * i)) π) : g_wf (g_prm h i π) := by
  have h8 := (hW.br hi).2.2.2.2.2.1
  have e12 : g_prm h i π (12 + 30 * i) = h (12 + 30 * i) := g_prm_o (by omega)
  have j0 := fun q hq => g_prm_j (h := h) (i := i) (π := π) 0 (q := q) (by omega) hq
  have j1 := fun q hq => g_prm_j (h := h) (i := i) (π := π) 1 (q := q) (by omega) hq
  have j2 := fun q hq => g_prm_j (h := h) (i := i) (π := π) 2 (q := q) (by omega) hq
  simp only [Nat.reduceAdd] at j0 j1 j2
  refine hW.row hi (fun k _ hk => g_prm_o (by omega)) (by rw [e12]; exact h8) (fun q => by rw [e12]; exact (hW.br hi).2.2.2.2.2.2 q) (fun p hq => ?_) (fun p q ha hb e => ?_)
  · rw [e12] at hq
    rw [j0 p hq, j1 p hq, j2 p hq]
    exact hW.sp hi (hp.1 p hq)
  · rw [e12] at ha hb
    rw [j0 p ha, j0 q hb] at e
    exact hp.2.1 p q ha hb (hW.ne hi (hp.1 p ha) (hp.1 q hb) e)
/-- the order that the row names -/
def g_reo (h : Nat → Nat) (i : Nat) (o : Nat → Nat) : Nat → Nat := g_prm h i (fun j => q_fst (fun q => h (13 + 30 * i + 3 * q)) (o j) (h (12 + 30 * i)))
/-! making good: the owed spots gone through -/
def g_cpo (h : Nat → Nat) (k left : Nat) : Nat → Nat := fun x => if 723 + 4 * left ≤ x ∧ x < 727 + 4 * left then h (x + 4 * (k - left)) else h x
noncomputable def g_mgs (g : Nat → Nat) : Nat → (Nat → Nat) × Nat
  | 0 => (g, 0)
  | k + 1 => if g_gf (g_mgs g k).1 k < g 0 then (g_put (g_mgs g k).1 (g_gf (g_mgs g k).1 k) (g_pf (g_mgs g k).1 ((g_mgs g k).1 (723 + 4 * k)) (g_gf (g_mgs g k).1 k)) ((g_mgs g k).1 (723 + 4 * k)) ((g_mgs g k).1 (724 + 4 * k)) ((g_mgs g k).1 (725 + 4 * k)), (g_mgs g k).2) else (g_cpo (g_mgs g k).1 k (g_mgs g k).2, (g_mgs g k).2 + 1)
noncomputable def g_mkg (g : Nat → Nat) : Nat → Nat := fun x => if x = 5 then (g_mgs g (g 5)).2 else (g_mgs g (g 5)).1 x
theorem g_mgs_le (g : Nat → Nat) : ∀ k, (g_mgs g k).2 ≤ k
  | 0 => Nat.le_refl 0
  | k + 1 => by
    have := g_mgs_le g k
    rw [g_mgs]
    split
    · show (g_mgs g k).2 ≤ k + 1
      omega
    · show (g_mgs g k).2 + 1 ≤ k + 1
      omega
theorem g_wf.cpo {g : Nat → Nat} (h : g_wf g) {k left : Nat} (hk : k < g 5) (hl : left ≤ k) : g_wf (g_cpo g k left) := by
  have h20 := h.nb
  have h160 := h.no
  have o : ∀ x, x < 723 → g_cpo g k left x = g x := fun x hx => by unfold g_cpo; rw [if_neg (by omega)]
  refine ⟨by rw [o 0 (by omega)]; exact h.nb, by rw [o 1 (by omega)]; exact h.ns, fun j hj => ?_, fun j p hj hp => ?_, fun j p q hj hp hq e => ?_, fun s hs => ?_, fun a b ha hb => ?_, fun j hj => ?_, ?_⟩
  · rw [o 0 (by omega)] at hj
    rw [o (7 + 30 * j) (by omega), o (8 + 30 * j) (by omega), o (9 + 30 * j) (by omega), o (10 + 30 * j) (by omega), o (11 + 30 * j) (by omega), o (12 + 30 * j) (by omega)]
    exact h.br hj
  · rw [o 0 (by omega)] at hj
    rw [o (12 + 30 * j) (by omega)] at hp
    have h8 := (h.br hj).2.2.2.2.2.1
    rw [o 1 (by omega), o (13 + 30 * j + 3 * p) (by omega), o (14 + 30 * j + 3 * p) (by omega), o (15 + 30 * j + 3 * p) (by omega)]
    exact h.sp hj hp
  · rw [o 0 (by omega)] at hj
    rw [o (12 + 30 * j) (by omega)] at hp hq
    have h8 := (h.br hj).2.2.2.2.2.1
    rw [o (13 + 30 * j + 3 * p) (by omega), o (13 + 30 * j + 3 * q) (by omega)] at e
    exact h.ne hj hp hq e
  · rw [o (607 + 2 * s) (by omega), o (608 + 2 * s) (by omega)]; exact h.cat hs
  · rw [o (623 + 10 * a + b) (by omega), o (623 + 10 * b + a) (by omega)]; exact h.ban ha hb
  · rw [o 5 (by omega)] at hj
    rw [o 1 (by omega)]
    by_cases e : j = left
    · subst e
      unfold g_cpo
      rw [if_pos (by omega), if_pos (by omega), if_pos (by omega), if_pos (by omega), show 723 + 4 * j + 4 * (k - j) = 723 + 4 * k by omega, show 724 + 4 * j + 4 * (k - j) = 724 + 4 * k by omega, show 725 + 4 * j + 4 * (k - j) = 725 + 4 * k by omega, show 726 + 4 * j + 4 * (k - j) = 726 + 4 * k by omega]
      exact h.ow hk
    · unfold g_cpo
      rw [if_neg (by omega), if_neg (by omega), if_neg (by omega), if_neg (by omega)]
      exact h.ow hj
  · rw [o 5 (by omega), o 0 (by omega), g_cn_cong (g := g_cpo g k left) (g' := g) (g 0) (fun j hj => o (11 + 30 * j) (by omega))]
    exact h.2.2.2.2.2.2.2.2
theorem g_inc0 {g : Nat → Nat} : g_inc g 0 = g := by
  funext k
  unfold g_inc
  by_cases e : k = 6
  · rw [if_pos e, e]; rfl
  · rw [if_neg e]
theorem g_gf_ok {g : Nat → Nat} {k : Nat} (h : g_gf g k < g 0) : g_rs g (g (723 + 4 * k)) (g (724 + 4 * k)) (g_gf g k) = 0 := (g_gdN_1.mp (q_fst_yes _ _ _ h)).2
theorem g_wf.mgs {g : Nat → Nat} (h : g_wf g) : ∀ k, k ≤ g 5 → g_wf (g_mgs g k).1 ∧ (g_mgs g k).1 0 = g 0 ∧ (g_mgs g k).1 1 = g 1 ∧ (g_mgs g k).1 5 = g 5 ∧ (g_mgs g k).1 6 = g 6 ∧ ∀ x, 607 ≤ x → x < 723 → (g_mgs g k).1 x = g x
  | 0, _ => ⟨h, rfl, rfl, rfl, rfl, fun _ _ _ => rfl⟩
  | k + 1, hk => by
    obtain ⟨i1, i2, i3, i5, i6, i7⟩ := h.mgs k (by omega)
    have h20 := h.nb
    have hl := g_mgs_le g k
    rw [g_mgs]
    by_cases e : g_gf (g_mgs g k).1 k < g 0
    · rw [if_pos e]
      dsimp only
      have hi : g_gf (g_mgs g k).1 k < (g_mgs g k).1 0 := by rw [i2]; exact e
      have how := i1.ow (k := k) (by omega)
      obtain ⟨e1, e2, e3, e4, e5⟩ := g_rs_ok (g_gf_ok hi)
      have h7 := i1.seven hi how.1 e2
      have hpf := g_pf_le (g_mgs g k).1 ((g_mgs g k).1 (723 + 4 * k)) (g_gf (g_mgs g k).1 k)
      have w := i1.put (v := 0) hi how.1 how.2.1 how.2.2.1 (p := g_pf (g_mgs g k).1 ((g_mgs g k).1 (723 + 4 * k)) (g_gf (g_mgs g k).1 k)) (by omega) e2 e1
      rw [g_inc0] at w
      exact ⟨w, by rw [g_put_o (by omega) (by omega) h7]; exact i2, by rw [g_put_o (by omega) (by omega) h7]; exact i3, by rw [g_put_o (by omega) (by omega) h7]; exact i5, by rw [g_put_o (by omega) (by omega) h7]; exact i6, fun x x1 x2 => by rw [g_put_o (by omega) (by omega) h7]; exact i7 x x1 x2⟩
    · rw [if_neg e]
      dsimp only
      have o : ∀ x, x < 723 → g_cpo (g_mgs g k).1 k (g_mgs g k).2 x = (g_mgs g k).1 x := fun x hx => by unfold g_cpo; rw [if_neg (by omega)]
      exact ⟨i1.cpo (by omega) hl, by rw [o 0 (by omega)]; exact i2, by rw [o 1 (by omega)]; exact i3, by rw [o 5 (by omega)]; exact i5, by rw [o 6 (by omega)]; exact i6, fun x x1 x2 => by rw [o x x2]; exact i7 x x1 x2⟩
theorem g_wf.five {g : Nat → Nat} (h : g_wf g) {v : Nat} (hv : v ≤ g 5) : g_wf (fun x => if x = 5 then v else g x) := by
  have h160 := h.no
  refine ⟨h.nb, h.ns, fun j hj => ?_, fun j p hj hp => ?_, fun j p q hj hp hq e => ?_, fun s hs => ?_, fun a b ha hb => ?_, fun j hj => ?_, ?_⟩
  · simp only [show ¬ 7 + 30 * j = 5 by omega, show ¬ 8 + 30 * j = 5 by omega, show ¬ 9 + 30 * j = 5 by omega, show ¬ 10 + 30 * j = 5 by omega, show ¬ 11 + 30 * j = 5 by omega, show ¬ 12 + 30 * j = 5 by omega, if_false]
    exact h.br hj
  · simp only [show ¬ 12 + 30 * j = 5 by omega, if_false] at hp
    simp only [show ¬ 13 + 30 * j + 3 * p = 5 by omega, show ¬ 14 + 30 * j + 3 * p = 5 by omega, show ¬ 15 + 30 * j + 3 * p = 5 by omega, if_false]
    exact h.sp hj hp
  · simp only [show ¬ 12 + 30 * j = 5 by omega, if_false] at hp hq
    simp only [show ¬ 13 + 30 * j + 3 * p = 5 by omega, show ¬ 13 + 30 * j + 3 * q = 5 by omega, if_false] at e
    exact h.ne hj hp hq e
  · simp only [show ¬ 607 + 2 * s = 5 by omega, show ¬ 608 + 2 * s = 5 by omega, if_false]
    exact h.cat hs
  · simp only [show ¬ 623 + 10 * a + b = 5 by omega, show ¬ 623 + 10 * b + a = 5 by omega, if_false]
    exact h.ban ha hb
  · simp only [if_true] at hj
    simp only [show ¬ 723 + 4 * j = 5 by omega, show ¬ 724 + 4 * j = 5 by omega, show ¬ 725 + 4 * j = 5 by omega, show ¬ 726 + 4 * j = 5 by omega, if_false]
    exact h.ow (by omega)
  · have e : g_cn (fun x => if x = 5 then v else g x) (g 0) = g_cn g (g 0) := g_cn_cong _ (fun j hj => by simp only [show ¬ 11 + 30 * j = 5 by omega, if_false])
    have h9 := h.2.2.2.2.2.2.2.2
    show v ≤ 8 * g_cn (fun x => if x = 5 then v else g x) (g 0)
    rw [e]
    omega
theorem g_wf.mkg {g : Nat → Nat} (h : g_wf g) : g_wf (g_mkg g) := by
  obtain ⟨i1, i2, i3, i5, i6, i7⟩ := h.mgs (g 5) (Nat.le_refl _)
  exact i1.five (by rw [i5]; exact g_mgs_le g (g 5))
/-- a campaign: at most k bookings, each in the cheapest break then -/
noncomputable def g_camp (tk : Nat → Nat × Nat) (n s l : Nat) : Nat → (Nat → Nat) → (Nat → Nat) × Nat
  | 0, g => (g, 0)
  | k + 1, g => if (g_chp g tk n s l (g 0)).1 = 0 then (g, 0) else ((g_camp tk n s l k (g_bk g tk n s l ((g_chp g tk n s l (g 0)).1 - 1))).1, (g_camp tk n s l k (g_bk g tk n s l ((g_chp g tk n s l (g 0)).1 - 1))).2 + 1)
theorem g_wf.camp {tk : Nat → Nat × Nat} {n s l : Nat} (hl : l ≤ 60) : ∀ (k : Nat) {g : Nat → Nat}, g_wf g → s < g 1 → g_wf (g_camp tk n s l k g).1
  | 0, g, h, hs => h
  | k + 1, g, h, hs => by
    rw [g_camp]
    by_cases e : (g_chp g tk n s l (g 0)).1 = 0
    · rw [if_pos e]; exact h
    · rw [if_neg e]
      have hle := g_chp_le g tk n s l (g 0)
      exact g_wf.camp hl k (h.bk hs hl (by omega)) (by rw [(g_bk_01 h hs (by omega)).2]; exact hs)
theorem g_camp_le {tk : Nat → Nat × Nat} {n s l : Nat} : ∀ (k : Nat) (g : Nat → Nat), (g_camp tk n s l k g).2 ≤ k
  | 0, g => Nat.le_refl 0
  | k + 1, g => by
    rw [g_camp]
    split
    · exact Nat.zero_le _
    · have := g_camp_le (tk := tk) (n := n) (s := s) (l := l) k (g_bk g tk n s l ((g_chp g tk n s l (g 0)).1 - 1))
      show _ + 1 ≤ k + 1
      omega
