/-! MUTATIONS of the mathematical state -/
def g_put (g : Nat → Nat) (i p s l r : Nat) : Nat → Nat := fun k => if k = 12 + 30 * i then g k + 1 else if k = 13 + 30 * i + 3 * p then s else if k = 14 + 30 * i + 3 * p then l else if k = 15 + 30 * i + 3 * p then r else if 16 + 30 * i + 3 * p ≤ k ∧ k < 16 + 30 * i + 3 * g (12 + 30 * i) then g (k - 3) else g k
def g_del (g : Nat → Nat) (i p : Nat) : Nat → Nat := fun k => if k = 12 + 30 * i then g k - 1 else if 13 + 30 * i + 3 * p ≤ k ∧ k < 10 + 30 * i + 3 * g (12 + 30 * i) then g (k + 3) else g k
def g_inc (g : Nat → Nat) (v : Nat) : Nat → Nat := fun k => if k = 6 then g 6 + v else g k
def g_can2 (g : Nat → Nat) (i : Nat) : Nat → Nat := fun k => if k = 11 + 30 * i then 2 else if k = 12 + 30 * i then 0 else if k = 5 then g 5 + g (12 + 30 * i) else if 723 + 4 * g 5 ≤ k ∧ k < 723 + 4 * (g 5 + g (12 + 30 * i)) then (if (k - 723) % 4 = 3 then g (10 + 30 * i) else g (13 + 30 * i + 3 * ((k - 723) / 4 - g 5) + (k - 723) % 4)) else g k
section MUT
variable {g : Nat → Nat} {i p s l r : Nat}
theorem g_put_o {k : Nat} (h : k < 12 + 30 * i ∨ 37 + 30 * i ≤ k) (hp : p ≤ g (12 + 30 * i)) (hc : g (12 + 30 * i) ≤ 7) : g_put g i p s l r k = g k := by
  unfold g_put
  rw [if_neg (by omega), if_neg (by omega), if_neg (by omega), if_neg (by omega), if_neg (by omega)]
theorem g_put_c : g_put g i p s l r (12 + 30 * i) = g (12 + 30 * i) + 1 := by unfold g_put; rw [if_pos rfl]
theorem g_put_1 {q : Nat} (hq : q ≤ g (12 + 30 * i)) : g_put g i p s l r (13 + 30 * i + 3 * q) = q_in (fun q => g (13 + 30 * i + 3 * q)) p s q := by
  unfold g_put q_in
  rw [if_neg (by omega)]
  by_cases h1 : q < p
  · rw [if_neg (by omega), if_neg (by omega), if_neg (by omega), if_neg (by omega), if_pos h1]
  · rw [if_neg h1]
    by_cases h2 : q = p
    · rw [if_pos (by omega), if_pos h2]
    · rw [if_neg (by omega), if_neg (by omega), if_neg (by omega), if_pos (by omega), if_neg h2]
      exact congrArg g (by omega)
theorem g_put_2 {q : Nat} (hq : q ≤ g (12 + 30 * i)) : g_put g i p s l r (14 + 30 * i + 3 * q) = q_in (fun q => g (14 + 30 * i + 3 * q)) p l q := by
  unfold g_put q_in
  rw [if_neg (by omega), if_neg (by omega)]
  by_cases h1 : q < p
  · rw [if_neg (by omega), if_neg (by omega), if_neg (by omega), if_pos h1]
  · rw [if_neg h1]
    by_cases h2 : q = p
    · rw [if_pos (by omega), if_pos h2]
    · rw [if_neg (by omega), if_neg (by omega), if_pos (by omega), if_neg h2]
      exact congrArg g (by omega)
theorem g_put_3 {q : Nat} (hq : q ≤ g (12 + 30 * i)) : g_put g i p s l r (15 + 30 * i + 3 * q) = q_in (fun q => g (15 + 30 * i + 3 * q)) p r q := by
  unfold g_put q_in
  rw [if_neg (by omega), if_neg (by omega), if_neg (by omega)]
  by_cases h1 : q < p
  · rw [if_neg (by omega), if_neg (by omega), if_pos h1]
  · rw [if_neg h1]
    by_cases h2 : q = p
    · rw [if_pos (by omega), if_pos h2]
    · rw [if_neg (by omega), if_pos (by omega), if_neg h2]
      exact congrArg g (by omega)
theorem g_del_o {k : Nat} (h : k < 12 + 30 * i ∨ 37 + 30 * i ≤ k) (hc : g (12 + 30 * i) ≤ 8) : g_del g i p k = g k := by
  unfold g_del
  rw [if_neg (by omega), if_neg (by omega)]
theorem g_del_c : g_del g i p (12 + 30 * i) = g (12 + 30 * i) - 1 := by unfold g_del; rw [if_pos rfl]
theorem g_del_j (c : Nat) {q : Nat} (hc : c < 3) (hq : q < g (12 + 30 * i) - 1) : g_del g i p (13 + c + 30 * i + 3 * q) = q_de (fun q => g (13 + c + 30 * i + 3 * q)) p q := by
  unfold g_del q_de
  rw [if_neg (by omega)]
  by_cases h1 : q < p
  · rw [if_neg (by omega), if_pos h1]
  · rw [if_pos (by omega), if_neg h1]
    exact congrArg g (by omega)
theorem g_inc_o {v k : Nat} (h : k ≠ 6) : g_inc g v k = g k := by unfold g_inc; rw [if_neg h]
theorem g_inc_6 {v : Nat} : g_inc g v 6 = g 6 + v := by unfold g_inc; rw [if_pos rfl]
theorem g_can2_o {k : Nat} (h1 : k ≠ 11 + 30 * i) (h2 : k ≠ 12 + 30 * i) (h3 : k ≠ 5) (h4 : k < 723 + 4 * g 5 ∨ 723 + 4 * (g 5 + g (12 + 30 * i)) ≤ k) : g_can2 g i k = g k := by
  unfold g_can2
  rw [if_neg h1, if_neg h2, if_neg h3, if_neg (by omega)]
theorem g_can2_w {q c : Nat} (hi : i < 20) (hq : q < g (12 + 30 * i)) (hc : c < 3) : g_can2 g i (723 + c + 4 * (g 5 + q)) = g (13 + c + 30 * i + 3 * q) := by
  unfold g_can2
  rw [if_neg (by omega), if_neg (by omega), if_neg (by omega), if_pos (by omega), if_neg (by omega)]
  exact congrArg g (by omega)
theorem g_can2_w3 {q : Nat} (hi : i < 20) (hq : q < g (12 + 30 * i)) : g_can2 g i (726 + 4 * (g 5 + q)) = g (10 + 30 * i) := by
  unfold g_can2
  rw [if_neg (by omega), if_neg (by omega), if_neg (by omega), if_pos (by omega), if_pos (by omega)]
end MUT
/-- counting: n different numbers below m, one number below m not among them -/
theorem q_hole : ∀ (m n x : Nat) (f : Nat → Nat), (∀ j, j < n → f j < m) → (∀ i j, i < n → j < n → f i = f j → i = j) → x < m → (∀ j, j < n → f j ≠ x) → n < m := by
  intro m
  induction m with
  | zero => intro n x f _ _ hx; exact absurd hx (Nat.not_lt_zero x)
  | succ m ih =>
    intro n x f hf hi hx hne
    cases n with
    | zero => omega
    | succ n =>
      -- swap the value m out of the row and of x
      have key : ∀ (v : Nat), v < m + 1 → v ≠ f n → (if v = m then f n else v) < m := by
        intro v hv hvn
        have := hf n (by omega)
        by_cases e : v = m
        · rw [if_pos e]; omega
        · rw [if_neg e]; omega
      have h := ih n (if x = m then f n else x) (fun j => if f j = m then f n else f j)
        (fun j hj => key (f j) (hf j (by omega)) (fun q => by have := hi j n (by omega) (by omega) q; omega))
        (fun a b ha hb e => by
          have na : f a ≠ f n := fun q => by have := hi a n (by omega) (by omega) q; omega
          have nb : f b ≠ f n := fun q => by have := hi b n (by omega) (by omega) q; omega
          apply hi a b (by omega) (by omega)
          by_cases e1 : f a = m <;> by_cases e2 : f b = m
          · rw [e1, e2]
          · rw [if_pos e1, if_neg e2] at e; exact absurd e.symm nb
          · rw [if_neg e1, if_pos e2] at e; exact absurd e na
          · rw [if_neg e1, if_neg e2] at e; exact e)
        (key x hx (fun q => hne n (by omega) q.symm))
        (fun j hj e => by
          have nj : f j ≠ f n := fun q => by have := hi j n (by omega) (by omega) q; omega
          have nx : x ≠ f n := fun q => hne n (by omega) q.symm
          apply hne j (by omega)
          by_cases e1 : f j = m <;> by_cases e2 : x = m
          · rw [e1, e2]
          · rw [if_pos e1, if_neg e2] at e; exact absurd e.symm nx
          · rw [if_neg e1, if_pos e2] at e; exact absurd e nj
          · rw [if_neg e1, if_neg e2] at e; exact e)
      omega
/-- a sponsor that a break has no spot of: there is room for one more -/
theorem g_wf.seven {g : Nat → Nat} (h : g_wf g) {i s : Nat} (hi : i < g 0) (hs : s < g 1) (h0 : ¬ 0 < g_hs g i s) : g (12 + 30 * i) ≤ 7 := by
  have h1 := q_hole (g 1) (g (12 + 30 * i)) s (fun p => g (13 + 30 * i + 3 * p)) (fun p hp => (h.sp hi hp).1) (fun p q hp hq e => h.ne hi hp hq e) hs (fun p hp e => h0 (q_cnt_of hp e))
  have := h.ns
  omega
theorem g_cn_cong {g g' : Nat → Nat} : ∀ n, (∀ i, i < n → g (11 + 30 * i) = g' (11 + 30 * i)) → g_cn g n = g_cn g' n
  | 0, _ => rfl
  | n + 1, h => by rw [g_cn, g_cn, g_cn_cong n (fun i hi => h i (by omega)), h n (by omega)]
/-- a state that is as another but in one break's row of spots -/
theorem g_wf.row {g g' : Nat → Nat} {i : Nat} (h : g_wf g) (hi : i < g 0) (ho : ∀ k, k ≠ 6 → (k < 12 + 30 * i ∨ 37 + 30 * i ≤ k) → g' k = g k) (hc : g' (12 + 30 * i) ≤ 8) (h2 : g (11 + 30 * i) = 2 → g' (12 + 30 * i) = 0)
    (hsp : ∀ p, p < g' (12 + 30 * i) → g' (13 + 30 * i + 3 * p) < g 1 ∧ g' (14 + 30 * i + 3 * p) ≤ 60 ∧ g' (15 + 30 * i + 3 * p) ≤ 99999)
    (hne : ∀ p q, p < g' (12 + 30 * i) → q < g' (12 + 30 * i) → g' (13 + 30 * i + 3 * p) = g' (13 + 30 * i + 3 * q) → p = q) : g_wf g' := by
  have h20 := h.nb
  have e0 : g' 0 = g 0 := ho 0 (by omega) (by omega)
  have e1 : g' 1 = g 1 := ho 1 (by omega) (by omega)
  have e5 : g' 5 = g 5 := ho 5 (by omega) (by omega)
  have hi20 : i < 20 := by omega
  have e160 := h.no
  refine ⟨by rw [e0]; exact h.nb, by rw [e1]; exact h.ns, fun j hj => ?_, fun j p hj hp => ?_, fun j p q hj hp hq e => ?_, fun s hs => ?_, fun a b ha hb => ?_, fun k hk => ?_, ?_⟩
  · rw [e0] at hj
    have hb := h.br hj
    rw [ho (7 + 30 * j) (by omega) (by omega), ho (8 + 30 * j) (by omega) (by omega), ho (9 + 30 * j) (by omega) (by omega), ho (10 + 30 * j) (by omega) (by omega), ho (11 + 30 * j) (by omega) (by omega)]
    by_cases e : j = i
    · subst e
      exact ⟨hb.1, hb.2.1, hb.2.2.1, hb.2.2.2.1, hb.2.2.2.2.1, hc, h2⟩
    · rw [ho (12 + 30 * j) (by omega) (by omega)]
      exact hb
  · rw [e0] at hj
    rw [e1]
    by_cases e : j = i
    · subst e
      exact hsp p hp
    · rw [ho (12 + 30 * j) (by omega) (by omega)] at hp
      have hb := (h.br hj).2.2.2.2.2.1
      rw [ho (13 + 30 * j + 3 * p) (by omega) (by omega), ho (14 + 30 * j + 3 * p) (by omega) (by omega), ho (15 + 30 * j + 3 * p) (by omega) (by omega)]
      exact h.sp hj hp
  · rw [e0] at hj
    by_cases e9 : j = i
    · subst e9
      exact hne p q hp hq e
    · rw [ho (12 + 30 * j) (by omega) (by omega)] at hp hq
      have hb := (h.br hj).2.2.2.2.2.1
      rw [ho (13 + 30 * j + 3 * p) (by omega) (by omega), ho (13 + 30 * j + 3 * q) (by omega) (by omega)] at e
      exact h.ne hj hp hq e
  · rw [ho (607 + 2 * s) (by omega) (by omega), ho (608 + 2 * s) (by omega) (by omega)]
    exact h.cat hs
  · rw [ho (623 + 10 * a + b) (by omega) (by omega), ho (623 + 10 * b + a) (by omega) (by omega)]
    exact h.ban ha hb
  · rw [e5] at hk
    rw [e1, ho (723 + 4 * k) (by omega) (by omega), ho (724 + 4 * k) (by omega) (by omega), ho (725 + 4 * k) (by omega) (by omega), ho (726 + 4 * k) (by omega) (by omega)]
    exact h.ow hk
  · rw [e5, e0, g_cn_cong (g := g') (g' := g) (g 0) (fun j hj => ho (11 + 30 * j) (by omega) (by omega))]
    exact h.2.2.2.2.2.2.2.2
theorem q_in_inj {f : Nat → Nat} {n p v : Nat} (hf : ∀ i j, i < n → j < n → f i = f j → i = j) (hv : ∀ j, j < n → f j ≠ v) (hp : p ≤ n) : ∀ a b, a < n + 1 → b < n + 1 → q_in f p v a = q_in f p v b → a = b := by
  intro a b ha hb e
  unfold q_in at e
  by_cases a1 : a < p
  · rw [if_pos a1] at e
    by_cases b1 : b < p
    · rw [if_pos b1] at e
      exact hf a b (by omega) (by omega) e
    · rw [if_neg b1] at e
      by_cases b2 : b = p
      · rw [if_pos b2] at e; exact absurd e (hv a (by omega))
      · rw [if_neg b2] at e; have := hf a (b - 1) (by omega) (by omega) e; omega
  · rw [if_neg a1] at e
    by_cases a2 : a = p
    · rw [if_pos a2] at e
      by_cases b1 : b < p
      · rw [if_pos b1] at e; exact absurd e.symm (hv b (by omega))
      · rw [if_neg b1] at e
        by_cases b2 : b = p
        · omega
        · rw [if_neg b2] at e; exact absurd e.symm (hv (b - 1) (by omega))
    · rw [if_neg a2] at e
      by_cases b1 : b < p
      · rw [if_pos b1] at e; have := hf (a - 1) b (by omega) (by omega) e; omega
      · rw [if_neg b1] at e
        by_cases b2 : b = p
        · rw [if_pos b2] at e; exact absurd e (hv (a - 1) (by omega))
        · rw [if_neg b2] at e; have := hf (a - 1) (b - 1) (by omega) (by omega) e; omega
theorem q_in_all {f : Nat → Nat} {P : Nat → Prop} {n p v : Nat} (hf : ∀ j, j < n → P (f j)) (hv : P v) (hp : p ≤ n) {a : Nat} (ha : a < n + 1) : P (q_in f p v a) := by
  unfold q_in
  by_cases a1 : a < p
  · rw [if_pos a1]; exact hf a (by omega)
  · rw [if_neg a1]
    by_cases a2 : a = p
    · rw [if_pos a2]; exact hv
    · rw [if_neg a2]; exact hf _ (by omega)
theorem q_in_cong {f g : Nat → Nat} {n p v a : Nat} (h : ∀ j, j < n → f j = g j) (hp : p ≤ n) (ha : a < n + 1) : q_in f p v a = q_in g p v a := by
  unfold q_in
  by_cases a1 : a < p
  · rw [if_pos a1, if_pos a1, h a (by omega)]
  · rw [if_neg a1, if_neg a1]
    by_cases a2 : a = p
    · rw [if_pos a2, if_pos a2]
    · rw [if_neg a2, if_neg a2, h _ (by omega)]
/-- one more spot, put in at p; the income with it -/
theorem g_wf.put {g : Nat → Nat} (h : g_wf g) {i p s l r v : Nat} (hi : i < g 0) (hs : s < g 1) (hl : l ≤ 60) (hr : r ≤ 99999) (hp : p ≤ g (12 + 30 * i)) (h0 : ¬ 0 < g_hs g i s) (ho : g (11 + 30 * i) = 0) : g_wf (g_inc (g_put g i p s l r) v) := by
  have h7 := h.seven hi hs h0
  have hne : ∀ q, q < g (12 + 30 * i) → (fun q => g (13 + 30 * i + 3 * q)) q ≠ s := fun q hq e => h0 (q_cnt_of hq e)
  have hc : g_inc (g_put g i p s l r) v (12 + 30 * i) = g (12 + 30 * i) + 1 := by rw [g_inc_o (by omega), g_put_c]
  refine h.row hi (fun k hk ho => by rw [g_inc_o hk, g_put_o ho hp h7]) (by rw [hc]; omega) (fun q => by omega) (fun q hq => ?_) (fun a b ha hb e => ?_)
  · rw [hc] at hq
    rw [g_inc_o (by omega), g_inc_o (by omega), g_inc_o (by omega), g_put_1 (by omega), g_put_2 (by omega), g_put_3 (by omega)]
    exact ⟨q_in_all (P := fun x => x < g 1) (fun j hj => (h.sp hi hj).1) hs hp hq, q_in_all (P := fun x => x ≤ 60) (fun j hj => (h.sp hi hj).2.1) hl hp hq, q_in_all (P := fun x => x ≤ 99999) (fun j hj => (h.sp hi hj).2.2) hr hp hq⟩
  · rw [hc] at ha hb
    rw [g_inc_o (by omega), g_inc_o (by omega), g_put_1 (by omega), g_put_1 (by omega)] at e
    exact q_in_inj (n := g (12 + 30 * i)) (fun x y hx hy e => h.ne hi hx hy e) hne hp a b ha hb e
theorem g_wf.del {g : Nat → Nat} (h : g_wf g) {i p v : Nat} (hi : i < g 0) (hp : p < g (12 + 30 * i)) : g_wf (g_inc (g_del g i p) v) := by
  have h8 := (h.br hi).2.2.2.2.2.1
  have hc : g_inc (g_del g i p) v (12 + 30 * i) = g (12 + 30 * i) - 1 := by rw [g_inc_o (by omega), g_del_c]
  have hd : ∀ {P : Nat → Prop} {f : Nat → Nat} {q : Nat}, (∀ j, j < g (12 + 30 * i) → P (f j)) → q < g (12 + 30 * i) - 1 → P (q_de f p q) := by
    intro P f q hf hq
    unfold q_de
    by_cases e : q < p
    · rw [if_pos e]; exact hf q (by omega)
    · rw [if_neg e]; exact hf (q + 1) (by omega)
  refine h.row hi (fun k hk ho => by rw [g_inc_o hk, g_del_o ho h8]) (by rw [hc]; omega) (fun q => by rw [hc]; have := (h.br hi).2.2.2.2.2.2 q; omega) (fun q hq => ?_) (fun a b ha hb e => ?_)
  · rw [hc] at hq
    have d0 := g_del_j (g := g) (i := i) (p := p) 0 (q := q) (by omega) hq
    have d1 := g_del_j (g := g) (i := i) (p := p) 1 (q := q) (by omega) hq
    have d2 := g_del_j (g := g) (i := i) (p := p) 2 (q := q) (by omega) hq
    simp only [Nat.reduceAdd] at d0 d1 d2
    rw [g_inc_o (by omega), g_inc_o (by omega), g_inc_o (by omega), d0, d1, d2]
    exact ⟨hd (P := fun x => x < g 1) (f := fun q => g (13 + 30 * i + 3 * q)) (fun j hj => (h.sp hi hj).1) hq, hd (P := fun x => x ≤ 60) (f := fun q => g (14 + 30 * i + 3 * q)) (fun j hj => (h.sp hi hj).2.1) hq, hd (P := fun x => x ≤ 99999) (f := fun q => g (15 + 30 * i + 3 * q)) (fun j hj => (h.sp hi hj).2.2) hq⟩
  · rw [hc] at ha hb
    have d0 := fun q hq => g_del_j (g := g) (i := i) (p := p) 0 (q := q) (by omega) hq
    simp only [Nat.reduceAdd] at d0
    rw [g_inc_o (by omega), g_inc_o (by omega), d0 a ha, d0 b hb] at e
    unfold q_de at e
    by_cases a1 : a < p <;> by_cases b1 : b < p
    · rw [if_pos a1, if_pos b1] at e; exact h.ne hi (by omega) (by omega) e
    · rw [if_pos a1, if_neg b1] at e; have := h.ne hi (p := a) (q := b + 1) (by omega) (by omega) e; omega
    · rw [if_neg a1, if_pos b1] at e; have := h.ne hi (p := a + 1) (q := b) (by omega) (by omega) e; omega
    · rw [if_neg a1, if_neg b1] at e; have := h.ne hi (p := a + 1) (q := b + 1) (by omega) (by omega) e; omega
theorem g_cn_set {g g' : Nat → Nat} {i : Nat} (h0 : g (11 + 30 * i) ≠ 2) (h1 : g' (11 + 30 * i) = 2) (ho : ∀ j, j ≠ i → j < 20 → g' (11 + 30 * j) = g (11 + 30 * j)) : ∀ n, n ≤ 20 → g_cn g' n = g_cn g n + if i < n then 1 else 0
  | 0, _ => by rw [if_neg (Nat.not_lt_zero i)]; rfl
  | n + 1, hn => by
    rw [g_cn, g_cn, g_cn_set h0 h1 ho n (by omega)]
    by_cases e : n = i
    · subst e
      rw [if_pos h1, if_neg h0, if_neg (Nat.lt_irrefl n), if_pos (Nat.lt_succ_self n)]
    · rw [ho n e (by omega)]
      by_cases e2 : i < n
      · rw [if_pos e2, if_pos (show i < n + 1 by omega)]; omega
      · rw [if_neg e2, if_neg (show ¬ i < n + 1 by omega)]; omega
theorem g_wf.can2 {g : Nat → Nat} (h : g_wf g) {i : Nat} (hi : i < g 0) (h0 : g (11 + 30 * i) = 0) : g_wf (g_can2 g i) := by
  have h20 := h.nb
  have h8 := (h.br hi).2.2.2.2.2.1
  have h160 := h.no
  have o : ∀ k, k ≠ 11 + 30 * i → k ≠ 12 + 30 * i → k ≠ 5 → k < 723 → g_can2 g i k = g k := fun k a b c d => g_can2_o a b c (by omega)
  have e5 : g_can2 g i 5 = g 5 + g (12 + 30 * i) := by unfold g_can2; rw [if_neg (by omega), if_neg (by omega), if_pos rfl]
  have e11 : g_can2 g i (11 + 30 * i) = 2 := by unfold g_can2; rw [if_pos rfl]
  have e12 : g_can2 g i (12 + 30 * i) = 0 := by unfold g_can2; rw [if_neg (by omega), if_pos rfl]
  have e0 := o 0 (by omega) (by omega) (by omega) (by omega)
  have e1 := o 1 (by omega) (by omega) (by omega) (by omega)
  refine ⟨by rw [e0]; exact h.nb, by rw [e1]; exact h.ns, fun j hj => ?_, fun j p hj hp => ?_, fun j p q hj hp hq e => ?_, fun s hs => ?_, fun a b ha hb => ?_, fun k hk => ?_, ?_⟩
  · rw [e0] at hj
    have hb := h.br hj
    rw [o (7 + 30 * j) (by omega) (by omega) (by omega) (by omega), o (8 + 30 * j) (by omega) (by omega) (by omega) (by omega), o (9 + 30 * j) (by omega) (by omega) (by omega) (by omega), o (10 + 30 * j) (by omega) (by omega) (by omega) (by omega)]
    by_cases e : j = i
    · subst e
      rw [e11, e12]
      exact ⟨hb.1, hb.2.1, hb.2.2.1, hb.2.2.2.1, by omega, by omega, fun _ => rfl⟩
    · rw [o (11 + 30 * j) (by omega) (by omega) (by omega) (by omega), o (12 + 30 * j) (by omega) (by omega) (by omega) (by omega)]
      exact hb
  · rw [e0] at hj
    by_cases e : j = i
    · subst e
      rw [e12] at hp
      exact absurd hp (Nat.not_lt_zero p)
    · rw [o (12 + 30 * j) (by omega) (by omega) (by omega) (by omega)] at hp
      have hb := (h.br hj).2.2.2.2.2.1
      rw [e1, o (13 + 30 * j + 3 * p) (by omega) (by omega) (by omega) (by omega), o (14 + 30 * j + 3 * p) (by omega) (by omega) (by omega) (by omega), o (15 + 30 * j + 3 * p) (by omega) (by omega) (by omega) (by omega)]
      exact h.sp hj hp
  · rw [e0] at hj
    by_cases e9 : j = i
    · subst e9
      rw [e12] at hp
      exact absurd hp (Nat.not_lt_zero p)
    · rw [o (12 + 30 * j) (by omega) (by omega) (by omega) (by omega)] at hp hq
      have hb := (h.br hj).2.2.2.2.2.1
      rw [o (13 + 30 * j + 3 * p) (by omega) (by omega) (by omega) (by omega), o (13 + 30 * j + 3 * q) (by omega) (by omega) (by omega) (by omega)] at e
      exact h.ne hj hp hq e
  · rw [o (607 + 2 * s) (by omega) (by omega) (by omega) (by omega), o (608 + 2 * s) (by omega) (by omega) (by omega) (by omega)]
    exact h.cat hs
  · rw [o (623 + 10 * a + b) (by omega) (by omega) (by omega) (by omega), o (623 + 10 * b + a) (by omega) (by omega) (by omega) (by omega)]
    exact h.ban ha hb
  · rw [e5] at hk
    rw [e1]
    by_cases e : k < g 5
    · rw [g_can2_o (by omega) (by omega) (by omega) (by omega), g_can2_o (by omega) (by omega) (by omega) (by omega), g_can2_o (by omega) (by omega) (by omega) (by omega), g_can2_o (by omega) (by omega) (by omega) (by omega)]
      exact h.ow e
    · obtain ⟨q, rfl⟩ : ∃ q, k = g 5 + q := ⟨k - g 5, by omega⟩
      have w0 := g_can2_w (g := g) (i := i) (q := q) (c := 0) (by omega) (by omega) (by omega)
      have w1 := g_can2_w (g := g) (i := i) (q := q) (c := 1) (by omega) (by omega) (by omega)
      have w2 := g_can2_w (g := g) (i := i) (q := q) (c := 2) (by omega) (by omega) (by omega)
      simp only [Nat.reduceAdd] at w0 w1 w2
      rw [w0, w1, w2, g_can2_w3 (by omega) (by omega)]
      have hs := h.sp hi (p := q) (by omega)
      exact ⟨hs.1, hs.2.1, hs.2.2, (h.br hi).2.2.2.1⟩
  · rw [e5, e0, g_cn_set (g := g) (g' := g_can2 g i) (i := i) (by omega) e11 (fun j hj h9 => o (11 + 30 * j) (by omega) (by omega) (by omega) (by omega)) (g 0) h20, if_pos hi]
    have := h.2.2.2.2.2.2.2.2
    omega
