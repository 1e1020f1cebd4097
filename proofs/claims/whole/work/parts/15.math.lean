/-! THE MATHEMATICAL STATE: one function of places to numbers, laid out as the reference lays it -/
theorem q_cnt_cong {f g : Nat → Nat} (x : Nat) : ∀ n, (∀ j, j < n → f j = g j) → q_cnt f x n = q_cnt g x n
  | 0, _ => rfl
  | n + 1, h => by rw [q_cnt, q_cnt, q_cnt_cong x n (fun j hj => h j (by omega)), h n (by omega)]
theorem q_sm_cong {f g : Nat → Nat} : ∀ n, (∀ j, j < n → f j = g j) → q_sm f n = q_sm g n
  | 0, _ => rfl
  | n + 1, h => by rw [q_sm, q_sm, q_sm_cong n (fun j hj => h j (by omega)), h n (by omega)]
theorem q_ss_cong {f g : Nat → Nat} : ∀ n, (∀ j, j < n → f j = g j) → q_ss f n = q_ss g n
  | 0, _ => rfl
  | n + 1, h => by rw [q_ss, q_ss, q_ss_cong n (fun j hj => h j (by omega)), h n (by omega)]
theorem q_fst_cong {f g : Nat → Nat} (x : Nat) : ∀ n, (∀ j, j < n → f j = g j) → q_fst f x n = q_fst g x n
  | 0, _ => rfl
  | n + 1, h => by rw [q_fst, q_fst, q_fst_cong x n (fun j hj => h j (by omega)), h n (by omega)]
theorem q_sm_le {f : Nat → Nat} {c : Nat} : ∀ n, (∀ j, j < n → f j ≤ c) → q_sm f n ≤ c * n
  | 0, _ => Nat.zero_le _
  | n + 1, h => by
    have h1 := q_sm_le (c := c) n (fun j hj => h j (by omega))
    have h2 := h n (by omega)
    rw [q_sm, Nat.mul_succ]
    omega
theorem q_cnt_0 {f : Nat → Nat} {x : Nat} : ∀ n, (∀ j, j < n → f j ≠ x) → q_cnt f x n = 0
  | 0, _ => rfl
  | n + 1, h => by rw [q_cnt, q_cnt_0 n (fun j hj => h j (by omega)), if_neg (h n (by omega))]
theorem q_cnt_1 {f : Nat → Nat} {x : Nat} : ∀ n, (∀ i j, i < n → j < n → f i = f j → i = j) → q_cnt f x n ≤ 1
  | 0, _ => Nat.zero_le _
  | n + 1, h => by
    rw [q_cnt]
    by_cases e : f n = x
    · rw [if_pos e, q_cnt_0 n (fun j hj q => by have := h j n (by omega) (by omega) (by rw [q, e]); omega)]
      omega
    · rw [if_neg e]
      exact q_cnt_1 n (fun i j hi hj => h i j (by omega) (by omega))
theorem q_cnt_pos {f : Nat → Nat} {x : Nat} : ∀ {n}, 0 < q_cnt f x n → ∃ j, j < n ∧ f j = x
  | 0, h => absurd h (Nat.lt_irrefl 0)
  | n + 1, h => by
    rw [q_cnt] at h
    by_cases e : f n = x
    · exact ⟨n, by omega, e⟩
    · rw [if_neg e] at h
      obtain ⟨j, h1, h2⟩ := q_cnt_pos (n := n) h
      exact ⟨j, by omega, h2⟩
theorem q_cnt_of {f : Nat → Nat} {x j : Nat} : ∀ {n}, j < n → f j = x → 0 < q_cnt f x n
  | 0, h, _ => absurd h (Nat.not_lt_zero j)
  | n + 1, h, e => by
    rw [q_cnt]
    by_cases q : j = n
    · subst q
      rw [if_pos e]
      omega
    · have := q_cnt_of (n := n) (by omega) e
      omega
theorem q_cnt_le {f : Nat → Nat} {x : Nat} : ∀ n, q_cnt f x n ≤ n
  | 0 => Nat.le_refl 0
  | n + 1 => by
    have := q_cnt_le (f := f) (x := x) n
    rw [q_cnt]
    split <;> omega
/-- the spots of a sponsor in a break -/
def g_hs (g : Nat → Nat) (i s : Nat) : Nat := q_cnt (fun p => g (13 + 30 * i + 3 * p)) s (g (12 + 30 * i))
def g_us (g : Nat → Nat) (i : Nat) : Nat := q_sm (fun p => g (14 + 30 * i + 3 * p)) (g (12 + 30 * i))
/-- the spots of a sponsor in the breaks that c names -/
def g_so (g : Nat → Nat) (s : Nat) (c : Nat → Bool) : Nat → Nat
  | 0 => 0
  | n + 1 => g_so g s c n + if c n = true then g_hs g n s else 0
def g_cl (g : Nat → Nat) (s t : Nat) : Nat := g (623 + 10 * g (607 + 2 * s) + g (607 + 2 * t))
def g_fit (g : Nat → Nat) (s i p : Nat) : Prop := (p = 0 ∨ g_cl g s (g (13 + 30 * i + 3 * (p - 1))) = 0) ∧ (p = g (12 + 30 * i) ∨ g_cl g s (g (13 + 30 * i + 3 * p)) = 0)
noncomputable def g_fiN (g : Nat → Nat) (s i p : Nat) : Nat := by
  classical
  exact if g_fit g s i p then 1 else 0
theorem g_fiN_1 {g : Nat → Nat} {s i p : Nat} : g_fiN g s i p = 1 ↔ g_fit g s i p := by
  unfold g_fiN
  split
  · simp_all
  · simp_all
/-- the smallest place at which no ban is broken; one more than the spots if there is none -/
noncomputable def g_pf (g : Nat → Nat) (s i : Nat) : Nat := q_fst (g_fiN g s i) 1 (g (12 + 30 * i) + 1)
def g_sd (g : Nat → Nat) (s d : Nat) : Nat := g_so g s (fun i => decide (g (7 + 30 * i) = d)) (g 0)
def g_sa (g : Nat → Nat) (s : Nat) : Nat := g_so g s (fun _ => true) (g 0)
def g_s1 (g : Nat → Nat) (s : Nat) : Nat := g_so g s (fun i => decide (g (11 + 30 * i) = 1)) (g 0)
noncomputable def g_rs (g : Nat → Nat) (s l i : Nat) : Nat := if g (11 + 30 * i) ≠ 0 then 1 else if 0 < g_hs g i s then 2 else if g (608 + 2 * s) ≤ g_sd g s (g (7 + 30 * i)) then 3 else if g (9 + 30 * i) < g_us g i + l then 4 else if g_pf g s i = g (12 + 30 * i) + 1 then 5 else 0
/-- the price: the value of the expression, between 0 and 99999 -/
def g_ev (g : Nat → Nat) (s l i : Nat) : Nat → Nat := fun k => if k = 0 then g (10 + 30 * i) else if k = 1 then g (8 + 30 * i) else if k = 2 then l else if k = 3 then g_us g i else g_sa g s
def g_pc (g : Nat → Nat) (tk : Nat → Nat × Nat) (n s l i : Nat) : Nat := (max 0 (min 99999 ((q_evn (g_ev g s l i) tk n).2 0))).toNat
def g_cn (g : Nat → Nat) : Nat → Nat
  | 0 => 0
  | n + 1 => g_cn g n + if g (11 + 30 * n) = 2 then 1 else 0
def g_wf (g : Nat → Nat) : Prop :=
  g 0 ≤ 20 ∧ g 1 ≤ 8 ∧
  (∀ i, i < g 0 → g (7 + 30 * i) ≤ 6 ∧ g (8 + 30 * i) ≤ 23 ∧ g (9 + 30 * i) ≤ 300 ∧ g (10 + 30 * i) ≤ 999 ∧ g (11 + 30 * i) ≤ 2 ∧ g (12 + 30 * i) ≤ 8 ∧ (g (11 + 30 * i) = 2 → g (12 + 30 * i) = 0)) ∧
  (∀ i p, i < g 0 → p < g (12 + 30 * i) → g (13 + 30 * i + 3 * p) < g 1 ∧ g (14 + 30 * i + 3 * p) ≤ 60 ∧ g (15 + 30 * i + 3 * p) ≤ 99999) ∧
  (∀ i p q, i < g 0 → p < g (12 + 30 * i) → q < g (12 + 30 * i) → g (13 + 30 * i + 3 * p) = g (13 + 30 * i + 3 * q) → p = q) ∧
  (∀ s, s < 8 → g (607 + 2 * s) ≤ 9 ∧ g (608 + 2 * s) ≤ 9) ∧
  (∀ a b, a < 10 → b < 10 → g (623 + 10 * a + b) ≤ 1 ∧ g (623 + 10 * a + b) = g (623 + 10 * b + a)) ∧
  (∀ k, k < g 5 → g (723 + 4 * k) < g 1 ∧ g (724 + 4 * k) ≤ 60 ∧ g (725 + 4 * k) ≤ 99999 ∧ g (726 + 4 * k) ≤ 999) ∧
  g 5 ≤ 8 * g_cn g (g 0)
theorem g_cn_le (g : Nat → Nat) : ∀ n, g_cn g n ≤ n
  | 0 => Nat.le_refl 0
  | n + 1 => by
    have := g_cn_le g n
    rw [g_cn]
    split <;> omega
section WF
variable {g : Nat → Nat}
theorem g_wf.nb (h : g_wf g) : g 0 ≤ 20 := h.1
theorem g_wf.ns (h : g_wf g) : g 1 ≤ 8 := h.2.1
theorem g_wf.br (h : g_wf g) {i : Nat} (hi : i < g 0) : g (7 + 30 * i) ≤ 6 ∧ g (8 + 30 * i) ≤ 23 ∧ g (9 + 30 * i) ≤ 300 ∧ g (10 + 30 * i) ≤ 999 ∧ g (11 + 30 * i) ≤ 2 ∧ g (12 + 30 * i) ≤ 8 ∧ (g (11 + 30 * i) = 2 → g (12 + 30 * i) = 0) := h.2.2.1 i hi
theorem g_wf.sp (h : g_wf g) {i p : Nat} (hi : i < g 0) (hp : p < g (12 + 30 * i)) : g (13 + 30 * i + 3 * p) < g 1 ∧ g (14 + 30 * i + 3 * p) ≤ 60 ∧ g (15 + 30 * i + 3 * p) ≤ 99999 := h.2.2.2.1 i p hi hp
theorem g_wf.ne (h : g_wf g) {i p q : Nat} (hi : i < g 0) (hp : p < g (12 + 30 * i)) (hq : q < g (12 + 30 * i)) (e : g (13 + 30 * i + 3 * p) = g (13 + 30 * i + 3 * q)) : p = q := h.2.2.2.2.1 i p q hi hp hq e
theorem g_wf.cat (h : g_wf g) {s : Nat} (hs : s < 8) : g (607 + 2 * s) ≤ 9 ∧ g (608 + 2 * s) ≤ 9 := h.2.2.2.2.2.1 s hs
theorem g_wf.ban (h : g_wf g) {a b : Nat} (ha : a < 10) (hb : b < 10) : g (623 + 10 * a + b) ≤ 1 ∧ g (623 + 10 * a + b) = g (623 + 10 * b + a) := h.2.2.2.2.2.2.1 a b ha hb
theorem g_wf.ow (h : g_wf g) {k : Nat} (hk : k < g 5) : g (723 + 4 * k) < g 1 ∧ g (724 + 4 * k) ≤ 60 ∧ g (725 + 4 * k) ≤ 99999 ∧ g (726 + 4 * k) ≤ 999 := h.2.2.2.2.2.2.2.1 k hk
theorem g_wf.no (h : g_wf g) : g 5 ≤ 160 := by
  have h1 := h.2.2.2.2.2.2.2.2
  have h2 := g_cn_le g (g 0)
  have h3 := h.1
  omega
theorem g_wf.cl (h : g_wf g) {s t : Nat} (hs : s < 8) (ht : t < 8) : g_cl g s t ≤ 1 ∧ g_cl g s t = g_cl g t s := by
  have h1 := (h.cat hs).1
  have h2 := (h.cat ht).1
  exact h.ban (by omega) (by omega)
theorem g_wf.hs (h : g_wf g) {i : Nat} (hi : i < g 0) (s : Nat) : g_hs g i s ≤ 1 := q_cnt_1 _ (fun p q hp hq e => h.ne hi hp hq e)
theorem g_wf.us (h : g_wf g) {i : Nat} (hi : i < g 0) : g_us g i ≤ 480 := by
  have h1 := (h.br hi).2.2.2.2.2.1
  have h2 := q_sm_le (c := 60) (g (12 + 30 * i)) (fun p hp => (h.sp hi hp).2.1)
  have h3 : 60 * g (12 + 30 * i) ≤ 60 * 8 := Nat.mul_le_mul_left 60 h1
  show q_sm _ _ ≤ 480
  omega
theorem g_so_le (h : g_wf g) (s : Nat) (c : Nat → Bool) : ∀ n, n ≤ g 0 → g_so g s c n ≤ n
  | 0, _ => Nat.le_refl 0
  | n + 1, hn => by
    have h1 := g_so_le h s c n (by omega)
    have h2 := h.hs (i := n) (by omega) s
    rw [g_so]
    split <;> omega
end WF
theorem q_fst_lt {f : Nat → Nat} {x n : Nat} : q_fst f x n < n ↔ ∃ j, j < n ∧ f j = x := by
  constructor
  · intro h
    exact ⟨_, h, q_fst_yes f x n h⟩
  · rintro ⟨j, h1, h2⟩
    rcases Nat.lt_or_ge (q_fst f x n) n with q | q
    · exact q
    · exact absurd h2 (q_fst_no f x n j (by omega))
/-! THE CLASS'S PICTURE: a plan at a, its breaks by their places σ -/
def q_br (M : lq_M) (b : Nat) (g : Nat → Nat) (i : Nat) : Prop := M b 0 = g (7 + 30 * i) ∧ M b 1 = g (8 + 30 * i) ∧ M b 2 = g (9 + 30 * i) ∧ M b 3 = g (10 + 30 * i) ∧ M b 4 = g (11 + 30 * i) ∧ M (b + 1) 4 = g (12 + 30 * i) ∧ ∀ p, p < g (12 + 30 * i) → M (b + 1 + 1) p = g (13 + 30 * i + 3 * p) ∧ M (b + 1 + 2) p = g (14 + 30 * i + 3 * p) ∧ M (b + 1 + 3) p = g (15 + 30 * i + 3 * p)
def q_pl (M : lq_M) (a : Nat) (σ : Nat → Nat) (g : Nat → Nat) (tk : Nat → Nat × Nat) (n : Nat) : Prop :=
  M a 1 = g 0 ∧ M a 4 = g 1 ∧ M a 8 = g 6 ∧
  (∀ i, i < g 0 → q_br M (a + 2 + 6 * σ i) g i) ∧
  (∀ s, s < g 1 → M (a + 122) s = g (607 + 2 * s) ∧ M (a + 123) s = g (608 + 2 * s)) ∧
  (∀ c, c < 10 → M (a + 124) c < 1024 ∧ ∀ b, b < 10 → M (a + 124) c / 2 ^ b % 2 = g (623 + 10 * c + b)) ∧
  (M (a + 125) 1 = n ∧ ∀ j, j < n → M (a + 125 + 1) j = q_enc (tk j)) ∧
  (M (a + 129) 4 = g 5 ∧ ∀ k, k < g 5 → M (a + 129 + 1) k = g (723 + 4 * k) ∧ M (a + 129 + 2) k = g (724 + 4 * k) ∧ M (a + 129 + 3) k = g (725 + 4 * k) ∧ M (a + 129 + 4) k = g (726 + 4 * k))
def sh4 (S : lq_S) (a : Nat) (f : Nat → Option Nat) (σ : Nat → Nat) : Prop :=
  S a = some (.inl (4, [some (some (a + 1)), none, some (some (a + 122)), some (some (a + 123)), none, some (some (a + 124)), some (some (a + 125)), some (some (a + 129)), none])) ∧
  S (a + 1) = some (.inr (.inr (4, 20, f))) ∧ (∀ i, i < 20 → f i = some (a + 2 + 6 * σ i)) ∧ (∀ j, j < 20 → sh0 S (a + 2 + 6 * j)) ∧ (∀ i, i < 20 → σ i < 20) ∧ (∀ i j, i < 20 → j < 20 → σ i = σ j → i = j) ∧
  S (a + 122) = some (.inr (.inl (0, 8))) ∧ S (a + 123) = some (.inr (.inl (0, 8))) ∧ S (a + 124) = some (.inr (.inl (0, 10))) ∧ sh2 S (a + 125) ∧ sh6 S (a + 129) 160
section SH4
variable {S : lq_S} {a : Nat} {f : Nat → Option Nat} {σ : Nat → Nat}
theorem sh4.l (h : sh4 S a f σ) : S (a + 1) = some (.inr (.inr (4, 20, f))) := h.2.1
theorem sh4.el (h : sh4 S a f σ) {i : Nat} (hi : i < 20) : f i = some (a + 2 + 6 * σ i) := h.2.2.1 i hi
theorem sh4.b (h : sh4 S a f σ) {i : Nat} (hi : i < 20) : sh0 S (a + 2 + 6 * σ i) := h.2.2.2.1 _ (h.2.2.2.2.1 i hi)
theorem sh4.s (h : sh4 S a f σ) {i : Nat} (hi : i < 20) : σ i < 20 := h.2.2.2.2.1 i hi
theorem sh4.inj (h : sh4 S a f σ) {i j : Nat} (hi : i < 20) (hj : j < 20) (e : σ i = σ j) : i = j := h.2.2.2.2.2.1 i j hi hj e
theorem sh4.cat (h : sh4 S a f σ) : S (a + 122) = some (.inr (.inl (0, 8))) := h.2.2.2.2.2.2.1
theorem sh4.cap (h : sh4 S a f σ) : S (a + 123) = some (.inr (.inl (0, 8))) := h.2.2.2.2.2.2.2.1
theorem sh4.ban (h : sh4 S a f σ) : S (a + 124) = some (.inr (.inl (0, 10))) := h.2.2.2.2.2.2.2.2.1
theorem sh4.fm (h : sh4 S a f σ) : sh2 S (a + 125) := h.2.2.2.2.2.2.2.2.2.1
theorem sh4.ow (h : sh4 S a f σ) : sh6 S (a + 129) 160 := h.2.2.2.2.2.2.2.2.2.2
end SH4
section PL
variable {M : lq_M} {a : Nat} {σ : Nat → Nat} {g : Nat → Nat} {tk : Nat → Nat × Nat} {n : Nat}
theorem q_pl.nb (h : q_pl M a σ g tk n) : M a 1 = g 0 := h.1
theorem q_pl.ns (h : q_pl M a σ g tk n) : M a 4 = g 1 := h.2.1
theorem q_pl.inc (h : q_pl M a σ g tk n) : M a 8 = g 6 := h.2.2.1
theorem q_pl.br (h : q_pl M a σ g tk n) {i : Nat} (hi : i < g 0) : q_br M (a + 2 + 6 * σ i) g i := h.2.2.2.1 i hi
theorem q_pl.cat (h : q_pl M a σ g tk n) {s : Nat} (hs : s < g 1) : M (a + 122) s = g (607 + 2 * s) ∧ M (a + 123) s = g (608 + 2 * s) := h.2.2.2.2.1 s hs
theorem q_pl.ban (h : q_pl M a σ g tk n) {c : Nat} (hc : c < 10) : M (a + 124) c < 1024 ∧ ∀ b, b < 10 → M (a + 124) c / 2 ^ b % 2 = g (623 + 10 * c + b) := h.2.2.2.2.2.1 c hc
theorem q_pl.fm (h : q_pl M a σ g tk n) : M (a + 125) 1 = n ∧ ∀ j, j < n → M (a + 125 + 1) j = q_enc (tk j) := h.2.2.2.2.2.2.1
theorem q_pl.ow (h : q_pl M a σ g tk n) : M (a + 129) 4 = g 5 ∧ ∀ k, k < g 5 → M (a + 129 + 1) k = g (723 + 4 * k) ∧ M (a + 129 + 2) k = g (724 + 4 * k) ∧ M (a + 129 + 3) k = g (725 + 4 * k) ∧ M (a + 129 + 4) k = g (726 + 4 * k) := h.2.2.2.2.2.2.2
theorem q_br.hs {b i : Nat} (h : q_br M b g i) (s : Nat) : q_cnt (M (b + 1 + 1)) s (M (b + 1) 4) = g_hs g i s := by
  rw [h.2.2.2.2.2.1]
  exact q_cnt_cong s _ (fun p hp => (h.2.2.2.2.2.2 p hp).1)
theorem q_br.us {b i : Nat} (h : q_br M b g i) : q_sm (M (b + 1 + 2)) (M (b + 1) 4) = g_us g i := by
  rw [h.2.2.2.2.2.1]
  exact q_sm_cong _ (fun p hp => (h.2.2.2.2.2.2 p hp).2.1)
/-- the plan stays where its expression's two work rows alone have moved -/
theorem q_pl.fq {M1 : lq_M} (h : q_pl M a σ g tk n) (hs : ∀ i, i < g 0 → σ i < 20) (e : ∀ b, b ≠ a + 125 + 2 → b ≠ a + 125 + 3 → M1 b = M b) : q_pl M1 a σ g tk n := by
  obtain ⟨h1, h2, h3, h4, h5, h6, h7, h8⟩ := h
  refine ⟨by rw [e a (by omega) (by omega)]; exact h1, by rw [e a (by omega) (by omega)]; exact h2, by rw [e a (by omega) (by omega)]; exact h3, fun i hi => ?_, fun s hs => ?_, fun c hc => ?_, ?_, ?_⟩
  · have := hs i hi
    unfold q_br
    rw [e (a + 2 + 6 * σ i) (by omega) (by omega), e (a + 2 + 6 * σ i + 1) (by omega) (by omega), e (a + 2 + 6 * σ i + 1 + 1) (by omega) (by omega), e (a + 2 + 6 * σ i + 1 + 2) (by omega) (by omega), e (a + 2 + 6 * σ i + 1 + 3) (by omega) (by omega)]
    exact h4 i hi
  · rw [e (a + 122) (by omega) (by omega), e (a + 123) (by omega) (by omega)]
    exact h5 s hs
  · rw [e (a + 124) (by omega) (by omega)]
    exact h6 c hc
  · rw [e (a + 125) (by omega) (by omega), e (a + 125 + 1) (by omega) (by omega)]
    exact h7
  · rw [e (a + 129) (by omega) (by omega), e (a + 129 + 1) (by omega) (by omega), e (a + 129 + 2) (by omega) (by omega), e (a + 129 + 3) (by omega) (by omega), e (a + 129 + 4) (by omega) (by omega)]
    exact h8
end PL
