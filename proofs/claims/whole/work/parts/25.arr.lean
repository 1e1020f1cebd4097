/-! arrangements: how many orders of a set begin with whom -/
theorem q_andb (v u k : Nat) : (v &&& u) / 2 ^ k % 2 = if v / 2 ^ k % 2 = 1 ∧ u / 2 ^ k % 2 = 1 then 1 else 0 := by
  have h1 := Nat.testBit_eq_decide_div_mod_eq (x := v &&& u) (i := k)
  have h2 := Nat.testBit_eq_decide_div_mod_eq (x := v) (i := k)
  have h3 := Nat.testBit_eq_decide_div_mod_eq (x := u) (i := k)
  rw [Nat.testBit_and, h2, h3] at h1
  have h4 : (v &&& u) / 2 ^ k % 2 < 2 := Nat.mod_lt _ (by decide)
  by_cases e : v / 2 ^ k % 2 = 1 ∧ u / 2 ^ k % 2 = 1
  · rw [if_pos e]
    simp [e.1, e.2] at h1
    omega
  · rw [if_neg e]
    have : ¬ ((v &&& u) / 2 ^ k % 2 = 1) := fun q => by
      rw [decide_eq_true q] at h1
      rw [Bool.and_eq_true, decide_eq_true_eq, decide_eq_true_eq] at h1
      exact e h1
    omega
def q_rest (p f : Nat) : Nat := if p / 2 ^ f % 2 = 1 then p - 2 ^ f else p
theorem q_rst0 : ∀ p : Fin 256, ∀ f : Fin 8, nI p.1 &&& (nI (1 * 2 ^ f.1) ^^^ (-1)) = nI (q_rest p.1 f.1) := by decide +kernel
theorem q_rst {p f : Nat} (hp : p < 256) (hf : f < 8) : nI p &&& (nI (1 * 2 ^ f) ^^^ (-1)) = nI (q_rest p f) := q_rst0 ⟨p, hp⟩ ⟨f, hf⟩
def q_pc (s : Nat) : Nat := q_sm (fun t => s / 2 ^ t % 2) 8
theorem q_pc0 : ∀ p : Fin 256, ∀ f : Fin 8, p.1 / 2 ^ f.1 % 2 = 1 → 2 ^ f.1 ≤ p.1 ∧ q_pc (p.1 - 2 ^ f.1) + 1 = q_pc p.1 := by decide +kernel
theorem q_pc1 {p f : Nat} (hp : p < 256) (hf : f < 8) (h : p / 2 ^ f % 2 = 1) : 2 ^ f ≤ p ∧ q_pc (p - 2 ^ f) + 1 = q_pc p := q_pc0 ⟨p, hp⟩ ⟨f, hf⟩ h
theorem q_pcz : ∀ p : Fin 256, q_pc p.1 = 0 → p.1 = 0 := by decide +kernel
theorem q_pc8 : ∀ p : Fin 256, q_pc p.1 ≤ 8 := by decide +kernel
theorem q_pw8 : ∀ f : Fin 8, 1 ≤ 2 ^ f.1 ∧ 2 ^ f.1 < 256 := by decide +kernel
theorem q_rsb0 : ∀ p : Fin 256, ∀ f : Fin 8, p.1 / 2 ^ f.1 % 2 = 1 → ∀ t : Fin 8, (p.1 - 2 ^ f.1) / 2 ^ t.1 % 2 = 1 → p.1 / 2 ^ t.1 % 2 = 1 ∧ t.1 ≠ f.1 := by decide +kernel
theorem q_rsb {p f t : Nat} (hp : p < 256) (hf : f < 8) (h : p / 2 ^ f % 2 = 1) (ht : t < 8) (h2 : (p - 2 ^ f) / 2 ^ t % 2 = 1) : p / 2 ^ t % 2 = 1 ∧ t ≠ f := q_rsb0 ⟨p, hp⟩ ⟨f, hf⟩ h ⟨t, ht⟩ h2
def g_od (g : Nat → Nat) : Nat → Nat → Nat → Nat
  | 0, _, _ => 0
  | n + 1, s, f => if s / 2 ^ f % 2 = 1 then (if s = 2 ^ f then 1 else q_sm (fun t => if (s - 2 ^ f) / 2 ^ t % 2 = 1 ∧ g_cl g f t = 0 then g_od g n (s - 2 ^ f) t else 0) 8) else 0
def g_or (g : Nat → Nat) (s f : Nat) : Nat := g_od g 8 s f
theorem g_od_st {g : Nat → Nat} : ∀ (n m s f : Nat), s < 256 → f < 8 → q_pc s ≤ n → q_pc s ≤ m → g_od g n s f = g_od g m s f
  | 0, m, s, f, hs, hf, h1, _ => by
    have e := q_pcz ⟨s, hs⟩ (Nat.le_zero.mp h1)
    have e : s = 0 := e
    subst e
    cases m with
    | zero => rfl
    | succ m => rw [g_od, g_od, if_neg (by rw [Nat.zero_div]; decide)]
  | n + 1, 0, s, f, hs, hf, _, h2 => by
    have e := q_pcz ⟨s, hs⟩ (Nat.le_zero.mp h2)
    have e : s = 0 := e
    subst e
    rw [g_od, g_od, if_neg (by rw [Nat.zero_div]; decide)]
  | n + 1, m + 1, s, f, hs, hf, h1, h2 => by
    rw [g_od, g_od]
    by_cases hb : s / 2 ^ f % 2 = 1
    · have hp := q_pc1 hs hf hb
      rw [if_pos hb, if_pos hb]
      by_cases e : s = 2 ^ f
      · rw [if_pos e, if_pos e]
      · rw [if_neg e, if_neg e]
        have hsl := Nat.sub_le s (2 ^ f)
        refine q_sm_cong 8 (fun t ht => ?_)
        rw [g_od_st n m (s - 2 ^ f) t (by omega) ht (by omega) (by omega)]
    · rw [if_neg hb, if_neg hb]
theorem g_or_rec (g : Nat → Nat) {s f : Nat} (hs : s < 256) (hf : f < 8) : g_or g s f = if s / 2 ^ f % 2 = 1 then (if s = 2 ^ f then 1 else q_sm (fun t => if (s - 2 ^ f) / 2 ^ t % 2 = 1 ∧ g_cl g f t = 0 then g_or g (s - 2 ^ f) t else 0) 8) else 0 := by
  have h8 := q_pc8 ⟨s, hs⟩
  have h8 : q_pc s ≤ 8 := h8
  unfold g_or
  rw [g_od]
  by_cases hb : s / 2 ^ f % 2 = 1
  · have hp := q_pc1 hs hf hb
    rw [if_pos hb, if_pos hb]
    by_cases e : s = 2 ^ f
    · rw [if_pos e, if_pos e]
    · rw [if_neg e, if_neg e]
      have hsl := Nat.sub_le s (2 ^ f)
      refine q_sm_cong 8 (fun t ht => ?_)
      rw [g_od_st 7 8 (s - 2 ^ f) t (by omega) ht (by omega) (by omega)]
  · rw [if_neg hb, if_neg hb]
theorem g_od_le (g : Nat → Nat) : ∀ n s f, g_od g n s f ≤ 8 ^ n
  | 0, _, _ => by rw [g_od]; omega
  | n + 1, s, f => by
    have hp : 1 ≤ 8 ^ n := Nat.pow_pos (by decide)
    have e : 8 ^ (n + 1) = 8 ^ n * 8 := Nat.pow_succ ..
    rw [g_od]
    split
    · split
      · omega
      · have := q_sm_le (f := fun t => if (s - 2 ^ f) / 2 ^ t % 2 = 1 ∧ g_cl g f t = 0 then g_od g n (s - 2 ^ f) t else 0) (c := 8 ^ n) 8 (fun t _ => by
          show (if _ then _ else _) ≤ _
          split
          · exact g_od_le g n _ t
          · omega)
        omega
    · omega
theorem g_or_le (g : Nat → Nat) (s f : Nat) : g_or g s f ≤ 16777216 := g_od_le g 8 s f
/-- all orders of a set -/
def g_co (g : Nat → Nat) (s : Nat) : Nat := if s = 0 then 1 else q_sm (fun f => g_or g s f) 8
def q_sub (p s : Nat) : Prop := ∀ t, t < 8 → p / 2 ^ t % 2 = 1 → s / 2 ^ t % 2 = 1
theorem q_sub_and {p s : Nat} (hp : p < 256) : p &&& s = p ↔ q_sub p s := by
  constructor
  · intro h t ht hb
    have e := q_andb p s t
    rw [h, hb] at e
    by_cases q : s / 2 ^ t % 2 = 1
    · exact q
    · rw [if_neg (fun w => q w.2)] at e
      omega
  · intro h
    apply Nat.eq_of_testBit_eq
    intro i
    rw [Nat.testBit_and]
    by_cases hi : i < 8
    · rw [Nat.testBit_eq_decide_div_mod_eq, Nat.testBit_eq_decide_div_mod_eq]
      by_cases q : p / 2 ^ i % 2 = 1
      · rw [decide_eq_true q, decide_eq_true (h i hi q)]; rfl
      · rw [decide_eq_false q]; rfl
    · have hz : p.testBit i = false := Nat.testBit_lt_two_pow (Nat.lt_of_lt_of_le hp (Nat.pow_le_pow_right (show 2 > 0 by decide) (show 8 ≤ i by omega)))
      rw [hz]; rfl
theorem q_nsub {p s : Nat} : nI p &&& (nI s ^^^ (-1)) = 0 ↔ nI p &&& nI s = nI p := by
  have key : ∀ x y : BitVec 32, x &&& (~~~y) = 0#32 ↔ x &&& y = x := by
    intro x y
    constructor
    · intro h
      apply BitVec.eq_of_getLsbD_eq
      intro i hi
      have q := congrArg (fun v => v.getLsbD i) h
      simp [hi] at q ⊢
      intro w
      have := q w
      exact this
    · intro h
      apply BitVec.eq_of_getLsbD_eq
      intro i hi
      have q := congrArg (fun v => v.getLsbD i) h
      simp [hi] at q ⊢
      intro w
      have := q w
      simp [this]
  have e1 : (-1 : Int32).toBitVec = BitVec.allOnes 32 := by decide
  constructor
  · intro h
    have h2 := congrArg Int32.toBitVec h
    rw [Int32.toBitVec_and, Int32.toBitVec_xor, e1, BitVec.xor_allOnes] at h2
    apply Int32.toBitVec_inj.mp
    rw [Int32.toBitVec_and]
    exact (key _ _).mp h2
  · intro h
    have h2 := congrArg Int32.toBitVec h
    rw [Int32.toBitVec_and] at h2
    apply Int32.toBitVec_inj.mp
    rw [Int32.toBitVec_and, Int32.toBitVec_xor, e1, BitVec.xor_allOnes]
    exact (key _ _).mpr h2
theorem q_nsub2 {p s : Nat} (hp : p < 256) (hs : s < 256) : nI p &&& (nI s ^^^ (-1)) = 0 ↔ q_sub p s := by
  rw [q_nsub, q_and, ← q_sub_and hp]
  have h1 := Nat.and_le_left (n := p) (m := s)
  constructor
  · intro h
    exact (nI_eq (by omega) (by omega)).mp h
  · intro h
    rw [h]
theorem q_sub_rest {p s f : Nat} (hp : p < 256) (hf : f < 8) (h : q_sub p s) (hb : p / 2 ^ f % 2 = 1) : q_sub (p - 2 ^ f) s := fun t ht q => h t ht (q_rsb hp hf hb ht q).1
theorem q_sub_lt {s ns : Nat} (h8 : ns ≤ 8) (h : s < 2 ^ ns) {t : Nat} (hb : s / 2 ^ t % 2 = 1) : t < ns := by
  rcases Nat.lt_or_ge t ns with q | q
  · exact q
  · have h2 : s < 2 ^ t := Nat.lt_of_lt_of_le h (Nat.pow_le_pow_right (by decide) q)
    rw [Nat.div_eq_of_lt h2] at hb
    omega
/-- the class's arranger -/
def sh1 (S : lq_S) (a : Nat) (fb : Nat → Option Nat) : Prop := S a = some (.inl (1, [some (some (a + 1)), some (some (a + 2)), some (some (a + 259))])) ∧ S (a + 1) = some (.inr (.inl (0, 8))) ∧ S (a + 2) = some (.inr (.inr (3, 256, fb))) ∧ (∀ k, k < 256 → fb k = some (a + 3 + k)) ∧ (∀ k, k < 256 → S (a + 3 + k) = some (.inr (.inl (0, 8)))) ∧ S (a + 259) = some (.inr (.inl (0, 8)))
def g_sF (M : lq_M) (a p u : Nat) : Nat → Nat := fun f => if u / 2 ^ f % 2 = 1 then M (a + 3 + p) f else 0
def g_mF (M : lq_M) (a p u : Nat) : Nat → Nat := fun f => if u / 2 ^ f % 2 = 1 ∧ 0 < M (a + 3 + p) f then 1 else 0
theorem g_mF_1 {M : lq_M} {a p u f : Nat} : g_mF M a p u f = 1 ↔ (u / 2 ^ f % 2 = 1 ∧ 0 < M (a + 3 + p) f) := by
  unfold g_mF
  split
  · simp_all
  · simp_all
def q_frs (g : Nat → Nat) (n c t : Nat) (v : Nat) : Prop := v < 256 ∧ ∀ k, k < 8 → v / 2 ^ k % 2 = if k < t ∧ g_cl g c k = 0 then 1 else 0
section AR1
variable {G : lq_G} {z : Nat} {S : lq_S} {N : lq_N}
theorem l_X1_sumOver {M : lq_M} {a : Nat} {fb : Nat → Option Nat} (hA : sh1 S a fb) {p u : Nat} (hp : p < 256) (hu : u < 2 ^ 31) : ∀ (n9 f : Nat), f ≤ 8 → 8 - f < n9 → LW G YX1_sumOver 0 0 0 (lq_pu z S M N (.int (nI (q_sm (g_sF M a p u) 8)))) lq_no z S M N 5 [some (.ref a), some (.int (nI p)), some (.int (nI u)), some (.int (nI (q_sm (g_sF M a p u) f))), some (.int (nI f))] [] := by
  intro n9
  induction n9 with
  | zero => intro _ _ _; omega
  | succ n9 ih =>
    intro f hf hn9
    refine qw_iload dX1_sumOver_5 rfl ?_
    refine qw_bipush (nI 8) dX1_sumOver_7 (by decide) ?_
    refine qw_icmp_geN 39 dX1_sumOver_9 (by decide) (by omega) (by omega) (fun c9 => ?_) (fun c9 => ?_)
    · refine qw_iload_n 3 dX1_sumOver_39 rfl rfl ?_
      exact qw_ireturn rfl rfl dX1_sumOver_40 ⟨by rw [show f = 8 by omega], rfl, rfl, rfl, rfl⟩
    · refine qw_iload_n 2 dX1_sumOver_12 rfl rfl ?_
      refine qw_iload dX1_sumOver_13 rfl ?_
      refine qw_shrN (by omega) hu dX1_sumOver_15 ?_
      refine qw_iconst (nI 1) dX1_sumOver_16 (by decide) ?_
      refine qw_andN dX1_sumOver_17 ?_
      rw [Nat.and_one_is_mod]
      refine qw_if_eqN 33 dX1_sumOver_18 (by decide) (by omega) (fun c18 => ?_) (fun c18 => ?_)
      · refine qw_iincN 1 dX1_sumOver_33 rfl (by decide) rfl (by decide) ?_
        refine qw_goto 5 dX1_sumOver_36 (by decide) ?_
        have h := ih (f + 1) (by omega) (by omega)
        rw [show q_sm (g_sF M a p u) (f + 1) = q_sm (g_sF M a p u) f from by
          show q_sm (g_sF M a p u) f + (if u / 2 ^ f % 2 = 1 then M (a + 3 + p) f else 0) = _
          rw [if_neg (by omega)]
          rfl] at h
        exact qw_weak _ (by simp [lq_le]) h
      · refine qw_iload_n 3 dX1_sumOver_21 rfl rfl ?_
        refine qw_aload_n 0 dX1_sumOver_22 rfl rfl ?_
        refine qw_getr fX1_17 dX1_sumOver_23 hA.1 rfl ?_
        refine qw_iload_n 1 dX1_sumOver_26 rfl rfl ?_
        refine qw_aald dX1_sumOver_27 hA.2.2.1 rfl rfl hp (by omega) (hA.2.2.2.1 p hp) ?_
        refine qw_iload dX1_sumOver_28 rfl ?_
        refine qw_iald dX1_sumOver_30 (hA.2.2.2.2.1 p hp) (by omega) (by omega) ?_
        refine qw_addN dX1_sumOver_31 ?_
        refine qw_istore_n 3 dX1_sumOver_32 rfl rfl (by decide) ?_
        refine qw_iincN 1 dX1_sumOver_33 rfl (by decide) rfl (by decide) ?_
        refine qw_goto 5 dX1_sumOver_36 (by decide) ?_
        have h := ih (f + 1) (by omega) (by omega)
        rw [show q_sm (g_sF M a p u) (f + 1) = q_sm (g_sF M a p u) f + M (a + 3 + p) f from by
          show q_sm (g_sF M a p u) f + (if u / 2 ^ f % 2 = 1 then M (a + 3 + p) f else 0) = _
          rw [if_pos (by omega)]] at h
        exact qw_weak _ (by simp [lq_le]) h
theorem k_X1_sumOver {M : lq_M} {a : Nat} {fb : Nat → Option Nat} (hA : sh1 S a fb) {p u : Nat} (hp : p < 256) (hu : u < 2 ^ 31) : LM G YX1_sumOver 0 0 0 [.ref a, .int (nI p), .int (nI u)] z S M N (lq_pu z S M N (.int (nI (q_sm (g_sF M a p u) 8)))) lq_no := by
  refine LM.of (by decide) rfl [some (.ref a), some (.int (nI p)), some (.int (nI u)), none, none] rfl (Nat.le_of_ble_eq_true rfl) ?_
  refine qw_iconst (nI 0) dX1_sumOver_0 (by decide) ?_
  refine qw_istore_n 3 dX1_sumOver_1 rfl rfl (by decide) ?_
  refine qw_iconst (nI 0) dX1_sumOver_2 (by decide) ?_
  refine qw_istore dX1_sumOver_3 rfl (by decide) ?_
  exact l_X1_sumOver hA hp hu 9 0 (by omega) (by omega)
theorem l_X1_smallestBeginning {M : lq_M} {a : Nat} {fb : Nat → Option Nat} (hA : sh1 S a fb) {p u : Nat} (hp : p < 256) (hu : u < 2 ^ 31) (hb : ∀ f, f < 8 → u / 2 ^ f % 2 = 1 → M (a + 3 + p) f < 2 ^ 31) : ∀ (n9 f : Nat), f ≤ 8 → 8 - f < n9 → (∀ j, j < f → g_mF M a p u j ≠ 1) → LW G YX1_smallestBeginning 0 0 0 (lq_pu z S M N (.int (if q_fst (g_mF M a p u) 1 8 < 8 then nI (q_fst (g_mF M a p u) 1 8) else -1))) lq_no z S M N 2 [some (.ref a), some (.int (nI p)), some (.int (nI u)), some (.int (nI f))] [] := by
  intro n9
  induction n9 with
  | zero => intro _ _ _ _; omega
  | succ n9 ih =>
    intro f hf hn9 hno
    refine qw_iload_n 3 dX1_smallestBeginning_2 rfl rfl ?_
    refine qw_bipush (nI 8) dX1_smallestBeginning_3 (by decide) ?_
    refine qw_icmp_geN 35 dX1_smallestBeginning_5 (by decide) (by omega) (by omega) (fun c5 => ?_) (fun c5 => ?_)
    · refine qw_iconst (-1) dX1_smallestBeginning_35 (by decide) ?_
      exact qw_ireturn rfl rfl dX1_smallestBeginning_36 ⟨by rw [q_fst_miss (fun j hj => hno j (by omega)), if_neg (by omega)], rfl, rfl, rfl, rfl⟩
    · refine qw_iload_n 2 dX1_smallestBeginning_8 rfl rfl ?_
      refine qw_iload_n 3 dX1_smallestBeginning_9 rfl rfl ?_
      refine qw_shrN (by omega) hu dX1_smallestBeginning_10 ?_
      refine qw_iconst (nI 1) dX1_smallestBeginning_11 (by decide) ?_
      refine qw_andN dX1_smallestBeginning_12 ?_
      rw [Nat.and_one_is_mod]
      refine qw_if_eqN 29 dX1_smallestBeginning_13 (by decide) (by omega) (fun c13 => ?_) (fun c13 => ?_)
      · refine qw_iincN 1 dX1_smallestBeginning_29 rfl (by decide) rfl (by decide) ?_
        refine qw_goto 2 dX1_smallestBeginning_32 (by decide) ?_
        have hne : g_mF M a p u f ≠ 1 := fun q => by have := (g_mF_1.mp q).1; omega
        exact qw_weak _ (by simp [lq_le]) (ih (f + 1) (by omega) (by omega) (fun j hj => by
          by_cases e : j = f
          · rw [e]; exact hne
          · exact hno j (by omega)))
      · refine qw_aload_n 0 dX1_smallestBeginning_16 rfl rfl ?_
        refine qw_getr fX1_17 dX1_smallestBeginning_17 hA.1 rfl ?_
        refine qw_iload_n 1 dX1_smallestBeginning_20 rfl rfl ?_
        refine qw_aald dX1_smallestBeginning_21 hA.2.2.1 rfl rfl hp (by omega) (hA.2.2.2.1 p hp) ?_
        refine qw_iload_n 3 dX1_smallestBeginning_22 rfl rfl ?_
        refine qw_iald dX1_smallestBeginning_23 (hA.2.2.2.2.1 p hp) (by omega) (by omega) ?_
        have hbf := hb f (by omega) (by omega)
        refine qw_if_leN 29 dX1_smallestBeginning_24 (by decide) (by omega) (fun c24 => ?_) (fun c24 => ?_)
        · refine qw_iincN 1 dX1_smallestBeginning_29 rfl (by decide) rfl (by decide) ?_
          refine qw_goto 2 dX1_smallestBeginning_32 (by decide) ?_
          have hne : g_mF M a p u f ≠ 1 := fun q => by have := (g_mF_1.mp q).2; omega
          exact qw_weak _ (by simp [lq_le]) (ih (f + 1) (by omega) (by omega) (fun j hj => by
            by_cases e : j = f
            · rw [e]; exact hne
            · exact hno j (by omega)))
        · refine qw_iload_n 3 dX1_smallestBeginning_27 rfl rfl ?_
          exact qw_ireturn rfl rfl dX1_smallestBeginning_28 ⟨by rw [q_fst_hit (i := f) (by omega) (g_mF_1.mpr ⟨by omega, by omega⟩) hno, if_pos (by omega)], rfl, rfl, rfl, rfl⟩
theorem k_X1_smallestBeginning {M : lq_M} {a : Nat} {fb : Nat → Option Nat} (hA : sh1 S a fb) {p u : Nat} (hp : p < 256) (hu : u < 2 ^ 31) (hb : ∀ f, f < 8 → u / 2 ^ f % 2 = 1 → M (a + 3 + p) f < 2 ^ 31) : LM G YX1_smallestBeginning 0 0 0 [.ref a, .int (nI p), .int (nI u)] z S M N (lq_pu z S M N (.int (if q_fst (g_mF M a p u) 1 8 < 8 then nI (q_fst (g_mF M a p u) 1 8) else -1))) lq_no := by
  refine LM.of (by decide) rfl [some (.ref a), some (.int (nI p)), some (.int (nI u)), none] rfl (Nat.le_of_ble_eq_true rfl) ?_
  refine qw_iconst (nI 0) dX1_smallestBeginning_0 (by decide) ?_
  refine qw_istore_n 3 dX1_smallestBeginning_1 rfl rfl (by decide) ?_
  exact l_X1_smallestBeginning hA hp hu hb 9 0 (by omega) (by omega) (fun j hj => absurd hj (Nat.not_lt_zero j))
/-- the table is right for one set -/
def q_tb (M : lq_M) (a : Nat) (g : Nat → Nat) (s : Nat) : Prop := ∀ f, f < 8 → s / 2 ^ f % 2 = 1 → M (a + 3 + s) f = g_or g s f
theorem l_X1_countBeginningsOf {a : Nat} {fb : Nat → Option Nat} (hA : sh1 S a fb) {g : Nat → Nat} {M0 : lq_M} {set ns p : Nat} (hn8 : ns ≤ 8) (hset : set < 2 ^ ns) (hp : p < 256) (hp0 : 0 < p) (hsub : q_sub p set) (hfr : ∀ s, s < ns → q_frs g ns s ns (M0 (a + 1) s)) (hT : ∀ s, s < p → 0 < s → q_sub s set → q_tb M0 a g s) : ∀ (n9 f : Nat) (M : lq_M), f ≤ 8 → 8 - f < n9 → (∀ j, j < f → p / 2 ^ j % 2 = 1 → M (a + 3 + p) j = g_or g p j) → (∀ b, b ≠ a + 3 + p → M b = M0 b) → LW G YX1_countBeginningsOf 1 0 0 (lq_mv z S N (fun M1 => q_tb M1 a g p ∧ ∀ b, b ≠ a + 3 + p → M1 b = M0 b)) lq_no z S M N 2 [some (.ref a), some (.int (nI p)), some (.int (nI f)), none] [] := by
  intro n9
  induction n9 with
  | zero => intro _ _ _ _ _ _; omega
  | succ n9 ih =>
    intro f M hf hn9 hd hq
    refine qw_iload_n 2 dX1_countBeginningsOf_2 rfl rfl ?_
    refine qw_bipush (nI 8) dX1_countBeginningsOf_3 (by decide) ?_
    refine qw_icmp_geN 64 dX1_countBeginningsOf_5 (by decide) (by omega) (by omega) (fun c5 => ?_) (fun c5 => ?_)
    · exact qw_return rfl dX1_countBeginningsOf_64 ⟨rfl, rfl, rfl, rfl, fun j hj hbj => hd j (by omega) hbj, hq⟩
    · refine qw_iload_n 1 dX1_countBeginningsOf_8 rfl rfl ?_
      refine qw_iconst (nI 1) dX1_countBeginningsOf_9 (by decide) ?_
      refine qw_iload_n 2 dX1_countBeginningsOf_10 rfl rfl ?_
      refine qw_shlN (by omega) (by have := (q_pw8 ⟨f, by omega⟩).2; have h9 : 2 ^ f < 256 := this; omega) dX1_countBeginningsOf_11 ?_
      refine qw_iconst (-1) dX1_countBeginningsOf_12 (by decide) ?_
      refine qw_ixor dX1_countBeginningsOf_13 ?_
      refine qw_iand dX1_countBeginningsOf_14 ?_
      rw [q_rst hp (by omega)]
      have hrl : q_rest p f ≤ p := by unfold q_rest; split <;> first | exact Nat.sub_le _ _ | exact Nat.le_refl _
      refine qw_istore_n 3 dX1_countBeginningsOf_15 rfl rfl (by decide) ?_
      refine qw_iload_n 3 dX1_countBeginningsOf_16 rfl rfl ?_
      refine qw_if_neN 32 dX1_countBeginningsOf_17 (by decide) (by omega) (fun c17 => ?_) (fun c17 => ?_)
      · refine qw_iload_n 3 dX1_countBeginningsOf_32 rfl rfl ?_
        refine qw_iload_n 1 dX1_countBeginningsOf_33 rfl rfl ?_
        refine qw_icmp_eqN 58 dX1_countBeginningsOf_34 (by decide) (by omega) (by omega) (fun c34 => ?_) (fun c34 => ?_)
        · refine qw_iincN 1 dX1_countBeginningsOf_58 rfl (by decide) rfl (by decide) ?_
          refine qw_goto 2 dX1_countBeginningsOf_61 (by decide) ?_
          refine qw_weak _ (by simp [lq_le]) (ih (f + 1) _ (by omega) (by omega) (fun j hj hbj => ?_) hq)
          by_cases e : j = f
          · rw [e] at hbj
            have hpf := q_pc1 hp (show f < 8 by omega) hbj
            have hw := q_pw8 ⟨f, by omega⟩
            have hw : 1 ≤ 2 ^ f ∧ 2 ^ f < 256 := hw
            unfold q_rest at c34
            rw [if_pos hbj] at c34
            omega
          · exact hd j (by omega) hbj
        · have hbf : p / 2 ^ f % 2 = 1 := Decidable.byContradiction fun q => c34 (by unfold q_rest; rw [if_neg q])
          have hrs : q_rest p f = p - 2 ^ f := by unfold q_rest; rw [if_pos hbf]
          have hpf := q_pc1 hp (show f < 8 by omega) hbf
          have hw := q_pw8 ⟨f, by omega⟩
          have hw : 1 ≤ 2 ^ f ∧ 2 ^ f < 256 := hw
          have hsubr := q_sub_rest hp (show f < 8 by omega) hsub hbf
          refine qw_aload_n 0 dX1_countBeginningsOf_37 rfl rfl ?_
          refine qw_getr fX1_17 dX1_countBeginningsOf_38 hA.1 rfl ?_
          refine qw_iload_n 1 dX1_countBeginningsOf_41 rfl rfl ?_
          refine qw_aald dX1_countBeginningsOf_42 hA.2.2.1 rfl rfl hp (by omega) (hA.2.2.2.1 p hp) ?_
          refine qw_iload_n 2 dX1_countBeginningsOf_43 rfl rfl ?_
          refine qw_aload_n 0 dX1_countBeginningsOf_44 rfl rfl ?_
          refine qw_iload_n 3 dX1_countBeginningsOf_45 rfl rfl ?_
          refine qw_iload_n 3 dX1_countBeginningsOf_46 rfl rfl ?_
          refine qw_aload_n 0 dX1_countBeginningsOf_47 rfl rfl ?_
          refine qw_getr fX1_9 dX1_countBeginningsOf_48 hA.1 rfl ?_
          refine qw_iload_n 2 dX1_countBeginningsOf_51 rfl rfl ?_
          refine qw_iald dX1_countBeginningsOf_52 hA.2.1 (by omega) (by omega) ?_
          refine qw_andN dX1_countBeginningsOf_53 ?_
          refine qw_cvp [_, _] (k_X1_sumOver hA (by omega) (by have := Nat.and_le_left (n := q_rest p f) (m := M (a + 1) f); omega)) mX1_27 dX1_countBeginningsOf_54 hA.1 rfl rfl rfl (Nat.le_of_ble_eq_true rfl) (by omega) (by decide) rfl ?_
          refine qw_iast dX1_countBeginningsOf_57 (hA.2.2.2.2.1 p hp) (by omega) (by omega) ?_
          refine qw_iincN 1 dX1_countBeginningsOf_58 rfl (by decide) rfl (by decide) ?_
          refine qw_goto 2 dX1_countBeginningsOf_61 (by decide) ?_
          refine qw_weak _ (by simp [lq_le]) (ih (f + 1) _ (by omega) (by omega) (fun j hj hbj => ?_) (fun b hb => by rw [lq_up_n _ _ _ hb]; exact hq b hb))
          by_cases e : j = f
          · rw [e, lq_up_s, g_or_rec g hp (by omega), if_pos hbf, if_neg (by rw [hrs] at c17; omega)]
            refine q_sm_cong 8 (fun t ht => ?_)
            unfold g_sF
            rw [hrs, q_andb, hq (a + 1) (by omega), (hfr f (q_sub_lt hn8 hset (hsub f (by omega) hbf))).2 t ht]
            by_cases w1 : (p - 2 ^ f) / 2 ^ t % 2 = 1
            · have htn : t < ns := q_sub_lt hn8 hset (hsubr t ht w1)
              by_cases w2 : g_cl g f t = 0
              · rw [if_pos (show t < ns ∧ g_cl g f t = 0 from ⟨htn, w2⟩), if_pos (show (p - 2 ^ f) / 2 ^ t % 2 = 1 ∧ 1 = 1 from ⟨w1, rfl⟩), if_pos (show 1 = 1 from rfl), if_pos (show (p - 2 ^ f) / 2 ^ t % 2 = 1 ∧ g_cl g f t = 0 from ⟨w1, w2⟩), hq _ (by omega)]
                exact hT (p - 2 ^ f) (by omega) (by rw [hrs] at c17; omega) hsubr t ht w1
              · rw [if_neg (show ¬ (t < ns ∧ g_cl g f t = 0) from fun q => w2 q.2), if_neg (show ¬ ((p - 2 ^ f) / 2 ^ t % 2 = 1 ∧ (0 : Nat) = 1) from fun q => absurd q.2 (by decide)), if_neg (show ¬ ((0 : Nat) = 1) by decide), if_neg (show ¬ ((p - 2 ^ f) / 2 ^ t % 2 = 1 ∧ g_cl g f t = 0) from fun q => w2 q.2)]
            · rw [if_neg (show ¬ ((p - 2 ^ f) / 2 ^ t % 2 = 1 ∧ _) from fun q => w1 q.1), if_neg (show ¬ (0 = 1) by decide), if_neg (fun q => w1 q.1)]
          · rw [lq_up_c _ _ e]; exact hd j (by omega) hbj
      · refine qw_aload_n 0 dX1_countBeginningsOf_20 rfl rfl ?_
        refine qw_getr fX1_17 dX1_countBeginningsOf_21 hA.1 rfl ?_
        refine qw_iload_n 1 dX1_countBeginningsOf_24 rfl rfl ?_
        refine qw_aald dX1_countBeginningsOf_25 hA.2.2.1 rfl rfl hp (by omega) (hA.2.2.2.1 p hp) ?_
        refine qw_iload_n 2 dX1_countBeginningsOf_26 rfl rfl ?_
        refine qw_iconst (nI 1) dX1_countBeginningsOf_27 (by decide) ?_
        refine qw_iast dX1_countBeginningsOf_28 (hA.2.2.2.2.1 p hp) (by omega) (by omega) ?_
        refine qw_goto 58 dX1_countBeginningsOf_29 (by decide) ?_
        refine qw_iincN 1 dX1_countBeginningsOf_58 rfl (by decide) rfl (by decide) ?_
        refine qw_goto 2 dX1_countBeginningsOf_61 (by decide) ?_
        refine qw_weak _ (by simp [lq_le]) (ih (f + 1) _ (by omega) (by omega) (fun j hj hbj => ?_) (fun b hb => by rw [lq_up_n _ _ _ hb]; exact hq b hb))
        by_cases e : j = f
        · rw [e, lq_up_s, g_or_rec g hp (by omega)]
          have hbf : p / 2 ^ f % 2 = 1 := by rw [← e]; exact hbj
          have hpf := q_pc1 hp (show f < 8 by omega) hbf
          unfold q_rest at c17
          rw [if_pos hbf] at c17
          rw [if_pos hbf, if_pos (by omega)]
        · rw [lq_up_c _ _ e]; exact hd j (by omega) hbj
theorem k_X1_countBeginningsOf {a : Nat} {fb : Nat → Option Nat} (hA : sh1 S a fb) {g : Nat → Nat} {M : lq_M} {set ns p : Nat} (hn8 : ns ≤ 8) (hset : set < 2 ^ ns) (hp : p < 256) (hp0 : 0 < p) (hsub : q_sub p set) (hfr : ∀ s, s < ns → q_frs g ns s ns (M (a + 1) s)) (hT : ∀ s, s < p → 0 < s → q_sub s set → q_tb M a g s) : LM G YX1_countBeginningsOf 1 0 0 [.ref a, .int (nI p)] z S M N (lq_mv z S N (fun M1 => q_tb M1 a g p ∧ ∀ b, b ≠ a + 3 + p → M1 b = M b)) lq_no := by
  refine LM.of (by decide) rfl [some (.ref a), some (.int (nI p)), none, none] rfl (Nat.le_of_ble_eq_true rfl) ?_
  refine qw_iconst (nI 0) dX1_countBeginningsOf_0 (by decide) ?_
  refine qw_istore_n 2 dX1_countBeginningsOf_1 rfl rfl (by decide) ?_
  exact l_X1_countBeginningsOf hA hn8 hset hp hp0 hsub hfr hT 9 0 M (by omega) (by omega) (fun j hj => absurd hj (Nat.not_lt_zero j)) (fun b hb => rfl)
end AR1
