/-! the row of spots -/
def q_cnt (f : Nat → Nat) (x : Nat) : Nat → Nat
  | 0 => 0
  | n + 1 => q_cnt f x n + if f n = x then 1 else 0
def q_sm (f : Nat → Nat) : Nat → Nat
  | 0 => 0
  | n + 1 => q_sm f n + f n
def q_ss (f : Nat → Nat) : Nat → Nat
  | 0 => 0
  | n + 1 => q_ss f n ||| 1 * 2 ^ f n
/-- the first place below n with x; n if there is none -/
def q_fst (f : Nat → Nat) (x : Nat) : Nat → Nat
  | 0 => 0
  | n + 1 => if q_fst f x n < n then q_fst f x n else if f n = x then n else n + 1
theorem q_fst_le (f : Nat → Nat) (x : Nat) : ∀ n, q_fst f x n ≤ n
  | 0 => Nat.le_refl 0
  | n + 1 => by
    have := q_fst_le f x n
    rw [q_fst]
    split
    · omega
    · split <;> omega
theorem q_fst_no (f : Nat → Nat) (x : Nat) : ∀ n j, j < q_fst f x n → f j ≠ x
  | 0, j, h => absurd h (Nat.not_lt_zero j)
  | n + 1, j, h => by
    have ih := q_fst_no f x n j
    have hl := q_fst_le f x n
    rw [q_fst] at h
    split at h
    · exact ih h
    · split at h
      · exact ih (by omega)
      · by_cases e : j = n
        · subst e; assumption
        · exact ih (by omega)
theorem q_fst_yes (f : Nat → Nat) (x : Nat) : ∀ n, q_fst f x n < n → f (q_fst f x n) = x
  | 0, h => absurd h (Nat.not_lt_zero _)
  | n + 1, h => by
    have ih := q_fst_yes f x n
    rw [q_fst] at h ⊢
    split
    · exact ih (by assumption)
    · split
      · assumption
      · rename_i h1 h2
        rw [if_neg h1, if_neg h2] at h
        omega
theorem q_fst_hit {f : Nat → Nat} {x n i : Nat} (hi : i < n) (h : f i = x) (h0 : ∀ j, j < i → f j ≠ x) : q_fst f x n = i := by
  have h1 := q_fst_no f x n
  have h2 := q_fst_yes f x n
  have h3 := q_fst_le f x n
  rcases Nat.lt_trichotomy (q_fst f x n) i with q | q | q
  · exact absurd (h2 (by omega)) (h0 _ q)
  · exact q
  · exact absurd h (h1 i q)
theorem q_fst_miss {f : Nat → Nat} {x n : Nat} (h0 : ∀ j, j < n → f j ≠ x) : q_fst f x n = n := by
  have h2 := q_fst_yes f x n
  have h3 := q_fst_le f x n
  by_cases q : q_fst f x n < n
  · exact absurd (h2 q) (h0 _ q)
  · omega
def q_plv (f : Nat → Nat) (x n : Nat) : Int32 := if q_fst f x n < n then nI (q_fst f x n) else -1
def q_adi (M : lq_M) (a p : Nat) (s : Int64) : Nat → Int64
  | 0 => s
  | k + 1 => 31 * q_adi M a p s k + (nI (M (a + 1 + k) p)).toInt64
def q_ado (M : lq_M) (a t : Nat) (s : Int64) : Nat → Int64
  | 0 => s
  | n + 1 => q_adi M a n (q_ado M a t s n) t
def q_in (f : Nat → Nat) (p v j : Nat) : Nat := if j < p then f j else if j = p then v else f (j - 1)
def q_de (f : Nat → Nat) (p j : Nat) : Nat := if j < p then f j else f (j + 1)
def q_4 (s l r u k : Nat) : Nat := if k = 1 then s else if k = 2 then l else if k = 3 then r else u
def q_fr (lo hi : Nat) (M M' : lq_M) : Prop := ∀ b, b < lo ∨ hi ≤ b → M' b = M b
theorem q_fr.rf {lo hi : Nat} {M : lq_M} : q_fr lo hi M M := fun _ _ => rfl
theorem q_fr.trans {lo hi : Nat} {M M1 M2 : lq_M} (h : q_fr lo hi M M1) (h2 : q_fr lo hi M1 M2) : q_fr lo hi M M2 := fun b hb => (h2 b hb).trans (h b hb)
theorem q_fr.mono {lo hi lo' hi' : Nat} {M M1 : lq_M} (h : q_fr lo hi M M1) (h1 : lo' ≤ lo) (h2 : hi ≤ hi') : q_fr lo' hi' M M1 := fun b hb => h b (by omega)
section SR1
variable {G : lq_G} {z : Nat} {S : lq_S} {N : lq_N}
theorem l_X6_countOf {M : lq_M} {a cap x : Nat} (hS : sh6 S a cap) (hc : M a 4 ≤ cap) (hcap : cap ≤ 200) (hx : x < 2 ^ 31) (hb : ∀ j, j < M a 4 → M (a + 1) j < 2 ^ 31) : ∀ (n i : Nat), i ≤ M a 4 → M a 4 - i < n → LW G YX6_countOf 0 0 0 (lq_pu z S M N (.int (nI (q_cnt (M (a + 1)) x (M a 4))))) lq_no z S M N 4 [some (.ref a), some (.int (nI x)), some (.int (nI (q_cnt (M (a + 1)) x i))), some (.int (nI i))] [] := by
  intro n
  induction n with
  | zero => intro _ _ _; omega
  | succ n ih =>
    intro i hi hn
    refine qw_iload_n 3 dX6_countOf_4 rfl rfl ?_
    refine qw_aload_n 0 dX6_countOf_5 rfl rfl ?_
    refine qw_geti fX6_22 dX6_countOf_6 hS.1 rfl ?_
    refine qw_icmp_geN 31 dX6_countOf_9 (by decide) (by omega) (by omega) (fun c9 => ?_) (fun c9 => ?_)
    · refine qw_iload_n 2 dX6_countOf_31 rfl rfl ?_
      exact qw_ireturn rfl rfl dX6_countOf_32 ⟨by rw [show i = M a 4 by omega], rfl, rfl, rfl, rfl⟩
    · have hbi := hb i (by omega)
      refine qw_aload_n 0 dX6_countOf_12 rfl rfl ?_
      refine qw_getr fX6_7 dX6_countOf_13 hS.1 rfl ?_
      refine qw_iload_n 3 dX6_countOf_16 rfl rfl ?_
      refine qw_iald dX6_countOf_17 hS.2.1 (by omega) (by omega) ?_
      refine qw_iload_n 1 dX6_countOf_18 rfl rfl ?_
      refine qw_icmp_neN 25 dX6_countOf_19 (by decide) (by omega) (by omega) (fun c19 => ?_) (fun c19 => ?_)
      · refine qw_iincN 1 dX6_countOf_25 rfl (by decide) rfl (by decide) ?_
        refine qw_goto 4 dX6_countOf_28 (by decide) ?_
        have h := ih (i + 1) (by omega) (by omega)
        simp [q_cnt, c19] at h
        exact h
      · refine qw_iincN 1 dX6_countOf_22 rfl (by decide) rfl (by decide) ?_
        refine qw_iincN 1 dX6_countOf_25 rfl (by decide) rfl (by decide) ?_
        refine qw_goto 4 dX6_countOf_28 (by decide) ?_
        have h := ih (i + 1) (by omega) (by omega)
        simp [q_cnt, c19] at h
        exact h
theorem k_X6_countOf {M : lq_M} {a cap x : Nat} (hS : sh6 S a cap) (hc : M a 4 ≤ cap) (hcap : cap ≤ 200) (hx : x < 2 ^ 31) (hb : ∀ j, j < M a 4 → M (a + 1) j < 2 ^ 31) : LM G YX6_countOf 0 0 0 [.ref a, .int (nI x)] z S M N (lq_pu z S M N (.int (nI (q_cnt (M (a + 1)) x (M a 4))))) lq_no := by
  refine LM.of (by decide) rfl [some (.ref a), some (.int (nI x)), none, none] rfl (Nat.le_of_ble_eq_true rfl) ?_
  refine qw_iconst (nI 0) dX6_countOf_0 (by decide) ?_
  refine qw_istore_n 2 dX6_countOf_1 rfl rfl (by decide) ?_
  refine qw_iconst (nI 0) dX6_countOf_2 (by decide) ?_
  refine qw_istore_n 3 dX6_countOf_3 rfl rfl (by decide) ?_
  exact l_X6_countOf hS hc hcap hx hb (M a 4 + 1) 0 (by omega) (by omega)
theorem l_X6_placeOf {M : lq_M} {a cap x : Nat} (hS : sh6 S a cap) (hc : M a 4 ≤ cap) (hcap : cap ≤ 200) (hx : x < 2 ^ 31) (hb : ∀ j, j < M a 4 → M (a + 1) j < 2 ^ 31) : ∀ (n i : Nat), i ≤ M a 4 → M a 4 - i < n → (∀ j, j < i → M (a + 1) j ≠ x) → LW G YX6_placeOf 0 0 0 (lq_pu z S M N (.int (q_plv (M (a + 1)) x (M a 4)))) lq_no z S M N 2 [some (.ref a), some (.int (nI x)), some (.int (nI i))] [] := by
  intro n
  induction n with
  | zero => intro _ _ _ _; omega
  | succ n ih =>
    intro i hi hn hno
    refine qw_iload_n 2 dX6_placeOf_2 rfl rfl ?_
    refine qw_aload_n 0 dX6_placeOf_3 rfl rfl ?_
    refine qw_geti fX6_22 dX6_placeOf_4 hS.1 rfl ?_
    refine qw_icmp_geN 28 dX6_placeOf_7 (by decide) (by omega) (by omega) (fun c7 => ?_) (fun c7 => ?_)
    · refine qw_iconst (-1) dX6_placeOf_28 (by decide) ?_
      exact qw_ireturn rfl rfl dX6_placeOf_29 ⟨by rw [q_plv, q_fst_miss (fun j hj => hno j (by omega)), if_neg (by omega)], rfl, rfl, rfl, rfl⟩
    · have hbi := hb i (by omega)
      refine qw_aload_n 0 dX6_placeOf_10 rfl rfl ?_
      refine qw_getr fX6_7 dX6_placeOf_11 hS.1 rfl ?_
      refine qw_iload_n 2 dX6_placeOf_14 rfl rfl ?_
      refine qw_iald dX6_placeOf_15 hS.2.1 (by omega) (by omega) ?_
      refine qw_iload_n 1 dX6_placeOf_16 rfl rfl ?_
      refine qw_icmp_neN 22 dX6_placeOf_17 (by decide) (by omega) (by omega) (fun c17 => ?_) (fun c17 => ?_)
      · refine qw_iincN 1 dX6_placeOf_22 rfl (by decide) rfl (by decide) ?_
        refine qw_goto 2 dX6_placeOf_25 (by decide) ?_
        exact ih (i + 1) (by omega) (by omega) (fun j hj => by
          rcases Nat.lt_or_ge j i with q | q
          · exact hno j q
          · rw [show j = i by omega]; exact c17)
      · refine qw_iload_n 2 dX6_placeOf_20 rfl rfl ?_
        exact qw_ireturn rfl rfl dX6_placeOf_21 ⟨by rw [q_plv, q_fst_hit (by omega) c17 hno, if_pos (by omega)], rfl, rfl, rfl, rfl⟩
theorem k_X6_placeOf {M : lq_M} {a cap x : Nat} (hS : sh6 S a cap) (hc : M a 4 ≤ cap) (hcap : cap ≤ 200) (hx : x < 2 ^ 31) (hb : ∀ j, j < M a 4 → M (a + 1) j < 2 ^ 31) : LM G YX6_placeOf 0 0 0 [.ref a, .int (nI x)] z S M N (lq_pu z S M N (.int (q_plv (M (a + 1)) x (M a 4)))) lq_no := by
  refine LM.of (by decide) rfl [some (.ref a), some (.int (nI x)), none] rfl (Nat.le_of_ble_eq_true rfl) ?_
  refine qw_iconst (nI 0) dX6_placeOf_0 (by decide) ?_
  refine qw_istore_n 2 dX6_placeOf_1 rfl rfl (by decide) ?_
  exact l_X6_placeOf hS hc hcap hx hb (M a 4 + 1) 0 (by omega) (by omega) (fun j hj => absurd hj (Nat.not_lt_zero j))
theorem l_X6_secondsTogether {M : lq_M} {a cap : Nat} (hS : sh6 S a cap) (hc : M a 4 ≤ cap) (hcap : cap ≤ 200) : ∀ (n i : Nat), i ≤ M a 4 → M a 4 - i < n → LW G YX6_secondsTogether 0 0 0 (lq_pu z S M N (.int (nI (q_sm (M (a + 2)) (M a 4))))) lq_no z S M N 4 [some (.ref a), some (.int (nI (q_sm (M (a + 2)) i))), some (.int (nI i))] [] := by
  intro n
  induction n with
  | zero => intro _ _ _; omega
  | succ n ih =>
    intro i hi hn
    refine qw_iload_n 2 dX6_secondsTogether_4 rfl rfl ?_
    refine qw_aload_n 0 dX6_secondsTogether_5 rfl rfl ?_
    refine qw_geti fX6_22 dX6_secondsTogether_6 hS.1 rfl ?_
    refine qw_icmp_geN 27 dX6_secondsTogether_9 (by decide) (by omega) (by omega) (fun c9 => ?_) (fun c9 => ?_)
    · refine qw_iload_n 1 dX6_secondsTogether_27 rfl rfl ?_
      exact qw_ireturn rfl rfl dX6_secondsTogether_28 ⟨by rw [show i = M a 4 by omega], rfl, rfl, rfl, rfl⟩
    · refine qw_iload_n 1 dX6_secondsTogether_12 rfl rfl ?_
      refine qw_aload_n 0 dX6_secondsTogether_13 rfl rfl ?_
      refine qw_getr fX6_13 dX6_secondsTogether_14 hS.1 rfl ?_
      refine qw_iload_n 2 dX6_secondsTogether_17 rfl rfl ?_
      refine qw_iald dX6_secondsTogether_18 hS.2.2.1 (by omega) (by omega) ?_
      refine qw_addN dX6_secondsTogether_19 ?_
      refine qw_istore_n 1 dX6_secondsTogether_20 rfl rfl (by decide) ?_
      refine qw_iincN 1 dX6_secondsTogether_21 rfl (by decide) rfl (by decide) ?_
      refine qw_goto 4 dX6_secondsTogether_24 (by decide) ?_
      exact ih (i + 1) (by omega) (by omega)
theorem k_X6_secondsTogether {M : lq_M} {a cap : Nat} (hS : sh6 S a cap) (hc : M a 4 ≤ cap) (hcap : cap ≤ 200) : LM G YX6_secondsTogether 0 0 0 [.ref a] z S M N (lq_pu z S M N (.int (nI (q_sm (M (a + 2)) (M a 4))))) lq_no := by
  refine LM.of (by decide) rfl [some (.ref a), none, none] rfl (Nat.le_of_ble_eq_true rfl) ?_
  refine qw_iconst (nI 0) dX6_secondsTogether_0 (by decide) ?_
  refine qw_istore_n 1 dX6_secondsTogether_1 rfl rfl (by decide) ?_
  refine qw_iconst (nI 0) dX6_secondsTogether_2 (by decide) ?_
  refine qw_istore_n 2 dX6_secondsTogether_3 rfl rfl (by decide) ?_
  exact l_X6_secondsTogether hS hc hcap (M a 4 + 1) 0 (by omega) (by omega)
theorem l_X6_sponsorSet {M : lq_M} {a cap : Nat} (hS : sh6 S a cap) (hc : M a 4 ≤ cap) (hcap : cap ≤ 200) (hb : ∀ j, j < M a 4 → M (a + 1) j < 31) : ∀ (n i : Nat), i ≤ M a 4 → M a 4 - i < n → LW G YX6_sponsorSet 0 0 0 (lq_pu z S M N (.int (nI (q_ss (M (a + 1)) (M a 4))))) lq_no z S M N 4 [some (.ref a), some (.int (nI (q_ss (M (a + 1)) i))), some (.int (nI i))] [] := by
  intro n
  induction n with
  | zero => intro _ _ _; omega
  | succ n ih =>
    intro i hi hn
    refine qw_iload_n 2 dX6_sponsorSet_4 rfl rfl ?_
    refine qw_aload_n 0 dX6_sponsorSet_5 rfl rfl ?_
    refine qw_geti fX6_22 dX6_sponsorSet_6 hS.1 rfl ?_
    refine qw_icmp_geN 29 dX6_sponsorSet_9 (by decide) (by omega) (by omega) (fun c9 => ?_) (fun c9 => ?_)
    · refine qw_iload_n 1 dX6_sponsorSet_29 rfl rfl ?_
      exact qw_ireturn rfl rfl dX6_sponsorSet_30 ⟨by rw [show i = M a 4 by omega], rfl, rfl, rfl, rfl⟩
    · have hbi := hb i (by omega)
      refine qw_iload_n 1 dX6_sponsorSet_12 rfl rfl ?_
      refine qw_iconst (nI 1) dX6_sponsorSet_13 (by decide) ?_
      refine qw_aload_n 0 dX6_sponsorSet_14 rfl rfl ?_
      refine qw_getr fX6_7 dX6_sponsorSet_15 hS.1 rfl ?_
      refine qw_iload_n 2 dX6_sponsorSet_18 rfl rfl ?_
      refine qw_iald dX6_sponsorSet_19 hS.2.1 (by omega) (by omega) ?_
      refine qw_shlN (by omega) (by rw [Nat.one_mul]; exact Nat.pow_lt_pow_right (by decide) (by omega)) dX6_sponsorSet_20 ?_
      refine qw_orN dX6_sponsorSet_21 ?_
      refine qw_istore_n 1 dX6_sponsorSet_22 rfl rfl (by decide) ?_
      refine qw_iincN 1 dX6_sponsorSet_23 rfl (by decide) rfl (by decide) ?_
      refine qw_goto 4 dX6_sponsorSet_26 (by decide) ?_
      exact ih (i + 1) (by omega) (by omega)
theorem k_X6_sponsorSet {M : lq_M} {a cap : Nat} (hS : sh6 S a cap) (hc : M a 4 ≤ cap) (hcap : cap ≤ 200) (hb : ∀ j, j < M a 4 → M (a + 1) j < 31) : LM G YX6_sponsorSet 0 0 0 [.ref a] z S M N (lq_pu z S M N (.int (nI (q_ss (M (a + 1)) (M a 4))))) lq_no := by
  refine LM.of (by decide) rfl [some (.ref a), none, none] rfl (Nat.le_of_ble_eq_true rfl) ?_
  refine qw_iconst (nI 0) dX6_sponsorSet_0 (by decide) ?_
  refine qw_istore_n 1 dX6_sponsorSet_1 rfl rfl (by decide) ?_
  refine qw_iconst (nI 0) dX6_sponsorSet_2 (by decide) ?_
  refine qw_istore_n 2 dX6_sponsorSet_3 rfl rfl (by decide) ?_
  exact l_X6_sponsorSet hS hc hcap hb (M a 4 + 1) 0 (by omega) (by omega)
theorem k_X6_tell {M : lq_M} {a cap : Nat} (hS : sh6 S a cap) (hc : M a 4 ≤ cap) (hcap : cap ≤ 200) {p : Nat} (k : Nat) (hp : p < M a 4) (hk : k < 4) : LM G YX6_tell 0 0 0 [.ref a, .int (nI p), .int (nI k)] z S M N (lq_pu z S M N (.int (nI (M (a + 1 + k) p)))) lq_no := by
  refine LM.of (by decide) rfl [some (.ref a), some (.int (nI p)), some (.int (nI k))] rfl (Nat.le_of_ble_eq_true rfl) ?_
  refine qw_iload_n 1 dX6_tell_0 rfl rfl ?_
  refine qw_if_ltN 12 dX6_tell_1 (by decide) (by omega) ?_
  refine qw_iload_n 1 dX6_tell_4 rfl rfl ?_
  refine qw_aload_n 0 dX6_tell_5 rfl rfl ?_
  refine qw_geti fX6_22 dX6_tell_6 hS.1 rfl ?_
  refine qw_icmp_ltN 14 dX6_tell_9 (by decide) (by omega) (by omega) (fun c9 => ?_) (fun c9 => absurd hp (by omega))
  refine qw_iload_n 2 dX6_tell_14 rfl rfl ?_
  rcases (show k = 0 ∨ k = 1 ∨ k = 2 ∨ 3 ≤ k by omega) with rfl | rfl | rfl | hw
  · refine qw_tabIn 40 dX6_tell_15 (by decide) (by decide) rfl (by decide) ?_
    refine qw_aload_n 0 dX6_tell_40 rfl rfl ?_
    refine qw_getr fX6_7 dX6_tell_41 hS.1 rfl ?_
    refine qw_iload_n 1 dX6_tell_44 rfl rfl ?_
    refine qw_iald dX6_tell_45 hS.2.1 (by omega) (by omega) ?_
    exact qw_ireturn rfl rfl dX6_tell_46 ⟨by first | rfl | (rw [show k = 3 by omega]), rfl, rfl, rfl, rfl⟩
  · refine qw_tabIn 47 dX6_tell_15 (by decide) (by decide) rfl (by decide) ?_
    refine qw_aload_n 0 dX6_tell_47 rfl rfl ?_
    refine qw_getr fX6_13 dX6_tell_48 hS.1 rfl ?_
    refine qw_iload_n 1 dX6_tell_51 rfl rfl ?_
    refine qw_iald dX6_tell_52 hS.2.2.1 (by omega) (by omega) ?_
    exact qw_ireturn rfl rfl dX6_tell_53 ⟨by first | rfl | (rw [show k = 3 by omega]), rfl, rfl, rfl, rfl⟩
  · refine qw_tabIn 54 dX6_tell_15 (by decide) (by decide) rfl (by decide) ?_
    refine qw_aload_n 0 dX6_tell_54 rfl rfl ?_
    refine qw_getr fX6_16 dX6_tell_55 hS.1 rfl ?_
    refine qw_iload_n 1 dX6_tell_58 rfl rfl ?_
    refine qw_iald dX6_tell_59 hS.2.2.2.1 (by omega) (by omega) ?_
    exact qw_ireturn rfl rfl dX6_tell_60 ⟨by first | rfl | (rw [show k = 3 by omega]), rfl, rfl, rfl, rfl⟩
  · refine qw_tabOut 61 dX6_tell_15 (Or.inr (by rw [nI_toInt (by omega)]; omega)) (by decide) ?_
    refine qw_aload_n 0 dX6_tell_61 rfl rfl ?_
    refine qw_getr fX6_19 dX6_tell_62 hS.1 rfl ?_
    refine qw_iload_n 1 dX6_tell_65 rfl rfl ?_
    refine qw_iald dX6_tell_66 hS.2.2.2.2 (by omega) (by omega) ?_
    exact qw_ireturn rfl rfl dX6_tell_67 ⟨by first | rfl | (rw [show k = 3 by omega]), rfl, rfl, rfl, rfl⟩
theorem l_X6_addTo_1 {M : lq_M} {a cap : Nat} (hS : sh6 S a cap) (hc : M a 4 ≤ cap) (hcap : cap ≤ 200) {t : Nat} {s : Int64} (ht : t ≤ 4) : ∀ (n k i : Nat) (s0 : Int64), i < M a 4 → k ≤ t → t - k < n → s0 = q_ado M a t s i → LW G YX6_addTo 1 0 0 (lq_pu z S M N (.long (q_ado M a t s (M a 4)))) lq_no z S M N 6 [some (.ref a), none, none, some (.int (nI t)), some (.long (q_ado M a t s (i + 1))), none, some (.int (nI (i + 1))), none] [] → LW G YX6_addTo 1 0 0 (lq_pu z S M N (.long (q_ado M a t s (M a 4)))) lq_no z S M N 18 [some (.ref a), none, none, some (.int (nI t)), some (.long (q_adi M a i s0 k)), none, some (.int (nI i)), some (.int (nI k))] [] := by
  intro n
  induction n with
  | zero => intro _ _ _ _ _ _ _ _; omega
  | succ n ih =>
    intro k i s0 hi hk hn hs kk
    refine qw_iload dX6_addTo_18 rfl ?_
    refine qw_iload_n 3 dX6_addTo_20 rfl rfl ?_
    refine qw_icmp_geN 48 dX6_addTo_21 (by decide) (by omega) (by omega) (fun c21 => ?_) (fun c21 => ?_)
    · refine qw_iincN 1 dX6_addTo_48 rfl (by decide) rfl (by decide) ?_
      refine qw_goto 6 dX6_addTo_51 (by decide) ?_
      have e : q_adi M a i s0 k = q_ado M a t s (i + 1) := by rw [show k = t by omega, hs]; rfl
      rw [e]
      exact qw_weak [some (.ref a), none, none, some (.int (nI t)), some (.long (q_ado M a t s (i + 1))), none, some (.int (nI (i + 1))), none] (by simp [lq_le]) kk
    · refine qw_ldc2 dX6_addTo_24 kX6_44 ?_
      refine qw_lload dX6_addTo_27 rfl ?_
      refine qw_lmul dX6_addTo_29 ?_
      refine qw_aload_n 0 dX6_addTo_30 rfl rfl ?_
      refine qw_iload dX6_addTo_31 rfl ?_
      refine qw_iload dX6_addTo_33 rfl ?_
      refine qw_cvp [_, _] (k_X6_tell hS hc hcap k (by omega) (by omega)) mX6_46 dX6_addTo_35 hS.1 rfl rfl rfl (Nat.le_of_ble_eq_true rfl) (by omega) (by decide) rfl ?_
      refine qw_i2l _ dX6_addTo_38 rfl ?_
      refine qw_ladd dX6_addTo_39 ?_
      refine qw_lstore dX6_addTo_40 rfl (by decide) ?_
      refine qw_iincN 1 dX6_addTo_42 rfl (by decide) rfl (by decide) ?_
      refine qw_goto 18 dX6_addTo_45 (by decide) ?_
      exact ih (k + 1) i s0 hi (by omega) (by omega) hs kk
theorem l_X6_addTo {M : lq_M} {a cap : Nat} (hS : sh6 S a cap) (hc : M a 4 ≤ cap) (hcap : cap ≤ 200) {t : Nat} {s : Int64} (ht : t ≤ 4) : ∀ (n i : Nat), i ≤ M a 4 → M a 4 - i < n → LW G YX6_addTo 1 0 0 (lq_pu z S M N (.long (q_ado M a t s (M a 4)))) lq_no z S M N 6 [some (.ref a), none, none, some (.int (nI t)), some (.long (q_ado M a t s i)), none, some (.int (nI i)), none] [] := by
  intro n
  induction n with
  | zero => intro _ _ _; omega
  | succ n ih =>
    intro i hi hn
    refine qw_iload dX6_addTo_6 rfl ?_
    refine qw_aload_n 0 dX6_addTo_8 rfl rfl ?_
    refine qw_geti fX6_22 dX6_addTo_9 hS.1 rfl ?_
    refine qw_icmp_geN 54 dX6_addTo_12 (by decide) (by omega) (by omega) (fun c12 => ?_) (fun c12 => ?_)
    · refine qw_lload dX6_addTo_54 rfl ?_
      exact qw_lreturn rfl dX6_addTo_56 ⟨by rw [show i = M a 4 by omega], rfl, rfl, rfl, rfl⟩
    · refine qw_iconst (nI 0) dX6_addTo_15 (by decide) ?_
      refine qw_istore dX6_addTo_16 rfl (by decide) ?_
      exact l_X6_addTo_1 hS hc hcap ht (t + 1) 0 i _ (by omega) (by omega) (by omega) rfl (ih (i + 1) (by omega) (by omega))
theorem k_X6_addTo {M : lq_M} {a cap : Nat} (hS : sh6 S a cap) (hc : M a 4 ≤ cap) (hcap : cap ≤ 200) {t : Nat} {s : Int64} (ht : t ≤ 4) : LM G YX6_addTo 1 0 0 [.ref a, .long s, .int (nI t)] z S M N (lq_pu z S M N (.long (q_ado M a t s (M a 4)))) lq_no := by
  refine LM.of (by decide) rfl [some (.ref a), some (.long s), none, some (.int (nI t)), none, none, none, none] rfl (Nat.le_of_ble_eq_true rfl) ?_
  refine qw_lload_n 1 dX6_addTo_0 rfl rfl ?_
  refine qw_lstore dX6_addTo_1 rfl (by decide) ?_
  refine qw_iconst (nI 0) dX6_addTo_3 (by decide) ?_
  refine qw_istore dX6_addTo_4 rfl (by decide) ?_
  exact qw_weak [some (.ref a), none, none, some (.int (nI t)), some (.long s), none, some (.int (nI 0)), none] (by simp [lq_le]) (l_X6_addTo hS hc hcap ht (M a 4 + 1) 0 (by omega) (by omega))
end SR1
