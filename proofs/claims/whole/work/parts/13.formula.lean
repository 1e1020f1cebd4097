/-! a break; the price expression -/
def q_bsd (M : lq_M) (a dd hh ll uu : Nat) (M' : lq_M) : Prop := M' a 0 = dd ∧ M' a 1 = hh ∧ M' a 2 = ll ∧ M' a 3 = uu ∧ M' a 4 = 0 ∧ M' (a + 1) 4 = 0 ∧ ∀ b, b ≠ a → b ≠ a + 1 → M' b = M b
def q_cpb (M : lq_M) (a o : Nat) (M' : lq_M) : Prop := (∀ j, j < 5 → M' a j = M o j) ∧ (∀ k, 1 ≤ k → k ≤ 4 → ∀ q, q < M (o + 1) 4 → M' (a + 1 + k) q = M (o + 1 + k) q) ∧ M' (a + 1) 4 = M (o + 1) 4 ∧ q_fr a (a + 6) M M'
def q_op (k : Nat) (a b : Int) : Int := max (-1000000) (min 1000000 (if k = 2 then a + b else if k = 3 then a - b else if k = 4 then a * b else if b = 0 then 0 else a.tdiv b))
theorem q_op_in (k : Nat) (a b : Int) : -1000000 ≤ q_op k a b ∧ q_op k a b ≤ 1000000 := by
  unfold q_op
  omega
/-- a token: 0 a number, 1 a variable, 2 plus, 3 minus, 4 times, 5 divided -/
def q_enc (t : Nat × Nat) : Nat := if t.1 = 0 then t.2 else if t.1 = 1 then 4294967295 - t.2 else 4294967292 - t.1
def q_stp (e : Nat → Nat) (t : Nat × Nat) (s : Nat × (Nat → Int)) : Nat × (Nat → Int) :=
  if t.1 = 0 then (s.1 + 1, fun j => if j = s.1 then (t.2 : Int) else s.2 j) else if t.1 = 1 then (s.1 + 1, fun j => if j = s.1 then (e t.2 : Int) else s.2 j) else (s.1 - 1, fun j => if j = s.1 - 2 then q_op t.1 (s.2 (s.1 - 2)) (s.2 (s.1 - 1)) else s.2 j)
def q_evn (e : Nat → Nat) (tk : Nat → Nat × Nat) : Nat → Nat × (Nat → Int)
  | 0 => (0, fun _ => 0)
  | n + 1 => q_stp e (tk n) (q_evn e tk n)
def q_hgt (tk : Nat → Nat × Nat) : Nat → Nat
  | 0 => 0
  | n + 1 => if (tk n).1 ≤ 1 then q_hgt tk n + 1 else q_hgt tk n - 1
theorem q_evn_h (e : Nat → Nat) (tk : Nat → Nat × Nat) : ∀ n, (q_evn e tk n).1 = q_hgt tk n
  | 0 => rfl
  | n + 1 => by
    rw [q_evn, q_hgt, q_stp]
    by_cases h0 : (tk n).1 = 0
    · rw [if_pos h0, if_pos (by omega), q_evn_h e tk n]
    · rw [if_neg h0]
      by_cases h1 : (tk n).1 = 1
      · rw [if_pos h1, if_pos (by omega), q_evn_h e tk n]
      · rw [if_neg h1, if_neg (by omega), q_evn_h e tk n]
/-- one token is right at its place -/
def q_tok (t : Nat × Nat) (h : Nat) : Prop := (t.1 = 0 ∧ t.2 ≤ 9999 ∧ h < 11) ∨ (t.1 = 1 ∧ t.2 < 5 ∧ h < 11) ∨ (2 ≤ t.1 ∧ t.1 ≤ 5 ∧ 2 ≤ h)
def q_fwf (tk : Nat → Nat × Nat) (n : Nat) : Prop := (∀ i, i < n → q_tok (tk i) (q_hgt tk i)) ∧ q_hgt tk n = 1
theorem q_hgt_le {tk : Nat → Nat × Nat} {n : Nat} (h : ∀ i, i < n → q_tok (tk i) (q_hgt tk i)) : ∀ i, i ≤ n → q_hgt tk i ≤ 11
  | 0, _ => Nat.zero_le _
  | i + 1, hi => by
    have ih := q_hgt_le h i (by omega)
    have ht := h i (by omega)
    unfold q_tok at ht
    rw [q_hgt]
    split <;> omega
def q_big (x : Int) : Prop := -1000000 ≤ x ∧ x ≤ 1000000
theorem q_evn_in {e : Nat → Nat} {tk : Nat → Nat × Nat} {n : Nat} (he : ∀ k, k < 5 → e k ≤ 1000000) (h : ∀ i, i < n → q_tok (tk i) (q_hgt tk i)) : ∀ i, i ≤ n → ∀ j, j < q_hgt tk i → q_big ((q_evn e tk i).2 j)
  | 0, _, j, hj => absurd hj (Nat.not_lt_zero j)
  | i + 1, hi, j, hj => by
    have ih := q_evn_in he h i (by omega)
    have ht := h i (by omega)
    have hh := q_evn_h e tk i
    rw [q_evn, q_stp]
    rw [q_hgt] at hj
    unfold q_big at ih ⊢
    rcases ht with ⟨h0, hv, hl⟩ | ⟨h0, hv, hl⟩ | ⟨h0, hv, hl⟩
    · rw [if_pos h0]
      rw [if_pos (by omega)] at hj
      show -1000000 ≤ (if j = _ then _ else _) ∧ (if j = _ then _ else _) ≤ _
      by_cases q : j = (q_evn e tk i).1
      · rw [if_pos q]; omega
      · rw [if_neg q]; exact ih j (by omega)
    · rw [if_neg (by omega), if_pos h0]
      rw [if_pos (by omega)] at hj
      show -1000000 ≤ (if j = _ then _ else _) ∧ (if j = _ then _ else _) ≤ _
      have h9 := he _ hv
      by_cases q : j = (q_evn e tk i).1
      · rw [if_pos q]; omega
      · rw [if_neg q]; exact ih j (by omega)
    · rw [if_neg (by omega), if_neg (by omega)]
      rw [if_neg (by omega)] at hj
      show -1000000 ≤ (if j = _ then _ else _) ∧ (if j = _ then _ else _) ≤ _
      by_cases q : j = (q_evn e tk i).1 - 2
      · rw [if_pos q]; exact q_op_in _ _ _
      · rw [if_neg q]; exact ih j (by omega)
def q_u (x : Int32) : Nat := x.toBitVec.toNat
theorem q_u_n (x : Int32) : nI (q_u x) = x := by
  apply Int32.toBitVec_inj.mp
  show BitVec.ofNat 32 x.toBitVec.toNat = x.toBitVec
  simp
theorem q_i2l {v : Int} (h : q_big v) : (Int32.ofInt v).toInt64 = Int64.ofInt v := by
  apply Int64.toInt_inj.mp
  unfold q_big at h
  rw [Int32.toInt_toInt64, Int32.toInt_ofInt_of_le (by omega) (by omega), Int64.toInt_ofInt_of_le (by omega) (by omega)]
theorem q_nI_ofInt (n : Nat) : Int32.ofInt (n : Int) = nI n := rfl
section BR1
variable {G : lq_G} {z : Nat} {S : lq_S} {N : lq_N}
theorem k_X0_setUp {M : lq_M} {a dd hh ll uu : Nat} (hS : sh0 S a) : LM G YX0_setUp 0 0 0 [.ref a, .int (nI dd), .int (nI hh), .int (nI ll), .int (nI uu)] z S M N (lq_mv z S N (q_bsd M a dd hh ll uu)) lq_no := by
  refine LM.of (by decide) rfl [some (.ref a), some (.int (nI dd)), some (.int (nI hh)), some (.int (nI ll)), some (.int (nI uu))] rfl (Nat.le_of_ble_eq_true rfl) ?_
  refine qw_aload_n 0 dX0_setUp_0 rfl rfl ?_
  refine qw_iload_n 1 dX0_setUp_1 rfl rfl ?_
  refine qw_puti fX0_20 dX0_setUp_2 hS.1 rfl ?_
  refine qw_aload_n 0 dX0_setUp_5 rfl rfl ?_
  refine qw_iload_n 2 dX0_setUp_6 rfl rfl ?_
  refine qw_puti fX0_24 dX0_setUp_7 hS.1 rfl ?_
  refine qw_aload_n 0 dX0_setUp_10 rfl rfl ?_
  refine qw_iload_n 3 dX0_setUp_11 rfl rfl ?_
  refine qw_puti fX0_27 dX0_setUp_12 hS.1 rfl ?_
  refine qw_aload_n 0 dX0_setUp_15 rfl rfl ?_
  refine qw_iload dX0_setUp_16 rfl ?_
  refine qw_puti fX0_30 dX0_setUp_18 hS.1 rfl ?_
  refine qw_aload_n 0 dX0_setUp_21 rfl rfl ?_
  refine qw_iconst (nI 0) dX0_setUp_22 (by decide) ?_
  refine qw_puti fX0_33 dX0_setUp_23 hS.1 rfl ?_
  refine qw_aload_n 0 dX0_setUp_26 rfl rfl ?_
  refine qw_getr fX0_14 dX0_setUp_27 hS.1 rfl ?_
  refine qw_iconst (nI 0) dX0_setUp_30 (by decide) ?_
  refine qw_puti fX0_36 dX0_setUp_31 hS.2.1 rfl ?_
  exact qw_return rfl dX0_setUp_34 ⟨rfl, rfl, rfl, rfl, by simp [lq_up], by simp [lq_up], by simp [lq_up], by simp [lq_up], by simp [lq_up], by simp [lq_up], fun b h1 h2 => by simp [lq_up, h1, h2]⟩
def q_cpb5 (M : lq_M) (a o : Nat) : Nat → lq_M
  | 0 => M
  | k + 1 => lq_up (q_cpb5 M a o k) a k (q_cpb5 M a o k o k)
theorem q_cpb_n {M : lq_M} {a o b : Nat} (k : Nat) (hb : b ≠ a) : q_cpb5 M a o k b = M b := by
  induction k with
  | zero => rfl
  | succ k ih => rw [q_cpb5, lq_up_n _ _ _ hb, ih]
theorem q_cpb_a {M : lq_M} {a o : Nat} (ho : o ≠ a) : ∀ k j, j < k → q_cpb5 M a o k a j = M o j
  | 0, j, h => absurd h (Nat.not_lt_zero j)
  | k + 1, j, h => by
    rw [q_cpb5, q_cpb_n k ho]
    by_cases e : j = k
    · rw [e, lq_up_s]
    · rw [lq_up_c _ _ e, q_cpb_a ho k j (by omega)]
theorem q_cpb_e {M : lq_M} {a o : Nat} (hd : o + 5 < a ∨ a + 5 < o) : q_cpb5 M a o 5 (o + 1) 4 = M (o + 1) 4 := by rw [q_cpb_n 5 (by omega)]
theorem q_cpb_mk {M M1 : lq_M} {a o : Nat} (hd : o + 5 < a ∨ a + 5 < o) (h : q_cpyd (q_cpb5 M a o 5) (a + 1) (o + 1) M1) : q_cpb M a o M1 := by
  obtain ⟨h1, h2, h3, h4⟩ := h
  refine ⟨fun j hj => ?_, fun k k1 k4 q hq => ?_, ?_, fun b hb => ?_⟩
  · rw [h4 a (by omega), q_cpb_a (by omega) 5 j hj]
  · rw [h1 k k1 k4 q (by rw [q_cpb_n 5 (by omega)]; exact hq), q_cpb_n 5 (by omega)]
  · rw [h2, q_cpb_n 5 (by omega)]
  · rw [h4 b (by omega), q_cpb_n 5 (by omega)]
theorem k_X0_copyFrom {M : lq_M} {a o : Nat} (hS : sh0 S a) (hO : sh0 S o) (hn : M (o + 1) 4 ≤ 8) (hd : o + 5 < a ∨ a + 5 < o) : LM G YX0_copyFrom 2 0 0 [.ref a, .ref o] z S M N (lq_mv z S N (q_cpb M a o)) lq_no := by
  refine LM.of (by decide) rfl [some (.ref a), some (.ref o)] rfl (Nat.le_of_ble_eq_true rfl) ?_
  refine qw_aload_n 0 dX0_copyFrom_0 rfl rfl ?_
  refine qw_aload_n 1 dX0_copyFrom_1 rfl rfl ?_
  refine qw_geti fX0_20 dX0_copyFrom_2 hO.1 rfl ?_
  refine qw_puti fX0_20 dX0_copyFrom_5 hS.1 rfl ?_
  refine qw_aload_n 0 dX0_copyFrom_8 rfl rfl ?_
  refine qw_aload_n 1 dX0_copyFrom_9 rfl rfl ?_
  refine qw_geti fX0_24 dX0_copyFrom_10 hO.1 rfl ?_
  refine qw_puti fX0_24 dX0_copyFrom_13 hS.1 rfl ?_
  refine qw_aload_n 0 dX0_copyFrom_16 rfl rfl ?_
  refine qw_aload_n 1 dX0_copyFrom_17 rfl rfl ?_
  refine qw_geti fX0_27 dX0_copyFrom_18 hO.1 rfl ?_
  refine qw_puti fX0_27 dX0_copyFrom_21 hS.1 rfl ?_
  refine qw_aload_n 0 dX0_copyFrom_24 rfl rfl ?_
  refine qw_aload_n 1 dX0_copyFrom_25 rfl rfl ?_
  refine qw_geti fX0_30 dX0_copyFrom_26 hO.1 rfl ?_
  refine qw_puti fX0_30 dX0_copyFrom_29 hS.1 rfl ?_
  refine qw_aload_n 0 dX0_copyFrom_32 rfl rfl ?_
  refine qw_aload_n 1 dX0_copyFrom_33 rfl rfl ?_
  refine qw_geti fX0_33 dX0_copyFrom_34 hO.1 rfl ?_
  refine qw_puti fX0_33 dX0_copyFrom_37 hS.1 rfl ?_
  show LW G YX0_copyFrom 2 0 0 _ _ z S (q_cpb5 M a o 5) N _ _ _
  refine qw_aload_n 0 dX0_copyFrom_40 rfl rfl ?_
  refine qw_getr fX0_14 dX0_copyFrom_41 hS.1 rfl ?_
  refine qw_aload_n 1 dX0_copyFrom_44 rfl rfl ?_
  refine qw_getr fX0_14 dX0_copyFrom_45 hO.1 rfl ?_
  refine qw_cvv [_] (k_X6_copyFrom hS.2 hO.2 (by decide) (by decide) (by rw [q_cpb_e hd]; exact hn) (by rw [q_cpb_e hd]; exact hn) (by omega)) mX0_39 dX0_copyFrom_48 hS.2.1 rfl rfl rfl (Nat.le_of_ble_eq_true rfl) (by omega) (by decide) rfl (fun M1 h1 => ?_)
  exact qw_return rfl dX0_copyFrom_51 ⟨rfl, rfl, rfl, rfl, q_cpb_mk hd h1⟩
theorem k_X0_isLaterThan {M : lq_M} {a dd hh : Nat} (hS : sh0 S a) (h0 : M a 0 < 2 ^ 31) (h1 : M a 1 < 2 ^ 31) (h2 : dd < 2 ^ 31) (h3 : hh < 2 ^ 31) : LM G YX0_isLaterThan 0 0 0 [.ref a, .int (nI dd), .int (nI hh)] z S M N (lq_pu z S M N (.int (nI (if dd < M a 0 ∨ (M a 0 = dd ∧ hh < M a 1) then 1 else 0)))) lq_no := by
  refine LM.of (by decide) rfl [some (.ref a), some (.int (nI dd)), some (.int (nI hh))] rfl (Nat.le_of_ble_eq_true rfl) ?_
  refine qw_aload_n 0 dX0_isLaterThan_0 rfl rfl ?_
  refine qw_geti fX0_20 dX0_isLaterThan_1 hS.1 rfl ?_
  refine qw_iload_n 1 dX0_isLaterThan_4 rfl rfl ?_
  refine qw_icmp_gtN 24 dX0_isLaterThan_5 (by decide) (by omega) (by omega) (fun c5 => ?_) (fun c5 => ?_)
  · refine qw_iconst (nI 1) dX0_isLaterThan_24 (by decide) ?_
    refine qw_goto 29 dX0_isLaterThan_25 (by decide) ?_
    exact qw_ireturn rfl (by decide) dX0_isLaterThan_29 ⟨by first | (rw [if_pos (by omega)]; done) | (rw [if_neg (by omega)]; done), rfl, rfl, rfl, rfl⟩
  · refine qw_aload_n 0 dX0_isLaterThan_8 rfl rfl ?_
    refine qw_geti fX0_20 dX0_isLaterThan_9 hS.1 rfl ?_
    refine qw_iload_n 1 dX0_isLaterThan_12 rfl rfl ?_
    refine qw_icmp_neN 28 dX0_isLaterThan_13 (by decide) (by omega) (by omega) (fun c13 => ?_) (fun c13 => ?_)
    · refine qw_iconst (nI 0) dX0_isLaterThan_28 (by decide) ?_
      exact qw_ireturn rfl (by decide) dX0_isLaterThan_29 ⟨by first | (rw [if_pos (by omega)]; done) | (rw [if_neg (by omega)]; done), rfl, rfl, rfl, rfl⟩
    · refine qw_aload_n 0 dX0_isLaterThan_16 rfl rfl ?_
      refine qw_geti fX0_24 dX0_isLaterThan_17 hS.1 rfl ?_
      refine qw_iload_n 2 dX0_isLaterThan_20 rfl rfl ?_
      refine qw_icmp_leN 28 dX0_isLaterThan_21 (by decide) (by omega) (by omega) (fun c21 => ?_) (fun c21 => ?_)
      · refine qw_iconst (nI 0) dX0_isLaterThan_28 (by decide) ?_
        exact qw_ireturn rfl (by decide) dX0_isLaterThan_29 ⟨by first | (rw [if_pos (by omega)]; done) | (rw [if_neg (by omega)]; done), rfl, rfl, rfl, rfl⟩
      · refine qw_iconst (nI 1) dX0_isLaterThan_24 (by decide) ?_
        refine qw_goto 29 dX0_isLaterThan_25 (by decide) ?_
        exact qw_ireturn rfl (by decide) dX0_isLaterThan_29 ⟨by first | (rw [if_pos (by omega)]; done) | (rw [if_neg (by omega)]; done), rfl, rfl, rfl, rfl⟩
theorem k_X2_clear {M : lq_M} {a : Nat} (hS : sh2 S a) : LM G YX2_clear 0 0 0 [.ref a] z S M N (lq_mv z S N (fun M1 => M1 = lq_up M a 1 0)) lq_no := by
  refine LM.of (by decide) rfl [some (.ref a)] rfl (Nat.le_of_ble_eq_true rfl) ?_
  refine qw_aload_n 0 dX2_clear_0 rfl rfl ?_
  refine qw_iconst (nI 0) dX2_clear_1 (by decide) ?_
  refine qw_puti fX2_21 dX2_clear_2 hS.1 rfl ?_
  exact qw_return rfl dX2_clear_5 ⟨rfl, rfl, rfl, rfl, rfl⟩
def q_emd (M : lq_M) (a c : Nat) : lq_M := lq_up (lq_up M (a + 1) (M a 1) c) a 1 (M a 1 + 1)
theorem k_X2_emit {M : lq_M} {a c : Nat} (hS : sh2 S a) (hn : M a 1 < 800) : LM G YX2_emit 0 0 0 [.ref a, .int (nI c)] z S M N (lq_mv z S N (fun M1 => M1 = q_emd M a c)) lq_no := by
  refine LM.of (by decide) rfl [some (.ref a), some (.int (nI c))] rfl (Nat.le_of_ble_eq_true rfl) ?_
  refine qw_aload_n 0 dX2_emit_0 rfl rfl ?_
  refine qw_geti fX2_21 dX2_emit_1 hS.1 rfl ?_
  refine qw_aload_n 0 dX2_emit_4 rfl rfl ?_
  refine qw_getr fX2_9 dX2_emit_5 hS.1 rfl ?_
  refine qw_aleni dX2_emit_8 hS.2.1 ?_
  refine qw_icmp_geN 32 dX2_emit_9 (by decide) (by omega) (by omega) (fun c9 => absurd hn (by omega)) (fun c9 => ?_)
  refine qw_aload_n 0 dX2_emit_12 rfl rfl ?_
  refine qw_getr fX2_9 dX2_emit_13 hS.1 rfl ?_
  refine qw_aload_n 0 dX2_emit_16 rfl rfl ?_
  refine qw_geti fX2_21 dX2_emit_17 hS.1 rfl ?_
  refine qw_iload_n 1 dX2_emit_20 rfl rfl ?_
  refine qw_iast dX2_emit_21 hS.2.1 (by omega) (by omega) ?_
  refine qw_aload_n 0 dX2_emit_22 rfl rfl ?_
  refine qw_dup dX2_emit_23 rfl ?_
  refine qw_geti fX2_21 dX2_emit_24 hS.1 rfl ?_
  refine qw_iconst (nI 1) dX2_emit_27 (by decide) ?_
  refine qw_addN dX2_emit_28 ?_
  refine qw_puti fX2_21 dX2_emit_29 hS.1 rfl ?_
  exact qw_return rfl dX2_emit_32 ⟨rfl, rfl, rfl, rfl, by rw [q_emd, lq_up_n _ _ _ (show a ≠ a + 1 by omega)]⟩
def q_fcp (M : lq_M) (a o : Nat) (M1 : lq_M) : Prop := M1 a 1 = M o 1 ∧ (∀ j, j < M o 1 → M1 (a + 1) j = M (o + 1) j) ∧ ∀ b, b ≠ a → b ≠ a + 1 → M1 b = M b
def q_fcI (M : lq_M) (a o t : Nat) (M1 : lq_M) : Prop := M1 a 1 = t ∧ (∀ j, j < t → M1 (a + 1) j = M (o + 1) j) ∧ ∀ b, b ≠ a → b ≠ a + 1 → M1 b = M b
theorem l_X2_copyFrom {M0 : lq_M} {a o : Nat} (hS : sh2 S a) (hO : sh2 S o) (hn : M0 o 1 ≤ 800) (hd : o + 3 < a ∨ a + 3 < o) : ∀ (n t : Nat) (M : lq_M), t ≤ M0 o 1 → M0 o 1 - t < n → q_fcI M0 a o t M → LW G YX2_copyFrom 1 0 0 (lq_mv z S N (q_fcp M0 a o)) lq_no z S M N 7 [some (.ref a), some (.ref o), some (.int (nI t))] [] := by
  intro n
  induction n with
  | zero => intro _ _ _ _ _; omega
  | succ n ih =>
    intro t M htn hn9 hI
    have eo : M o = M0 o := hI.2.2 o (by omega) (by omega)
    have eo1 : M (o + 1) = M0 (o + 1) := hI.2.2 (o + 1) (by omega) (by omega)
    refine qw_iload_n 2 dX2_copyFrom_7 rfl rfl ?_
    refine qw_aload_n 1 dX2_copyFrom_8 rfl rfl ?_
    have eob : M o 1 ≤ 800 := by rw [eo]; exact hn
    refine qw_geti fX2_21 dX2_copyFrom_9 hO.1 rfl ?_
    refine qw_icmp_geN 31 dX2_copyFrom_12 (by decide) (by omega) (by omega) (fun c12 => ?_) (fun c12 => ?_)
    · exact qw_return rfl dX2_copyFrom_31 ⟨rfl, rfl, rfl, rfl, show q_fcI M0 a o (M0 o 1) M from (show t = M0 o 1 by rw [eo] at c12; omega) ▸ hI⟩
    · refine qw_aload_n 0 dX2_copyFrom_15 rfl rfl ?_
      refine qw_aload_n 1 dX2_copyFrom_16 rfl rfl ?_
      refine qw_getr fX2_9 dX2_copyFrom_17 hO.1 rfl ?_
      refine qw_iload_n 2 dX2_copyFrom_20 rfl rfl ?_
      refine qw_iald dX2_copyFrom_21 hO.2.1 (by rw [eo] at c12; omega) (by omega) ?_
      refine qw_cvv [_] (k_X2_emit hS (by rw [hI.1]; rw [eo] at c12; omega)) mX2_28 dX2_copyFrom_22 hS.1 rfl rfl rfl (Nat.le_of_ble_eq_true rfl) (by omega) (by decide) rfl (fun M1 h1 => ?_)
      refine qw_iincN 1 dX2_copyFrom_25 rfl (by decide) rfl (by decide) ?_
      refine qw_goto 7 dX2_copyFrom_28 (by decide) ?_
      refine ih (t + 1) M1 (by rw [eo] at c12; omega) (by rw [eo] at c12; omega) ?_
      obtain ⟨i1, i2, i3⟩ := hI
      rw [h1, q_emd]
      refine ⟨by rw [lq_up_s, i1], fun j hj => ?_, fun b h1 h2 => by rw [lq_up_n _ _ _ h1, lq_up_n _ _ _ h2]; exact i3 b h1 h2⟩
      rw [lq_up_n _ _ _ (by omega), i1]
      by_cases e : j = t
      · rw [e, lq_up_s, eo1]
      · rw [lq_up_c _ _ e]; exact i2 j (by omega)
theorem k_X2_copyFrom {M : lq_M} {a o : Nat} (hS : sh2 S a) (hO : sh2 S o) (hn : M o 1 ≤ 800) (hd : o + 3 < a ∨ a + 3 < o) : LM G YX2_copyFrom 1 0 0 [.ref a, .ref o] z S M N (lq_mv z S N (q_fcp M a o)) lq_no := by
  refine LM.of (by decide) rfl [some (.ref a), some (.ref o), none] rfl (Nat.le_of_ble_eq_true rfl) ?_
  refine qw_aload_n 0 dX2_copyFrom_0 rfl rfl ?_
  refine qw_iconst (nI 0) dX2_copyFrom_1 (by decide) ?_
  refine qw_puti fX2_21 dX2_copyFrom_2 hS.1 rfl ?_
  refine qw_iconst (nI 0) dX2_copyFrom_5 (by decide) ?_
  refine qw_istore_n 2 dX2_copyFrom_6 rfl rfl (by decide) ?_
  exact l_X2_copyFrom hS hO hn hd (M o 1 + 1) 0 _ (Nat.zero_le _) (by omega) ⟨lq_up_s _ _ _ _, fun j hj => absurd hj (Nat.not_lt_zero j), fun b h1 h2 => lq_up_n _ _ _ h1⟩
def q_dft : Nat → Nat × Nat := fun i => if i = 0 then (1, 0) else if i = 1 then (1, 2) else if i = 2 then (4, 0) else if i = 3 then (0, 10) else (5, 0)
def q_fdd (M : lq_M) (a : Nat) (M1 : lq_M) : Prop := M1 a 1 = 5 ∧ (∀ j, j < 5 → M1 (a + 1) j = q_enc (q_dft j)) ∧ ∀ b, b ≠ a → b ≠ a + 1 → M1 b = M b
theorem k_X2_setDefault {M : lq_M} {a : Nat} (hS : sh2 S a) : LM G YX2_setDefault 1 0 0 [.ref a] z S M N (lq_mv z S N (q_fdd M a)) lq_no := by
  refine LM.of (by decide) rfl [some (.ref a)] rfl (Nat.le_of_ble_eq_true rfl) ?_
  refine qw_aload_n 0 dX2_setDefault_0 rfl rfl ?_
  refine qw_cvv [] (k_X2_clear hS) mX2_25 dX2_setDefault_1 hS.1 rfl rfl rfl (Nat.le_of_ble_eq_true rfl) (by omega) (by decide) rfl (fun M0 h0 => ?_)
  subst h0
  refine qw_aload_n 0 dX2_setDefault_4 rfl rfl ?_
  refine qw_iconst (-1) dX2_setDefault_5 (by decide) ?_
  refine qw_eqi (nI 4294967295) (by decide) ?_
  refine qw_cvv [_] (k_X2_emit hS (by simp [q_emd, lq_up])) mX2_28 dX2_setDefault_6 hS.1 rfl rfl rfl (Nat.le_of_ble_eq_true rfl) (by omega) (by decide) rfl (fun M1 h1 => ?_)
  subst h1
  refine qw_aload_n 0 dX2_setDefault_9 rfl rfl ?_
  refine qw_bipush (-3) dX2_setDefault_10 (by decide) ?_
  refine qw_eqi (nI 4294967293) (by decide) ?_
  refine qw_cvv [_] (k_X2_emit hS (by simp [q_emd, lq_up])) mX2_28 dX2_setDefault_12 hS.1 rfl rfl rfl (Nat.le_of_ble_eq_true rfl) (by omega) (by decide) rfl (fun M2 h2 => ?_)
  subst h2
  refine qw_aload_n 0 dX2_setDefault_15 rfl rfl ?_
  refine qw_bipush (-8) dX2_setDefault_16 (by decide) ?_
  refine qw_eqi (nI 4294967288) (by decide) ?_
  refine qw_cvv [_] (k_X2_emit hS (by simp [q_emd, lq_up])) mX2_28 dX2_setDefault_18 hS.1 rfl rfl rfl (Nat.le_of_ble_eq_true rfl) (by omega) (by decide) rfl (fun M3 h3 => ?_)
  subst h3
  refine qw_aload_n 0 dX2_setDefault_21 rfl rfl ?_
  refine qw_bipush (nI 10) dX2_setDefault_22 (by decide) ?_
  refine qw_cvv [_] (k_X2_emit hS (by simp [q_emd, lq_up])) mX2_28 dX2_setDefault_24 hS.1 rfl rfl rfl (Nat.le_of_ble_eq_true rfl) (by omega) (by decide) rfl (fun M4 h4 => ?_)
  subst h4
  refine qw_aload_n 0 dX2_setDefault_27 rfl rfl ?_
  refine qw_bipush (-9) dX2_setDefault_28 (by decide) ?_
  refine qw_eqi (nI 4294967287) (by decide) ?_
  refine qw_cvv [_] (k_X2_emit hS (by simp [q_emd, lq_up])) mX2_28 dX2_setDefault_30 hS.1 rfl rfl rfl (Nat.le_of_ble_eq_true rfl) (by omega) (by decide) rfl (fun M5 h5 => ?_)
  subst h5
  exact qw_return rfl dX2_setDefault_33 ⟨rfl, rfl, rfl, rfl, by simp [q_emd, lq_up], fun j hj => by
        rcases (show j = 0 ∨ j = 1 ∨ j = 2 ∨ j = 3 ∨ j = 4 by omega) with rfl | rfl | rfl | rfl | rfl <;> simp [q_emd, lq_up, q_enc, q_dft], fun b h1 h2 => by simp [q_emd, lq_up, h1, h2]⟩
end BR1
