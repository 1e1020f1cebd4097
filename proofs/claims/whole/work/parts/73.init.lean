/-! CONSTRUCTORS -/
theorem lq_um_n {S : lq_S} {z n k b : Nat} (h : b < z ∨ z + n < b) : lq_um S z n k b = S b := by
  unfold lq_um
  rw [if_neg (by omega), if_neg (by omega)]
theorem lq_um_o {S : lq_S} {z n k : Nat} : lq_um S z n k z = some (.inr (.inr (3, n, fun i => if i < n then some (z + 1 + i) else none))) := by
  unfold lq_um
  rw [if_pos rfl]
theorem lq_um_i {S : lq_S} {z n k b : Nat} (h : z < b ∧ b ≤ z + n) : lq_um S z n k b = some (.inr (.inl (0, k))) := by
  unfold lq_um
  rw [if_neg (by omega), if_pos h]
theorem lq_oi1 : Cond.instanceMethod Lib.objectInit ∈ lq_W := lq_in (by decide +kernel) (by decide +kernel)
theorem lq_oi2 : Cond.code Lib.objectInit ⟨#[0xb1]⟩ 1 none ∈ lq_W := lq_in (by decide +kernel) (by decide +kernel)
theorem lq_arB : Cond.arrayClass .byte ∈ lq_W := lq_in (by decide +kernel) (by decide +kernel)
theorem lq_arL : Cond.arrayClass .long ∈ lq_W := lq_in (by decide +kernel) (by decide +kernel)
/-- all below a is as before, what lies from a up to z is new and zero -/
def q_ns (a z : Nat) (S0 : lq_S) (M0 : lq_M) (N0 : lq_N) (S : lq_S) (M : lq_M) (N : lq_N) : Prop := (∀ b, b < a → S b = S0 b ∧ M b = M0 b ∧ N b = N0 b) ∧ ∀ b, a ≤ b → b < z → M b = fun _ => 0
section NS
variable {a z : Nat} {S0 S : lq_S} {M0 M : lq_M} {N0 N : lq_N}
theorem q_ns.base (h : M a = fun _ => 0) : q_ns a (a + 1) S M N S M N := ⟨fun b _ => ⟨rfl, rfl, rfl⟩, fun b b1 b2 => by rw [show b = a by omega]; exact h⟩
theorem q_ns.new {c : lq_C} (h : q_ns a z S0 M0 N0 S M N) (hz : a ≤ z) : q_ns a (z + 1) S0 M0 N0 (lq_us S z c) (lq_z M z 0) (lq_z N z 0) := by
  refine ⟨fun b hb => ?_, fun b b1 b2 => ?_⟩
  · rw [lq_us_n _ _ (by omega), lq_z_n _ _ (by omega), lq_z_n _ _ (by omega)]
    exact h.1 b hb
  · by_cases e : b = z
    · rw [e, lq_z_s]
    · rw [lq_z_n _ _ e]; exact h.2 b b1 (by omega)
theorem q_ns.put {c : lq_C} {x : Nat} (h : q_ns a z S0 M0 N0 S M N) (hx : a ≤ x) : q_ns a z S0 M0 N0 (lq_us S x c) M N :=
  ⟨fun b hb => by rw [lq_us_n _ _ (by omega)]; exact h.1 b hb, h.2⟩
theorem q_ns.up0 {x k : Nat} (h : q_ns a z S0 M0 N0 S M N) (hx : a ≤ x) (hz : x < z) : q_ns a z S0 M0 N0 S (lq_up M x k 0) N := by
  refine ⟨fun b hb => by rw [lq_up_n _ _ _ (by omega)]; exact h.1 b hb, fun b b1 b2 => ?_⟩
  by_cases e : b = x
  · rw [e]
    funext j
    rw [lq_up_x, h.2 x hx hz]
    split <;> rfl
  · rw [lq_up_n _ _ _ e]; exact h.2 b b1 b2
theorem q_ns.mna {n k : Nat} (h : q_ns a z S0 M0 N0 S M N) (hz : a ≤ z) : q_ns a (z + 1 + n) S0 M0 N0 (lq_um S z n k) (lq_zz M z n 0) (lq_zz N z n 0) := by
  refine ⟨fun b hb => ?_, fun b b1 b2 => ?_⟩
  · unfold lq_zz
    rw [lq_um_n (by omega), if_neg (by omega), if_neg (by omega)]
    exact h.1 b hb
  · unfold lq_zz
    by_cases e : z ≤ b ∧ b ≤ z + n
    · rw [if_pos e]
    · rw [if_neg e]; exact h.2 b b1 (by omega)
/-- what a constructor leaves: its object is at c, everything behind it is new -/
def q_nP (c k : Nat) (S : lq_S) (M : lq_M) (N : lq_N) (P : lq_S → Prop) : lq_P := fun o z1 S1 M1 N1 => o = none ∧ z1 = c + k ∧ q_ns c (c + k) S M N S1 M1 N1 ∧ P S1
theorem q_ns.call {c k : Nat} {S1 : lq_S} {M1 : lq_M} {N1 : lq_N} (h : q_ns a (c + 1) S0 M0 N0 S M N) (hc : a ≤ c) (h1 : q_ns c (c + k) S M N S1 M1 N1) : q_ns a (c + k) S0 M0 N0 S1 M1 N1 := by
  refine ⟨fun b hb => ?_, fun b b1 b2 => ?_⟩
  · obtain ⟨e1, e2, e3⟩ := h1.1 b (by omega)
    rw [e1, e2, e3]; exact h.1 b hb
  · by_cases e : b < c
    · rw [(h1.1 b e).2.1]; exact h.2 b b1 (by omega)
    · exact h1.2 b (by omega) b2
end NS
section QCI
variable {G : lq_G} {Y : lq_Y} {d kc ks z : Nat} {S : lq_S} {M : lq_M} {N : lq_N} {Q : lq_P} {X : lq_E} {pc : Nat} {lv : List (Option Value)} {st : List Value}
theorem qw_ci {y : lq_Y} {d' kc' ks' n idx a k : Nat} {P : lq_S → Prop} (As : List Value) {rest : List Value} (hM : LM G y d' kc' ks' (.ref a :: As) z S M N (q_nP a k S M N P) lq_no) (hc : lq_ci Y.1.cls idx y n) (hd : decode Y.2.1 pc = .ok (.invokespecial idx, 3)) (hn : As.length = n) (hst : st = As.reverse ++ .ref a :: rest) (hw : (rest.map fun v => v.category).sum ≤ 8) (hdd : d' + 1 ≤ d) (hm : y.2.2.1 ≤ 20) (hk : kc' ≤ kc) (hk2 : ks' ≤ ks) (hT : Y.2.2.2.2 = [])
    (kk : ∀ (S1 : lq_S) (M1 : lq_M) (N1 : lq_N), q_ns a (a + k) S M N S1 M1 N1 → P S1 → LW G Y d (kc - kc') (ks - ks') Q X (a + k) S1 M1 N1 (pc + 3) lv rest) : LW G Y d kc ks Q X z S M N pc lv st :=
  lq_callI hM hc hd hn hst hw hdd hm hk hk2 hT (fun _ _ _ _ _ h => h.elim) (fun r z' S' M' N' h => by obtain ⟨rfl, rfl, h1, h2⟩ := h; exact kk S' M' N' h1 h2)
end QCI
section CN
variable {G : lq_G} {S : lq_S} {M : lq_M} {N : lq_N}
theorem k_X6_init {a : Nat} {n : Nat} (hn : n < 1000000) (hS : S a = some (.inl (6, [some none, some none, some none, some none, none]))) (hM : M a = fun _ => 0) : LM G YX6_init 0 4 (4 * n) [.ref a, .int (nI n)] (a + 1) S M N (q_nP a 5 S M N (fun S1 => sh6 S1 a n)) lq_no := by
  refine LM.of (by decide) rfl [some (.ref a), some (.int (nI n))] rfl (Nat.le_of_ble_eq_true rfl) ?_
  refine qw_aload_n 0 dX6_init_0 rfl rfl ?_
  refine qw_objI mX6_1 lq_oi1 lq_oi2 (by decide) dX6_init_1 ?_
  refine qw_aload_n 0 dX6_init_4 rfl rfl ?_
  refine qw_iload_n 1 dX6_init_5 rfl rfl ?_
  refine qw_newi (3) (3 * n) lq_arI dX6_init_6 (by omega) (by omega) (by omega) ?_
  refine qw_putrF fX6_7 rfl rfl dX6_init_8 rfl rfl (by rw [lq_us_n _ _ (by omega)]; exact hS) rfl ?_
  refine qw_aload_n 0 dX6_init_11 rfl rfl ?_
  refine qw_iload_n 1 dX6_init_12 rfl rfl ?_
  refine qw_newi (2) (2 * n) lq_arI dX6_init_13 (by omega) (by omega) (by omega) ?_
  refine qw_putrF fX6_13 rfl rfl dX6_init_15 rfl rfl (by rw [lq_us_n _ _ (by omega), lq_us_s] <;> rfl) rfl ?_
  refine qw_aload_n 0 dX6_init_18 rfl rfl ?_
  refine qw_iload_n 1 dX6_init_19 rfl rfl ?_
  refine qw_newi (1) (1 * n) lq_arI dX6_init_20 (by omega) (by omega) (by omega) ?_
  refine qw_putrF fX6_16 rfl rfl dX6_init_22 rfl rfl (by rw [lq_us_n _ _ (by omega), lq_us_s] <;> rfl) rfl ?_
  refine qw_aload_n 0 dX6_init_25 rfl rfl ?_
  refine qw_iload_n 1 dX6_init_26 rfl rfl ?_
  refine qw_newi (0) (0 * n) lq_arI dX6_init_27 (by omega) (by omega) (by omega) ?_
  refine qw_putrF fX6_19 rfl rfl dX6_init_29 rfl rfl (by rw [lq_us_n _ _ (by omega), lq_us_s] <;> rfl) rfl ?_
  refine qw_aload_n 0 dX6_init_32 rfl rfl ?_
  refine qw_iconst (nI 0) dX6_init_33 (by decide) ?_
  refine qw_puti fX6_22 dX6_init_34 (by rw [lq_us_s] <;> rfl) rfl ?_
  exact qw_return rfl dX6_init_37 ⟨rfl, rfl, (q_ns.up0 (q_ns.put (q_ns.new (q_ns.put (q_ns.new (q_ns.put (q_ns.new (q_ns.put (q_ns.new (q_ns.base hM) (by omega)) (by omega)) (by omega)) (by omega)) (by omega)) (by omega)) (by omega)) (by omega)) (by omega) (by omega)), ⟨by rw [lq_us_s] <;> rfl, by rw [lq_us_n _ _ (by omega), lq_us_n _ _ (by omega), lq_us_n _ _ (by omega), lq_us_n _ _ (by omega), lq_us_n _ _ (by omega), lq_us_n _ _ (by omega), lq_us_n _ _ (by omega), lq_us_s] <;> rfl, by rw [lq_us_n _ _ (by omega), lq_us_n _ _ (by omega), lq_us_n _ _ (by omega), lq_us_n _ _ (by omega), lq_us_n _ _ (by omega), lq_us_s] <;> rfl, by rw [lq_us_n _ _ (by omega), lq_us_n _ _ (by omega), lq_us_n _ _ (by omega), lq_us_s] <;> rfl, by rw [lq_us_n _ _ (by omega), lq_us_s] <;> rfl⟩⟩
theorem k_X0_init {a : Nat} (hS : S a = some (.inl (0, [none, none, none, none, none, some none]))) (hM : M a = fun _ => 0) : LM G YX0_init 1 5 37 [.ref a] (a + 1) S M N (q_nP a 6 S M N (fun S1 => sh0 S1 a)) lq_no := by
  refine LM.of (by decide) rfl [some (.ref a)] rfl (Nat.le_of_ble_eq_true rfl) ?_
  refine qw_aload_n 0 dX0_init_0 rfl rfl ?_
  refine qw_objI mX0_3 lq_oi1 lq_oi2 (by decide) dX0_init_1 ?_
  refine qw_aload_n 0 dX0_init_4 rfl rfl ?_
  refine qw_new (4) (32) nX0_9 dX0_init_5 (by omega) (by show 32 + 5 ≤ _; omega) ?_
  refine qw_dup dX0_init_8 rfl ?_
  refine qw_bipush (nI 8) dX0_init_9 (by decide) ?_
  refine qw_ci [_] (k_X6_init (n := 8) (by decide) (by rw [lq_us_s]) (by rw [lq_z_s])) mX0_11 dX0_init_11 rfl rfl (Nat.le_of_ble_eq_true rfl) (by omega) (by decide) (by omega) (by omega) rfl (fun S1 M1 N1 h1 p1 => ?_)
  refine qw_putrF fX0_14 rfl rfl dX0_init_14 rfl rfl (by rw [(h1.1 _ (by omega)).1, lq_us_n _ _ (by omega)]; exact hS) rfl ?_
  exact qw_return rfl dX0_init_17 ⟨rfl, rfl, (q_ns.put (q_ns.call (c := a + 1) (k := 5) (q_ns.new (q_ns.base hM) (by omega)) (by omega) h1) (by omega)), ⟨by rw [lq_us_s] <;> rfl, p1.eqS (fun c c1 c2 => by rw [lq_us_n _ _ (by omega)])⟩⟩
theorem k_X2_init {a : Nat} (hS : S a = some (.inl (2, [some none, none, some none, some none]))) (hM : M a = fun _ => 0) : LM G YX2_init 0 3 816 [.ref a] (a + 1) S M N (q_nP a 4 S M N (fun S1 => sh2 S1 a)) lq_no := by
  refine LM.of (by decide) rfl [some (.ref a)] rfl (Nat.le_of_ble_eq_true rfl) ?_
  refine qw_aload_n 0 dX2_init_0 rfl rfl ?_
  refine qw_objI mX2_3 lq_oi1 lq_oi2 (by decide) dX2_init_1 ?_
  refine qw_aload_n 0 dX2_init_4 rfl rfl ?_
  refine qw_sipush (nI 800) dX2_init_5 (by decide) ?_
  refine qw_newi (2) (16) lq_arI dX2_init_8 (by omega) (by omega) (by omega) ?_
  refine qw_putrF fX2_9 rfl rfl dX2_init_10 rfl rfl (by rw [lq_us_n _ _ (by omega)]; exact hS) rfl ?_
  refine qw_aload_n 0 dX2_init_13 rfl rfl ?_
  refine qw_iconst (nI 5) dX2_init_14 (by decide) ?_
  refine qw_newi (1) (11) lq_arI dX2_init_15 (by omega) (by omega) (by omega) ?_
  refine qw_putrF fX2_15 rfl rfl dX2_init_17 rfl rfl (by rw [lq_us_n _ _ (by omega), lq_us_s] <;> rfl) rfl ?_
  refine qw_aload_n 0 dX2_init_20 rfl rfl ?_
  refine qw_bipush (nI 11) dX2_init_21 (by decide) ?_
  refine qw_newi (0) (0) lq_arI dX2_init_23 (by omega) (by omega) (by omega) ?_
  refine qw_putrF fX2_18 rfl rfl dX2_init_25 rfl rfl (by rw [lq_us_n _ _ (by omega), lq_us_s] <;> rfl) rfl ?_
  refine qw_aload_n 0 dX2_init_28 rfl rfl ?_
  refine qw_iconst (nI 0) dX2_init_29 (by decide) ?_
  refine qw_puti fX2_21 dX2_init_30 (by rw [lq_us_s] <;> rfl) rfl ?_
  exact qw_return rfl dX2_init_33 ⟨rfl, rfl, (q_ns.up0 (q_ns.put (q_ns.new (q_ns.put (q_ns.new (q_ns.put (q_ns.new (q_ns.base hM) (by omega)) (by omega)) (by omega)) (by omega)) (by omega)) (by omega)) (by omega) (by omega)), ⟨by rw [lq_us_s] <;> rfl, by rw [lq_us_n _ _ (by omega), lq_us_n _ _ (by omega), lq_us_n _ _ (by omega), lq_us_n _ _ (by omega), lq_us_n _ _ (by omega), lq_us_s] <;> rfl, by rw [lq_us_n _ _ (by omega), lq_us_n _ _ (by omega), lq_us_n _ _ (by omega), lq_us_s] <;> rfl, by rw [lq_us_n _ _ (by omega), lq_us_s] <;> rfl⟩⟩
theorem k_X7_init {a : Nat} (hS : S a = some (.inl (7, [some none, none, none, none, none, none]))) (hM : M a = fun _ => 0) : LM G YX7_init 0 1 0 [.ref a] (a + 1) S M N (q_nP a 2 S M N (fun S1 => sh7 S1 a (a + 1) 0)) lq_no := by
  refine LM.of (by decide) rfl [some (.ref a)] rfl (Nat.le_of_ble_eq_true rfl) ?_
  refine qw_aload_n 0 dX7_init_0 rfl rfl ?_
  refine qw_objI mX7_3 lq_oi1 lq_oi2 (by decide) dX7_init_1 ?_
  refine qw_aload_n 0 dX7_init_4 rfl rfl ?_
  refine qw_iconst (nI 0) dX7_init_5 (by decide) ?_
  refine qw_newb (0) (0) lq_arB dX7_init_6 (by omega) (by omega) (by omega) ?_
  refine qw_putr fX7_9 dX7_init_8 rfl rfl (by rw [lq_us_n _ _ (by omega)]; exact hS) rfl ?_
  exact qw_return rfl dX7_init_11 ⟨rfl, rfl, (q_ns.put (q_ns.new (q_ns.base hM) (by omega)) (by omega)), ⟨by rw [lq_us_s] <;> rfl, by rw [lq_us_n _ _ (by omega), lq_us_s] <;> rfl⟩⟩
theorem k_X5_init {a : Nat} (hS : S a = some (.inl (5, [some none, none, none, none, none, none]))) (hM : M a = fun _ => 0) : LM G YX5_init 1 2 6 [.ref a] (a + 1) S M N (q_nP a 3 S M N (fun S1 => sh5 S1 a (a + 2) 0)) lq_no := by
  refine LM.of (by decide) rfl [some (.ref a)] rfl (Nat.le_of_ble_eq_true rfl) ?_
  refine qw_aload_n 0 dX5_init_0 rfl rfl ?_
  refine qw_objI mX5_3 lq_oi1 lq_oi2 (by decide) dX5_init_1 ?_
  refine qw_aload_n 0 dX5_init_4 rfl rfl ?_
  refine qw_new (1) (0) nX5_9 dX5_init_5 (by omega) (by show 0 + 6 ≤ _; omega) ?_
  refine qw_dup dX5_init_8 rfl ?_
  refine qw_ci [] (k_X7_init (by rw [lq_us_s]) (by rw [lq_z_s])) mX5_11 dX5_init_9 rfl rfl (Nat.le_of_ble_eq_true rfl) (by omega) (by decide) (by omega) (by omega) rfl (fun S1 M1 N1 h1 p1 => ?_)
  refine qw_putrF fX5_12 rfl rfl dX5_init_12 rfl rfl (by rw [(h1.1 _ (by omega)).1, lq_us_n _ _ (by omega)]; exact hS) rfl ?_
  exact qw_return rfl dX5_init_15 ⟨rfl, rfl, (q_ns.put (q_ns.call (c := a + 1) (k := 2) (q_ns.new (q_ns.base hM) (by omega)) (by omega) h1) (by omega)), ⟨by rw [lq_us_s] <;> rfl, by rw [lq_us_n _ _ (by omega)]; exact p1.1, by rw [lq_us_n _ _ (by omega)]; exact p1.2⟩⟩
theorem k_X1_init {a : Nat} (hA : q_AO G) (hS : S a = some (.inl (1, [some none, some none, some none]))) (hM : M a = fun _ => 0) : LM G YX1_init 0 259 2320 [.ref a] (a + 1) S M N (q_nP a 260 S M N (fun S1 => ∃ fb, sh1 S1 a fb)) lq_no := by
  refine LM.of (by decide) rfl [some (.ref a)] rfl (Nat.le_of_ble_eq_true rfl) ?_
  refine qw_aload_n 0 dX1_init_0 rfl rfl ?_
  refine qw_objI mX1_3 lq_oi1 lq_oi2 (by decide) dX1_init_1 ?_
  refine qw_aload_n 0 dX1_init_4 rfl rfl ?_
  refine qw_bipush (nI 8) dX1_init_5 (by decide) ?_
  refine qw_newi (258) (2312) lq_arI dX1_init_7 (by omega) (by omega) (by omega) ?_
  refine qw_putrF fX1_9 rfl rfl dX1_init_9 rfl rfl (by rw [lq_us_n _ _ (by omega)]; exact hS) rfl ?_
  refine qw_aload_n 0 dX1_init_12 rfl rfl ?_
  refine qw_sipush (nI 256) dX1_init_13 (by decide) ?_
  refine qw_bipush (nI 8) dX1_init_16 (by decide) ?_
  refine qw_mna hA.1 (1) (8) (lq_in (by decide +kernel) (by decide +kernel)) dX1_init_18 (by omega) (by omega) (by omega) (by omega) ?_
  refine qw_putrF fX1_17 rfl rfl dX1_init_22 rfl rfl (by rw [lq_um_n (by omega), lq_us_s] <;> rfl) rfl ?_
  refine qw_aload_n 0 dX1_init_25 rfl rfl ?_
  refine qw_bipush (nI 8) dX1_init_26 (by decide) ?_
  refine qw_newi (0) (0) lq_arI dX1_init_28 (by omega) (by omega) (by omega) ?_
  refine qw_putrF fX1_20 rfl rfl dX1_init_30 rfl rfl (by rw [lq_us_n _ _ (by omega), lq_us_s] <;> rfl) rfl ?_
  exact qw_return rfl dX1_init_33 ⟨rfl, rfl, (q_ns.put (q_ns.new (q_ns.put (q_ns.mna (q_ns.put (q_ns.new (q_ns.base hM) (by omega)) (by omega)) (by omega)) (by omega)) (by omega)) (by omega)), _, by rw [lq_us_s] <;> rfl, by rw [lq_us_n _ _ (by omega), lq_us_n _ _ (by omega), lq_us_n _ _ (by omega), lq_um_n (by omega), lq_us_n _ _ (by omega), lq_us_s] <;> rfl, by rw [lq_us_n _ _ (by omega), lq_us_n _ _ (by omega), lq_us_n _ _ (by omega), lq_um_o] <;> rfl, fun k hk => by rw [if_pos hk], fun k hk => by rw [lq_us_n _ _ (by omega), lq_us_n _ _ (by omega), lq_us_n _ _ (by omega), lq_um_i (by omega)], by rw [lq_us_n _ _ (by omega), lq_us_s] <;> rfl⟩
end CN
