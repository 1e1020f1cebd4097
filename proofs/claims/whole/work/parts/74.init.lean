/-! CONSTRUCTORS: plan, history, the class, the reference -/
/-- as q_ns, but one int of the object at a is v -/
def q_nb (a z k v : Nat) (S0 : lq_S) (M0 : lq_M) (N0 : lq_N) (S : lq_S) (M : lq_M) (N : lq_N) : Prop := (∀ b, b < a → S b = S0 b ∧ M b = M0 b ∧ N b = N0 b) ∧ ∀ b, a ≤ b → b < z → M b = fun j => if b = a ∧ j = k then v else 0
section NB
variable {a z k v : Nat} {S0 S : lq_S} {M0 M : lq_M} {N0 N : lq_N}
theorem q_nb.of (h : q_ns a z S0 M0 N0 S M N) (hz : a < z) : q_nb a z k v S0 M0 N0 S (lq_up M a k v) N := by
  refine ⟨fun b hb => by rw [lq_up_n _ _ _ (by omega)]; exact h.1 b hb, fun b b1 b2 => ?_⟩
  by_cases e : b = a
  · rw [e]
    funext j
    rw [lq_up_x, h.2 a (Nat.le_refl a) hz]
    by_cases e2 : j = k
    · rw [if_pos e2, if_pos ⟨rfl, e2⟩]
    · rw [if_neg e2, if_neg (fun q => e2 q.2)]
  · rw [lq_up_n _ _ _ e, h.2 b b1 b2]
    funext j
    rw [if_neg (fun q => e q.1)]
theorem q_nb.new {c : lq_C} (h : q_nb a z k v S0 M0 N0 S M N) (hz : a < z) : q_nb a (z + 1) k v S0 M0 N0 (lq_us S z c) (lq_z M z 0) (lq_z N z 0) := by
  refine ⟨fun b hb => ?_, fun b b1 b2 => ?_⟩
  · rw [lq_us_n _ _ (by omega), lq_z_n _ _ (by omega), lq_z_n _ _ (by omega)]
    exact h.1 b hb
  · by_cases e : b = z
    · rw [e, lq_z_s]
      funext j
      rw [if_neg (fun q => by omega)]
    · rw [lq_z_n _ _ e]; exact h.2 b b1 (by omega)
theorem q_nb.put {c : lq_C} {x : Nat} (h : q_nb a z k v S0 M0 N0 S M N) (hx : a ≤ x) : q_nb a z k v S0 M0 N0 (lq_us S x c) M N :=
  ⟨fun b hb => by rw [lq_us_n _ _ (by omega)]; exact h.1 b hb, h.2⟩
theorem q_nb.mna {n l : Nat} (h : q_nb a z k v S0 M0 N0 S M N) (hz : a < z) : q_nb a (z + 1 + n) k v S0 M0 N0 (lq_um S z n l) (lq_zz M z n 0) (lq_zz N z n 0) := by
  refine ⟨fun b hb => ?_, fun b b1 b2 => ?_⟩
  · unfold lq_zz
    rw [lq_um_n (by omega), if_neg (by omega), if_neg (by omega)]
    exact h.1 b hb
  · unfold lq_zz
    by_cases e : z ≤ b ∧ b ≤ z + n
    · rw [if_pos e]
      funext j
      rw [if_neg (fun q => by omega)]
    · rw [if_neg e]; exact h.2 b b1 (by omega)
theorem q_nb.call {c l : Nat} {S1 : lq_S} {M1 : lq_M} {N1 : lq_N} (h : q_nb a (c + 1) k v S0 M0 N0 S M N) (hc : a < c) (h1 : q_ns c (c + l) S M N S1 M1 N1) : q_nb a (c + l) k v S0 M0 N0 S1 M1 N1 := by
  refine ⟨fun b hb => ?_, fun b b1 b2 => ?_⟩
  · obtain ⟨e1, e2, e3⟩ := h1.1 b (by omega)
    rw [e1, e2, e3]; exact h.1 b hb
  · by_cases e : b < c
    · rw [(h1.1 b e).2.1]; exact h.2 b b1 (by omega)
    · rw [h1.2 b (by omega) b2]
      funext j
      rw [if_neg (fun q => by omega)]
end NB
section CN2
variable {G : lq_G} {S : lq_S} {M : lq_M} {N : lq_N}
theorem l_X4_init {a : Nat} {S0 : lq_S} {M0 : lq_M} {N0 : lq_N} {Q : lq_P} (kk : ∀ (S : lq_S) (M : lq_M) (N : lq_N), S a = some (.inl (4, [some (some (a + 1)), none, some none, some none, none, some none, some none, some none, none])) → (∃ f, S (a + 1) = some (.inr (.inr (4, 20, f))) ∧ ∀ q, q < 20 → f q = some (a + 2 + 6 * q)) → (∀ j, j < 20 → sh0 S (a + 2 + 6 * j)) → q_ns a (a + 2 + 6 * 20) S0 M0 N0 S M N → LW G YX4_init 2 12 1491 Q lq_no (a + 122) S M N 40 [some (.ref a), none] []) : ∀ (n9 i : Nat) (S : lq_S) (M : lq_M) (N : lq_N), i ≤ 20 → 20 - i < n9 → S a = some (.inl (4, [some (some (a + 1)), none, some none, some none, none, some none, some none, some none, none])) → (∃ f, S (a + 1) = some (.inr (.inr (4, 20, f))) ∧ ∀ q, q < i → f q = some (a + 2 + 6 * q)) → (∀ j, j < i → sh0 S (a + 2 + 6 * j)) → q_ns a (a + 2 + 6 * i) S0 M0 N0 S M N → LW G YX4_init 2 (12 + 6 * (20 - i)) (1491 + 43 * (20 - i)) Q lq_no (a + 2 + 6 * i) S M N 15 [some (.ref a), some (.int (nI i))] [] := by
  intro n9
  induction n9 with
  | zero => intro _ _ _ _ _ _ _ _ _ _; omega
  | succ n9 ih =>
    intro i S M N hi hn9 hS hf hb hn
    refine qw_iload_n 1 dX4_init_15 rfl rfl ?_
    refine qw_bipush (nI 20) dX4_init_16 (by decide) ?_
    refine qw_icmp_geN 40 dX4_init_18 (by decide) (by omega) (by omega) (fun c18 => ?_) (fun c18 => ?_)
    · have e : i = 20 := by omega
      subst e
      exact qw_weak _ (by simp [lq_le]) (kk S M N hS hf hb hn)
    · obtain ⟨f, hf1, hf2⟩ := hf
      refine qw_aload_n 0 dX4_init_21 rfl rfl ?_
      refine qw_getr fX4_11 dX4_init_22 hS rfl ?_
      refine qw_iload_n 1 dX4_init_25 rfl rfl ?_
      refine qw_new (11 + 6 * (20 - i)) (1485 + 43 * (20 - i)) nX4_9 dX4_init_26 (by omega) (by show 1485 + 43 * (20 - i) + 6 ≤ _; omega) ?_
      refine qw_dup dX4_init_29 rfl ?_
      refine qw_ci [] (k_X0_init (by rw [lq_us_s]) (by rw [lq_z_s])) mX4_17 dX4_init_30 rfl rfl (Nat.le_of_ble_eq_true rfl) (by omega) (by decide) (by omega) (by omega) rfl (fun S1 M1 N1 h1 p1 => ?_)
      have eS : ∀ b, b < a + 2 + 6 * i → S1 b = S b := fun b hb9 => by rw [(h1.1 b hb9).1, lq_us_n _ _ (by omega)]
      refine qw_aast dX4_init_33 (by rw [eS _ (by omega)]; exact hf1) rfl p1.1 rfl (by omega) (by omega) ?_
      refine qw_iincN 1 dX4_init_34 rfl (by decide) rfl (by decide) ?_
      refine qw_goto 15 dX4_init_37 (by decide) ?_
      rw [show 11 + 6 * (20 - i) - 5 = 12 + 6 * (20 - (i + 1)) by omega, show 1485 + 43 * (20 - i) - 37 = 1491 + 43 * (20 - (i + 1)) by omega]
      have e6 : a + 2 + 6 * i + 6 = a + 2 + 6 * (i + 1) := by omega
      have hn2 : q_ns a (a + 2 + 6 * i + 6) S0 M0 N0 (lq_us S1 (a + 1) (.inr (.inr (4, 20, fun q => if q = i then some (a + 2 + 6 * i) else f q)))) M1 N1 := q_ns.put (q_ns.call (c := a + 2 + 6 * i) (k := 6) (q_ns.new hn (by omega)) (by omega) h1) (by omega)
      rw [e6] at hn2 ⊢
      refine ih (i + 1) _ _ _ (by omega) (by omega) (by rw [lq_us_n _ _ (by omega), eS _ (by omega)]; exact hS) ⟨_, lq_us_s _ _ _, fun q hq => ?_⟩ (fun j hj => ?_) hn2
      · by_cases e : q = i
        · rw [if_pos e, e]
        · rw [if_neg e]; exact hf2 q (by omega)
      · by_cases e : j = i
        · rw [e]; exact p1.eqS (fun c c1 c2 => lq_us_n _ _ (by omega))
        · exact (hb j (by omega)).eqS (fun c c1 c2 => by rw [lq_us_n _ _ (by omega), eS _ (by omega)])
theorem k_X4_init {a : Nat} (hA : q_AO G) (hS : S a = some (.inl (4, [some none, none, some none, some none, none, some none, some none, some none, none]))) (hM : M a = fun _ => 0) : LM G YX4_init 2 133 2371 [.ref a] (a + 1) S M N (q_nP a 134 S M N (fun S1 => ∃ f, sh4 S1 a f q_id)) lq_no := by
  refine LM.of (by decide) rfl [some (.ref a), none] rfl (Nat.le_of_ble_eq_true rfl) ?_
  refine qw_aload_n 0 dX4_init_0 rfl rfl ?_
  refine qw_objI mX4_3 lq_oi1 lq_oi2 (by decide) dX4_init_1 ?_
  refine qw_aload_n 0 dX4_init_4 rfl rfl ?_
  refine qw_bipush (nI 20) dX4_init_5 (by decide) ?_
  refine qw_newr2 (t := 4) (132) (2351) rfl (lq_in (by decide +kernel) (by decide +kernel)) hA.2.1 dX4_init_7 (by omega) (by omega) (by omega) ?_
  refine qw_putrF fX4_11 rfl rfl dX4_init_10 rfl rfl (by rw [lq_us_n _ _ (by omega)]; exact hS) rfl ?_
  refine qw_iconst (nI 0) dX4_init_13 (by decide) ?_
  refine qw_istore_n 1 dX4_init_14 rfl rfl (by decide) ?_
  refine l_X4_init (a := a) (S0 := S) (M0 := M) (N0 := N) (fun S M N hS hf hb hn => ?_) 21 0 _ _ _ (by decide) (by decide) (by rw [lq_us_s] <;> rfl) ⟨_, by rw [lq_us_n _ _ (by omega), lq_us_s] <;> rfl, fun q hq => absurd hq (Nat.not_lt_zero q)⟩ (fun j hj => absurd hj (Nat.not_lt_zero j)) (q_ns.put (q_ns.new (q_ns.base hM) (by omega)) (by omega))
  obtain ⟨f, hf1, hf2⟩ := hf
  refine qw_aload_n 0 dX4_init_40 rfl rfl ?_
  refine qw_bipush (nI 8) dX4_init_41 (by decide) ?_
  refine qw_newi (11) (1483) lq_arI dX4_init_43 (by omega) (by omega) (by omega) ?_
  refine qw_putrF fX4_18 rfl rfl dX4_init_45 rfl rfl (by rw [lq_us_n _ _ (by omega)]; exact hS) rfl ?_
  refine qw_aload_n 0 dX4_init_48 rfl rfl ?_
  refine qw_bipush (nI 8) dX4_init_49 (by decide) ?_
  refine qw_newi (10) (1475) lq_arI dX4_init_51 (by omega) (by omega) (by omega) ?_
  refine qw_putrF fX4_22 rfl rfl dX4_init_53 rfl rfl (by rw [lq_us_n _ _ (by omega), lq_us_s] <;> rfl) rfl ?_
  refine qw_aload_n 0 dX4_init_56 rfl rfl ?_
  refine qw_bipush (nI 10) dX4_init_57 (by decide) ?_
  refine qw_newi (9) (1465) lq_arI dX4_init_59 (by omega) (by omega) (by omega) ?_
  refine qw_putrF fX4_25 rfl rfl dX4_init_61 rfl rfl (by rw [lq_us_n _ _ (by omega), lq_us_s] <;> rfl) rfl ?_
  refine qw_aload_n 0 dX4_init_64 rfl rfl ?_
  refine qw_new (8) (1461) nX4_28 dX4_init_65 (by omega) (by show 1461 + 4 ≤ _; omega) ?_
  refine qw_dup dX4_init_68 rfl ?_
  refine qw_ci [] (k_X2_init (by rw [lq_us_s]) (by rw [lq_z_s])) mX4_30 dX4_init_69 rfl rfl (Nat.le_of_ble_eq_true rfl) (by omega) (by decide) (by omega) (by omega) rfl (fun S1 M1 N1 h1 p1 => ?_)
  refine qw_putrF fX4_31 rfl rfl dX4_init_72 rfl rfl (by rw [(h1.1 _ (by omega)).1, lq_us_n _ _ (by omega), lq_us_s] <;> rfl) rfl ?_
  refine qw_aload_n 0 dX4_init_75 rfl rfl ?_
  refine qw_new (4) (640) nX4_35 dX4_init_76 (by omega) (by show 640 + 5 ≤ _; omega) ?_
  refine qw_dup dX4_init_79 rfl ?_
  refine qw_sipush (nI 160) dX4_init_80 (by decide) ?_
  refine qw_ci [_] (k_X6_init (n := 160) (by decide) (by rw [lq_us_s]) (by rw [lq_z_s])) mX4_37 dX4_init_83 rfl rfl (Nat.le_of_ble_eq_true rfl) (by omega) (by decide) (by omega) (by omega) rfl (fun S2 M2 N2 h2 p2 => ?_)
  refine qw_putrF fX4_40 rfl rfl dX4_init_86 rfl rfl (by rw [(h2.1 _ (by omega)).1, lq_us_n _ _ (by omega), lq_us_s] <;> rfl) rfl ?_
  exact qw_return rfl dX4_init_89 ⟨rfl, rfl, (q_ns.put (q_ns.call (c := a + 129) (k := 5) (q_ns.new (q_ns.put (q_ns.call (c := a + 125) (k := 4) (q_ns.new (q_ns.put (q_ns.new (q_ns.put (q_ns.new (q_ns.put (q_ns.new hn (by omega)) (by omega)) (by omega)) (by omega)) (by omega)) (by omega)) (by omega)) (by omega) h1) (by omega)) (by omega)) (by omega) h2) (by omega)), f, by rw [lq_us_s] <;> rfl, by rw [lq_us_n _ _ (by omega), (h2.1 _ (by omega)).1, lq_us_n _ _ (by omega), lq_us_n _ _ (by omega), (h1.1 _ (by omega)).1, lq_us_n _ _ (by omega), lq_us_n _ _ (by omega), lq_us_n _ _ (by omega), lq_us_n _ _ (by omega), lq_us_n _ _ (by omega), lq_us_n _ _ (by omega), lq_us_n _ _ (by omega)]; exact hf1, fun i hi => hf2 i hi, fun j hj => (hb j hj).eqS (fun c c1 c2 => by rw [lq_us_n _ _ (by omega), (h2.1 _ (by omega)).1, lq_us_n _ _ (by omega), lq_us_n _ _ (by omega), (h1.1 _ (by omega)).1, lq_us_n _ _ (by omega), lq_us_n _ _ (by omega), lq_us_n _ _ (by omega), lq_us_n _ _ (by omega), lq_us_n _ _ (by omega), lq_us_n _ _ (by omega), lq_us_n _ _ (by omega)]), fun i hi => hi, fun i j hi hj e => e, by rw [lq_us_n _ _ (by omega), (h2.1 _ (by omega)).1, lq_us_n _ _ (by omega), lq_us_n _ _ (by omega), (h1.1 _ (by omega)).1, lq_us_n _ _ (by omega), lq_us_n _ _ (by omega), lq_us_n _ _ (by omega), lq_us_n _ _ (by omega), lq_us_n _ _ (by omega), lq_us_n _ _ (by omega), lq_us_s] <;> rfl, by rw [lq_us_n _ _ (by omega), (h2.1 _ (by omega)).1, lq_us_n _ _ (by omega), lq_us_n _ _ (by omega), (h1.1 _ (by omega)).1, lq_us_n _ _ (by omega), lq_us_n _ _ (by omega), lq_us_n _ _ (by omega), lq_us_n _ _ (by omega), lq_us_s] <;> rfl, by rw [lq_us_n _ _ (by omega), (h2.1 _ (by omega)).1, lq_us_n _ _ (by omega), lq_us_n _ _ (by omega), (h1.1 _ (by omega)).1, lq_us_n _ _ (by omega), lq_us_n _ _ (by omega), lq_us_s] <;> rfl, p1.eqS (fun c c1 c2 => by rw [lq_us_n _ _ (by omega), (h2.1 _ (by omega)).1, lq_us_n _ _ (by omega), lq_us_n _ _ (by omega)]), p2.eqS (fun c c1 c2 => by rw [lq_us_n _ _ (by omega)])⟩
theorem l_X3_init {a : Nat} (hA : q_AO G) {S0 : lq_S} {M0 : lq_M} {N0 : lq_N} {Q : lq_P} (kk : ∀ (S : lq_S) (M : lq_M) (N : lq_N), S a = some (.inl (3, [some (some (a + 1)), none, none])) → (∃ f, S (a + 1) = some (.inr (.inr (5, 9, f))) ∧ ∀ q, q < 9 → f q = some (a + 2 + 134 * q)) → (∀ j, j < 9 → ∃ f, sh4 S (a + 2 + 134 * j) f q_id) → q_ns a (a + 2 + 134 * 9) S0 M0 N0 S M N → LW G YX3_init 3 0 0 Q lq_no (a + 1208) S M N 43 [some (.ref a), none] []) : ∀ (n9 i : Nat) (S : lq_S) (M : lq_M) (N : lq_N), i ≤ 9 → 9 - i < n9 → S a = some (.inl (3, [some (some (a + 1)), none, none])) → (∃ f, S (a + 1) = some (.inr (.inr (5, 9, f))) ∧ ∀ q, q < i → f q = some (a + 2 + 134 * q)) → (∀ j, j < i → ∃ f, sh4 S (a + 2 + 134 * j) f q_id) → q_ns a (a + 2 + 134 * i) S0 M0 N0 S M N → LW G YX3_init 3 (134 * (9 - i)) (2380 * (9 - i)) Q lq_no (a + 2 + 134 * i) S M N 15 [some (.ref a), some (.int (nI i))] [] := by
  intro n9
  induction n9 with
  | zero => intro _ _ _ _ _ _ _ _ _ _; omega
  | succ n9 ih =>
    intro i S M N hi hn9 hS hf hb hn
    obtain ⟨f, hf1, hf2⟩ := hf
    refine qw_iload_n 1 dX3_init_15 rfl rfl ?_
    refine qw_aload_n 0 dX3_init_16 rfl rfl ?_
    refine qw_getr fX3_11 dX3_init_17 hS rfl ?_
    refine qw_alenr dX3_init_20 hf1 rfl ?_
    refine qw_icmp_geN 43 dX3_init_21 (by decide) (by omega) (by omega) (fun c21 => ?_) (fun c21 => ?_)
    · have e : i = 9 := by omega
      subst e
      exact qw_weak _ (by simp [lq_le]) (kk S M N hS ⟨f, hf1, hf2⟩ hb hn)
    · refine qw_aload_n 0 dX3_init_24 rfl rfl ?_
      refine qw_getr fX3_11 dX3_init_25 hS rfl ?_
      refine qw_iload_n 1 dX3_init_28 rfl rfl ?_
      refine qw_new (134 * (9 - i) - 1) (2380 * (9 - i) - 9) nX3_9 dX3_init_29 (by omega) (by show 2380 * (9 - i) - 9 + 9 ≤ _; omega) ?_
      refine qw_dup dX3_init_32 rfl ?_
      refine qw_ci [] (k_X4_init hA (by rw [lq_us_s]) (by rw [lq_z_s])) mX3_17 dX3_init_33 rfl rfl (Nat.le_of_ble_eq_true rfl) (by omega) (by decide) (by omega) (by omega) rfl (fun S1 M1 N1 h1 p1 => ?_)
      obtain ⟨g, p1⟩ := p1
      have eS : ∀ b, b < a + 2 + 134 * i → S1 b = S b := fun b hb9 => by rw [(h1.1 b hb9).1, lq_us_n _ _ (by omega)]
      refine qw_aast dX3_init_36 (by rw [eS _ (by omega)]; exact hf1) rfl p1.1 rfl (by omega) (by omega) ?_
      refine qw_iincN 1 dX3_init_37 rfl (by decide) rfl (by decide) ?_
      refine qw_goto 15 dX3_init_40 (by decide) ?_
      rw [show 134 * (9 - i) - 1 - 133 = 134 * (9 - (i + 1)) by omega, show 2380 * (9 - i) - 9 - 2371 = 2380 * (9 - (i + 1)) by omega]
      have e6 : a + 2 + 134 * i + 134 = a + 2 + 134 * (i + 1) := by omega
      have hn2 : q_ns a (a + 2 + 134 * i + 134) S0 M0 N0 (lq_us S1 (a + 1) (.inr (.inr (5, 9, fun q => if q = i then some (a + 2 + 134 * i) else f q)))) M1 N1 := q_ns.put (q_ns.call (c := a + 2 + 134 * i) (k := 134) (q_ns.new hn (by omega)) (by omega) h1) (by omega)
      rw [e6] at hn2 ⊢
      refine ih (i + 1) _ _ _ (by omega) (by omega) (by rw [lq_us_n _ _ (by omega), eS _ (by omega)]; exact hS) ⟨_, lq_us_s _ _ _, fun q hq => ?_⟩ (fun j hj => ?_) hn2
      · by_cases e : q = i
        · rw [if_pos e, e]
        · rw [if_neg e]; exact hf2 q (by omega)
      · by_cases e : j = i
        · rw [e]; exact ⟨g, p1.eqS (fun c c1 c2 => lq_us_n _ _ (by omega))⟩
        · obtain ⟨g2, hb2⟩ := hb j (by omega)
          exact ⟨g2, hb2.eqS (fun c c1 c2 => by rw [lq_us_n _ _ (by omega), eS _ (by omega)])⟩
theorem k_X3_init {a : Nat} (hA : q_AO G) (hS : S a = some (.inl (3, [some none, none, none]))) (hM : M a = fun _ => 0) : LM G YX3_init 3 1207 21429 [.ref a] (a + 1) S M N (q_nP a 1208 S M N (fun S1 => ∃ F fp, sh3 S1 a F fp)) lq_no := by
  refine LM.of (by decide) rfl [some (.ref a), none] rfl (Nat.le_of_ble_eq_true rfl) ?_
  refine qw_aload_n 0 dX3_init_0 rfl rfl ?_
  refine qw_objI mX3_3 lq_oi1 lq_oi2 (by decide) dX3_init_1 ?_
  refine qw_aload_n 0 dX3_init_4 rfl rfl ?_
  refine qw_bipush (nI 9) dX3_init_5 (by decide) ?_
  refine qw_newr2 (t := 5) (1206) (21420) rfl (lq_in (by decide +kernel) (by decide +kernel)) hA.2.2 dX3_init_7 (by omega) (by omega) (by omega) ?_
  refine qw_putrF fX3_11 rfl rfl dX3_init_10 rfl rfl (by rw [lq_us_n _ _ (by omega)]; exact hS) rfl ?_
  refine qw_iconst (nI 0) dX3_init_13 (by decide) ?_
  refine qw_istore_n 1 dX3_init_14 rfl rfl (by decide) ?_
  refine l_X3_init (a := a) hA (S0 := S) (M0 := M) (N0 := N) (fun S M N hS hf hb hn => ?_) 10 0 _ _ _ (by decide) (by decide) (by rw [lq_us_s] <;> rfl) ⟨_, by rw [lq_us_n _ _ (by omega), lq_us_s] <;> rfl, fun q hq => absurd hq (Nat.not_lt_zero q)⟩ (fun j hj => absurd hj (Nat.not_lt_zero j)) (q_ns.put (q_ns.new (q_ns.base hM) (by omega)) (by omega))
  obtain ⟨f, hf1, hf2⟩ := hf
  obtain ⟨F, hF⟩ : ∃ F : Nat → Nat → Option Nat, ∀ k, k < 9 → sh4 S (a + 2 + 134 * k) (F k) q_id := ⟨fun k => if h : k < 9 then Classical.choose (hb k h) else fun _ => none, fun k hk => by simp only [dif_pos hk]; exact Classical.choose_spec (hb k hk)⟩
  refine qw_aload_n 0 dX3_init_43 rfl rfl ?_
  refine qw_iconst (nI 0) dX3_init_44 (by decide) ?_
  refine qw_puti fX3_18 dX3_init_45 (by exact hS) rfl ?_
  refine qw_aload_n 0 dX3_init_48 rfl rfl ?_
  refine qw_iconst (nI 0) dX3_init_49 (by decide) ?_
  refine qw_puti fX3_22 dX3_init_50 (by exact hS) rfl ?_
  exact qw_return rfl dX3_init_53 ⟨rfl, rfl, (q_ns.up0 (q_ns.up0 hn (by omega) (by omega)) (by omega) (by omega)), F, f, hS, hf1, hf2, hF⟩
theorem k_X8_init {a : Nat} (hA : q_AO G) (hS : S a = some (.inl (8, [some none, none, none, some none, some none, some none, some none]))) (hM : M a = fun _ => 0) : LM G YX8_init 4 1606 26947 [.ref a] (a + 1) S M N (fun o z1 S1 M1 N1 => o = none ∧ z1 = a + 1607 ∧ q_nb a (a + 1607) 2 4294967295 S M N S1 M1 N1 ∧ ∃ F fp fb f, sh8 S1 a F fp fb ∧ sh5 S1 (a + 2) (a + 4) 0 ∧ sh4 S1 (a + 5) f q_id) lq_no := by
  refine LM.of (by decide) rfl [some (.ref a)] rfl (Nat.le_of_ble_eq_true rfl) ?_
  refine qw_aload_n 0 dX8_init_0 rfl rfl ?_
  refine qw_objI mX8_1 lq_oi1 lq_oi2 (by decide) dX8_init_1 ?_
  refine qw_aload_n 0 dX8_init_4 rfl rfl ?_
  refine qw_sipush (nI 800) dX8_init_5 (by decide) ?_
  refine qw_newb (1605) (26147) lq_arB dX8_init_8 (by omega) (by omega) (by omega) ?_
  refine qw_putrF fX8_9 rfl rfl dX8_init_10 rfl rfl (by rw [lq_us_n _ _ (by omega)]; exact hS) rfl ?_
  refine qw_aload_n 0 dX8_init_13 rfl rfl ?_
  refine qw_iconst (nI 0) dX8_init_14 (by decide) ?_
  refine qw_puti fX8_13 dX8_init_15 (by rw [lq_us_s] <;> rfl) rfl ?_
  refine qw_aload_n 0 dX8_init_18 rfl rfl ?_
  refine qw_iconst (-1) dX8_init_19 (by decide) ?_
  rw [show (-1 : Int32) = nI 4294967295 by decide]
  refine qw_puti fX8_17 dX8_init_20 (by rw [lq_us_s] <;> rfl) rfl ?_
  refine qw_aload_n 0 dX8_init_23 rfl rfl ?_
  refine qw_new (1604) (26141) nX8_20 dX8_init_24 (by omega) (by show 26141 + 6 ≤ _; omega) ?_
  refine qw_dup dX8_init_27 rfl ?_
  refine qw_ci [] (k_X5_init (by rw [lq_us_s]) (by rw [lq_z_s])) mX8_22 dX8_init_28 rfl rfl (Nat.le_of_ble_eq_true rfl) (by omega) (by decide) (by omega) (by omega) rfl (fun S1 M1 N1 h1 p1 => ?_)
  refine qw_putrF fX8_23 rfl rfl dX8_init_31 rfl rfl (by rw [(h1.1 _ (by omega)).1, lq_us_n _ _ (by omega), lq_us_s] <;> rfl) rfl ?_
  refine qw_aload_n 0 dX8_init_34 rfl rfl ?_
  refine qw_new (1601) (26126) nX8_27 dX8_init_35 (by omega) (by show 26126 + 9 ≤ _; omega) ?_
  refine qw_dup dX8_init_38 rfl ?_
  refine qw_ci [] (k_X4_init hA (by rw [lq_us_s]) (by rw [lq_z_s])) mX8_29 dX8_init_39 rfl rfl (Nat.le_of_ble_eq_true rfl) (by omega) (by decide) (by omega) (by omega) rfl (fun S2 M2 N2 h2 p2 => ?_)
  obtain ⟨f, p2⟩ := p2
  refine qw_putrF fX8_30 rfl rfl dX8_init_42 rfl rfl (by rw [(h2.1 _ (by omega)).1, lq_us_n _ _ (by omega), lq_us_s] <;> rfl) rfl ?_
  refine qw_aload_n 0 dX8_init_45 rfl rfl ?_
  refine qw_new (1467) (23752) nX8_34 dX8_init_46 (by omega) (by show 23752 + 3 ≤ _; omega) ?_
  refine qw_dup dX8_init_49 rfl ?_
  refine qw_ci [] (k_X3_init hA (by rw [lq_us_s]) (by rw [lq_z_s])) mX8_36 dX8_init_50 rfl rfl (Nat.le_of_ble_eq_true rfl) (by omega) (by decide) (by omega) (by omega) rfl (fun S3 M3 N3 h3 p3 => ?_)
  obtain ⟨F, fp, p3⟩ := p3
  refine qw_putrF fX8_37 rfl rfl dX8_init_53 rfl rfl (by rw [(h3.1 _ (by omega)).1, lq_us_n _ _ (by omega), lq_us_s] <;> rfl) rfl ?_
  refine qw_aload_n 0 dX8_init_56 rfl rfl ?_
  refine qw_new (259) (2320) nX8_41 dX8_init_57 (by omega) (by show 2320 + 3 ≤ _; omega) ?_
  refine qw_dup dX8_init_60 rfl ?_
  refine qw_ci [] (k_X1_init hA (by rw [lq_us_s]) (by rw [lq_z_s])) mX8_43 dX8_init_61 rfl rfl (Nat.le_of_ble_eq_true rfl) (by omega) (by decide) (by omega) (by omega) rfl (fun S4 M4 N4 h4 p4 => ?_)
  obtain ⟨fb, p4⟩ := p4
  refine qw_putrF fX8_44 rfl rfl dX8_init_64 rfl rfl (by rw [(h4.1 _ (by omega)).1, lq_us_n _ _ (by omega), lq_us_s] <;> rfl) rfl ?_
  exact qw_return rfl dX8_init_67 ⟨rfl, rfl, (q_nb.put (q_nb.call (c := a + 1347) (l := 260) (q_nb.new (q_nb.put (q_nb.call (c := a + 139) (l := 1208) (q_nb.new (q_nb.put (q_nb.call (c := a + 5) (l := 134) (q_nb.new (q_nb.put (q_nb.call (c := a + 2) (l := 3) (q_nb.new (q_nb.of (k := 2) (v := 4294967295) (q_ns.up0 (q_ns.put (q_ns.new (q_ns.base hM) (by omega)) (by omega)) (by omega) (by omega)) (by omega)) (by omega)) (by omega) h1) (by omega)) (by omega)) (by omega) h2) (by omega)) (by omega)) (by omega) h3) (by omega)) (by omega)) (by omega) h4) (by omega)), F, fp, fb, f, ⟨by rw [lq_us_s] <;> rfl, p3.eqS (fun c c1 c2 => by rw [lq_us_n _ _ (by omega), (h4.1 _ (by omega)).1, lq_us_n _ _ (by omega), lq_us_n _ _ (by omega)]), p4.eqS (fun c c1 c2 => by rw [lq_us_n _ _ (by omega)]), by rw [lq_us_n _ _ (by omega), (h4.1 _ (by omega)).1, lq_us_n _ _ (by omega), lq_us_n _ _ (by omega), (h3.1 _ (by omega)).1, lq_us_n _ _ (by omega), lq_us_n _ _ (by omega), (h2.1 _ (by omega)).1, lq_us_n _ _ (by omega), lq_us_n _ _ (by omega), (h1.1 _ (by omega)).1, lq_us_n _ _ (by omega), lq_us_n _ _ (by omega), lq_us_s] <;> rfl⟩, p1.eqS (by rw [lq_us_n _ _ (by omega), (h4.1 _ (by omega)).1, lq_us_n _ _ (by omega), lq_us_n _ _ (by omega), (h3.1 _ (by omega)).1, lq_us_n _ _ (by omega), lq_us_n _ _ (by omega), (h2.1 _ (by omega)).1, lq_us_n _ _ (by omega), lq_us_n _ _ (by omega)]) (by rw [lq_us_n _ _ (by omega), (h4.1 _ (by omega)).1, lq_us_n _ _ (by omega), lq_us_n _ _ (by omega), (h3.1 _ (by omega)).1, lq_us_n _ _ (by omega), lq_us_n _ _ (by omega), (h2.1 _ (by omega)).1, lq_us_n _ _ (by omega), lq_us_n _ _ (by omega)]) (by rw [lq_us_n _ _ (by omega), (h4.1 _ (by omega)).1, lq_us_n _ _ (by omega), lq_us_n _ _ (by omega), (h3.1 _ (by omega)).1, lq_us_n _ _ (by omega), lq_us_n _ _ (by omega), (h2.1 _ (by omega)).1, lq_us_n _ _ (by omega), lq_us_n _ _ (by omega)]), p2.eqS (fun c c1 c2 => by rw [lq_us_n _ _ (by omega), (h4.1 _ (by omega)).1, lq_us_n _ _ (by omega), lq_us_n _ _ (by omega), (h3.1 _ (by omega)).1, lq_us_n _ _ (by omega), lq_us_n _ _ (by omega)])⟩
theorem k_X9_init {a : Nat} (hA : q_AO G) (hS : S a = some (.inl (9, [none, some none, none, none, none, none, none, none, some none, some none, some none, none, none, none, none, some none, some none, some none, some none]))) (hM : M a = fun _ => 0) : LM G YX9_init 0 272 31074 [.ref a] (a + 1) S M N (fun o z1 S1 M1 N1 => o = none ∧ z1 = a + 273 ∧ q_nb a (a + 273) 7 4294967295 S M N S1 M1 N1 ∧ ∃ fh fo, sh9 S1 a fh fo) lq_no := by
  refine LM.of (by decide) rfl [some (.ref a)] rfl (Nat.le_of_ble_eq_true rfl) ?_
  refine qw_aload_n 0 dX9_init_0 rfl rfl ?_
  refine qw_objI mX9_3 lq_oi1 lq_oi2 (by decide) dX9_init_1 ?_
  refine qw_aload_n 0 dX9_init_4 rfl rfl ?_
  refine qw_sipush (nI 800) dX9_init_5 (by decide) ?_
  refine qw_newi (271) (30274) lq_arI dX9_init_8 (by omega) (by omega) (by omega) ?_
  refine qw_putrF fX9_9 rfl rfl dX9_init_10 rfl rfl (by rw [lq_us_n _ _ (by omega)]; exact hS) rfl ?_
  refine qw_aload_n 0 dX9_init_13 rfl rfl ?_
  refine qw_iconst (-1) dX9_init_14 (by decide) ?_
  rw [show (-1 : Int32) = nI 4294967295 by decide]
  refine qw_puti fX9_13 dX9_init_15 (by rw [lq_us_s] <;> rfl) rfl ?_
  refine qw_aload_n 0 dX9_init_18 rfl rfl ?_
  refine qw_sipush (nI 2663) dX9_init_19 (by decide) ?_
  refine qw_newi (270) (27611) lq_arI dX9_init_22 (by omega) (by omega) (by omega) ?_
  refine qw_putrF fX9_17 rfl rfl dX9_init_24 rfl rfl (by rw [lq_us_n _ _ (by omega), lq_us_s] <;> rfl) rfl ?_
  refine qw_aload_n 0 dX9_init_27 rfl rfl ?_
  refine qw_sipush (nI 2663) dX9_init_28 (by decide) ?_
  refine qw_newi (269) (24948) lq_arI dX9_init_31 (by omega) (by omega) (by omega) ?_
  refine qw_putrF fX9_20 rfl rfl dX9_init_33 rfl rfl (by rw [lq_us_n _ _ (by omega), lq_us_s] <;> rfl) rfl ?_
  refine qw_aload_n 0 dX9_init_36 rfl rfl ?_
  refine qw_bipush (nI 8) dX9_init_37 (by decide) ?_
  refine qw_sipush (nI 2663) dX9_init_39 (by decide) ?_
  refine qw_mna hA.1 (260) (3636) (lq_in (by decide +kernel) (by decide +kernel)) dX9_init_42 (by omega) (by omega) (by omega) (by omega) ?_
  refine qw_putrF fX9_25 rfl rfl dX9_init_46 rfl rfl (by rw [lq_um_n (by omega), lq_us_s] <;> rfl) rfl ?_
  refine qw_aload_n 0 dX9_init_49 rfl rfl ?_
  refine qw_sipush (nI 1300) dX9_init_50 (by decide) ?_
  refine qw_newl (259) (2336) lq_arL dX9_init_53 (by omega) (by omega) (by omega) ?_
  refine qw_putrF fX9_28 rfl rfl dX9_init_55 rfl rfl (by rw [lq_us_n _ _ (by omega), lq_us_s] <;> rfl) rfl ?_
  refine qw_aload_n 0 dX9_init_58 rfl rfl ?_
  refine qw_sipush (nI 256) dX9_init_59 (by decide) ?_
  refine qw_bipush (nI 8) dX9_init_62 (by decide) ?_
  refine qw_mna hA.1 (2) (32) (lq_in (by decide +kernel) (by decide +kernel)) dX9_init_64 (by omega) (by omega) (by omega) (by omega) ?_
  refine qw_putrF fX9_32 rfl rfl dX9_init_68 rfl rfl (by rw [lq_um_n (by omega), lq_us_s] <;> rfl) rfl ?_
  refine qw_aload_n 0 dX9_init_71 rfl rfl ?_
  refine qw_bipush (nI 8) dX9_init_72 (by decide) ?_
  refine qw_newi (1) (24) lq_arI dX9_init_74 (by omega) (by omega) (by omega) ?_
  refine qw_putrF fX9_35 rfl rfl dX9_init_76 rfl rfl (by rw [lq_us_n _ _ (by omega), lq_us_s] <;> rfl) rfl ?_
  refine qw_aload_n 0 dX9_init_79 rfl rfl ?_
  refine qw_bipush (nI 24) dX9_init_80 (by decide) ?_
  refine qw_newi (0) (0) lq_arI dX9_init_82 (by omega) (by omega) (by omega) ?_
  refine qw_putrF fX9_38 rfl rfl dX9_init_84 rfl rfl (by rw [lq_us_n _ _ (by omega), lq_us_s] <;> rfl) rfl ?_
  exact qw_return rfl dX9_init_87 ⟨rfl, rfl, (q_nb.put (q_nb.new (q_nb.put (q_nb.new (q_nb.put (q_nb.mna (q_nb.put (q_nb.new (q_nb.put (q_nb.mna (q_nb.put (q_nb.new (q_nb.put (q_nb.new (q_nb.of (k := 7) (v := 4294967295) (q_ns.put (q_ns.new (q_ns.base hM) (by omega)) (by omega)) (by omega)) (by omega)) (by omega)) (by omega)) (by omega)) (by omega)) (by omega)) (by omega)) (by omega)) (by omega)) (by omega)) (by omega)) (by omega)) (by omega)) (by omega)), _, _, by rw [lq_us_s] <;> rfl, ⟨by rw [lq_us_n _ _ (by omega), lq_us_n _ _ (by omega), lq_us_n _ _ (by omega), lq_us_n _ _ (by omega), lq_us_n _ _ (by omega), lq_um_n (by omega), lq_us_n _ _ (by omega), lq_us_n _ _ (by omega), lq_us_n _ _ (by omega), lq_um_n (by omega), lq_us_n _ _ (by omega), lq_us_n _ _ (by omega), lq_us_n _ _ (by omega), lq_us_n _ _ (by omega), lq_us_n _ _ (by omega), lq_us_s] <;> rfl, by rw [lq_us_n _ _ (by omega), lq_us_n _ _ (by omega), lq_us_n _ _ (by omega), lq_us_n _ _ (by omega), lq_us_n _ _ (by omega), lq_um_n (by omega), lq_us_n _ _ (by omega), lq_us_n _ _ (by omega), lq_us_n _ _ (by omega), lq_um_n (by omega), lq_us_n _ _ (by omega), lq_us_n _ _ (by omega), lq_us_n _ _ (by omega), lq_us_s] <;> rfl, by rw [lq_us_n _ _ (by omega), lq_us_n _ _ (by omega), lq_us_n _ _ (by omega), lq_us_n _ _ (by omega), lq_us_n _ _ (by omega), lq_um_n (by omega), lq_us_n _ _ (by omega), lq_us_n _ _ (by omega), lq_us_n _ _ (by omega), lq_um_n (by omega), lq_us_n _ _ (by omega), lq_us_s] <;> rfl⟩, ⟨by rw [lq_us_n _ _ (by omega), lq_us_n _ _ (by omega), lq_us_n _ _ (by omega), lq_us_n _ _ (by omega), lq_us_n _ _ (by omega), lq_um_n (by omega), lq_us_n _ _ (by omega), lq_us_n _ _ (by omega), lq_us_n _ _ (by omega), lq_um_o] <;> rfl, fun k hk => by rw [if_pos hk], fun k hk => by rw [lq_us_n _ _ (by omega), lq_us_n _ _ (by omega), lq_us_n _ _ (by omega), lq_us_n _ _ (by omega), lq_us_n _ _ (by omega), lq_um_n (by omega), lq_us_n _ _ (by omega), lq_us_n _ _ (by omega), lq_us_n _ _ (by omega), lq_um_i (by omega)]⟩, ⟨by rw [lq_us_n _ _ (by omega), lq_us_n _ _ (by omega), lq_us_n _ _ (by omega), lq_us_n _ _ (by omega), lq_us_n _ _ (by omega), lq_um_n (by omega), lq_us_n _ _ (by omega), lq_us_s] <;> rfl, by rw [lq_us_n _ _ (by omega), lq_us_n _ _ (by omega), lq_us_n _ _ (by omega), lq_us_n _ _ (by omega), lq_us_n _ _ (by omega), lq_um_o] <;> rfl, fun k hk => by rw [if_pos hk], fun k hk => by rw [lq_us_n _ _ (by omega), lq_us_n _ _ (by omega), lq_us_n _ _ (by omega), lq_us_n _ _ (by omega), lq_us_n _ _ (by omega), lq_um_i (by omega)]⟩, by rw [lq_us_n _ _ (by omega), lq_us_n _ _ (by omega), lq_us_n _ _ (by omega), lq_us_s] <;> rfl, by rw [lq_us_n _ _ (by omega), lq_us_s] <;> rfl⟩
end CN2
