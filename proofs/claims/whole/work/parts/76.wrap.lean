/-! THE LAW: a public method called where its exceptions are told by numbers -/
def q_cod : List String → String → Nat
  | [], _ => 0
  | a :: t, E => if E = a then 1 else q_cod t E + 1
def q_wr (Q' : lq_P) (P : String → Prop) (f : Int32 → Int64) (l : List String) (o : Nat) (S : lq_S) (M : lq_M) (N : lq_N) : lq_P := fun r z1 S1 M1 N1 => (∃ x N0, Q' (some (.int x)) z1 S1 M1 N0 ∧ r = some (.int (nI 0)) ∧ N1 = lq_up N0 o 0 (f x)) ∨ (∃ E, P E ∧ r = some (.int (nI (q_cod l E))) ∧ S1 = S ∧ M1 = M ∧ N1 = N)
section LWR
variable {G : lq_G} {z d kc ks b o : Nat} {S : lq_S} {M : lq_M} {N : lq_N} {fl : List (Option (Option Nat))} {Q' : lq_P} {P : String → Prop}
theorem k_L_load {x : Int32} (hNC : q_NC G) (hS : S b = some (.inl (8, fl))) (hM : LM G YX8_load d kc ks [.ref b, .int x] z S M N Q' (lq_xs S M N P)) (hQ : ∀ r z1 S1 M1 N1, Q' r z1 S1 M1 N1 → (∃ x, r = some (.int x)) ∧ S1 o = some (.inr (.inl (2, 1)))) (hP : ∀ E, P E → E = eIA) : LMH G YL_load (d + 1) kc ks [.ref b, .int x, .ref o] z S M N (q_wr Q' P (fun x => x.toInt64) [eIA] o S M N) lq_no := by
  refine LMH.of (by decide) [some (.ref b), some (.int x), some (.ref o), none] rfl (Nat.le_of_ble_eq_true rfl) ?_
  refine qw_aload_n 2 dL_load_0 rfl rfl ?_
  refine qw_iconst (nI 0) dL_load_1 (by decide) ?_
  refine qw_aload_n 0 dL_load_2 rfl rfl ?_
  refine qw_iload_n 1 dL_load_3 rfl rfl ?_
  refine lq_callVH (As := [.int x]) hM mL_7 dL_load_4 hS rfl rfl rfl (Nat.le_of_ble_eq_true rfl) (Nat.le_refl _) (by decide) (Nat.le_refl _) (Nat.le_refl _) (fun E z1 S1 M1 N1 hx => ?_) (fun r z1 S1 M1 N1 hq => ?_)
  · obtain ⟨e1, e2, e3, hE⟩ := hx
    subst e1
    subst e2
    subst e3
    obtain rfl := hP E hE
    refine ⟨[], ⟨0, 9, 12, 13⟩, [], rfl, (fun y hy => nomatch hy), rfl, (by decide), q_cl13, q_ca13, fun q => ?_⟩
    refine qw_astore_n 3 dL_load_12 rfl rfl (by decide) ?_
    refine qw_iconst (nI 1) dL_load_13 (by decide) ?_
    exact qw_ireturn rfl rfl dL_load_14 (Or.inr ⟨eIA, hE, (by rfl), rfl, rfl, rfl⟩)
  · obtain ⟨⟨x9, rfl⟩, hO⟩ := hQ _ _ _ _ _ hq
    refine qw_i2l _ dL_load_7 rfl ?_
    refine qw_last dL_load_8 hO (by omega) (by omega) ?_
    refine qw_goto 15 dL_load_9 (by decide) ?_
    refine qw_iconst (nI 0) dL_load_15 (by decide) ?_
    exact qw_ireturn rfl rfl dL_load_16 (Or.inl ⟨x9, N1, hq, rfl, rfl⟩)
theorem k_L_breakOf {x y : Int32} (hNC : q_NC G) (hS : S b = some (.inl (8, fl))) (hM : LM G YX8_breakOf d kc ks [.ref b, .int x, .int y] z S M N Q' (lq_xs S M N P)) (hQ : ∀ r z1 S1 M1 N1, Q' r z1 S1 M1 N1 → (∃ x, r = some (.int x)) ∧ S1 o = some (.inr (.inl (2, 1)))) (hP : ∀ E, P E → E = eIO ∨ E = eIA) : LMH G YL_breakOf (d + 1) kc ks [.ref b, .int x, .int y, .ref o] z S M N (q_wr Q' P (fun x => x.toInt64) [eIO, eIA] o S M N) lq_no := by
  refine LMH.of (by decide) [some (.ref b), some (.int x), some (.int y), some (.ref o), none] rfl (Nat.le_of_ble_eq_true rfl) ?_
  refine qw_aload_n 3 dL_breakOf_0 rfl rfl ?_
  refine qw_iconst (nI 0) dL_breakOf_1 (by decide) ?_
  refine qw_aload_n 0 dL_breakOf_2 rfl rfl ?_
  refine qw_iload_n 1 dL_breakOf_3 rfl rfl ?_
  refine qw_iload_n 2 dL_breakOf_4 rfl rfl ?_
  refine lq_callVH (As := [.int x, .int y]) hM mL_15 dL_breakOf_5 hS rfl rfl rfl (Nat.le_of_ble_eq_true rfl) (Nat.le_refl _) (by decide) (Nat.le_refl _) (Nat.le_refl _) (fun E z1 S1 M1 N1 hx => ?_) (fun r z1 S1 M1 N1 hq => ?_)
  · obtain ⟨e1, e2, e3, hE⟩ := hx
    subst e1
    subst e2
    subst e3
    rcases hP E hE with rfl | rfl
    · refine ⟨[], ⟨0, 10, 13, 19⟩, [⟨0, 10, 17, 13⟩], rfl, (fun y hy => nomatch hy), rfl, (by decide), q_cl19, q_ca19, fun q => ?_⟩
      refine qw_astore dL_breakOf_13 rfl (by decide) ?_
      refine qw_iconst (nI 1) dL_breakOf_15 (by decide) ?_
      exact qw_ireturn rfl rfl dL_breakOf_16 (Or.inr ⟨eIO, hE, (by rfl), rfl, rfl, rfl⟩)
    · refine ⟨[⟨0, 10, 13, 19⟩], ⟨0, 10, 17, 13⟩, [], rfl, (by
        intro y hy
        rcases List.mem_cons.mp hy with rfl | hy
        · exact Or.inr ⟨(by decide), _, q_cl19, hNC.1.1⟩
        · exact (nomatch hy)), rfl, (by decide), q_cl13, q_ca13, fun q => ?_⟩
      refine qw_astore dL_breakOf_17 rfl (by decide) ?_
      refine qw_iconst (nI 2) dL_breakOf_19 (by decide) ?_
      exact qw_ireturn rfl rfl dL_breakOf_20 (Or.inr ⟨eIA, hE, (by rfl), rfl, rfl, rfl⟩)
  · obtain ⟨⟨x9, rfl⟩, hO⟩ := hQ _ _ _ _ _ hq
    refine qw_i2l _ dL_breakOf_8 rfl ?_
    refine qw_last dL_breakOf_9 hO (by omega) (by omega) ?_
    refine qw_goto 21 dL_breakOf_10 (by decide) ?_
    refine qw_iconst (nI 0) dL_breakOf_21 (by decide) ?_
    exact qw_ireturn rfl rfl dL_breakOf_22 (Or.inl ⟨x9, N1, hq, rfl, rfl⟩)
theorem k_L_spot {x y w : Int32} (hNC : q_NC G) (hS : S b = some (.inl (8, fl))) (hM : LM G YX8_spot d kc ks [.ref b, .int x, .int y, .int w] z S M N Q' (lq_xs S M N P)) (hQ : ∀ r z1 S1 M1 N1, Q' r z1 S1 M1 N1 → (∃ x, r = some (.int x)) ∧ S1 o = some (.inr (.inl (2, 1)))) (hP : ∀ E, P E → E = eIO ∨ E = eNS ∨ E = eIA) : LMH G YL_spot (d + 1) kc ks [.ref b, .int x, .int y, .int w, .ref o] z S M N (q_wr Q' P (fun x => x.toInt64) [eIO, eNS, eIA] o S M N) lq_no := by
  refine LMH.of (by decide) [some (.ref b), some (.int x), some (.int y), some (.int w), some (.ref o), none] rfl (Nat.le_of_ble_eq_true rfl) ?_
  refine qw_aload dL_spot_0 rfl ?_
  refine qw_iconst (nI 0) dL_spot_2 (by decide) ?_
  refine qw_aload_n 0 dL_spot_3 rfl rfl ?_
  refine qw_iload_n 1 dL_spot_4 rfl rfl ?_
  refine qw_iload_n 2 dL_spot_5 rfl rfl ?_
  refine qw_iload_n 3 dL_spot_6 rfl rfl ?_
  refine lq_callVH (As := [.int x, .int y, .int w]) hM mL_21 dL_spot_7 hS rfl rfl rfl (Nat.le_of_ble_eq_true rfl) (Nat.le_refl _) (by decide) (Nat.le_refl _) (Nat.le_refl _) (fun E z1 S1 M1 N1 hx => ?_) (fun r z1 S1 M1 N1 hq => ?_)
  · obtain ⟨e1, e2, e3, hE⟩ := hx
    subst e1
    subst e2
    subst e3
    rcases hP E hE with rfl | rfl | rfl
    · refine ⟨[], ⟨0, 12, 15, 19⟩, [⟨0, 12, 19, 25⟩, ⟨0, 12, 23, 13⟩], rfl, (fun y hy => nomatch hy), rfl, (by decide), q_cl19, q_ca19, fun q => ?_⟩
      refine qw_astore dL_spot_15 rfl (by decide) ?_
      refine qw_iconst (nI 1) dL_spot_17 (by decide) ?_
      exact qw_ireturn rfl rfl dL_spot_18 (Or.inr ⟨eIO, hE, (by rfl), rfl, rfl, rfl⟩)
    · refine ⟨[⟨0, 12, 15, 19⟩], ⟨0, 12, 19, 25⟩, [⟨0, 12, 23, 13⟩], rfl, (by
        intro y hy
        rcases List.mem_cons.mp hy with rfl | hy
        · exact Or.inr ⟨(by decide), _, q_cl19, hNC.2.1.1⟩
        · exact (nomatch hy)), rfl, (by decide), q_cl25, q_ca25, fun q => ?_⟩
      refine qw_astore dL_spot_19 rfl (by decide) ?_
      refine qw_iconst (nI 2) dL_spot_21 (by decide) ?_
      exact qw_ireturn rfl rfl dL_spot_22 (Or.inr ⟨eNS, hE, (by rfl), rfl, rfl, rfl⟩)
    · refine ⟨[⟨0, 12, 15, 19⟩, ⟨0, 12, 19, 25⟩], ⟨0, 12, 23, 13⟩, [], rfl, (by
        intro y hy
        rcases List.mem_cons.mp hy with rfl | hy
        · exact Or.inr ⟨(by decide), _, q_cl19, hNC.1.1⟩
        rcases List.mem_cons.mp hy with rfl | hy
        · exact Or.inr ⟨(by decide), _, q_cl25, hNC.1.2⟩
        · exact (nomatch hy)), rfl, (by decide), q_cl13, q_ca13, fun q => ?_⟩
      refine qw_astore dL_spot_23 rfl (by decide) ?_
      refine qw_iconst (nI 3) dL_spot_25 (by decide) ?_
      exact qw_ireturn rfl rfl dL_spot_26 (Or.inr ⟨eIA, hE, (by rfl), rfl, rfl, rfl⟩)
  · obtain ⟨⟨x9, rfl⟩, hO⟩ := hQ _ _ _ _ _ hq
    refine qw_i2l _ dL_spot_10 rfl ?_
    refine qw_last dL_spot_11 hO (by omega) (by omega) ?_
    refine qw_goto 27 dL_spot_12 (by decide) ?_
    refine qw_iconst (nI 0) dL_spot_27 (by decide) ?_
    exact qw_ireturn rfl rfl dL_spot_28 (Or.inl ⟨x9, N1, hq, rfl, rfl⟩)
theorem k_L_sponsor {x y : Int32} (hNC : q_NC G) (hS : S b = some (.inl (8, fl))) (hM : LM G YX8_sponsor d kc ks [.ref b, .int x, .int y] z S M N Q' (lq_xs S M N P)) (hQ : ∀ r z1 S1 M1 N1, Q' r z1 S1 M1 N1 → (∃ x, r = some (.int x)) ∧ S1 o = some (.inr (.inl (2, 1)))) (hP : ∀ E, P E → E = eIO ∨ E = eIA) : LMH G YL_sponsor (d + 1) kc ks [.ref b, .int x, .int y, .ref o] z S M N (q_wr Q' P (fun x => x.toInt64) [eIO, eIA] o S M N) lq_no := by
  refine LMH.of (by decide) [some (.ref b), some (.int x), some (.int y), some (.ref o), none] rfl (Nat.le_of_ble_eq_true rfl) ?_
  refine qw_aload_n 3 dL_sponsor_0 rfl rfl ?_
  refine qw_iconst (nI 0) dL_sponsor_1 (by decide) ?_
  refine qw_aload_n 0 dL_sponsor_2 rfl rfl ?_
  refine qw_iload_n 1 dL_sponsor_3 rfl rfl ?_
  refine qw_iload_n 2 dL_sponsor_4 rfl rfl ?_
  refine lq_callVH (As := [.int x, .int y]) hM mL_27 dL_sponsor_5 hS rfl rfl rfl (Nat.le_of_ble_eq_true rfl) (Nat.le_refl _) (by decide) (Nat.le_refl _) (Nat.le_refl _) (fun E z1 S1 M1 N1 hx => ?_) (fun r z1 S1 M1 N1 hq => ?_)
  · obtain ⟨e1, e2, e3, hE⟩ := hx
    subst e1
    subst e2
    subst e3
    rcases hP E hE with rfl | rfl
    · refine ⟨[], ⟨0, 10, 13, 19⟩, [⟨0, 10, 17, 13⟩], rfl, (fun y hy => nomatch hy), rfl, (by decide), q_cl19, q_ca19, fun q => ?_⟩
      refine qw_astore dL_sponsor_13 rfl (by decide) ?_
      refine qw_iconst (nI 1) dL_sponsor_15 (by decide) ?_
      exact qw_ireturn rfl rfl dL_sponsor_16 (Or.inr ⟨eIO, hE, (by rfl), rfl, rfl, rfl⟩)
    · refine ⟨[⟨0, 10, 13, 19⟩], ⟨0, 10, 17, 13⟩, [], rfl, (by
        intro y hy
        rcases List.mem_cons.mp hy with rfl | hy
        · exact Or.inr ⟨(by decide), _, q_cl19, hNC.1.1⟩
        · exact (nomatch hy)), rfl, (by decide), q_cl13, q_ca13, fun q => ?_⟩
      refine qw_astore dL_sponsor_17 rfl (by decide) ?_
      refine qw_iconst (nI 2) dL_sponsor_19 (by decide) ?_
      exact qw_ireturn rfl rfl dL_sponsor_20 (Or.inr ⟨eIA, hE, (by rfl), rfl, rfl, rfl⟩)
  · obtain ⟨⟨x9, rfl⟩, hO⟩ := hQ _ _ _ _ _ hq
    refine qw_i2l _ dL_sponsor_8 rfl ?_
    refine qw_last dL_sponsor_9 hO (by omega) (by omega) ?_
    refine qw_goto 21 dL_sponsor_10 (by decide) ?_
    refine qw_iconst (nI 0) dL_sponsor_21 (by decide) ?_
    exact qw_ireturn rfl rfl dL_sponsor_22 (Or.inl ⟨x9, N1, hq, rfl, rfl⟩)
theorem k_L_isBanned {x y : Int32} (hNC : q_NC G) (hS : S b = some (.inl (8, fl))) (hM : LM G YX8_isBanned d kc ks [.ref b, .int x, .int y] z S M N Q' (lq_xs S M N P)) (hQ : ∀ r z1 S1 M1 N1, Q' r z1 S1 M1 N1 → (∃ x, r = some (.int x)) ∧ S1 o = some (.inr (.inl (2, 1)))) (hP : ∀ E, P E → E = eIA) : LMH G YL_isBanned (d + 1) kc ks [.ref b, .int x, .int y, .ref o] z S M N (q_wr Q' P (fun x => if x = 0 then 0 else 1) [eIA] o S M N) lq_no := by
  refine LMH.of (by decide) [some (.ref b), some (.int x), some (.int y), some (.ref o), none] rfl (Nat.le_of_ble_eq_true rfl) ?_
  refine qw_aload_n 3 dL_isBanned_0 rfl rfl ?_
  refine qw_iconst (nI 0) dL_isBanned_1 (by decide) ?_
  refine qw_aload_n 0 dL_isBanned_2 rfl rfl ?_
  refine qw_iload_n 1 dL_isBanned_3 rfl rfl ?_
  refine qw_iload_n 2 dL_isBanned_4 rfl rfl ?_
  refine lq_callVH (As := [.int x, .int y]) hM mL_30 dL_isBanned_5 hS rfl rfl rfl (Nat.le_of_ble_eq_true rfl) (Nat.le_refl _) (by decide) (Nat.le_refl _) (Nat.le_refl _) (fun E z1 S1 M1 N1 hx => ?_) (fun r z1 S1 M1 N1 hq => ?_)
  · obtain ⟨e1, e2, e3, hE⟩ := hx
    subst e1
    subst e2
    subst e3
    obtain rfl := hP E hE
    refine ⟨[], ⟨0, 17, 20, 13⟩, [], rfl, (fun y hy => nomatch hy), rfl, (by decide), q_cl13, q_ca13, fun q => ?_⟩
    refine qw_astore dL_isBanned_20 rfl (by decide) ?_
    refine qw_iconst (nI 1) dL_isBanned_22 (by decide) ?_
    exact qw_ireturn rfl rfl dL_isBanned_23 (Or.inr ⟨eIA, hE, (by rfl), rfl, rfl, rfl⟩)
  · obtain ⟨⟨x9, rfl⟩, hO⟩ := hQ _ _ _ _ _ hq
    refine qw_if_eq 15 dL_isBanned_8 (by decide) (fun c8 => ?_) (fun c8 => ?_)
    · refine qw_lconst (0) dL_isBanned_15 (by decide) ?_
      refine qw_last dL_isBanned_16 hO (by omega) (by omega) ?_
      refine qw_goto 24 dL_isBanned_17 (by decide) ?_
      refine qw_iconst (nI 0) dL_isBanned_24 (by decide) ?_
      exact qw_ireturn rfl rfl dL_isBanned_25 (Or.inl ⟨x9, N1, hq, rfl, (by simp [c8])⟩)
    · refine qw_lconst (1) dL_isBanned_11 (by decide) ?_
      refine qw_goto 16 dL_isBanned_12 (by decide) ?_
      refine qw_last dL_isBanned_16 hO (by omega) (by omega) ?_
      refine qw_goto 24 dL_isBanned_17 (by decide) ?_
      refine qw_iconst (nI 0) dL_isBanned_24 (by decide) ?_
      exact qw_ireturn rfl rfl dL_isBanned_25 (Or.inl ⟨x9, N1, hq, rfl, (by simp [c8])⟩)
theorem k_L_spotsOn {x y : Int32} (hNC : q_NC G) (hS : S b = some (.inl (8, fl))) (hM : LM G YX8_spotsOn d kc ks [.ref b, .int x, .int y] z S M N Q' (lq_xs S M N P)) (hQ : ∀ r z1 S1 M1 N1, Q' r z1 S1 M1 N1 → (∃ x, r = some (.int x)) ∧ S1 o = some (.inr (.inl (2, 1)))) (hP : ∀ E, P E → E = eIO ∨ E = eIA) : LMH G YL_spotsOn (d + 1) kc ks [.ref b, .int x, .int y, .ref o] z S M N (q_wr Q' P (fun x => x.toInt64) [eIO, eIA] o S M N) lq_no := by
  refine LMH.of (by decide) [some (.ref b), some (.int x), some (.int y), some (.ref o), none] rfl (Nat.le_of_ble_eq_true rfl) ?_
  refine qw_aload_n 3 dL_spotsOn_0 rfl rfl ?_
  refine qw_iconst (nI 0) dL_spotsOn_1 (by decide) ?_
  refine qw_aload_n 0 dL_spotsOn_2 rfl rfl ?_
  refine qw_iload_n 1 dL_spotsOn_3 rfl rfl ?_
  refine qw_iload_n 2 dL_spotsOn_4 rfl rfl ?_
  refine lq_callVH (As := [.int x, .int y]) hM mL_34 dL_spotsOn_5 hS rfl rfl rfl (Nat.le_of_ble_eq_true rfl) (Nat.le_refl _) (by decide) (Nat.le_refl _) (Nat.le_refl _) (fun E z1 S1 M1 N1 hx => ?_) (fun r z1 S1 M1 N1 hq => ?_)
  · obtain ⟨e1, e2, e3, hE⟩ := hx
    subst e1
    subst e2
    subst e3
    rcases hP E hE with rfl | rfl
    · refine ⟨[], ⟨0, 10, 13, 19⟩, [⟨0, 10, 17, 13⟩], rfl, (fun y hy => nomatch hy), rfl, (by decide), q_cl19, q_ca19, fun q => ?_⟩
      refine qw_astore dL_spotsOn_13 rfl (by decide) ?_
      refine qw_iconst (nI 1) dL_spotsOn_15 (by decide) ?_
      exact qw_ireturn rfl rfl dL_spotsOn_16 (Or.inr ⟨eIO, hE, (by rfl), rfl, rfl, rfl⟩)
    · refine ⟨[⟨0, 10, 13, 19⟩], ⟨0, 10, 17, 13⟩, [], rfl, (by
        intro y hy
        rcases List.mem_cons.mp hy with rfl | hy
        · exact Or.inr ⟨(by decide), _, q_cl19, hNC.1.1⟩
        · exact (nomatch hy)), rfl, (by decide), q_cl13, q_ca13, fun q => ?_⟩
      refine qw_astore dL_spotsOn_17 rfl (by decide) ?_
      refine qw_iconst (nI 2) dL_spotsOn_19 (by decide) ?_
      exact qw_ireturn rfl rfl dL_spotsOn_20 (Or.inr ⟨eIA, hE, (by rfl), rfl, rfl, rfl⟩)
  · obtain ⟨⟨x9, rfl⟩, hO⟩ := hQ _ _ _ _ _ hq
    refine qw_i2l _ dL_spotsOn_8 rfl ?_
    refine qw_last dL_spotsOn_9 hO (by omega) (by omega) ?_
    refine qw_goto 21 dL_spotsOn_10 (by decide) ?_
    refine qw_iconst (nI 0) dL_spotsOn_21 (by decide) ?_
    exact qw_ireturn rfl rfl dL_spotsOn_22 (Or.inl ⟨x9, N1, hq, rfl, rfl⟩)
theorem k_L_reason {x y w : Int32} (hNC : q_NC G) (hS : S b = some (.inl (8, fl))) (hM : LM G YX8_reason d kc ks [.ref b, .int x, .int y, .int w] z S M N Q' (lq_xs S M N P)) (hQ : ∀ r z1 S1 M1 N1, Q' r z1 S1 M1 N1 → (∃ x, r = some (.int x)) ∧ S1 o = some (.inr (.inl (2, 1)))) (hP : ∀ E, P E → E = eIO ∨ E = eIA) : LMH G YL_reason (d + 1) kc ks [.ref b, .int x, .int y, .int w, .ref o] z S M N (q_wr Q' P (fun x => x.toInt64) [eIO, eIA] o S M N) lq_no := by
  refine LMH.of (by decide) [some (.ref b), some (.int x), some (.int y), some (.int w), some (.ref o), none] rfl (Nat.le_of_ble_eq_true rfl) ?_
  refine qw_aload dL_reason_0 rfl ?_
  refine qw_iconst (nI 0) dL_reason_2 (by decide) ?_
  refine qw_aload_n 0 dL_reason_3 rfl rfl ?_
  refine qw_iload_n 1 dL_reason_4 rfl rfl ?_
  refine qw_iload_n 2 dL_reason_5 rfl rfl ?_
  refine qw_iload_n 3 dL_reason_6 rfl rfl ?_
  refine lq_callVH (As := [.int x, .int y, .int w]) hM mL_37 dL_reason_7 hS rfl rfl rfl (Nat.le_of_ble_eq_true rfl) (Nat.le_refl _) (by decide) (Nat.le_refl _) (Nat.le_refl _) (fun E z1 S1 M1 N1 hx => ?_) (fun r z1 S1 M1 N1 hq => ?_)
  · obtain ⟨e1, e2, e3, hE⟩ := hx
    subst e1
    subst e2
    subst e3
    rcases hP E hE with rfl | rfl
    · refine ⟨[], ⟨0, 12, 15, 19⟩, [⟨0, 12, 19, 13⟩], rfl, (fun y hy => nomatch hy), rfl, (by decide), q_cl19, q_ca19, fun q => ?_⟩
      refine qw_astore dL_reason_15 rfl (by decide) ?_
      refine qw_iconst (nI 1) dL_reason_17 (by decide) ?_
      exact qw_ireturn rfl rfl dL_reason_18 (Or.inr ⟨eIO, hE, (by rfl), rfl, rfl, rfl⟩)
    · refine ⟨[⟨0, 12, 15, 19⟩], ⟨0, 12, 19, 13⟩, [], rfl, (by
        intro y hy
        rcases List.mem_cons.mp hy with rfl | hy
        · exact Or.inr ⟨(by decide), _, q_cl19, hNC.1.1⟩
        · exact (nomatch hy)), rfl, (by decide), q_cl13, q_ca13, fun q => ?_⟩
      refine qw_astore dL_reason_19 rfl (by decide) ?_
      refine qw_iconst (nI 2) dL_reason_21 (by decide) ?_
      exact qw_ireturn rfl rfl dL_reason_22 (Or.inr ⟨eIA, hE, (by rfl), rfl, rfl, rfl⟩)
  · obtain ⟨⟨x9, rfl⟩, hO⟩ := hQ _ _ _ _ _ hq
    refine qw_i2l _ dL_reason_10 rfl ?_
    refine qw_last dL_reason_11 hO (by omega) (by omega) ?_
    refine qw_goto 23 dL_reason_12 (by decide) ?_
    refine qw_iconst (nI 0) dL_reason_23 (by decide) ?_
    exact qw_ireturn rfl rfl dL_reason_24 (Or.inl ⟨x9, N1, hq, rfl, rfl⟩)
theorem k_L_price {x y w : Int32} (hNC : q_NC G) (hS : S b = some (.inl (8, fl))) (hM : LM G YX8_price d kc ks [.ref b, .int x, .int y, .int w] z S M N Q' (lq_xs S M N P)) (hQ : ∀ r z1 S1 M1 N1, Q' r z1 S1 M1 N1 → (∃ x, r = some (.int x)) ∧ S1 o = some (.inr (.inl (2, 1)))) (hP : ∀ E, P E → E = eIO ∨ E = eIA) : LMH G YL_price (d + 1) kc ks [.ref b, .int x, .int y, .int w, .ref o] z S M N (q_wr Q' P (fun x => x.toInt64) [eIO, eIA] o S M N) lq_no := by
  refine LMH.of (by decide) [some (.ref b), some (.int x), some (.int y), some (.int w), some (.ref o), none] rfl (Nat.le_of_ble_eq_true rfl) ?_
  refine qw_aload dL_price_0 rfl ?_
  refine qw_iconst (nI 0) dL_price_2 (by decide) ?_
  refine qw_aload_n 0 dL_price_3 rfl rfl ?_
  refine qw_iload_n 1 dL_price_4 rfl rfl ?_
  refine qw_iload_n 2 dL_price_5 rfl rfl ?_
  refine qw_iload_n 3 dL_price_6 rfl rfl ?_
  refine lq_callVH (As := [.int x, .int y, .int w]) hM mL_40 dL_price_7 hS rfl rfl rfl (Nat.le_of_ble_eq_true rfl) (Nat.le_refl _) (by decide) (Nat.le_refl _) (Nat.le_refl _) (fun E z1 S1 M1 N1 hx => ?_) (fun r z1 S1 M1 N1 hq => ?_)
  · obtain ⟨e1, e2, e3, hE⟩ := hx
    subst e1
    subst e2
    subst e3
    rcases hP E hE with rfl | rfl
    · refine ⟨[], ⟨0, 12, 15, 19⟩, [⟨0, 12, 19, 13⟩], rfl, (fun y hy => nomatch hy), rfl, (by decide), q_cl19, q_ca19, fun q => ?_⟩
      refine qw_astore dL_price_15 rfl (by decide) ?_
      refine qw_iconst (nI 1) dL_price_17 (by decide) ?_
      exact qw_ireturn rfl rfl dL_price_18 (Or.inr ⟨eIO, hE, (by rfl), rfl, rfl, rfl⟩)
    · refine ⟨[⟨0, 12, 15, 19⟩], ⟨0, 12, 19, 13⟩, [], rfl, (by
        intro y hy
        rcases List.mem_cons.mp hy with rfl | hy
        · exact Or.inr ⟨(by decide), _, q_cl19, hNC.1.1⟩
        · exact (nomatch hy)), rfl, (by decide), q_cl13, q_ca13, fun q => ?_⟩
      refine qw_astore dL_price_19 rfl (by decide) ?_
      refine qw_iconst (nI 2) dL_price_21 (by decide) ?_
      exact qw_ireturn rfl rfl dL_price_22 (Or.inr ⟨eIA, hE, (by rfl), rfl, rfl, rfl⟩)
  · obtain ⟨⟨x9, rfl⟩, hO⟩ := hQ _ _ _ _ _ hq
    refine qw_i2l _ dL_price_10 rfl ?_
    refine qw_last dL_price_11 hO (by omega) (by omega) ?_
    refine qw_goto 23 dL_price_12 (by decide) ?_
    refine qw_iconst (nI 0) dL_price_23 (by decide) ?_
    exact qw_ireturn rfl rfl dL_price_24 (Or.inl ⟨x9, N1, hq, rfl, rfl⟩)
theorem k_L_cheapest {x y : Int32} (hNC : q_NC G) (hS : S b = some (.inl (8, fl))) (hM : LM G YX8_cheapest d kc ks [.ref b, .int x, .int y] z S M N Q' (lq_xs S M N P)) (hQ : ∀ r z1 S1 M1 N1, Q' r z1 S1 M1 N1 → (∃ x, r = some (.int x)) ∧ S1 o = some (.inr (.inl (2, 1)))) (hP : ∀ E, P E → E = eIO ∨ E = eIA) : LMH G YL_cheapest (d + 1) kc ks [.ref b, .int x, .int y, .ref o] z S M N (q_wr Q' P (fun x => x.toInt64) [eIO, eIA] o S M N) lq_no := by
  refine LMH.of (by decide) [some (.ref b), some (.int x), some (.int y), some (.ref o), none] rfl (Nat.le_of_ble_eq_true rfl) ?_
  refine qw_aload_n 3 dL_cheapest_0 rfl rfl ?_
  refine qw_iconst (nI 0) dL_cheapest_1 (by decide) ?_
  refine qw_aload_n 0 dL_cheapest_2 rfl rfl ?_
  refine qw_iload_n 1 dL_cheapest_3 rfl rfl ?_
  refine qw_iload_n 2 dL_cheapest_4 rfl rfl ?_
  refine lq_callVH (As := [.int x, .int y]) hM mL_43 dL_cheapest_5 hS rfl rfl rfl (Nat.le_of_ble_eq_true rfl) (Nat.le_refl _) (by decide) (Nat.le_refl _) (Nat.le_refl _) (fun E z1 S1 M1 N1 hx => ?_) (fun r z1 S1 M1 N1 hq => ?_)
  · obtain ⟨e1, e2, e3, hE⟩ := hx
    subst e1
    subst e2
    subst e3
    rcases hP E hE with rfl | rfl
    · refine ⟨[], ⟨0, 10, 13, 19⟩, [⟨0, 10, 17, 13⟩], rfl, (fun y hy => nomatch hy), rfl, (by decide), q_cl19, q_ca19, fun q => ?_⟩
      refine qw_astore dL_cheapest_13 rfl (by decide) ?_
      refine qw_iconst (nI 1) dL_cheapest_15 (by decide) ?_
      exact qw_ireturn rfl rfl dL_cheapest_16 (Or.inr ⟨eIO, hE, (by rfl), rfl, rfl, rfl⟩)
    · refine ⟨[⟨0, 10, 13, 19⟩], ⟨0, 10, 17, 13⟩, [], rfl, (by
        intro y hy
        rcases List.mem_cons.mp hy with rfl | hy
        · exact Or.inr ⟨(by decide), _, q_cl19, hNC.1.1⟩
        · exact (nomatch hy)), rfl, (by decide), q_cl13, q_ca13, fun q => ?_⟩
      refine qw_astore dL_cheapest_17 rfl (by decide) ?_
      refine qw_iconst (nI 2) dL_cheapest_19 (by decide) ?_
      exact qw_ireturn rfl rfl dL_cheapest_20 (Or.inr ⟨eIA, hE, (by rfl), rfl, rfl, rfl⟩)
  · obtain ⟨⟨x9, rfl⟩, hO⟩ := hQ _ _ _ _ _ hq
    refine qw_i2l _ dL_cheapest_8 rfl ?_
    refine qw_last dL_cheapest_9 hO (by omega) (by omega) ?_
    refine qw_goto 21 dL_cheapest_10 (by decide) ?_
    refine qw_iconst (nI 0) dL_cheapest_21 (by decide) ?_
    exact qw_ireturn rfl rfl dL_cheapest_22 (Or.inl ⟨x9, N1, hq, rfl, rfl⟩)
theorem k_L_widest {x y : Int32} (hNC : q_NC G) (hS : S b = some (.inl (8, fl))) (hM : LM G YX8_widest d kc ks [.ref b, .int x, .int y] z S M N Q' (lq_xs S M N P)) (hQ : ∀ r z1 S1 M1 N1, Q' r z1 S1 M1 N1 → (∃ x, r = some (.int x)) ∧ S1 o = some (.inr (.inl (2, 1)))) (hP : ∀ E, P E → E = eIO ∨ E = eIA) : LMH G YL_widest (d + 1) kc ks [.ref b, .int x, .int y, .ref o] z S M N (q_wr Q' P (fun x => x.toInt64) [eIO, eIA] o S M N) lq_no := by
  refine LMH.of (by decide) [some (.ref b), some (.int x), some (.int y), some (.ref o), none] rfl (Nat.le_of_ble_eq_true rfl) ?_
  refine qw_aload_n 3 dL_widest_0 rfl rfl ?_
  refine qw_iconst (nI 0) dL_widest_1 (by decide) ?_
  refine qw_aload_n 0 dL_widest_2 rfl rfl ?_
  refine qw_iload_n 1 dL_widest_3 rfl rfl ?_
  refine qw_iload_n 2 dL_widest_4 rfl rfl ?_
  refine lq_callVH (As := [.int x, .int y]) hM mL_46 dL_widest_5 hS rfl rfl rfl (Nat.le_of_ble_eq_true rfl) (Nat.le_refl _) (by decide) (Nat.le_refl _) (Nat.le_refl _) (fun E z1 S1 M1 N1 hx => ?_) (fun r z1 S1 M1 N1 hq => ?_)
  · obtain ⟨e1, e2, e3, hE⟩ := hx
    subst e1
    subst e2
    subst e3
    rcases hP E hE with rfl | rfl
    · refine ⟨[], ⟨0, 10, 13, 19⟩, [⟨0, 10, 17, 13⟩], rfl, (fun y hy => nomatch hy), rfl, (by decide), q_cl19, q_ca19, fun q => ?_⟩
      refine qw_astore dL_widest_13 rfl (by decide) ?_
      refine qw_iconst (nI 1) dL_widest_15 (by decide) ?_
      exact qw_ireturn rfl rfl dL_widest_16 (Or.inr ⟨eIO, hE, (by rfl), rfl, rfl, rfl⟩)
    · refine ⟨[⟨0, 10, 13, 19⟩], ⟨0, 10, 17, 13⟩, [], rfl, (by
        intro y hy
        rcases List.mem_cons.mp hy with rfl | hy
        · exact Or.inr ⟨(by decide), _, q_cl19, hNC.1.1⟩
        · exact (nomatch hy)), rfl, (by decide), q_cl13, q_ca13, fun q => ?_⟩
      refine qw_astore dL_widest_17 rfl (by decide) ?_
      refine qw_iconst (nI 2) dL_widest_19 (by decide) ?_
      exact qw_ireturn rfl rfl dL_widest_20 (Or.inr ⟨eIA, hE, (by rfl), rfl, rfl, rfl⟩)
  · obtain ⟨⟨x9, rfl⟩, hO⟩ := hQ _ _ _ _ _ hq
    refine qw_i2l _ dL_widest_8 rfl ?_
    refine qw_last dL_widest_9 hO (by omega) (by omega) ?_
    refine qw_goto 21 dL_widest_10 (by decide) ?_
    refine qw_iconst (nI 0) dL_widest_21 (by decide) ?_
    exact qw_ireturn rfl rfl dL_widest_22 (Or.inl ⟨x9, N1, hq, rfl, rfl⟩)
theorem k_L_owedSpot {x y : Int32} (hNC : q_NC G) (hS : S b = some (.inl (8, fl))) (hM : LM G YX8_owedSpot d kc ks [.ref b, .int x, .int y] z S M N Q' (lq_xs S M N P)) (hQ : ∀ r z1 S1 M1 N1, Q' r z1 S1 M1 N1 → (∃ x, r = some (.int x)) ∧ S1 o = some (.inr (.inl (2, 1)))) (hP : ∀ E, P E → E = eNS ∨ E = eIA) : LMH G YL_owedSpot (d + 1) kc ks [.ref b, .int x, .int y, .ref o] z S M N (q_wr Q' P (fun x => x.toInt64) [eNS, eIA] o S M N) lq_no := by
  refine LMH.of (by decide) [some (.ref b), some (.int x), some (.int y), some (.ref o), none] rfl (Nat.le_of_ble_eq_true rfl) ?_
  refine qw_aload_n 3 dL_owedSpot_0 rfl rfl ?_
  refine qw_iconst (nI 0) dL_owedSpot_1 (by decide) ?_
  refine qw_aload_n 0 dL_owedSpot_2 rfl rfl ?_
  refine qw_iload_n 1 dL_owedSpot_3 rfl rfl ?_
  refine qw_iload_n 2 dL_owedSpot_4 rfl rfl ?_
  refine lq_callVH (As := [.int x, .int y]) hM mL_49 dL_owedSpot_5 hS rfl rfl rfl (Nat.le_of_ble_eq_true rfl) (Nat.le_refl _) (by decide) (Nat.le_refl _) (Nat.le_refl _) (fun E z1 S1 M1 N1 hx => ?_) (fun r z1 S1 M1 N1 hq => ?_)
  · obtain ⟨e1, e2, e3, hE⟩ := hx
    subst e1
    subst e2
    subst e3
    rcases hP E hE with rfl | rfl
    · refine ⟨[], ⟨0, 10, 13, 25⟩, [⟨0, 10, 17, 13⟩], rfl, (fun y hy => nomatch hy), rfl, (by decide), q_cl25, q_ca25, fun q => ?_⟩
      refine qw_astore dL_owedSpot_13 rfl (by decide) ?_
      refine qw_iconst (nI 1) dL_owedSpot_15 (by decide) ?_
      exact qw_ireturn rfl rfl dL_owedSpot_16 (Or.inr ⟨eNS, hE, (by rfl), rfl, rfl, rfl⟩)
    · refine ⟨[⟨0, 10, 13, 25⟩], ⟨0, 10, 17, 13⟩, [], rfl, (by
        intro y hy
        rcases List.mem_cons.mp hy with rfl | hy
        · exact Or.inr ⟨(by decide), _, q_cl25, hNC.1.2⟩
        · exact (nomatch hy)), rfl, (by decide), q_cl13, q_ca13, fun q => ?_⟩
      refine qw_astore dL_owedSpot_17 rfl (by decide) ?_
      refine qw_iconst (nI 2) dL_owedSpot_19 (by decide) ?_
      exact qw_ireturn rfl rfl dL_owedSpot_20 (Or.inr ⟨eIA, hE, (by rfl), rfl, rfl, rfl⟩)
  · obtain ⟨⟨x9, rfl⟩, hO⟩ := hQ _ _ _ _ _ hq
    refine qw_i2l _ dL_owedSpot_8 rfl ?_
    refine qw_last dL_owedSpot_9 hO (by omega) (by omega) ?_
    refine qw_goto 21 dL_owedSpot_10 (by decide) ?_
    refine qw_iconst (nI 0) dL_owedSpot_21 (by decide) ?_
    exact qw_ireturn rfl rfl dL_owedSpot_22 (Or.inl ⟨x9, N1, hq, rfl, rfl⟩)
theorem k_L_arrangements {x : Int32} (hNC : q_NC G) (hS : S b = some (.inl (8, fl))) (hM : LM G YX8_arrangements d kc ks [.ref b, .int x] z S M N Q' (lq_xs S M N P)) (hQ : ∀ r z1 S1 M1 N1, Q' r z1 S1 M1 N1 → (∃ x, r = some (.int x)) ∧ S1 o = some (.inr (.inl (2, 1)))) (hP : ∀ E, P E → E = eIA) : LMH G YL_arrangements (d + 1) kc ks [.ref b, .int x, .ref o] z S M N (q_wr Q' P (fun x => x.toInt64) [eIA] o S M N) lq_no := by
  refine LMH.of (by decide) [some (.ref b), some (.int x), some (.ref o), none] rfl (Nat.le_of_ble_eq_true rfl) ?_
  refine qw_aload_n 2 dL_arrangements_0 rfl rfl ?_
  refine qw_iconst (nI 0) dL_arrangements_1 (by decide) ?_
  refine qw_aload_n 0 dL_arrangements_2 rfl rfl ?_
  refine qw_iload_n 1 dL_arrangements_3 rfl rfl ?_
  refine lq_callVH (As := [.int x]) hM mL_52 dL_arrangements_4 hS rfl rfl rfl (Nat.le_of_ble_eq_true rfl) (Nat.le_refl _) (by decide) (Nat.le_refl _) (Nat.le_refl _) (fun E z1 S1 M1 N1 hx => ?_) (fun r z1 S1 M1 N1 hq => ?_)
  · obtain ⟨e1, e2, e3, hE⟩ := hx
    subst e1
    subst e2
    subst e3
    obtain rfl := hP E hE
    refine ⟨[], ⟨0, 9, 12, 13⟩, [], rfl, (fun y hy => nomatch hy), rfl, (by decide), q_cl13, q_ca13, fun q => ?_⟩
    refine qw_astore_n 3 dL_arrangements_12 rfl rfl (by decide) ?_
    refine qw_iconst (nI 1) dL_arrangements_13 (by decide) ?_
    exact qw_ireturn rfl rfl dL_arrangements_14 (Or.inr ⟨eIA, hE, (by rfl), rfl, rfl, rfl⟩)
  · obtain ⟨⟨x9, rfl⟩, hO⟩ := hQ _ _ _ _ _ hq
    refine qw_i2l _ dL_arrangements_7 rfl ?_
    refine qw_last dL_arrangements_8 hO (by omega) (by omega) ?_
    refine qw_goto 15 dL_arrangements_9 (by decide) ?_
    refine qw_iconst (nI 0) dL_arrangements_15 (by decide) ?_
    exact qw_ireturn rfl rfl dL_arrangements_16 (Or.inl ⟨x9, N1, hq, rfl, rfl⟩)
theorem k_L_arranged {x y : Int32} (hNC : q_NC G) (hS : S b = some (.inl (8, fl))) (hM : LM G YX8_arranged d kc ks [.ref b, .int x, .int y] z S M N Q' (lq_xs S M N P)) (hQ : ∀ r z1 S1 M1 N1, Q' r z1 S1 M1 N1 → (∃ x, r = some (.int x)) ∧ S1 o = some (.inr (.inl (2, 1)))) (hP : ∀ E, P E → E = eIA ∨ E = eIO) : LMH G YL_arranged (d + 1) kc ks [.ref b, .int x, .int y, .ref o] z S M N (q_wr Q' P (fun x => x.toInt64) [eIA, eIO] o S M N) lq_no := by
  refine LMH.of (by decide) [some (.ref b), some (.int x), some (.int y), some (.ref o), none] rfl (Nat.le_of_ble_eq_true rfl) ?_
  refine qw_aload_n 3 dL_arranged_0 rfl rfl ?_
  refine qw_iconst (nI 0) dL_arranged_1 (by decide) ?_
  refine qw_aload_n 0 dL_arranged_2 rfl rfl ?_
  refine qw_iload_n 1 dL_arranged_3 rfl rfl ?_
  refine qw_iload_n 2 dL_arranged_4 rfl rfl ?_
  refine lq_callVH (As := [.int x, .int y]) hM mL_55 dL_arranged_5 hS rfl rfl rfl (Nat.le_of_ble_eq_true rfl) (Nat.le_refl _) (by decide) (Nat.le_refl _) (Nat.le_refl _) (fun E z1 S1 M1 N1 hx => ?_) (fun r z1 S1 M1 N1 hq => ?_)
  · obtain ⟨e1, e2, e3, hE⟩ := hx
    subst e1
    subst e2
    subst e3
    rcases hP E hE with rfl | rfl
    · refine ⟨[], ⟨0, 10, 13, 13⟩, [⟨0, 10, 17, 19⟩], rfl, (fun y hy => nomatch hy), rfl, (by decide), q_cl13, q_ca13, fun q => ?_⟩
      refine qw_astore dL_arranged_13 rfl (by decide) ?_
      refine qw_iconst (nI 1) dL_arranged_15 (by decide) ?_
      exact qw_ireturn rfl rfl dL_arranged_16 (Or.inr ⟨eIA, hE, (by rfl), rfl, rfl, rfl⟩)
    · refine ⟨[⟨0, 10, 13, 13⟩], ⟨0, 10, 17, 19⟩, [], rfl, (by
        intro y hy
        rcases List.mem_cons.mp hy with rfl | hy
        · exact Or.inr ⟨(by decide), _, q_cl13, hNC.2.1.2⟩
        · exact (nomatch hy)), rfl, (by decide), q_cl19, q_ca19, fun q => ?_⟩
      refine qw_astore dL_arranged_17 rfl (by decide) ?_
      refine qw_iconst (nI 2) dL_arranged_19 (by decide) ?_
      exact qw_ireturn rfl rfl dL_arranged_20 (Or.inr ⟨eIO, hE, (by rfl), rfl, rfl, rfl⟩)
  · obtain ⟨⟨x9, rfl⟩, hO⟩ := hQ _ _ _ _ _ hq
    refine qw_i2l _ dL_arranged_8 rfl ?_
    refine qw_last dL_arranged_9 hO (by omega) (by omega) ?_
    refine qw_goto 21 dL_arranged_10 (by decide) ?_
    refine qw_iconst (nI 0) dL_arranged_21 (by decide) ?_
    exact qw_ireturn rfl rfl dL_arranged_22 (Or.inl ⟨x9, N1, hq, rfl, rfl⟩)
theorem k_L_book {x y w : Int32} (hNC : q_NC G) (hS : S b = some (.inl (8, fl))) (hM : LM G YX8_book d kc ks [.ref b, .int x, .int y, .int w] z S M N Q' (lq_xs S M N P)) (hQ : ∀ r z1 S1 M1 N1, Q' r z1 S1 M1 N1 → (∃ x, r = some (.int x)) ∧ S1 o = some (.inr (.inl (2, 1)))) (hP : ∀ E, P E → E = eIO ∨ E = eIA) : LMH G YL_book (d + 1) kc ks [.ref b, .int x, .int y, .int w, .ref o] z S M N (q_wr Q' P (fun x => x.toInt64) [eIO, eIA] o S M N) lq_no := by
  refine LMH.of (by decide) [some (.ref b), some (.int x), some (.int y), some (.int w), some (.ref o), none] rfl (Nat.le_of_ble_eq_true rfl) ?_
  refine qw_aload dL_book_0 rfl ?_
  refine qw_iconst (nI 0) dL_book_2 (by decide) ?_
  refine qw_aload_n 0 dL_book_3 rfl rfl ?_
  refine qw_iload_n 1 dL_book_4 rfl rfl ?_
  refine qw_iload_n 2 dL_book_5 rfl rfl ?_
  refine qw_iload_n 3 dL_book_6 rfl rfl ?_
  refine lq_callVH (As := [.int x, .int y, .int w]) hM mL_58 dL_book_7 hS rfl rfl rfl (Nat.le_of_ble_eq_true rfl) (Nat.le_refl _) (by decide) (Nat.le_refl _) (Nat.le_refl _) (fun E z1 S1 M1 N1 hx => ?_) (fun r z1 S1 M1 N1 hq => ?_)
  · obtain ⟨e1, e2, e3, hE⟩ := hx
    subst e1
    subst e2
    subst e3
    rcases hP E hE with rfl | rfl
    · refine ⟨[], ⟨0, 12, 15, 19⟩, [⟨0, 12, 19, 13⟩], rfl, (fun y hy => nomatch hy), rfl, (by decide), q_cl19, q_ca19, fun q => ?_⟩
      refine qw_astore dL_book_15 rfl (by decide) ?_
      refine qw_iconst (nI 1) dL_book_17 (by decide) ?_
      exact qw_ireturn rfl rfl dL_book_18 (Or.inr ⟨eIO, hE, (by rfl), rfl, rfl, rfl⟩)
    · refine ⟨[⟨0, 12, 15, 19⟩], ⟨0, 12, 19, 13⟩, [], rfl, (by
        intro y hy
        rcases List.mem_cons.mp hy with rfl | hy
        · exact Or.inr ⟨(by decide), _, q_cl19, hNC.1.1⟩
        · exact (nomatch hy)), rfl, (by decide), q_cl13, q_ca13, fun q => ?_⟩
      refine qw_astore dL_book_19 rfl (by decide) ?_
      refine qw_iconst (nI 2) dL_book_21 (by decide) ?_
      exact qw_ireturn rfl rfl dL_book_22 (Or.inr ⟨eIA, hE, (by rfl), rfl, rfl, rfl⟩)
  · obtain ⟨⟨x9, rfl⟩, hO⟩ := hQ _ _ _ _ _ hq
    refine qw_i2l _ dL_book_10 rfl ?_
    refine qw_last dL_book_11 hO (by omega) (by omega) ?_
    refine qw_goto 23 dL_book_12 (by decide) ?_
    refine qw_iconst (nI 0) dL_book_23 (by decide) ?_
    exact qw_ireturn rfl rfl dL_book_24 (Or.inl ⟨x9, N1, hq, rfl, rfl⟩)
theorem k_L_bookAnyhow {x y w : Int32} (hNC : q_NC G) (hS : S b = some (.inl (8, fl))) (hM : LM G YX8_bookAnyhow d kc ks [.ref b, .int x, .int y, .int w] z S M N Q' (lq_xs S M N P)) (hQ : ∀ r z1 S1 M1 N1, Q' r z1 S1 M1 N1 → (∃ x, r = some (.int x)) ∧ S1 o = some (.inr (.inl (2, 1)))) (hP : ∀ E, P E → E = eIO ∨ E = eIA) : LMH G YL_bookAnyhow (d + 1) kc ks [.ref b, .int x, .int y, .int w, .ref o] z S M N (q_wr Q' P (fun x => x.toInt64) [eIO, eIA] o S M N) lq_no := by
  refine LMH.of (by decide) [some (.ref b), some (.int x), some (.int y), some (.int w), some (.ref o), none] rfl (Nat.le_of_ble_eq_true rfl) ?_
  refine qw_aload dL_bookAnyhow_0 rfl ?_
  refine qw_iconst (nI 0) dL_bookAnyhow_2 (by decide) ?_
  refine qw_aload_n 0 dL_bookAnyhow_3 rfl rfl ?_
  refine qw_iload_n 1 dL_bookAnyhow_4 rfl rfl ?_
  refine qw_iload_n 2 dL_bookAnyhow_5 rfl rfl ?_
  refine qw_iload_n 3 dL_bookAnyhow_6 rfl rfl ?_
  refine lq_callVH (As := [.int x, .int y, .int w]) hM mL_61 dL_bookAnyhow_7 hS rfl rfl rfl (Nat.le_of_ble_eq_true rfl) (Nat.le_refl _) (by decide) (Nat.le_refl _) (Nat.le_refl _) (fun E z1 S1 M1 N1 hx => ?_) (fun r z1 S1 M1 N1 hq => ?_)
  · obtain ⟨e1, e2, e3, hE⟩ := hx
    subst e1
    subst e2
    subst e3
    rcases hP E hE with rfl | rfl
    · refine ⟨[], ⟨0, 12, 15, 19⟩, [⟨0, 12, 19, 13⟩], rfl, (fun y hy => nomatch hy), rfl, (by decide), q_cl19, q_ca19, fun q => ?_⟩
      refine qw_astore dL_bookAnyhow_15 rfl (by decide) ?_
      refine qw_iconst (nI 1) dL_bookAnyhow_17 (by decide) ?_
      exact qw_ireturn rfl rfl dL_bookAnyhow_18 (Or.inr ⟨eIO, hE, (by rfl), rfl, rfl, rfl⟩)
    · refine ⟨[⟨0, 12, 15, 19⟩], ⟨0, 12, 19, 13⟩, [], rfl, (by
        intro y hy
        rcases List.mem_cons.mp hy with rfl | hy
        · exact Or.inr ⟨(by decide), _, q_cl19, hNC.1.1⟩
        · exact (nomatch hy)), rfl, (by decide), q_cl13, q_ca13, fun q => ?_⟩
      refine qw_astore dL_bookAnyhow_19 rfl (by decide) ?_
      refine qw_iconst (nI 2) dL_bookAnyhow_21 (by decide) ?_
      exact qw_ireturn rfl rfl dL_bookAnyhow_22 (Or.inr ⟨eIA, hE, (by rfl), rfl, rfl, rfl⟩)
  · obtain ⟨⟨x9, rfl⟩, hO⟩ := hQ _ _ _ _ _ hq
    refine qw_i2l _ dL_bookAnyhow_10 rfl ?_
    refine qw_last dL_bookAnyhow_11 hO (by omega) (by omega) ?_
    refine qw_goto 23 dL_bookAnyhow_12 (by decide) ?_
    refine qw_iconst (nI 0) dL_bookAnyhow_23 (by decide) ?_
    exact qw_ireturn rfl rfl dL_bookAnyhow_24 (Or.inl ⟨x9, N1, hq, rfl, rfl⟩)
theorem k_L_remove {x y : Int32} (hNC : q_NC G) (hS : S b = some (.inl (8, fl))) (hM : LM G YX8_remove d kc ks [.ref b, .int x, .int y] z S M N Q' (lq_xs S M N P)) (hQ : ∀ r z1 S1 M1 N1, Q' r z1 S1 M1 N1 → (∃ x, r = some (.int x)) ∧ S1 o = some (.inr (.inl (2, 1)))) (hP : ∀ E, P E → E = eIO ∨ E = eNS ∨ E = eIS) : LMH G YL_remove (d + 1) kc ks [.ref b, .int x, .int y, .ref o] z S M N (q_wr Q' P (fun x => x.toInt64) [eIO, eNS, eIS] o S M N) lq_no := by
  refine LMH.of (by decide) [some (.ref b), some (.int x), some (.int y), some (.ref o), none] rfl (Nat.le_of_ble_eq_true rfl) ?_
  refine qw_aload_n 3 dL_remove_0 rfl rfl ?_
  refine qw_iconst (nI 0) dL_remove_1 (by decide) ?_
  refine qw_aload_n 0 dL_remove_2 rfl rfl ?_
  refine qw_iload_n 1 dL_remove_3 rfl rfl ?_
  refine qw_iload_n 2 dL_remove_4 rfl rfl ?_
  refine lq_callVH (As := [.int x, .int y]) hM mL_64 dL_remove_5 hS rfl rfl rfl (Nat.le_of_ble_eq_true rfl) (Nat.le_refl _) (by decide) (Nat.le_refl _) (Nat.le_refl _) (fun E z1 S1 M1 N1 hx => ?_) (fun r z1 S1 M1 N1 hq => ?_)
  · obtain ⟨e1, e2, e3, hE⟩ := hx
    subst e1
    subst e2
    subst e3
    rcases hP E hE with rfl | rfl | rfl
    · refine ⟨[], ⟨0, 10, 13, 19⟩, [⟨0, 10, 17, 25⟩, ⟨0, 10, 21, 67⟩], rfl, (fun y hy => nomatch hy), rfl, (by decide), q_cl19, q_ca19, fun q => ?_⟩
      refine qw_astore dL_remove_13 rfl (by decide) ?_
      refine qw_iconst (nI 1) dL_remove_15 (by decide) ?_
      exact qw_ireturn rfl rfl dL_remove_16 (Or.inr ⟨eIO, hE, (by rfl), rfl, rfl, rfl⟩)
    · refine ⟨[⟨0, 10, 13, 19⟩], ⟨0, 10, 17, 25⟩, [⟨0, 10, 21, 67⟩], rfl, (by
        intro y hy
        rcases List.mem_cons.mp hy with rfl | hy
        · exact Or.inr ⟨(by decide), _, q_cl19, hNC.2.1.1⟩
        · exact (nomatch hy)), rfl, (by decide), q_cl25, q_ca25, fun q => ?_⟩
      refine qw_astore dL_remove_17 rfl (by decide) ?_
      refine qw_iconst (nI 2) dL_remove_19 (by decide) ?_
      exact qw_ireturn rfl rfl dL_remove_20 (Or.inr ⟨eNS, hE, (by rfl), rfl, rfl, rfl⟩)
    · refine ⟨[⟨0, 10, 13, 19⟩, ⟨0, 10, 17, 25⟩], ⟨0, 10, 21, 67⟩, [], rfl, (by
        intro y hy
        rcases List.mem_cons.mp hy with rfl | hy
        · exact Or.inr ⟨(by decide), _, q_cl19, hNC.2.2.1⟩
        rcases List.mem_cons.mp hy with rfl | hy
        · exact Or.inr ⟨(by decide), _, q_cl25, hNC.2.2.2⟩
        · exact (nomatch hy)), rfl, (by decide), q_cl67, q_ca67, fun q => ?_⟩
      refine qw_astore dL_remove_21 rfl (by decide) ?_
      refine qw_iconst (nI 3) dL_remove_23 (by decide) ?_
      exact qw_ireturn rfl rfl dL_remove_24 (Or.inr ⟨eIS, hE, (by rfl), rfl, rfl, rfl⟩)
  · obtain ⟨⟨x9, rfl⟩, hO⟩ := hQ _ _ _ _ _ hq
    refine qw_i2l _ dL_remove_8 rfl ?_
    refine qw_last dL_remove_9 hO (by omega) (by omega) ?_
    refine qw_goto 25 dL_remove_10 (by decide) ?_
    refine qw_iconst (nI 0) dL_remove_25 (by decide) ?_
    exact qw_ireturn rfl rfl dL_remove_26 (Or.inl ⟨x9, N1, hq, rfl, rfl⟩)
theorem k_L_air (hNC : q_NC G) (hS : S b = some (.inl (8, fl))) (hM : LM G YX8_air d kc ks [.ref b] z S M N Q' (lq_xs S M N P)) (hQ : ∀ r z1 S1 M1 N1, Q' r z1 S1 M1 N1 → (∃ x, r = some (.int x)) ∧ S1 o = some (.inr (.inl (2, 1)))) (hP : ∀ E, P E → E = eIS) : LMH G YL_air (d + 1) kc ks [.ref b, .ref o] z S M N (q_wr Q' P (fun x => x.toInt64) [eIS] o S M N) lq_no := by
  refine LMH.of (by decide) [some (.ref b), some (.ref o), none] rfl (Nat.le_of_ble_eq_true rfl) ?_
  refine qw_aload_n 1 dL_air_0 rfl rfl ?_
  refine qw_iconst (nI 0) dL_air_1 (by decide) ?_
  refine qw_aload_n 0 dL_air_2 rfl rfl ?_
  refine lq_callVH (As := []) hM mL_69 dL_air_3 hS rfl rfl rfl (Nat.le_of_ble_eq_true rfl) (Nat.le_refl _) (by decide) (Nat.le_refl _) (Nat.le_refl _) (fun E z1 S1 M1 N1 hx => ?_) (fun r z1 S1 M1 N1 hq => ?_)
  · obtain ⟨e1, e2, e3, hE⟩ := hx
    subst e1
    subst e2
    subst e3
    obtain rfl := hP E hE
    refine ⟨[], ⟨0, 8, 11, 67⟩, [], rfl, (fun y hy => nomatch hy), rfl, (by decide), q_cl67, q_ca67, fun q => ?_⟩
    refine qw_astore_n 2 dL_air_11 rfl rfl (by decide) ?_
    refine qw_iconst (nI 1) dL_air_12 (by decide) ?_
    exact qw_ireturn rfl rfl dL_air_13 (Or.inr ⟨eIS, hE, (by rfl), rfl, rfl, rfl⟩)
  · obtain ⟨⟨x9, rfl⟩, hO⟩ := hQ _ _ _ _ _ hq
    refine qw_i2l _ dL_air_6 rfl ?_
    refine qw_last dL_air_7 hO (by omega) (by omega) ?_
    refine qw_goto 14 dL_air_8 (by decide) ?_
    refine qw_iconst (nI 0) dL_air_14 (by decide) ?_
    exact qw_ireturn rfl rfl dL_air_15 (Or.inl ⟨x9, N1, hq, rfl, rfl⟩)
theorem k_L_cancel {x : Int32} (hNC : q_NC G) (hS : S b = some (.inl (8, fl))) (hM : LM G YX8_cancel d kc ks [.ref b, .int x] z S M N Q' (lq_xs S M N P)) (hQ : ∀ r z1 S1 M1 N1, Q' r z1 S1 M1 N1 → (∃ x, r = some (.int x)) ∧ S1 o = some (.inr (.inl (2, 1)))) (hP : ∀ E, P E → E = eIO ∨ E = eIS) : LMH G YL_cancel (d + 1) kc ks [.ref b, .int x, .ref o] z S M N (q_wr Q' P (fun x => x.toInt64) [eIO, eIS] o S M N) lq_no := by
  refine LMH.of (by decide) [some (.ref b), some (.int x), some (.ref o), none] rfl (Nat.le_of_ble_eq_true rfl) ?_
  refine qw_aload_n 2 dL_cancel_0 rfl rfl ?_
  refine qw_iconst (nI 0) dL_cancel_1 (by decide) ?_
  refine qw_aload_n 0 dL_cancel_2 rfl rfl ?_
  refine qw_iload_n 1 dL_cancel_3 rfl rfl ?_
  refine lq_callVH (As := [.int x]) hM mL_73 dL_cancel_4 hS rfl rfl rfl (Nat.le_of_ble_eq_true rfl) (Nat.le_refl _) (by decide) (Nat.le_refl _) (Nat.le_refl _) (fun E z1 S1 M1 N1 hx => ?_) (fun r z1 S1 M1 N1 hq => ?_)
  · obtain ⟨e1, e2, e3, hE⟩ := hx
    subst e1
    subst e2
    subst e3
    rcases hP E hE with rfl | rfl
    · refine ⟨[], ⟨0, 9, 12, 19⟩, [⟨0, 9, 15, 67⟩], rfl, (fun y hy => nomatch hy), rfl, (by decide), q_cl19, q_ca19, fun q => ?_⟩
      refine qw_astore_n 3 dL_cancel_12 rfl rfl (by decide) ?_
      refine qw_iconst (nI 1) dL_cancel_13 (by decide) ?_
      exact qw_ireturn rfl rfl dL_cancel_14 (Or.inr ⟨eIO, hE, (by rfl), rfl, rfl, rfl⟩)
    · refine ⟨[⟨0, 9, 12, 19⟩], ⟨0, 9, 15, 67⟩, [], rfl, (by
        intro y hy
        rcases List.mem_cons.mp hy with rfl | hy
        · exact Or.inr ⟨(by decide), _, q_cl19, hNC.2.2.1⟩
        · exact (nomatch hy)), rfl, (by decide), q_cl67, q_ca67, fun q => ?_⟩
      refine qw_astore_n 3 dL_cancel_15 rfl rfl (by decide) ?_
      refine qw_iconst (nI 2) dL_cancel_16 (by decide) ?_
      exact qw_ireturn rfl rfl dL_cancel_17 (Or.inr ⟨eIS, hE, (by rfl), rfl, rfl, rfl⟩)
  · obtain ⟨⟨x9, rfl⟩, hO⟩ := hQ _ _ _ _ _ hq
    refine qw_i2l _ dL_cancel_7 rfl ?_
    refine qw_last dL_cancel_8 hO (by omega) (by omega) ?_
    refine qw_goto 18 dL_cancel_9 (by decide) ?_
    refine qw_iconst (nI 0) dL_cancel_18 (by decide) ?_
    exact qw_ireturn rfl rfl dL_cancel_19 (Or.inl ⟨x9, N1, hq, rfl, rfl⟩)
theorem k_L_campaign {x y w : Int32} (hNC : q_NC G) (hS : S b = some (.inl (8, fl))) (hM : LM G YX8_campaign d kc ks [.ref b, .int x, .int y, .int w] z S M N Q' (lq_xs S M N P)) (hQ : ∀ r z1 S1 M1 N1, Q' r z1 S1 M1 N1 → (∃ x, r = some (.int x)) ∧ S1 o = some (.inr (.inl (2, 1)))) (hP : ∀ E, P E → E = eIO ∨ E = eIA) : LMH G YL_campaign (d + 1) kc ks [.ref b, .int x, .int y, .int w, .ref o] z S M N (q_wr Q' P (fun x => x.toInt64) [eIO, eIA] o S M N) lq_no := by
  refine LMH.of (by decide) [some (.ref b), some (.int x), some (.int y), some (.int w), some (.ref o), none] rfl (Nat.le_of_ble_eq_true rfl) ?_
  refine qw_aload dL_campaign_0 rfl ?_
  refine qw_iconst (nI 0) dL_campaign_2 (by decide) ?_
  refine qw_aload_n 0 dL_campaign_3 rfl rfl ?_
  refine qw_iload_n 1 dL_campaign_4 rfl rfl ?_
  refine qw_iload_n 2 dL_campaign_5 rfl rfl ?_
  refine qw_iload_n 3 dL_campaign_6 rfl rfl ?_
  refine lq_callVH (As := [.int x, .int y, .int w]) hM mL_76 dL_campaign_7 hS rfl rfl rfl (Nat.le_of_ble_eq_true rfl) (Nat.le_refl _) (by decide) (Nat.le_refl _) (Nat.le_refl _) (fun E z1 S1 M1 N1 hx => ?_) (fun r z1 S1 M1 N1 hq => ?_)
  · obtain ⟨e1, e2, e3, hE⟩ := hx
    subst e1
    subst e2
    subst e3
    rcases hP E hE with rfl | rfl
    · refine ⟨[], ⟨0, 12, 15, 19⟩, [⟨0, 12, 19, 13⟩], rfl, (fun y hy => nomatch hy), rfl, (by decide), q_cl19, q_ca19, fun q => ?_⟩
      refine qw_astore dL_campaign_15 rfl (by decide) ?_
      refine qw_iconst (nI 1) dL_campaign_17 (by decide) ?_
      exact qw_ireturn rfl rfl dL_campaign_18 (Or.inr ⟨eIO, hE, (by rfl), rfl, rfl, rfl⟩)
    · refine ⟨[⟨0, 12, 15, 19⟩], ⟨0, 12, 19, 13⟩, [], rfl, (by
        intro y hy
        rcases List.mem_cons.mp hy with rfl | hy
        · exact Or.inr ⟨(by decide), _, q_cl19, hNC.1.1⟩
        · exact (nomatch hy)), rfl, (by decide), q_cl13, q_ca13, fun q => ?_⟩
      refine qw_astore dL_campaign_19 rfl (by decide) ?_
      refine qw_iconst (nI 2) dL_campaign_21 (by decide) ?_
      exact qw_ireturn rfl rfl dL_campaign_22 (Or.inr ⟨eIA, hE, (by rfl), rfl, rfl, rfl⟩)
  · obtain ⟨⟨x9, rfl⟩, hO⟩ := hQ _ _ _ _ _ hq
    refine qw_i2l _ dL_campaign_10 rfl ?_
    refine qw_last dL_campaign_11 hO (by omega) (by omega) ?_
    refine qw_goto 23 dL_campaign_12 (by decide) ?_
    refine qw_iconst (nI 0) dL_campaign_23 (by decide) ?_
    exact qw_ireturn rfl rfl dL_campaign_24 (Or.inl ⟨x9, N1, hq, rfl, rfl⟩)
theorem k_L_setCap {x y : Int32} (hNC : q_NC G) (hS : S b = some (.inl (8, fl))) (hM : LM G YX8_setCap d kc ks [.ref b, .int x, .int y] z S M N Q' (lq_xs S M N P)) (hQ : ∀ r z1 S1 M1 N1, Q' r z1 S1 M1 N1 → (∃ x, r = some (.int x)) ∧ S1 o = some (.inr (.inl (2, 1)))) (hP : ∀ E, P E → E = eIO ∨ E = eIA) : LMH G YL_setCap (d + 1) kc ks [.ref b, .int x, .int y, .ref o] z S M N (q_wr Q' P (fun x => x.toInt64) [eIO, eIA] o S M N) lq_no := by
  refine LMH.of (by decide) [some (.ref b), some (.int x), some (.int y), some (.ref o), none] rfl (Nat.le_of_ble_eq_true rfl) ?_
  refine qw_aload_n 3 dL_setCap_0 rfl rfl ?_
  refine qw_iconst (nI 0) dL_setCap_1 (by decide) ?_
  refine qw_aload_n 0 dL_setCap_2 rfl rfl ?_
  refine qw_iload_n 1 dL_setCap_3 rfl rfl ?_
  refine qw_iload_n 2 dL_setCap_4 rfl rfl ?_
  refine lq_callVH (As := [.int x, .int y]) hM mL_79 dL_setCap_5 hS rfl rfl rfl (Nat.le_of_ble_eq_true rfl) (Nat.le_refl _) (by decide) (Nat.le_refl _) (Nat.le_refl _) (fun E z1 S1 M1 N1 hx => ?_) (fun r z1 S1 M1 N1 hq => ?_)
  · obtain ⟨e1, e2, e3, hE⟩ := hx
    subst e1
    subst e2
    subst e3
    rcases hP E hE with rfl | rfl
    · refine ⟨[], ⟨0, 10, 13, 19⟩, [⟨0, 10, 17, 13⟩], rfl, (fun y hy => nomatch hy), rfl, (by decide), q_cl19, q_ca19, fun q => ?_⟩
      refine qw_astore dL_setCap_13 rfl (by decide) ?_
      refine qw_iconst (nI 1) dL_setCap_15 (by decide) ?_
      exact qw_ireturn rfl rfl dL_setCap_16 (Or.inr ⟨eIO, hE, (by rfl), rfl, rfl, rfl⟩)
    · refine ⟨[⟨0, 10, 13, 19⟩], ⟨0, 10, 17, 13⟩, [], rfl, (by
        intro y hy
        rcases List.mem_cons.mp hy with rfl | hy
        · exact Or.inr ⟨(by decide), _, q_cl19, hNC.1.1⟩
        · exact (nomatch hy)), rfl, (by decide), q_cl13, q_ca13, fun q => ?_⟩
      refine qw_astore dL_setCap_17 rfl (by decide) ?_
      refine qw_iconst (nI 2) dL_setCap_19 (by decide) ?_
      exact qw_ireturn rfl rfl dL_setCap_20 (Or.inr ⟨eIA, hE, (by rfl), rfl, rfl, rfl⟩)
  · obtain ⟨⟨x9, rfl⟩, hO⟩ := hQ _ _ _ _ _ hq
    refine qw_i2l _ dL_setCap_8 rfl ?_
    refine qw_last dL_setCap_9 hO (by omega) (by omega) ?_
    refine qw_goto 21 dL_setCap_10 (by decide) ?_
    refine qw_iconst (nI 0) dL_setCap_21 (by decide) ?_
    exact qw_ireturn rfl rfl dL_setCap_22 (Or.inl ⟨x9, N1, hq, rfl, rfl⟩)
end LWR
