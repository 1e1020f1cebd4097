/-! THE LAW: its loop -/
theorem q_lw {L i : Nat} (hL : L ≤ 3072) (hi : i ≤ 3078) (c : ¬ nI L - nI 6 < nI i) : i + 6 ≤ L := by
  by_cases h6 : 6 ≤ L
  · rw [pk_sub h6] at c
    have := mt (nI_ltI (show L - 6 < 2 ^ 31 by omega) (show i < 2 ^ 31 by omega)).mpr c
    omega
  · exfalso
    apply c
    have hneg : ∀ k : Fin 6, (nI k.1 - nI 6).toInt < 0 := by decide
    have h1 := hneg ⟨L, by omega⟩
    have h2 := nI_toInt (show i < 2 ^ 31 by omega)
    refine Int32.lt_iff_toInt_lt.mpr ?_
    rw [h2]
    exact Int.lt_of_lt_of_le h1 (Int.natCast_nonneg i)
theorem q_31 (x : Int32) : ∃ w : Nat, x &&& nI 31 = nI w ∧ w < 32 := by
  refine ⟨q_u (x &&& nI 31), (q_u_n _).symm, ?_⟩
  unfold q_u
  have h : (x &&& nI 31).toBitVec = x.toBitVec &&& 31#32 := rfl
  rw [h, BitVec.toNat_and]
  exact Nat.lt_of_le_of_lt Nat.and_le_right (by decide)
section LLP
variable {G : lq_G}
theorem l_law {a b m o L : Nat} {xs : Nat → Int32} (hX : va_X a L xs (lq_u G) (lq_u G).heap) (hL : L ≤ 3072) (hNC : q_NC G) {v : Value} (hXs : lq_sx G v) (hb : b + 1607 ≤ m) (hm : m + 273 ≤ o) {Q : lq_P} (hQ : ∀ z S M N, Q (some (.int (nI 1))) z S M N) :
    ∀ (n9 i z : Nat) (S : lq_S) (M : lq_M) (N : lq_N) (u : Nat) (H : Nat → Nat → Nat) (tk : Nat → Nat → Nat × Nat) (n : Nat → Nat), L + 6 - i < n9 → i ≤ 3078 → q_sh9 S b m o → q_I b m u H tk n M → LW G YL_law 30 (3 * (L - i)) (18 * (L - i)) Q lq_no z S M N 23 [some (.ref a), some (.ref b), some (.ref m), some (.ref o), some (.int (nI i)), none, none] [] := by
  intro n9
  induction n9 with
  | zero => intro _ _ _ _ _ _ _ _ _ h; omega
  | succ n9 ih =>
    intro i z S M N u H tk n hn9 hi78 hsh hI
    refine qw_iload dL_law_23 rfl ?_
    refine qw_aload_n 0 dL_law_25 rfl rfl ?_
    refine qw_xlen hX dL_law_26 ?_
    refine qw_bipush (nI 6) dL_law_27 (by decide) ?_
    refine qw_isub dL_law_29 ?_
    refine qw_icmp_gt 1735 dL_law_30 (by decide) (fun c30 => ?_) (fun c30 => ?_)
    · refine qw_iconst (nI 1) dL_law_1735 (by decide) ?_
      exact qw_ireturn rfl (by decide) dL_law_1736 (hQ _ _ _ _)
    · have hi := q_lw hL hi78 c30
      have kk : ∀ (z1 : Nat) (S1 : lq_S) (M1 : lq_M) (N1 : lq_N) (u1 : Nat) (H1 : Nat → Nat → Nat) (tk1 : Nat → Nat → Nat × Nat) (n1 : Nat → Nat), q_sh9 S1 b m o → q_I b m u1 H1 tk1 n1 M1 → LW G YL_law 30 (3 * (L - (i + 6))) (18 * (L - (i + 6))) Q lq_no z1 S1 M1 N1 1729 [some (.ref a), some (.ref b), some (.ref m), some (.ref o), some (.int (nI i)), none, none] [] := fun z1 S1 M1 N1 u1 H1 tk1 n1 hs1 hI1 => by
        refine qw_iincN 6 dL_law_1729 rfl (by decide) rfl (by decide) ?_
        refine qw_goto 23 dL_law_1732 (by decide) ?_
        exact ih (i + 6) _ _ _ _ _ _ _ _ (by omega) (by omega) hs1 hI1
      refine LW.room (kc := 3 * (L - (i + 6)) + 3) (ks := 18 * (L - (i + 6)) + 18) (by omega) (by omega) ?_
      refine qw_aload_n 0 dL_law_33 rfl rfl ?_
      refine qw_iload dL_law_34 rfl ?_
      refine qw_xald hX dL_law_36 (by omega) (by omega) ?_
      refine qw_bipush (nI 31) dL_law_37 (by decide) ?_
      refine qw_iand dL_law_39 ?_
      obtain ⟨w, hw, hw32⟩ := q_31 (xs i)
      rw [hw]
      rcases (show w = 0 ∨ w = 1 ∨ w = 2 ∨ w = 3 ∨ w = 4 ∨ w = 5 ∨ w = 6 ∨ w = 7 ∨ w = 8 ∨ w = 9 ∨ w = 10 ∨ w = 11 ∨ w = 12 ∨ w = 13 ∨ w = 14 ∨ w = 15 ∨ w = 16 ∨ w = 17 ∨ w = 18 ∨ w = 19 ∨ w = 20 ∨ w = 21 ∨ w = 22 ∨ w = 23 ∨ w = 24 ∨ w = 25 ∨ w = 26 ∨ w = 27 ∨ w = 28 ∨ 29 ≤ w by omega) with rfl | rfl | rfl | rfl | rfl | rfl | rfl | rfl | rfl | rfl | rfl | rfl | rfl | rfl | rfl | rfl | rfl | rfl | rfl | rfl | rfl | rfl | rfl | rfl | rfl | rfl | rfl | rfl | rfl | hw9
      · refine qw_tabIn 172 dL_law_40 (by decide) (by decide) rfl (by decide) ?_
        exact c_append hX hL hNC hb hm hi hsh hI kk
      · refine qw_tabIn 245 dL_law_40 (by decide) (by decide) rfl (by decide) ?_
        exact c_load hX hL hNC hb hm hi hsh hI kk hXs
      · refine qw_tabIn 301 dL_law_40 (by decide) (by decide) rfl (by decide) ?_
        exact c_errorOffset hX hL hNC hb hm hi hsh hI kk
      · refine qw_tabIn 314 dL_law_40 (by decide) (by decide) rfl (by decide) ?_
        exact c_breaks hX hL hNC hb hm hi hsh hI kk
      · refine qw_tabIn 327 dL_law_40 (by decide) (by decide) rfl (by decide) ?_
        exact c_sponsors hX hL hNC hb hm hi hsh hI kk
      · refine qw_tabIn 340 dL_law_40 (by decide) (by decide) rfl (by decide) ?_
        exact c_breakOf hX hL hNC hb hm hi hsh hI kk
      · refine qw_tabIn 408 dL_law_40 (by decide) (by decide) rfl (by decide) ?_
        exact c_spot hX hL hNC hb hm hi hsh hI kk
      · refine qw_tabIn 488 dL_law_40 (by decide) (by decide) rfl (by decide) ?_
        exact c_sponsor hX hL hNC hb hm hi hsh hI kk
      · refine qw_tabIn 556 dL_law_40 (by decide) (by decide) rfl (by decide) ?_
        exact c_isBanned hX hL hNC hb hm hi hsh hI kk
      · refine qw_tabIn 631 dL_law_40 (by decide) (by decide) rfl (by decide) ?_
        exact c_spotsOn hX hL hNC hb hm hi hsh hI kk
      · refine qw_tabIn 699 dL_law_40 (by decide) (by decide) rfl (by decide) ?_
        exact c_reason hX hL hNC hb hm hi hsh hI kk
      · refine qw_tabIn 779 dL_law_40 (by decide) (by decide) rfl (by decide) ?_
        exact c_price hX hL hNC hb hm hi hsh hI kk
      · refine qw_tabIn 859 dL_law_40 (by decide) (by decide) rfl (by decide) ?_
        exact c_cheapest hX hL hNC hb hm hi hsh hI kk
      · refine qw_tabIn 927 dL_law_40 (by decide) (by decide) rfl (by decide) ?_
        exact c_widest hX hL hNC hb hm hi hsh hI kk
      · refine qw_tabIn 995 dL_law_40 (by decide) (by decide) rfl (by decide) ?_
        exact c_income hX hL hNC hb hm hi hsh hI kk
      · refine qw_tabIn 1008 dL_law_40 (by decide) (by decide) rfl (by decide) ?_
        exact c_owed hX hL hNC hb hm hi hsh hI kk
      · refine qw_tabIn 1021 dL_law_40 (by decide) (by decide) rfl (by decide) ?_
        exact c_owedSpot hX hL hNC hb hm hi hsh hI kk
      · refine qw_tabIn 1089 dL_law_40 (by decide) (by decide) rfl (by decide) ?_
        exact c_arrangements hX hL hNC hb hm hi hsh hI kk
      · refine qw_tabIn 1145 dL_law_40 (by decide) (by decide) rfl (by decide) ?_
        exact c_arranged hX hL hNC hb hm hi hsh hI kk
      · refine qw_tabIn 1213 dL_law_40 (by decide) (by decide) rfl (by decide) ?_
        exact c_book hX hL hNC hb hm hi hsh hI kk
      · refine qw_tabIn 1293 dL_law_40 (by decide) (by decide) rfl (by decide) ?_
        exact c_bookAnyhow hX hL hNC hb hm hi hsh hI kk
      · refine qw_tabIn 1373 dL_law_40 (by decide) (by decide) rfl (by decide) ?_
        exact c_remove hX hL hNC hb hm hi hsh hI kk
      · refine qw_tabIn 1441 dL_law_40 (by decide) (by decide) rfl (by decide) ?_
        exact c_air hX hL hNC hb hm hi hsh hI kk
      · refine qw_tabIn 1485 dL_law_40 (by decide) (by decide) rfl (by decide) ?_
        exact c_cancel hX hL hNC hb hm hi hsh hI kk
      · refine qw_tabIn 1541 dL_law_40 (by decide) (by decide) rfl (by decide) ?_
        exact c_makeGood hX hL hNC hb hm hi hsh hI kk
      · refine qw_tabIn 1554 dL_law_40 (by decide) (by decide) rfl (by decide) ?_
        exact c_campaign hX hL hNC hb hm hi hsh hI kk
      · refine qw_tabIn 1634 dL_law_40 (by decide) (by decide) rfl (by decide) ?_
        exact c_setCap hX hL hNC hb hm hi hsh hI kk
      · refine qw_tabIn 1702 dL_law_40 (by decide) (by decide) rfl (by decide) ?_
        exact c_undo hX hL hNC hb hm hi hsh hI kk
      · refine qw_tabIn 1715 dL_law_40 (by decide) (by decide) rfl (by decide) ?_
        exact c_checksum hX hL hNC hb hm hi hsh hI kk
      · refine qw_tabOut 1729 dL_law_40 (Or.inr (by rw [nI_toInt (by omega)]; omega)) (by decide) ?_
        exact LW.room (by omega) (by omega) (kk _ _ _ _ _ _ _ _ hsh hI)
end LLP
