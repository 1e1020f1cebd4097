/-! arrangements: the first order -/
/-- how far the first order has come: k are laid, the state is (l, p) -/
def q_lay (g : Nat → Nat) (s k : Nat) : Prop := q_sub (g_fs g s k).1 s ∧ (g_fs g s k).1 < 256 ∧ q_pc (g_fs g s k).1 + k = q_pc s ∧ ((g_fs g s k).1 ≠ 0 → g_more g (g_fs g s k).1 (g_fs g s k).2) ∧ ((g_fs g s k).2 = 8 ∨ (g_fs g s k).2 < 8)
theorem q_lay.z {g : Nat → Nat} {s : Nat} (hs : s < 256) (h : s ≠ 0 → g_more g s 8) : q_lay g s 0 := ⟨fun t _ q => q, hs, Nat.add_zero _, h, Or.inl rfl⟩
theorem g_fs_1 (g : Nat → Nat) (s k : Nat) : (g_fs g s (k + 1)).1 = (g_fs g s k).1 - 2 ^ g_nxt g (g_fs g s k).1 (g_fs g s k).2 := by rw [g_fs]
theorem g_fs_2 (g : Nat → Nat) (s k : Nat) : (g_fs g s (k + 1)).2 = g_nxt g (g_fs g s k).1 (g_fs g s k).2 := by rw [g_fs]
theorem q_pw9 {f : Nat} (hf : f < 8) : 2 ^ f < 256 := (q_pw8 ⟨f, hf⟩).2
theorem q_lay.s {g : Nat → Nat} {s k : Nat} (h : q_lay g s k) (h0 : (g_fs g s k).1 ≠ 0) : q_lay g s (k + 1) := by
  obtain ⟨h1, h2, h3, h4, h5⟩ := h
  obtain ⟨n1, n2, n3⟩ := (h4 h0).lt
  have e1 := g_fs_1 g s k
  have e2 := g_fs_2 g s k
  unfold q_lay
  rw [e1, e2]
  clear e1 e2 h4 h5 n3
  generalize g_nxt g (g_fs g s k).1 (g_fs g s k).2 = x at n1 n2 ⊢
  generalize (g_fs g s k).1 = l at h1 h2 h3 h0 n2 ⊢
  have hb := g_or_bit h2 n1 n2
  have hp := q_pc1 h2 n1 hb
  have hsl := Nat.sub_le l (2 ^ x)
  exact ⟨q_sub_rest h2 n1 h1 hb, Nat.lt_of_le_of_lt hsl h2, by omega, fun q => g_more.step h2 n1 n2 q, Or.inr n1⟩
theorem q_pc_z {s : Nat} (hs : s < 256) : q_pc s = 0 ↔ s = 0 := ⟨fun h => q_pcz ⟨s, hs⟩ h, fun h => by rw [h]; decide⟩
section AR3
variable {G : lq_G} {z : Nat} {S : lq_S} {N : lq_N}
theorem l_X1_findFirst {a : Nat} {fb : Nat → Option Nat} {g : Nat → Nat} (hA : sh1 S a fb) {M0 : lq_M} {p set : Nat} (hn8 : g 1 ≤ 8) (hset : set < 2 ^ g 1) : ∀ (n9 k u : Nat) (M : lq_M), k ≤ 8 → 8 - k < n9 → q_lay g set k → g_co g set ≠ 0 → u < 256 → (∀ t, t < 8 → (u / 2 ^ t % 2 = 1 ↔ ((g_fs g set k).1 / 2 ^ t % 2 = 1 ∧ ((g_fs g set k).2 = 8 ∨ g_cl g (g_fs g set k).2 t = 0)))) → (∀ s, s < g 1 → q_frs g (g 1) s (g 1) (M (a + 1) s)) → (∀ s, s ≤ set → 0 < s → q_sub s set → q_tb M a g s) → (∀ j, j < k → M (a + 259) j = (g_fs g set (j + 1)).2) → q_fr a (a + 260) M0 M → LW G YX1_findFirst 4 0 0 (lq_mi z S N (fun x M1 => x = nI (if g_co g set = 0 then 0 else 1) ∧ (g_co g set ≠ 0 → ∀ j, j < q_pc set → M1 (a + 259) j = (g_fs g set (j + 1)).2) ∧ q_fr a (a + 260) M0 M1)) lq_no z S M N 14 [some (.ref a), some (.ref p), some (.int (nI set)), some (.int (nI (g_fs g set k).1)), some (.int (nI u)), some (.int (nI k)), none] [] := by
  intro n9
  induction n9 with
  | zero => intro _ _ _ _ _ _ _ _ _ _ _ _ _; omega
  | succ n9 ih =>
    intro k u M hk hn9 hL hco hu hub h1 hT hor hq
    have hs8 : set < 256 := Nat.lt_of_lt_of_le hset (Nat.pow_le_pow_right (n := 2) (by decide) hn8)
    obtain ⟨l1, l2, l3, l4, l5⟩ := hL
    refine qw_iload dX1_findFirst_14 rfl ?_
    refine qw_bipush (nI 8) dX1_findFirst_16 (by decide) ?_
    refine qw_icmp_geN 76 dX1_findFirst_18 (by decide) (by omega) (by omega) (fun c18 => ?_) (fun c18 => ?_)
    · refine qw_iconst (nI 1) dX1_findFirst_76 (by decide) ?_
      exact qw_ireturn rfl (by decide) dX1_findFirst_77 ⟨rfl, rfl, rfl, _, rfl, by rw [if_neg hco], fun _ j hj => hor j (by have z9 := q_pc8 ⟨set, hs8⟩; have z8 : q_pc set ≤ 8 := z9; omega), hq⟩
    · refine qw_iload_n 3 dX1_findFirst_21 rfl rfl ?_
      refine qw_if_eqN 76 dX1_findFirst_22 (by decide) (by omega) (fun c22 => ?_) (fun c22 => ?_)
      · refine qw_iconst (nI 1) dX1_findFirst_76 (by decide) ?_
        exact qw_ireturn rfl (by decide) dX1_findFirst_77 ⟨rfl, rfl, rfl, _, rfl, by rw [if_neg hco], fun _ j hj => hor j (by rw [c22, show q_pc 0 = 0 by decide] at l3; omega), hq⟩
      · have hlt : (g_fs g set k).1 ≤ set := Nat.le_of_not_lt fun q => by
          have e1 := Nat.and_le_right (n := (g_fs g set k).1) (m := set)
          rw [(q_sub_and l2).mpr l1] at e1
          omega
        have hmore := l4 c22
        obtain ⟨n1, n2, n3⟩ := hmore.lt
        have hTl := hT (g_fs g set k).1 hlt (by omega) l1
        have heq : q_fst (g_mF M a (g_fs g set k).1 u) 1 8 = g_nxt g (g_fs g set k).1 (g_fs g set k).2 := by
          refine q_fst_cong 1 8 (fun t ht => ?_)
          have hi : g_mF M a (g_fs g set k).1 u t = 1 ↔ g_nxN g (g_fs g set k).1 (g_fs g set k).2 t = 1 := by
            rw [g_mF_1, g_nxN_1, hub t ht]
            constructor
            · rintro ⟨⟨w1, w2⟩, w3⟩
              rw [hTl t ht w1] at w3
              exact ⟨by omega, w2⟩
            · rintro ⟨w1, w2⟩
              have w3 := g_or_bit l2 ht w1
              rw [hTl t ht w3]
              exact ⟨⟨w3, w2⟩, by omega⟩
          have b1 : g_mF M a (g_fs g set k).1 u t = 0 ∨ g_mF M a (g_fs g set k).1 u t = 1 := by
            unfold g_mF
            split
            · exact Or.inr rfl
            · exact Or.inl rfl
          have b2 := g_nxN_le g (g_fs g set k).1 (g_fs g set k).2 t
          rcases b1 with b1 | b1 <;> rcases b2 with b2 | b2
          · rw [b1, b2]
          · have := hi.mpr b2; omega
          · have := hi.mp b1; omega
          · rw [b1, b2]
        refine qw_aload_n 0 dX1_findFirst_25 rfl rfl ?_
        refine qw_iload_n 3 dX1_findFirst_26 rfl rfl ?_
        refine qw_iload dX1_findFirst_27 rfl ?_
        refine qw_cvp [_, _] (k_X1_smallestBeginning hA l2 (by omega) (fun t ht hb => by rw [hTl t ht ((hub t ht).mp hb).1]; have := g_or_le g (g_fs g set k).1 t; omega)) mX1_31 dX1_findFirst_29 hA.1 rfl rfl rfl (Nat.le_of_ble_eq_true rfl) (by omega) (by decide) rfl ?_
        rw [heq, if_pos n1]
        have hbl := g_or_bit l2 n1 n2
        have hpc := q_pc1 l2 n1 hbl
        have hsub := q_sub_lt hn8 hset (l1 _ n1 hbl)
        have hL2 := (show q_lay g set k from ⟨l1, l2, l3, l4, l5⟩).s c22
        have hrs : q_rest (g_fs g set k).1 (g_nxt g (g_fs g set k).1 (g_fs g set k).2) = (g_fs g set (k + 1)).1 := by unfold q_rest; rw [if_pos hbl, g_fs_1]
        refine qw_istore dX1_findFirst_32 rfl (by decide) ?_
        refine qw_iload dX1_findFirst_34 rfl ?_
        refine qw_if_geN 41 dX1_findFirst_36 (by decide) (by omega) ?_
        refine qw_aload_n 0 dX1_findFirst_41 rfl rfl ?_
        refine qw_getr fX1_20 dX1_findFirst_42 hA.1 rfl ?_
        refine qw_iload dX1_findFirst_45 rfl ?_
        refine qw_iload dX1_findFirst_47 rfl ?_
        refine qw_iast dX1_findFirst_49 hA.2.2.2.2.2 (by omega) (by omega) ?_
        refine qw_iload_n 3 dX1_findFirst_50 rfl rfl ?_
        refine qw_iconst (nI 1) dX1_findFirst_51 (by decide) ?_
        refine qw_iload dX1_findFirst_52 rfl ?_
        refine qw_shlN (by omega) (by have := q_pw9 n1; omega) dX1_findFirst_54 ?_
        refine qw_iconst (-1) dX1_findFirst_55 (by decide) ?_
        refine qw_ixor dX1_findFirst_56 ?_
        refine qw_iand dX1_findFirst_57 ?_
        rw [q_rst l2 n1, hrs]
        refine qw_istore_n 3 dX1_findFirst_58 rfl rfl (by decide) ?_
        refine qw_iload_n 3 dX1_findFirst_59 rfl rfl ?_
        refine qw_aload_n 0 dX1_findFirst_60 rfl rfl ?_
        refine qw_getr fX1_9 dX1_findFirst_61 hA.1 rfl ?_
        refine qw_iload dX1_findFirst_64 rfl ?_
        refine qw_iald dX1_findFirst_66 hA.2.1 (by omega) (by omega) ?_
        refine qw_andN dX1_findFirst_67 ?_
        refine qw_istore dX1_findFirst_68 rfl (by decide) ?_
        refine qw_iincN 1 dX1_findFirst_70 rfl (by decide) rfl (by decide) ?_
        refine qw_goto 14 dX1_findFirst_73 (by decide) ?_
        rw [lq_up_n _ _ _ (show a + 1 ≠ a + 259 by omega)]
        have hfr := (h1 _ hsub).2
        refine qw_weak _ (by simp [lq_le]) (ih (k + 1) ((g_fs g set (k + 1)).1 &&& M (a + 1) (g_nxt g (g_fs g set k).1 (g_fs g set k).2)) _ (by omega) (by omega) hL2 hco ?_ (fun t ht => ?_) (fun s hs => by rw [lq_up_n _ _ _ (by omega)]; exact h1 s hs) (fun s s1 s2 s3 => (hT s s1 s2 s3).eq (lq_up_n _ _ _ (by omega))) (fun j hj => ?_) (fun b hb => by rw [lq_up_n _ _ _ (by omega)]; exact hq b hb))
        · exact Nat.lt_of_le_of_lt (Nat.and_le_left) hL2.2.1
        · rw [q_andb, hfr t ht]
          have e2 : (g_fs g set (k + 1)).2 = g_nxt g (g_fs g set k).1 (g_fs g set k).2 := g_fs_2 g set k
          rw [e2]
          constructor
          · intro q
            by_cases w1 : (g_fs g set (k + 1)).1 / 2 ^ t % 2 = 1
            · by_cases w2 : t < g 1 ∧ g_cl g (g_nxt g (g_fs g set k).1 (g_fs g set k).2) t = 0
              · exact ⟨w1, Or.inr w2.2⟩
              · rw [if_neg w2, if_neg (show ¬ ((g_fs g set (k + 1)).1 / 2 ^ t % 2 = 1 ∧ (0 : Nat) = 1) from fun x => absurd x.2 (by decide))] at q
                exact absurd q (by decide)
            · rw [if_neg (fun x => w1 x.1)] at q
              exact absurd q (by decide)
          · rintro ⟨w1, w2⟩
            have w3 := q_sub_lt hn8 hset (hL2.1 t ht w1)
            have w4 : g_cl g (g_nxt g (g_fs g set k).1 (g_fs g set k).2) t = 0 := by
              rcases w2 with w | w
              · omega
              · exact w
            rw [if_pos (show t < g 1 ∧ g_cl g (g_nxt g (g_fs g set k).1 (g_fs g set k).2) t = 0 from ⟨w3, w4⟩), if_pos (show (g_fs g set (k + 1)).1 / 2 ^ t % 2 = 1 ∧ (1 : Nat) = 1 from ⟨w1, rfl⟩)]
        · by_cases e : j = k
          · rw [e, lq_up_s, g_fs_2]
          · rw [lq_up_c _ _ e]; exact hor j (by omega)
theorem k_X1_findFirst {a p : Nat} {fb f : Nat → Option Nat} {σ g : Nat → Nat} {tk : Nat → Nat × Nat} {n : Nat} (hA : sh1 S a fb) (hS : sh4 S p f σ) {M : lq_M} (hR : q_pl M p σ g tk n) (hW : g_wf g) (hd : a + 260 ≤ p ∨ p + 134 ≤ a) {set : Nat} (hset : set < 2 ^ g 1) : LM G YX1_findFirst 4 0 0 [.ref a, .ref p, .int (nI set)] z S M N (lq_mi z S N (fun x M1 => x = nI (if g_co g set = 0 then 0 else 1) ∧ (g_co g set ≠ 0 → ∀ j, j < q_pc set → M1 (a + 259) j = (g_fs g set (j + 1)).2) ∧ q_fr a (a + 260) M M1)) lq_no := by
  have h8 := hW.ns
  have hs8 : set < 256 := Nat.lt_of_lt_of_le hset (Nat.pow_le_pow_right (n := 2) (by decide) h8)
  refine LM.of (by decide) rfl [some (.ref a), some (.ref p), some (.int (nI set)), none, none, none, none] rfl (Nat.le_of_ble_eq_true rfl) ?_
  refine qw_aload_n 0 dX1_findFirst_0 rfl rfl ?_
  refine qw_aload_n 1 dX1_findFirst_1 rfl rfl ?_
  refine qw_iload_n 2 dX1_findFirst_2 rfl rfl ?_
  refine qw_cvv [_, _] (k_X1_countBeginnings hA hS hR hW hd hset) mX1_23 dX1_findFirst_3 hA.1 rfl rfl rfl (Nat.le_of_ble_eq_true rfl) (by omega) (by decide) rfl (fun M1 hM1 => ?_)
  obtain ⟨hf1, hT, hq⟩ := hM1
  refine qw_iload_n 2 dX1_findFirst_6 rfl rfl ?_
  refine qw_istore_n 3 dX1_findFirst_7 rfl rfl (by decide) ?_
  refine qw_iload_n 2 dX1_findFirst_8 rfl rfl ?_
  refine qw_istore dX1_findFirst_9 rfl (by decide) ?_
  refine qw_iconst (nI 0) dX1_findFirst_11 (by decide) ?_
  refine qw_istore dX1_findFirst_12 rfl (by decide) ?_
  by_cases h0 : g_co g set = 0
  · have hs0 : set ≠ 0 := fun q => by rw [q, g_co, if_pos rfl] at h0; exact absurd h0 (by decide)
    have hTl := hT set (Nat.le_refl _) (by omega) (fun t ht q => q)
    have hno : q_fst (g_mF M1 a set set) 1 8 = 8 := q_fst_miss (fun j hj q => by
      have w := g_mF_1.mp q
      rw [hTl j hj w.1] at w
      exact (mt (g_co_more hs0).mpr (fun z => z h0)) ⟨j, hj, by omega, Or.inl rfl⟩)
    refine qw_iload dX1_findFirst_14 rfl ?_
    refine qw_bipush (nI 8) dX1_findFirst_16 (by decide) ?_
    refine qw_icmp_geN 76 dX1_findFirst_18 (by decide) (by omega) (by omega) (fun c18 => absurd c18 (by decide)) (fun c18 => ?_)
    refine qw_iload_n 3 dX1_findFirst_21 rfl rfl ?_
    refine qw_if_eqN 76 dX1_findFirst_22 (by decide) (by omega) (fun c22 => absurd c22 hs0) (fun c22 => ?_)
    refine qw_aload_n 0 dX1_findFirst_25 rfl rfl ?_
    refine qw_iload_n 3 dX1_findFirst_26 rfl rfl ?_
    refine qw_iload dX1_findFirst_27 rfl ?_
    refine qw_cvp [_, _] (k_X1_smallestBeginning hA hs8 (by omega) (fun t ht hb => by rw [hTl t ht hb]; have := g_or_le g set t; omega)) mX1_31 dX1_findFirst_29 hA.1 rfl rfl rfl (Nat.le_of_ble_eq_true rfl) (by omega) (by decide) rfl ?_
    rw [hno, if_neg (show ¬ (8 : Nat) < 8 by decide)]
    refine qw_istore dX1_findFirst_32 rfl (by decide) ?_
    refine qw_iload dX1_findFirst_34 rfl ?_
    refine qw_if_ge 41 dX1_findFirst_36 (by decide) (fun c36 => absurd c36 (by decide)) (fun c36 => ?_)
    refine qw_iconst (nI 0) dX1_findFirst_39 (by decide) ?_
    exact qw_ireturn rfl (by decide) dX1_findFirst_40 ⟨rfl, rfl, rfl, _, rfl, by rw [if_pos h0], fun q => absurd h0 q, fun b hb => hq b (by omega)⟩
  · refine l_X1_findFirst hA h8 hset 9 0 set M1 (by omega) (by omega) (q_lay.z hs8 (fun q => (g_co_more q).mp h0)) h0 hs8 (fun t ht => ?_) hf1 hT (fun j hj => absurd hj (Nat.not_lt_zero j)) (fun b hb => hq b (by omega))
    exact ⟨fun q => ⟨q, Or.inl rfl⟩, fun q => q.1⟩
end AR3
