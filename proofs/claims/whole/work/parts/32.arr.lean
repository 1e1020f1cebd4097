/-! sets of sponsors: their bits, how many, and that the first order is an order of them -/
theorem kJ6_265 : Cond.constant RJ6 265 1431655765 ∈ lq_W := lq_in (by decide +kernel) (by decide +kernel)
theorem kJ6_266 : Cond.constant RJ6 266 858993459 ∈ lq_W := lq_in (by decide +kernel) (by decide +kernel)
theorem kJ6_267 : Cond.constant RJ6 267 252645135 ∈ lq_W := lq_in (by decide +kernel) (by decide +kernel)
def q_us (x y : Int32) : Int32 := (x.toUInt32 >>> (y.toUInt32 &&& Int32.toUInt32 31)).toInt32
def q_bc1 (x : Int32) : Int32 := x - (q_us x (nI 1) &&& 1431655765)
def q_bc2 (x : Int32) : Int32 := (x &&& 858993459) + (q_us x (nI 2) &&& 858993459)
def q_bc3 (x : Int32) : Int32 := (x + q_us x (nI 4)) &&& 252645135
def q_bc4 (x : Int32) : Int32 := x + q_us x (nI 8)
def q_bc5 (x : Int32) : Int32 := x + q_us x (nI 16)
theorem q_bc : ∀ s : Fin 256, q_bc5 (q_bc4 (q_bc3 (q_bc2 (q_bc1 (nI s.1))))) &&& nI 63 = nI (q_pc s.1) := by decide +kernel
theorem q_pco0 : ∀ v : Fin 256, ∀ t : Fin 8, v.1 / 2 ^ t.1 % 2 = 0 → q_pc (v.1 ||| 2 ^ t.1) = q_pc v.1 + 1 := by decide +kernel
theorem q_stay0 : ∀ p : Fin 256, ∀ f : Fin 8, p.1 / 2 ^ f.1 % 2 = 1 → ∀ t : Fin 8, t.1 ≠ f.1 → p.1 / 2 ^ t.1 % 2 = 1 → (p.1 - 2 ^ f.1) / 2 ^ t.1 % 2 = 1 := by decide +kernel
theorem q_stay {p f t : Nat} (hp : p < 256) (hf : f < 8) (h : p / 2 ^ f % 2 = 1) (ht : t < 8) (hne : t ≠ f) (h2 : p / 2 ^ t % 2 = 1) : (p - 2 ^ f) / 2 ^ t % 2 = 1 := q_stay0 ⟨p, hp⟩ ⟨f, hf⟩ h ⟨t, ht⟩ hne h2
theorem q_ss_bit {f : Nat → Nat} {t : Nat} : ∀ {n}, q_ss f n / 2 ^ t % 2 = 1 ↔ ∃ j, j < n ∧ f j = t
  | 0 => by
    constructor
    · intro h
      rw [q_ss, Nat.zero_div] at h
      exact absurd h (by decide)
    · rintro ⟨j, h, _⟩
      exact absurd h (Nat.not_lt_zero j)
  | n + 1 => by
    rw [q_ss, Nat.one_mul, q_orb]
    by_cases e : t = f n
    · rw [if_pos e]
      exact ⟨fun _ => ⟨n, by omega, e.symm⟩, fun _ => rfl⟩
    · rw [if_neg e, q_ss_bit (n := n)]
      constructor
      · rintro ⟨j, h1, h2⟩
        exact ⟨j, by omega, h2⟩
      · rintro ⟨j, h1, h2⟩
        rcases Nat.lt_or_ge j n with w | w
        · exact ⟨j, w, h2⟩
        · exact absurd h2.symm (by rw [show j = n by omega]; exact e)
theorem q_ss_lt {f : Nat → Nat} {m : Nat} (hm : m ≤ 8) : ∀ {n}, (∀ j, j < n → f j < m) → q_ss f n < 2 ^ m
  | 0, _ => by rw [q_ss]; exact Nat.two_pow_pos m
  | n + 1, h => by
    rw [q_ss, Nat.one_mul]
    exact Nat.or_lt_two_pow (q_ss_lt hm (fun j hj => h j (by omega))) (Nat.pow_lt_pow_right (by decide) (h n (by omega)))
theorem q_ss_pc {f : Nat → Nat} : ∀ {n}, (∀ j, j < n → f j < 8) → (∀ i j, i < n → j < n → f i = f j → i = j) → q_pc (q_ss f n) = n
  | 0, _, _ => by rw [q_ss]; decide
  | n + 1, h, hi => by
    have hb := q_ss_lt (f := f) (m := 8) (n := n) (by decide) (fun j hj => h j (by omega))
    have h0 : q_ss f n / 2 ^ f n % 2 = 0 := by
      have h2 : q_ss f n / 2 ^ f n % 2 < 2 := Nat.mod_lt _ (by decide)
      have h3 : ¬ q_ss f n / 2 ^ f n % 2 = 1 := fun q => by
        obtain ⟨j, j1, j2⟩ := q_ss_bit.mp q
        have := hi j n (by omega) (by omega) j2
        omega
      omega
    have h1 := q_pco0 ⟨q_ss f n, hb⟩ ⟨f n, h n (by omega)⟩ h0
    have h1 : q_pc (q_ss f n ||| 2 ^ f n) = q_pc (q_ss f n) + 1 := h1
    rw [q_ss, Nat.one_mul, h1, q_ss_pc (fun j hj => h j (by omega)) (fun i j a b => hi i j (by omega) (by omega))]
section LAY
variable {g : Nat → Nat} {s : Nat}
theorem q_lay.all (hs : s < 256) (hm : s ≠ 0 → g_more g s 8) : ∀ k, k ≤ q_pc s → q_lay g s k
  | 0, _ => q_lay.z hs hm
  | k + 1, hk => by
    have h := q_lay.all hs hm k (by omega)
    exact h.s (fun q => by
      have h3 := h.2.2.1
      rw [q, show q_pc 0 = 0 by decide] at h3
      omega)
theorem q_lay.at (hs : s < 256) (hm : s ≠ 0 → g_more g s 8) {k : Nat} (hk : k < q_pc s) : (g_fs g s (k + 1)).2 < 8 ∧ (g_fs g s k).1 / 2 ^ (g_fs g s (k + 1)).2 % 2 = 1 ∧ (g_fs g s (k + 1)).1 = (g_fs g s k).1 - 2 ^ (g_fs g s (k + 1)).2 ∧ (g_fs g s k).1 < 256 := by
  have h := q_lay.all hs hm k (by omega)
  have h0 : (g_fs g s k).1 ≠ 0 := fun q => by
    have h3 := h.2.2.1
    rw [q, show q_pc 0 = 0 by decide] at h3
    omega
  obtain ⟨n1, n2, n3⟩ := (h.2.2.2.1 h0).lt
  rw [g_fs_1, g_fs_2]
  exact ⟨n1, g_or_bit h.2.1 n1 n2, rfl, h.2.1⟩
theorem q_lay.mono (hs : s < 256) (hm : s ≠ 0 → g_more g s 8) {k : Nat} : ∀ {m}, k + m ≤ q_pc s → q_sub (g_fs g s (k + m)).1 (g_fs g s k).1
  | 0, _ => fun t _ q => q
  | m + 1, h => fun t ht q => by
    obtain ⟨a1, a2, a3, a4⟩ := q_lay.at hs hm (k := k + m) (by omega)
    rw [show k + (m + 1) = k + m + 1 by omega, a3] at q
    exact q_lay.mono hs hm (m := m) (by omega) t ht (q_rsb a4 a1 a2 ht q).1
theorem q_lay.bit (hs : s < 256) (hm : s ≠ 0 → g_more g s 8) {k : Nat} (hk : k < q_pc s) : s / 2 ^ (g_fs g s (k + 1)).2 % 2 = 1 := by
  obtain ⟨a1, a2, a3, a4⟩ := q_lay.at hs hm hk
  exact (q_lay.all hs hm k (by omega)).1 _ a1 a2
theorem q_lay.inj (hs : s < 256) (hm : s ≠ 0 → g_more g s 8) {k m : Nat} (hk : k < q_pc s) (hmk : m < q_pc s) (e : (g_fs g s (k + 1)).2 = (g_fs g s (m + 1)).2) : k = m := by
  have key : ∀ {k m : Nat}, k < m → m < q_pc s → (g_fs g s (k + 1)).2 = (g_fs g s (m + 1)).2 → False := by
    intro k m h1 h2 e
    obtain ⟨a1, a2, a3, a4⟩ := q_lay.at hs hm (k := k) (by omega)
    obtain ⟨b1, b2, b3, b4⟩ := q_lay.at hs hm (k := m) h2
    have h3 := q_lay.mono hs hm (k := k + 1) (m := m - (k + 1)) (by omega) _ b1 (by rw [show k + 1 + (m - (k + 1)) = m by omega]; exact b2)
    rw [← e, a3] at h3
    exact (q_rsb a4 a1 a2 a1 h3).2 rfl
  rcases Nat.lt_trichotomy k m with h | h | h
  · exact (key h hmk e).elim
  · exact h
  · exact (key h hk e.symm).elim
theorem q_lay.onto (hs : s < 256) (hm : s ≠ 0 → g_more g s 8) {t : Nat} (ht : t < 8) (hb : s / 2 ^ t % 2 = 1) : ∃ k, k < q_pc s ∧ (g_fs g s (k + 1)).2 = t := by
  have key : ∀ k, k ≤ q_pc s → (∃ j, j < k ∧ (g_fs g s (j + 1)).2 = t) ∨ (g_fs g s k).1 / 2 ^ t % 2 = 1 := by
    intro k
    induction k with
    | zero => exact fun _ => Or.inr hb
    | succ k ih =>
      intro hk
      rcases ih (by omega) with ⟨j, j1, j2⟩ | h
      · exact Or.inl ⟨j, by omega, j2⟩
      · obtain ⟨a1, a2, a3, a4⟩ := q_lay.at hs hm (k := k) (by omega)
        by_cases e : (g_fs g s (k + 1)).2 = t
        · exact Or.inl ⟨k, by omega, e⟩
        · refine Or.inr ?_
          rw [a3]
          exact q_stay a4 a1 a2 ht (fun q => e q.symm) h
  rcases key (q_pc s) (Nat.le_refl _) with h | h
  · exact h
  · have h1 := q_lay.all hs hm (q_pc s) (Nat.le_refl _)
    have h2 := (q_pc_z h1.2.1).mp (by have := h1.2.2.1; omega)
    rw [h2, Nat.zero_div] at h
    exact absurd h (by decide)
end LAY
section PU3
variable {G : lq_G} {z : Nat} {S : lq_S} {N : lq_N} {M : lq_M}
theorem k_J6_bitCount {s : Nat} (hs : s < 256) : LM G YJ6_bitCount_0f7a4 0 0 0 [.int (nI s)] z S M N (lq_pu z S M N (.int (nI (q_pc s)))) lq_no := by
  refine LM.of (by decide) rfl [some (.int (nI s))] rfl (Nat.le_of_ble_eq_true rfl) ?_
  refine qw_iload_n 0 dJ6_bitCount_0f7a4_0 rfl rfl ?_
  refine qw_iload_n 0 dJ6_bitCount_0f7a4_1 rfl rfl ?_
  refine qw_iconst (nI 1) dJ6_bitCount_0f7a4_2 (by decide) ?_
  refine qw_iushr _ dJ6_bitCount_0f7a4_3 rfl ?_
  refine qw_ldcw dJ6_bitCount_0f7a4_4 kJ6_265 ?_
  refine qw_iand dJ6_bitCount_0f7a4_7 ?_
  refine qw_isub dJ6_bitCount_0f7a4_8 ?_
  refine qw_istore_n 0 dJ6_bitCount_0f7a4_9 rfl rfl (by decide) ?_
  refine qw_iload_n 0 dJ6_bitCount_0f7a4_10 rfl rfl ?_
  refine qw_ldcw dJ6_bitCount_0f7a4_11 kJ6_266 ?_
  refine qw_iand dJ6_bitCount_0f7a4_14 ?_
  refine qw_iload_n 0 dJ6_bitCount_0f7a4_15 rfl rfl ?_
  refine qw_iconst (nI 2) dJ6_bitCount_0f7a4_16 (by decide) ?_
  refine qw_iushr _ dJ6_bitCount_0f7a4_17 rfl ?_
  refine qw_ldcw dJ6_bitCount_0f7a4_18 kJ6_266 ?_
  refine qw_iand dJ6_bitCount_0f7a4_21 ?_
  refine qw_iadd dJ6_bitCount_0f7a4_22 ?_
  refine qw_istore_n 0 dJ6_bitCount_0f7a4_23 rfl rfl (by decide) ?_
  refine qw_iload_n 0 dJ6_bitCount_0f7a4_24 rfl rfl ?_
  refine qw_iload_n 0 dJ6_bitCount_0f7a4_25 rfl rfl ?_
  refine qw_iconst (nI 4) dJ6_bitCount_0f7a4_26 (by decide) ?_
  refine qw_iushr _ dJ6_bitCount_0f7a4_27 rfl ?_
  refine qw_iadd dJ6_bitCount_0f7a4_28 ?_
  refine qw_ldcw dJ6_bitCount_0f7a4_29 kJ6_267 ?_
  refine qw_iand dJ6_bitCount_0f7a4_32 ?_
  refine qw_istore_n 0 dJ6_bitCount_0f7a4_33 rfl rfl (by decide) ?_
  refine qw_iload_n 0 dJ6_bitCount_0f7a4_34 rfl rfl ?_
  refine qw_iload_n 0 dJ6_bitCount_0f7a4_35 rfl rfl ?_
  refine qw_bipush (nI 8) dJ6_bitCount_0f7a4_36 (by decide) ?_
  refine qw_iushr _ dJ6_bitCount_0f7a4_38 rfl ?_
  refine qw_iadd dJ6_bitCount_0f7a4_39 ?_
  refine qw_istore_n 0 dJ6_bitCount_0f7a4_40 rfl rfl (by decide) ?_
  refine qw_iload_n 0 dJ6_bitCount_0f7a4_41 rfl rfl ?_
  refine qw_iload_n 0 dJ6_bitCount_0f7a4_42 rfl rfl ?_
  refine qw_bipush (nI 16) dJ6_bitCount_0f7a4_43 (by decide) ?_
  refine qw_iushr _ dJ6_bitCount_0f7a4_45 rfl ?_
  refine qw_iadd dJ6_bitCount_0f7a4_46 ?_
  refine qw_istore_n 0 dJ6_bitCount_0f7a4_47 rfl rfl (by decide) ?_
  refine qw_iload_n 0 dJ6_bitCount_0f7a4_48 rfl rfl ?_
  refine qw_bipush (nI 63) dJ6_bitCount_0f7a4_49 (by decide) ?_
  refine qw_iand dJ6_bitCount_0f7a4_51 ?_
  exact qw_ireturn rfl rfl dJ6_bitCount_0f7a4_52 ⟨congrArg (fun v => some (Value.int v)) (q_bc ⟨s, hs⟩), rfl, rfl, rfl, rfl⟩
theorem k_X8_arranged {b : Nat} {F : Nat → Nat → Option Nat} {fp fb : Nat → Option Nat} (h8 : sh8 S b F fp fb) {u : Nat} {H : Nat → Nat → Nat} {tk : Nat → Nat → Nat × Nat} {n : Nat → Nat} (hH : q_hi M (b + 139) u H tk n) {i p : Int32} : LM G YX8_arranged 6 2 12 [.ref b, .int i, .int p] z S M N (lq_mi z S N (fun x M1 => (∃ k q, k < 2 ^ H 0 1 ∧ q < q_pc k ∧ i = nI k ∧ p = nI q ∧ x = if g_co (H 0) k = 0 then -1 else nI (g_fs (H 0) k (q + 1)).2) ∧ q_hi M1 (b + 139) u H tk n ∧ q_fr (b + 139) (b + 1607) M M1)) (lq_xs S M N (fun E => (E = eIA ∧ ¬ q_ix i (2 ^ H 0 1)) ∨ (E = eIO ∧ ∃ k, k < 2 ^ H 0 1 ∧ i = nI k ∧ ¬ q_ix p (q_pc k)))) := by
  obtain ⟨c, hC⟩ := hH
  have hC2 := hC
  obtain ⟨h9, hc, hu, hu8, hp⟩ := hC2
  have hR : q_pl M (b + 139 + 2 + 134 * c) q_id (H 0) (tk 0) (n 0) := (hp 0 (Nat.zero_le u)).1
  obtain ⟨hW, hF, hn⟩ := (hp 0 (Nat.zero_le u)).2
  have hS : sh4 S (b + 139 + 2 + 134 * c) (F c) q_id := h8.2.1.2.2.2 c h9
  have hA := h8.2.2.1
  obtain ⟨a, ha⟩ : ∃ a, a = b + 139 + 2 + 134 * c := ⟨_, rfl⟩
  rw [← ha] at hR hS
  have h20 := hW.nb
  have hs8 := hW.ns
  have h160 := hW.no
  have e0 := hR.nb
  have e1 := hR.ns
  refine LM.of (by decide) rfl [some (.ref b), some (.int i), some (.int p), none] rfl (Nat.le_of_ble_eq_true rfl) ?_
  refine qw_aload_n 0 dX8_arranged_0 rfl rfl ?_
  refine qw_getr fX8_37 dX8_arranged_1 h8.1 rfl ?_
  refine qw_cvp [] (k_X3_latest h8.2.1 hc h9) mX8_80 dX8_arranged_4 h8.2.1.1 rfl rfl rfl (Nat.le_of_ble_eq_true rfl) (by omega) (by decide) rfl ?_
  rw [← ha]
  refine qw_astore_n 3 dX8_arranged_7 rfl rfl (by decide) ?_
  refine qw_aload_n 3 dX8_arranged_8 rfl rfl ?_
  refine qw_iload_n 1 dX8_arranged_9 rfl rfl ?_
  refine qw_csx [_, _] (k_X8_checkSet hS (by omega)) mX8_185 dX8_arranged_10 rfl rfl (Nat.le_of_ble_eq_true rfl) (by omega) (by decide) rfl (by omega) (by omega) (fun E z9 h9 => ⟨rfl, rfl, rfl, by rw [e1] at h9; exact Or.inl h9⟩) (fun v1 => ?_)
  rw [e1] at v1
  obtain ⟨k, hk, rfl⟩ := v1
  have hk8 : k < 256 := Nat.lt_of_lt_of_le hk (Nat.pow_le_pow_right (n := 2) (by decide) hs8)
  have hpc8 := q_pc8 ⟨k, hk8⟩
  have hpc8 : q_pc k ≤ 8 := hpc8
  refine qw_iload_n 2 dX8_arranged_13 rfl rfl ?_
  refine qw_if_lt 25 dX8_arranged_14 (by decide) (fun c14 => ?_) (fun c14 => ?_)
  · exact qw_throwL (ci := 11)  1 rfl rfl tF_IOOBE tN (by decide) tK_IOOBE tI_IOOBE rfl tA_IOOBE tB_IOOBE dX8_arranged_25 dX8_arranged_28 dX8_arranged_29 dX8_arranged_31 dX8_arranged_34 (by decide) (by omega) (by omega) (fun z9 => ⟨rfl, rfl, rfl, Or.inr ⟨rfl, k, hk, rfl, fun q => by have q9 := (q_ix_i (by omega)).mp q; have c9 := q_l0_i.mp c14; omega⟩⟩)
  · refine qw_iload_n 2 dX8_arranged_17 rfl rfl ?_
    refine qw_iload_n 1 dX8_arranged_18 rfl rfl ?_
    refine qw_csp [_] (k_J6_bitCount hk8) mX8_192 dX8_arranged_19 rfl rfl (Nat.le_of_ble_eq_true rfl) (by omega) (by decide) rfl ?_
    refine qw_icmp_lt 35 dX8_arranged_22 (by decide) (fun c22 => ?_) (fun c22 => ?_)
    · obtain ⟨q, hq, rfl⟩ := (q_ix_i (x := p) (n := q_pc k) (by omega)).mpr ⟨by have c8 := mt q_l0_i.mpr c14; omega, (q_lt_i (by omega)).mp c22⟩
      refine qw_aload_n 0 dX8_arranged_35 rfl rfl ?_
      refine qw_getr fX8_44 dX8_arranged_36 h8.1 rfl ?_
      refine qw_aload_n 3 dX8_arranged_39 rfl rfl ?_
      refine qw_iload_n 1 dX8_arranged_40 rfl rfl ?_
      refine qw_cvi [_, _] (k_X1_findFirst hA hS hR hW (by omega) hk) mX8_202 dX8_arranged_41 h8.2.2.1.1 rfl rfl rfl (Nat.le_of_ble_eq_true rfl) (by omega) (by decide) rfl (fun x1 M1 h1 => ?_)
      obtain ⟨hx1, hord, hm1⟩ := h1
      subst hx1
      have hle : (if g_co (H 0) k = 0 then 0 else 1) ≤ 1 := by split <;> omega
      refine qw_if_eqN 59 dX8_arranged_44 (by decide) (by omega) (fun c44 => ?_) (fun c44 => ?_)
      · refine qw_iconst (-1) dX8_arranged_59 (by decide) ?_
        exact qw_ireturn rfl rfl dX8_arranged_60 ⟨rfl, rfl, rfl, _, rfl, ⟨k, q, hk, hq, rfl, rfl, by
          have hc0 : g_co (H 0) k = 0 := Decidable.byContradiction fun z => by rw [if_neg z] at c44; exact absurd c44 (by decide)
          rw [if_pos hc0]⟩, ⟨c, hC.arr (by omega) hm1⟩, fun x hx => hm1 x (by omega)⟩
      · refine qw_aload_n 0 dX8_arranged_47 rfl rfl ?_
        refine qw_getr fX8_44 dX8_arranged_48 h8.1 rfl ?_
        refine qw_getr fX8_206 dX8_arranged_51 h8.2.2.1.1 rfl ?_
        refine qw_iload_n 2 dX8_arranged_54 rfl rfl ?_
        refine qw_iald dX8_arranged_55 h8.2.2.1.2.2.2.2.2 (by omega) (by omega) ?_
        refine qw_goto 60 dX8_arranged_56 (by decide) ?_
        exact qw_ireturn rfl rfl dX8_arranged_60 ⟨rfl, rfl, rfl, _, rfl, ⟨k, q, hk, hq, rfl, rfl, by
          have hc0 : g_co (H 0) k ≠ 0 := fun z => c44 (by rw [if_pos z])
          rw [if_neg hc0]; exact congrArg nI (hord hc0 q hq)⟩, ⟨c, hC.arr (by omega) hm1⟩, fun x hx => hm1 x (by omega)⟩
    · exact qw_throwL (ci := 11)  1 rfl rfl tF_IOOBE tN (by decide) tK_IOOBE tI_IOOBE rfl tA_IOOBE tB_IOOBE dX8_arranged_25 dX8_arranged_28 dX8_arranged_29 dX8_arranged_31 dX8_arranged_34 (by decide) (by omega) (by omega) (fun z9 => ⟨rfl, rfl, rfl, Or.inr ⟨rfl, k, hk, rfl, fun q => by have q9 := (q_ix_i (by omega)).mp q; have c8 := mt (q_lt_i (by omega)).mpr c22; omega⟩⟩)
end PU3
