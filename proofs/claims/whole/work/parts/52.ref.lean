/-! THE REFERENCE: what fails, the price -/
noncomputable def q_b (p : Prop) : Nat := by
  classical
  exact if p then 1 else 0
theorem q_b_t {p : Prop} (h : p) : q_b p = 1 := by unfold q_b; exact if_pos h
theorem q_b_f {p : Prop} (h : ¬ p) : q_b p = 0 := by unfold q_b; exact if_neg h
theorem q_b_ne {p : Prop} (h : q_b p ≠ 0) : p := Classical.byContradiction fun q => h (q_b_f q)
theorem q_b_eq {p : Prop} (h : q_b p = 0) : ¬ p := fun q => by rw [q_b_t q] at h; exact absurd h (by decide)
theorem q_b_le {p : Prop} : q_b p ≤ 1 := by unfold q_b; split <;> omega
theorem q_inrg {x : Int32} {lo hi : Nat} (h1 : lo < 2 ^ 31) (h2 : hi < 2 ^ 31) : (if nI lo ≤ x ∧ x ≤ nI hi then 1 else 0) = q_b (q_rg x lo hi) := by
  have e : (nI lo ≤ x ∧ x ≤ nI hi) ↔ q_rg x lo hi := by
    rw [q_rg_i h2, Int32.le_iff_toInt_le, Int32.le_iff_toInt_le, nI_toInt h1, nI_toInt h2]
  by_cases q : q_rg x lo hi
  · rw [if_pos (e.mpr q), q_b_t q]
  · rw [if_neg (fun z => q (e.mp z)), q_b_f q]
theorem q_inix {x : Int32} {n : Nat} (hn : n < 2 ^ 31) : (if nI 0 ≤ x ∧ x ≤ nI n - nI 1 then 1 else 0) = q_b (q_ix x n) := by
  have e : (nI 0 ≤ x ∧ x ≤ nI n - nI 1) ↔ q_ix x n := by
    rw [q_ix_i hn, Int32.le_iff_toInt_le, Int32.le_iff_toInt_le, nI_toInt (by decide)]
    have h : (nI n - nI 1).toInt = (n : Int) - 1 := by
      cases n with
      | zero => decide
      | succ k => rw [pk_sub (by omega), nI_toInt (by omega)]; omega
    rw [h]
    constructor
    · rintro ⟨a, b⟩; exact ⟨by omega, by omega⟩
    · rintro ⟨a, b⟩; exact ⟨by omega, by omega⟩
  by_cases q : q_ix x n
  · rw [if_pos (e.mpr q), q_b_t q]
  · rw [if_neg (fun z => q (e.mp z)), q_b_f q]
theorem lq_up_up {α : Type} (M : Nat → Nat → α) (a k : Nat) (v w : α) : lq_up (lq_up M a k v) a k w = lq_up M a k w := by
  funext b j
  unfold lq_up
  by_cases h : b = a
  · subst h
    simp only [if_true]
    split <;> rfl
  · simp only [if_neg h]
def lq_mn (z : Nat) (S : lq_S) (P : Int32 → lq_M → lq_N → Prop) : lq_P := fun r z' S' M' N' => z' = z ∧ S' = S ∧ ∃ x : Int32, r = some (.int x) ∧ P x M' N'
section LQ6
variable {G : lq_G} {Y : lq_Y} {d kc ks z : Nat} {S : lq_S} {M : lq_M} {N : lq_N} {Q : lq_P} {X : lq_E} {pc : Nat} {lv : List (Option Value)} {st : List Value}
variable {y : lq_Y} {d' n idx b ci : Nat} {fl : List (Option (Option Nat))}
theorem qw_cvn {P : Int32 → lq_M → lq_N → Prop} (As : List Value) {rest : List Value} (hM : LM G y d' 0 0 (.ref b :: As) z S M N (lq_mn z S P) lq_no) (hc : lq_cv Y.1.cls idx y n) (hd : decode Y.2.1 pc = .ok (.invokevirtual idx, 3)) (hS : S b = some (.inl (ci, fl))) (hcl : (lq_cl[ci]?).map (fun q => q.1) = some y.1.cls) (hn : As.length = n) (hst : st = As.reverse ++ .ref b :: rest) (hw : (rest.map fun v => v.category).sum ≤ 8) (hdd : d' + 1 ≤ d) (hm : y.2.2.1 ≤ 20) (hT : Y.2.2.2.2 = []) (k : ∀ (x : Int32) (M' : lq_M) (N' : lq_N), P x M' N' → LW G Y d kc ks Q X z S M' N' (pc + 3) lv (.int x :: rest)) : LW G Y d kc ks Q X z S M N pc lv st :=
  lq_callV hM hc hd hS hcl hn hst hw hdd hm (Nat.zero_le _) (Nat.zero_le _) hT (fun _ _ _ _ _ h => h.elim) (fun r z' S' M' N' h => by obtain ⟨rfl, rfl, x, rfl, h9⟩ := h; exact k x M' N' h9)
end LQ6
/-- a check of the reference: nothing recorded yet -/
def q_fp (V : Prop) (M : lq_M) (m e : Nat) (y : Int32) (M1 : lq_M) : Prop := (V ∧ y = nI 0 ∧ M1 = M) ∨ (¬ V ∧ y = nI 1 ∧ M1 = lq_up M m 0 e)
def q_nf (m : Nat) (N N1 : lq_N) : Prop := ∀ b, b ≠ m + 13 → N1 b = N b
theorem q_nf.rf {m : Nat} {N : lq_N} : q_nf m N N := fun _ _ => rfl
theorem q_nf.tr {m : Nat} {N N1 N2 : lq_N} (h : q_nf m N N1) (h2 : q_nf m N1 N2) : q_nf m N N2 := fun b hb => (h2 b hb).trans (h b hb)
section R2
variable {G : lq_G} {z : Nat} {S : lq_S} {M : lq_M} {N : lq_N} {m : Nat} {fh fo : Nat → Option Nat}
theorem k_X9_fails (h9 : sh9 S m fh fo) {c e : Nat} (hc : c ≤ 1) (he : 0 < e ∧ e < 100) (h0 : M m 0 = 0) : LM G YX9_fails 0 0 0 [.ref m, .int (nI c), .int (nI e)] z S M N (lq_mi z S N (fun y M1 => (c = 0 ∧ y = nI 0 ∧ M1 = M) ∨ (c = 1 ∧ y = nI 1 ∧ M1 = lq_up M m 0 e))) lq_no := by
  refine LM.of (by decide) rfl [some (.ref m), some (.int (nI c)), some (.int (nI e))] rfl (Nat.le_of_ble_eq_true rfl) ?_
  refine qw_iload_n 1 dX9_fails_0 rfl rfl ?_
  refine qw_if_eqN 16 dX9_fails_1 (by decide) (by omega) (fun c1 => ?_) (fun c1 => ?_)
  · refine qw_aload_n 0 dX9_fails_16 rfl rfl ?_
    refine qw_geti fX9_41 dX9_fails_17 h9.1 rfl ?_
    rw [h0]
    refine qw_if_eqN 27 dX9_fails_20 (by decide) (by omega) (fun c20 => ?_) (fun c20 => absurd rfl c20)
    refine qw_iconst (nI 0) dX9_fails_27 (by decide) ?_
    exact qw_ireturn rfl (by decide) dX9_fails_28 ⟨rfl, rfl, rfl, _, rfl, Or.inl ⟨c1, rfl, rfl⟩⟩
  · refine qw_aload_n 0 dX9_fails_4 rfl rfl ?_
    refine qw_geti fX9_41 dX9_fails_5 h9.1 rfl ?_
    rw [h0]
    refine qw_if_neN 16 dX9_fails_8 (by decide) (by omega) (fun c8 => absurd rfl c8) (fun c8 => ?_)
    refine qw_aload_n 0 dX9_fails_11 rfl rfl ?_
    refine qw_iload_n 2 dX9_fails_12 rfl rfl ?_
    refine qw_puti fX9_41 dX9_fails_13 h9.1 rfl ?_
    refine qw_aload_n 0 dX9_fails_16 rfl rfl ?_
    refine qw_geti fX9_41 dX9_fails_17 h9.1 rfl ?_
    rw [lq_up_s]
    refine qw_if_eqN 27 dX9_fails_20 (by decide) (by omega) (fun c20 => absurd c20 (by omega)) (fun c20 => ?_)
    refine qw_iconst (nI 1) dX9_fails_23 (by decide) ?_
    refine qw_goto 28 dX9_fails_24 (by decide) ?_
    exact qw_ireturn rfl (by decide) dX9_fails_28 ⟨rfl, rfl, rfl, _, rfl, Or.inr ⟨by omega, rfl, rfl⟩⟩
theorem k_X9_noBreak (h9 : sh9 S m fh fo) (h0 : M m 0 = 0) {x : Int32} (hn : M (m + 2) 0 < 2 ^ 31) : LM G YX9_noBreak 1 0 0 [.ref m, .int x] z S M N (lq_mi z S N (q_fp (q_ix x (M (m + 2) 0)) M m 1)) lq_no := by
  refine LM.of (by decide) rfl [some (.ref m), some (.int x)] rfl (Nat.le_of_ble_eq_true rfl) ?_
  refine qw_aload_n 0 dX9_noBreak_0 rfl rfl ?_
  refine qw_iload_n 1 dX9_noBreak_1 rfl rfl ?_
  refine qw_iconst (nI 0) dX9_noBreak_2 (by decide) ?_
  refine qw_aload_n 0 dX9_noBreak_3 rfl rfl ?_
  refine qw_getr fX9_17 dX9_noBreak_4 h9.1 rfl ?_
  refine qw_iconst (nI 0) dX9_noBreak_7 (by decide) ?_
  refine qw_iald dX9_noBreak_8 h9.da (by omega) (by omega) ?_
  refine qw_iconst (nI 1) dX9_noBreak_9 (by decide) ?_
  refine qw_isub dX9_noBreak_10 ?_
  refine qw_csp [_, _, _] (k_X9_in) mX9_66 dX9_noBreak_11 rfl rfl (Nat.le_of_ble_eq_true rfl) (by omega) (by decide) rfl ?_
  rw [q_inix hn]
  have hle := q_b_le (p := q_ix x (M (m + 2) 0))
  refine qw_if_neN 21 dX9_noBreak_14 (by decide) (by omega) (fun c14 => ?_) (fun c14 => ?_)
  · refine qw_iconst (nI 0) dX9_noBreak_21 (by decide) ?_
    refine qw_iconst (nI 1) dX9_noBreak_22 (by decide) ?_
    refine qw_cvi [_, _] (k_X9_fails h9 (by decide) (by decide) h0) mX9_166 dX9_noBreak_23 h9.1 rfl rfl rfl (Nat.le_of_ble_eq_true rfl) (by omega) (by decide) rfl (fun x1 M1 h1 => ?_)
    obtain ⟨-, rfl, hz⟩ := h1.resolve_right (fun q => absurd q.1 (by decide))
    rw [hz]
    exact qw_ireturn rfl (by decide) dX9_noBreak_26 ⟨rfl, rfl, rfl, _, rfl, Or.inl ⟨q_b_ne c14, rfl, rfl⟩⟩
  · refine qw_iconst (nI 1) dX9_noBreak_17 (by decide) ?_
    refine qw_goto 22 dX9_noBreak_18 (by decide) ?_
    refine qw_iconst (nI 1) dX9_noBreak_22 (by decide) ?_
    refine qw_cvi [_, _] (k_X9_fails h9 (by decide) (by decide) h0) mX9_166 dX9_noBreak_23 h9.1 rfl rfl rfl (Nat.le_of_ble_eq_true rfl) (by omega) (by decide) rfl (fun x1 M1 h1 => ?_)
    obtain ⟨-, rfl, hz⟩ := h1.resolve_left (fun q => absurd q.1 (by decide))
    rw [hz]
    exact qw_ireturn rfl (by decide) dX9_noBreak_26 ⟨rfl, rfl, rfl, _, rfl, Or.inr ⟨q_b_eq c14, rfl, rfl⟩⟩
theorem k_X9_noSponsor (h9 : sh9 S m fh fo) (h0 : M m 0 = 0) {x : Int32} (hn : M (m + 2) 1 < 2 ^ 31) : LM G YX9_noSponsor 1 0 0 [.ref m, .int x] z S M N (lq_mi z S N (q_fp (q_ix x (M (m + 2) 1)) M m 1)) lq_no := by
  refine LM.of (by decide) rfl [some (.ref m), some (.int x)] rfl (Nat.le_of_ble_eq_true rfl) ?_
  refine qw_aload_n 0 dX9_noSponsor_0 rfl rfl ?_
  refine qw_iload_n 1 dX9_noSponsor_1 rfl rfl ?_
  refine qw_iconst (nI 0) dX9_noSponsor_2 (by decide) ?_
  refine qw_aload_n 0 dX9_noSponsor_3 rfl rfl ?_
  refine qw_getr fX9_17 dX9_noSponsor_4 h9.1 rfl ?_
  refine qw_iconst (nI 1) dX9_noSponsor_7 (by decide) ?_
  refine qw_iald dX9_noSponsor_8 h9.da (by omega) (by omega) ?_
  refine qw_iconst (nI 1) dX9_noSponsor_9 (by decide) ?_
  refine qw_isub dX9_noSponsor_10 ?_
  refine qw_csp [_, _, _] (k_X9_in) mX9_66 dX9_noSponsor_11 rfl rfl (Nat.le_of_ble_eq_true rfl) (by omega) (by decide) rfl ?_
  rw [q_inix hn]
  have hle := q_b_le (p := q_ix x (M (m + 2) 1))
  refine qw_if_neN 21 dX9_noSponsor_14 (by decide) (by omega) (fun c14 => ?_) (fun c14 => ?_)
  · refine qw_iconst (nI 0) dX9_noSponsor_21 (by decide) ?_
    refine qw_iconst (nI 1) dX9_noSponsor_22 (by decide) ?_
    refine qw_cvi [_, _] (k_X9_fails h9 (by decide) (by decide) h0) mX9_166 dX9_noSponsor_23 h9.1 rfl rfl rfl (Nat.le_of_ble_eq_true rfl) (by omega) (by decide) rfl (fun x1 M1 h1 => ?_)
    obtain ⟨-, rfl, hz⟩ := h1.resolve_right (fun q => absurd q.1 (by decide))
    rw [hz]
    exact qw_ireturn rfl (by decide) dX9_noSponsor_26 ⟨rfl, rfl, rfl, _, rfl, Or.inl ⟨q_b_ne c14, rfl, rfl⟩⟩
  · refine qw_iconst (nI 1) dX9_noSponsor_17 (by decide) ?_
    refine qw_goto 22 dX9_noSponsor_18 (by decide) ?_
    refine qw_iconst (nI 1) dX9_noSponsor_22 (by decide) ?_
    refine qw_cvi [_, _] (k_X9_fails h9 (by decide) (by decide) h0) mX9_166 dX9_noSponsor_23 h9.1 rfl rfl rfl (Nat.le_of_ble_eq_true rfl) (by omega) (by decide) rfl (fun x1 M1 h1 => ?_)
    obtain ⟨-, rfl, hz⟩ := h1.resolve_left (fun q => absurd q.1 (by decide))
    rw [hz]
    exact qw_ireturn rfl (by decide) dX9_noSponsor_26 ⟨rfl, rfl, rfl, _, rfl, Or.inr ⟨q_b_eq c14, rfl, rfl⟩⟩
theorem k_X9_noSeconds (h9 : sh9 S m fh fo) (h0 : M m 0 = 0) {x : Int32} : LM G YX9_noSeconds 1 0 0 [.ref m, .int x] z S M N (lq_mi z S N (q_fp (q_rg x 5 60) M m 2)) lq_no := by
  refine LM.of (by decide) rfl [some (.ref m), some (.int x)] rfl (Nat.le_of_ble_eq_true rfl) ?_
  refine qw_aload_n 0 dX9_noSeconds_0 rfl rfl ?_
  refine qw_iload_n 1 dX9_noSeconds_1 rfl rfl ?_
  refine qw_iconst (nI 5) dX9_noSeconds_2 (by decide) ?_
  refine qw_bipush (nI 60) dX9_noSeconds_3 (by decide) ?_
  refine qw_csp [_, _, _] (k_X9_in) mX9_66 dX9_noSeconds_5 rfl rfl (Nat.le_of_ble_eq_true rfl) (by omega) (by decide) rfl ?_
  rw [q_inrg (by decide) (by decide)]
  have hle := q_b_le (p := q_rg x 5 60)
  refine qw_if_neN 15 dX9_noSeconds_8 (by decide) (by omega) (fun c8 => ?_) (fun c8 => ?_)
  · refine qw_iconst (nI 0) dX9_noSeconds_15 (by decide) ?_
    refine qw_iconst (nI 2) dX9_noSeconds_16 (by decide) ?_
    refine qw_cvi [_, _] (k_X9_fails h9 (by decide) (by decide) h0) mX9_166 dX9_noSeconds_17 h9.1 rfl rfl rfl (Nat.le_of_ble_eq_true rfl) (by omega) (by decide) rfl (fun x1 M1 h1 => ?_)
    obtain ⟨-, rfl, hz⟩ := h1.resolve_right (fun q => absurd q.1 (by decide))
    rw [hz]
    exact qw_ireturn rfl (by decide) dX9_noSeconds_20 ⟨rfl, rfl, rfl, _, rfl, Or.inl ⟨q_b_ne c8, rfl, rfl⟩⟩
  · refine qw_iconst (nI 1) dX9_noSeconds_11 (by decide) ?_
    refine qw_goto 16 dX9_noSeconds_12 (by decide) ?_
    refine qw_iconst (nI 2) dX9_noSeconds_16 (by decide) ?_
    refine qw_cvi [_, _] (k_X9_fails h9 (by decide) (by decide) h0) mX9_166 dX9_noSeconds_17 h9.1 rfl rfl rfl (Nat.le_of_ble_eq_true rfl) (by omega) (by decide) rfl (fun x1 M1 h1 => ?_)
    obtain ⟨-, rfl, hz⟩ := h1.resolve_left (fun q => absurd q.1 (by decide))
    rw [hz]
    exact qw_ireturn rfl (by decide) dX9_noSeconds_20 ⟨rfl, rfl, rfl, _, rfl, Or.inr ⟨q_b_eq c8, rfl, rfl⟩⟩
def q_rqX (g : Nat → Nat) (s l i : Int32) (e : Nat) : Prop := (e = 1 ∧ ¬ (q_ix s (g 1) ∧ q_ix i (g 0))) ∨ (e = 2 ∧ q_ix s (g 1) ∧ q_ix i (g 0) ∧ ¬ q_rg l 5 60)
theorem k_X9_noRequest (h9 : sh9 S m fh fo) (h0 : M m 0 = 0) {s l i : Int32} (hn0 : M (m + 2) 0 < 2 ^ 31) (hn1 : M (m + 2) 1 < 2 ^ 31) : LM G YX9_noRequest 2 0 0 [.ref m, .int s, .int l, .int i] z S M N (lq_mi z S N (fun y M1 => (q_ix s (M (m + 2) 1) ∧ q_ix i (M (m + 2) 0) ∧ q_rg l 5 60 ∧ y = nI 0 ∧ M1 = M) ∨ (∃ e, q_rqX (M (m + 2)) s l i e ∧ y = nI 1 ∧ M1 = lq_up M m 0 e))) lq_no := by
  refine LM.of (by decide) rfl [some (.ref m), some (.int s), some (.int l), some (.int i)] rfl (Nat.le_of_ble_eq_true rfl) ?_
  refine qw_aload_n 0 dX9_noRequest_0 rfl rfl ?_
  refine qw_iload_n 1 dX9_noRequest_1 rfl rfl ?_
  refine qw_cvi [_] (k_X9_noSponsor h9 h0 hn1) mX9_232 dX9_noRequest_2 h9.1 rfl rfl rfl (Nat.le_of_ble_eq_true rfl) (by omega) (by decide) rfl (fun x1 M1 h1 => ?_)
  rcases h1 with ⟨v1, rfl, hz⟩ | ⟨v1, rfl, hz⟩ <;> rw [hz]
  · refine qw_if_neN 24 dX9_noRequest_5 (by decide) (by decide) (fun c5 => absurd rfl c5) (fun _ => ?_)
    refine qw_aload_n 0 dX9_noRequest_8 rfl rfl ?_
    refine qw_iload_n 3 dX9_noRequest_9 rfl rfl ?_
    refine qw_cvi [_] (k_X9_noBreak h9 h0 hn0) mX9_235 dX9_noRequest_10 h9.1 rfl rfl rfl (Nat.le_of_ble_eq_true rfl) (by omega) (by decide) rfl (fun x1 M1 h1 => ?_)
    rcases h1 with ⟨v2, rfl, hz⟩ | ⟨v2, rfl, hz⟩ <;> rw [hz]
    · refine qw_if_neN 24 dX9_noRequest_13 (by decide) (by decide) (fun c5 => absurd rfl c5) (fun _ => ?_)
      refine qw_aload_n 0 dX9_noRequest_16 rfl rfl ?_
      refine qw_iload_n 2 dX9_noRequest_17 rfl rfl ?_
      refine qw_cvi [_] (k_X9_noSeconds h9 h0) mX9_238 dX9_noRequest_18 h9.1 rfl rfl rfl (Nat.le_of_ble_eq_true rfl) (by omega) (by decide) rfl (fun x1 M1 h1 => ?_)
      rcases h1 with ⟨v3, rfl, hz⟩ | ⟨v3, rfl, hz⟩ <;> rw [hz]
      · refine qw_if_eqN 28 dX9_noRequest_21 (by decide) (by omega) (fun c21 => ?_) (fun c21 => absurd rfl c21)
        refine qw_iconst (nI 0) dX9_noRequest_28 (by decide) ?_
        exact qw_ireturn rfl (by decide) dX9_noRequest_29 ⟨rfl, rfl, rfl, _, rfl, Or.inl ⟨v1, v2, v3, rfl, rfl⟩⟩
      · refine qw_if_eqN 28 dX9_noRequest_21 (by decide) (by omega) (fun c21 => absurd c21 (by decide)) (fun c21 => ?_)
        refine qw_iconst (nI 1) dX9_noRequest_24 (by decide) ?_
        refine qw_goto 29 dX9_noRequest_25 (by decide) ?_
        exact qw_ireturn rfl (by decide) dX9_noRequest_29 ⟨rfl, rfl, rfl, _, rfl, Or.inr ⟨2, Or.inr ⟨rfl, v1, v2, v3⟩, rfl, rfl⟩⟩
    · refine qw_if_neN 24 dX9_noRequest_13 (by decide) (by omega) (fun c13 => ?_) (fun c13 => absurd c13 (by decide))
      refine qw_iconst (nI 1) dX9_noRequest_24 (by decide) ?_
      refine qw_goto 29 dX9_noRequest_25 (by decide) ?_
      exact qw_ireturn rfl (by decide) dX9_noRequest_29 ⟨rfl, rfl, rfl, _, rfl, Or.inr ⟨1, Or.inl ⟨rfl, fun q => v2 q.2⟩, rfl, rfl⟩⟩
  · refine qw_if_neN 24 dX9_noRequest_5 (by decide) (by omega) (fun c5 => ?_) (fun c5 => absurd c5 (by decide))
    refine qw_iconst (nI 1) dX9_noRequest_24 (by decide) ?_
    refine qw_goto 29 dX9_noRequest_25 (by decide) ?_
    exact qw_ireturn rfl (by decide) dX9_noRequest_29 ⟨rfl, rfl, rfl, _, rfl, Or.inr ⟨1, Or.inl ⟨rfl, fun q => v1 q.1⟩, rfl, rfl⟩⟩
end R2
theorem lg_le0 {x y : Int64} : lg_cmp x y ≤ 0 ↔ ¬ y < x := by
  unfold lg_cmp
  by_cases h : y < x
  · rw [if_pos h]
    exact ⟨fun q => absurd q (by decide), fun q => absurd h q⟩
  · rw [if_neg h]
    refine ⟨fun _ => h, fun _ => ?_⟩
    split <;> decide
theorem lg_ge0 {x y : Int64} : 0 ≤ lg_cmp x y ↔ ¬ x < y := by
  unfold lg_cmp
  by_cases h : y < x
  · rw [if_pos h]
    refine ⟨fun _ q => ?_, fun _ => by decide⟩
    have h1 := Int64.lt_iff_toInt_lt.mp h
    have h2 := Int64.lt_iff_toInt_lt.mp q
    omega
  · rw [if_neg h]
    by_cases e : x = y
    · rw [if_pos e]
      refine ⟨fun _ q => ?_, fun _ => by decide⟩
      rw [e] at q
      have h2 := Int64.lt_iff_toInt_lt.mp q
      omega
    · rw [if_neg e]
      refine ⟨fun q => absurd q (by decide), fun q => ?_⟩
      have h1 : ¬ y.toInt < x.toInt := fun z => h (Int64.lt_iff_toInt_lt.mpr z)
      have h2 : ¬ x.toInt < y.toInt := fun z => q (Int64.lt_iff_toInt_lt.mpr z)
      exact absurd (Int64.toInt_inj.mp (show x.toInt = y.toInt by omega)) e
theorem q_lm1 {x : Int} (h : -4000000000000000000 ≤ x ∧ x ≤ 4000000000000000000) : lg_cmp (Int64.ofInt x) 1000000 ≤ 0 ↔ x ≤ 1000000 := by
  rw [lg_le0, Int64.lt_iff_toInt_lt, q_64 h]
  show ¬ (1000000 : Int) < x ↔ _
  omega
theorem q_lm2 {x : Int} (h : -4000000000000000000 ≤ x ∧ x ≤ 4000000000000000000) : 0 ≤ lg_cmp (Int64.ofInt x) (-1000000) ↔ -1000000 ≤ x := by
  rw [lg_ge0, Int64.lt_iff_toInt_lt, q_64 h]
  show ¬ x < (-1000000 : Int) ↔ _
  omega
section R3
variable {G : lq_G} {z : Nat} {S : lq_S} {M : lq_M} {N : lq_N} {m : Nat} {fh fo : Nat → Option Nat}
theorem k_X9_limited {x : Int} (h : -4000000000000000000 ≤ x ∧ x ≤ 4000000000000000000) : LM G YX9_limited 0 0 0 [.long (Int64.ofInt x)] z S M N (lq_pu z S M N (.long (Int64.ofInt (max (-1000000) (min 1000000 x))))) lq_no := by
  have l1 := q_lm1 h
  have l2 := q_lm2 h
  refine LM.of (by decide) rfl [some (.long (Int64.ofInt x)), none] rfl (Nat.le_of_ble_eq_true rfl) ?_
  refine qw_lload_n 0 dX9_limited_0 rfl rfl ?_
  refine qw_ldc2 dX9_limited_1 kX9_208 ?_
  refine qw_lcmp dX9_limited_4 ?_
  refine qw_if_le 14 dX9_limited_5 (by decide) (fun c5 => ?_) (fun c5 => ?_)
  · refine qw_lload_n 0 dX9_limited_14 rfl rfl ?_
    refine qw_ldc2 dX9_limited_15 kX9_210 ?_
    refine qw_lcmp dX9_limited_18 ?_
    refine qw_if_ge 28 dX9_limited_19 (by decide) (fun c19 => ?_) (fun c19 => ?_)
    · refine qw_lload_n 0 dX9_limited_28 rfl rfl ?_
      exact qw_lreturn rfl dX9_limited_29 ⟨by have a1 := l1.mp c5; have a2 := l2.mp c19; rw [show max (-1000000) (min 1000000 x) = x by omega], rfl, rfl, rfl, rfl⟩
    · refine qw_ldc2 dX9_limited_22 kX9_210 ?_
      refine qw_goto 29 dX9_limited_25 (by decide) ?_
      exact qw_lreturn rfl dX9_limited_29 ⟨by have c : ¬ -1000000 ≤ x := fun q => c19 (l2.mpr q); rw [show max (-1000000) (min 1000000 x) = -1000000 by omega]; rfl, rfl, rfl, rfl, rfl⟩
  · refine qw_ldc2 dX9_limited_8 kX9_208 ?_
    refine qw_goto 29 dX9_limited_11 (by decide) ?_
    exact qw_lreturn rfl dX9_limited_29 ⟨by have c : ¬ x ≤ 1000000 := fun q => c5 (l1.mpr q); rw [show max (-1000000) (min 1000000 x) = 1000000 by omega]; rfl, rfl, rfl, rfl, rfl⟩
theorem k_X9_operate {k : Nat} {x y : Int} (hk : 2 ≤ k ∧ k ≤ 5) (hx : q_big x) (hy : q_big y) : LM G YX9_operate 1 0 0 [.int (nI k), .long (Int64.ofInt x), .long (Int64.ofInt y)] z S M N (lq_pu z S M N (.long (Int64.ofInt (q_op k x y)))) lq_no := by
  have hx6 := q_64 (x := x) (by unfold q_big at hx; omega)
  have hy6 := q_64 (x := y) (by unfold q_big at hy; omega)
  refine LM.of (by decide) rfl [some (.int (nI k)), some (.long (Int64.ofInt x)), none, some (.long (Int64.ofInt y)), none] rfl (Nat.le_of_ble_eq_true rfl) ?_
  rcases (show k = 2 ∨ k = 3 ∨ k = 4 ∨ k = 5 by omega) with rfl | rfl | rfl | rfl
  · refine qw_iload_n 0 dX9_operate_0 rfl rfl ?_
    refine qw_iconst (nI 5) dX9_operate_1 (by decide) ?_
    refine qw_icmp_neN 19 dX9_operate_2 (by decide) (by omega) (by omega) (fun c2 => ?_) (fun c2 => absurd c2 (by decide))
    refine qw_iload_n 0 dX9_operate_19 rfl rfl ?_
    refine qw_iconst (nI 2) dX9_operate_20 (by decide) ?_
    refine qw_icmp_neN 30 dX9_operate_21 (by decide) (by omega) (by omega) (fun c21 => absurd rfl c21) (fun c21 => ?_)
    refine qw_lload_n 1 dX9_operate_24 rfl rfl ?_
    refine qw_lload_n 3 dX9_operate_25 rfl rfl ?_
    refine qw_ladd dX9_operate_26 ?_
    rw [← Int64.ofInt_add]
    refine qw_goto 44 dX9_operate_27 (by decide) ?_
    refine qw_csp [_] (k_X9_limited (by unfold q_big at hx hy; omega)) mX9_212 dX9_operate_44 rfl rfl (Nat.le_of_ble_eq_true rfl) (by omega) (by decide) rfl ?_
    exact qw_lreturn rfl dX9_operate_47 ⟨by simp [q_op], rfl, rfl, rfl, rfl⟩
  · refine qw_iload_n 0 dX9_operate_0 rfl rfl ?_
    refine qw_iconst (nI 5) dX9_operate_1 (by decide) ?_
    refine qw_icmp_neN 19 dX9_operate_2 (by decide) (by omega) (by omega) (fun c2 => ?_) (fun c2 => absurd c2 (by decide))
    refine qw_iload_n 0 dX9_operate_19 rfl rfl ?_
    refine qw_iconst (nI 2) dX9_operate_20 (by decide) ?_
    refine qw_icmp_neN 30 dX9_operate_21 (by decide) (by omega) (by omega) (fun c21 => ?_) (fun c21 => absurd c21 (by decide))
    refine qw_iload_n 0 dX9_operate_30 rfl rfl ?_
    refine qw_iconst (nI 3) dX9_operate_31 (by decide) ?_
    refine qw_icmp_neN 41 dX9_operate_32 (by decide) (by omega) (by omega) (fun c32 => absurd rfl c32) (fun c32 => ?_)
    refine qw_lload_n 1 dX9_operate_35 rfl rfl ?_
    refine qw_lload_n 3 dX9_operate_36 rfl rfl ?_
    refine qw_lsub dX9_operate_37 ?_
    rw [← Int64.ofInt_sub]
    refine qw_goto 44 dX9_operate_38 (by decide) ?_
    refine qw_csp [_] (k_X9_limited (by unfold q_big at hx hy; omega)) mX9_212 dX9_operate_44 rfl rfl (Nat.le_of_ble_eq_true rfl) (by omega) (by decide) rfl ?_
    exact qw_lreturn rfl dX9_operate_47 ⟨by simp [q_op], rfl, rfl, rfl, rfl⟩
  · refine qw_iload_n 0 dX9_operate_0 rfl rfl ?_
    refine qw_iconst (nI 5) dX9_operate_1 (by decide) ?_
    refine qw_icmp_neN 19 dX9_operate_2 (by decide) (by omega) (by omega) (fun c2 => ?_) (fun c2 => absurd c2 (by decide))
    refine qw_iload_n 0 dX9_operate_19 rfl rfl ?_
    refine qw_iconst (nI 2) dX9_operate_20 (by decide) ?_
    refine qw_icmp_neN 30 dX9_operate_21 (by decide) (by omega) (by omega) (fun c21 => ?_) (fun c21 => absurd c21 (by decide))
    refine qw_iload_n 0 dX9_operate_30 rfl rfl ?_
    refine qw_iconst (nI 3) dX9_operate_31 (by decide) ?_
    refine qw_icmp_neN 41 dX9_operate_32 (by decide) (by omega) (by omega) (fun c32 => ?_) (fun c32 => absurd c32 (by decide))
    refine qw_lload_n 1 dX9_operate_41 rfl rfl ?_
    refine qw_lload_n 3 dX9_operate_42 rfl rfl ?_
    refine qw_lmul dX9_operate_43 ?_
    rw [← Int64.ofInt_mul]
    refine qw_csp [_] (k_X9_limited (q_mul_in hx hy)) mX9_212 dX9_operate_44 rfl rfl (Nat.le_of_ble_eq_true rfl) (by omega) (by decide) rfl ?_
    exact qw_lreturn rfl dX9_operate_47 ⟨by simp [q_op], rfl, rfl, rfl, rfl⟩
  · refine qw_iload_n 0 dX9_operate_0 rfl rfl ?_
    refine qw_iconst (nI 5) dX9_operate_1 (by decide) ?_
    refine qw_icmp_neN 19 dX9_operate_2 (by decide) (by omega) (by omega) (fun c2 => absurd rfl c2) (fun c2 => ?_)
    refine qw_lload_n 3 dX9_operate_5 rfl rfl ?_
    refine qw_lconst (0) dX9_operate_6 (by decide) ?_
    refine qw_lcmp dX9_operate_7 ?_
    refine qw_if_ne 15 dX9_operate_8 (by decide) (fun c8 => ?_) (fun c8 => ?_)
    · refine qw_lload_n 1 dX9_operate_15 rfl rfl ?_
      refine qw_lload_n 3 dX9_operate_16 rfl rfl ?_
      refine qw_ldiv dX9_operate_17 (fun q => c8 (by rw [q]; decide)) ?_
      rw [← q_divL hx6 hy6 hx hy]
      exact qw_lreturn rfl dX9_operate_18 ⟨by have hy0 : y ≠ 0 := fun q => c8 (by rw [q]; decide); have ht := q_tdiv_in (b := y) hx; rw [show q_op 5 x y = x.tdiv y by simp [q_op, hy0]; omega], rfl, rfl, rfl, rfl⟩
    · refine qw_lconst (0) dX9_operate_11 (by decide) ?_
      refine qw_goto 18 dX9_operate_12 (by decide) ?_
      exact qw_lreturn rfl dX9_operate_18 ⟨by rw [show y = 0 by have h9 := q_cmp0 c8; rw [h9] at hy6; exact hy6.symm, show q_op 5 x 0 = 0 by unfold q_op; rw [if_neg (by decide), if_neg (by decide), if_neg (by decide), if_pos rfl]; rfl]; rfl, rfl, rfl, rfl, rfl⟩
end R3
/-- the cells of the expression ahead of its token j -/
def q_ce (tk : Nat → Nat × Nat) : Nat → Nat
  | 0 => 0
  | j + 1 => q_ce tk j + if (tk j).1 ≤ 1 then 2 else 1
theorem q_ce_2 {tk : Nat → Nat × Nat} {n : Nat} (h : ∀ i, i < n → q_tok (tk i) (q_hgt tk i)) : ∀ i, i ≤ n → 2 * q_ce tk i = 3 * i + q_hgt tk i
  | 0, _ => rfl
  | i + 1, hi => by
    have ih := q_ce_2 h i (by omega)
    have ht := h i (by omega)
    unfold q_tok at ht
    rw [q_ce, q_hgt]
    split <;> omega
theorem q_ce_lt (tk : Nat → Nat × Nat) : ∀ {n j}, j < n → q_ce tk j + (if (tk j).1 ≤ 1 then 2 else 1) ≤ q_ce tk n
  | 0, j, h => absurd h (Nat.not_lt_zero j)
  | n + 1, j, h => by
    rw [q_ce]
    by_cases e : j = n
    · subst e; exact Nat.le_refl _
    · exact Nat.le_trans (q_ce_lt tk (n := n) (by omega)) (Nat.le_add_right _ _)
/-- the reference's cells of the expression -/
def q_cd (g : Nat → Nat) (tk : Nat → Nat × Nat) (n : Nat) : Prop := (g 4 = 0 ∧ n = 5 ∧ ∀ j, j < 5 → tk j = q_dft j) ∨ (0 < n ∧ g 4 = q_ce tk n ∧ ∀ j, j < n → g (1363 + q_ce tk j) = (tk j).1 ∧ ((tk j).1 ≤ 1 → g (1364 + q_ce tk j) = (tk j).2))
theorem q_evn_cong {e : Nat → Nat} {a b : Nat → Nat × Nat} : ∀ n, (∀ j, j < n → a j = b j) → q_evn e a n = q_evn e b n
  | 0, _ => rfl
  | n + 1, h => by rw [q_evn, q_evn, q_evn_cong n (fun j hj => h j (by omega)), h n (by omega)]
theorem q_dft_ev (e : Nat → Nat) : (q_evn e q_dft 5).2 0 = q_op 5 (q_op 4 (e 0) (e 2)) 10 := by simp [q_evn, q_stp, q_dft]
theorem q_dft_v {e : Nat → Nat} {tk : Nat → Nat × Nat} {a l : Nat} (h : ∀ j, j < 5 → tk j = q_dft j) (ha : e 0 = a) (hl : e 2 = l) (ha9 : a ≤ 999) (hl6 : l ≤ 60) : Int64.ofInt ((q_evn e tk 5).2 0) = (nI a).toInt64 * (nI l).toInt64 / 10 ∧ q_big ((q_evn e tk 5).2 0) := by
  have hm : a * l ≤ 999 * 60 := Nat.mul_le_mul ha9 hl6
  have e1 : q_op 4 (a : Int) (l : Int) = ((a * l : Nat) : Int) := by
    unfold q_op
    rw [if_neg (by decide), if_neg (by decide), if_pos rfl, ← Int.natCast_mul]
    omega
  have e2 : q_op 5 ((a * l : Nat) : Int) 10 = ((a * l : Nat) : Int).tdiv 10 := by
    have := q_tdiv_in (a := ((a * l : Nat) : Int)) (b := 10) (by unfold q_big; omega)
    unfold q_op
    rw [if_neg (by decide), if_neg (by decide), if_neg (by decide), if_neg (by decide)]
    omega
  rw [q_evn_cong 5 h, q_dft_ev, ha, hl, e1, e2]
  refine ⟨?_, by have := q_tdiv_in (a := ((a * l : Nat) : Int)) (b := 10) (by unfold q_big; omega); exact this⟩
  rw [q_divL (q_64 (by omega)) (q_64 (by decide)) (by unfold q_big; omega) (by unfold q_big; decide)]
  rw [show (nI a).toInt64 = Int64.ofInt (a : Int) from q_i2l (v := (a : Int)) (by unfold q_big; omega), show (nI l).toInt64 = Int64.ofInt (l : Int) from q_i2l (v := (l : Int)) (by unfold q_big; omega), ← Int64.ofInt_mul, ← Int.natCast_mul]
  rfl
def q_rvI (e : Nat → Nat) (tk : Nat → Nat × Nat) (a i : Nat) (N0 N : lq_N) : Prop := (∀ j, j < q_hgt tk i → N a j = Int64.ofInt ((q_evn e tk i).2 j)) ∧ ∀ b, b ≠ a → N b = N0 b
theorem q_rvI_push {e : Nat → Nat} {tk : Nat → Nat × Nat} {a i v : Nat} {N0 N : lq_N} (h : q_rvI e tk a i N0 N) (hv : v ≤ 1000000) (hk : ((tk i).1 = 0 ∧ v = (tk i).2) ∨ ((tk i).1 = 1 ∧ v = e (tk i).2)) : q_rvI e tk a (i + 1) N0 (lq_up N a (q_hgt tk i) (nI v).toInt64) := by
  obtain ⟨h2, h3⟩ := h
  have hh := q_evn_h e tk i
  refine ⟨fun j hj => ?_, fun b b2 => by rw [lq_up_n _ _ _ b2]; exact h3 b b2⟩
  rw [q_hgt, if_pos (by omega)] at hj
  rw [q_evn, q_stp]
  have hv2 : (nI v).toInt64 = Int64.ofInt (v : Int) := q_i2l (v := (v : Int)) (by unfold q_big; omega)
  by_cases q : j = q_hgt tk i
  · rw [q, lq_up_s, hv2]
    rcases hk with ⟨k0, rfl⟩ | ⟨k0, rfl⟩
    · rw [if_pos k0]
      show _ = Int64.ofInt (if _ = _ then _ else _)
      rw [if_pos hh.symm]
    · rw [if_neg (by omega), if_pos k0]
      show _ = Int64.ofInt (if _ = _ then _ else _)
      rw [if_pos hh.symm]
  · rw [lq_up_c _ _ q, h2 j (by omega)]
    rcases hk with ⟨k0, rfl⟩ | ⟨k0, rfl⟩
    · rw [if_pos k0]
      show _ = Int64.ofInt (if _ = _ then _ else _)
      rw [if_neg (by rw [hh]; exact q)]
    · rw [if_neg (by omega), if_pos k0]
      show _ = Int64.ofInt (if _ = _ then _ else _)
      rw [if_neg (by rw [hh]; exact q)]
theorem q_rvI_op {e : Nat → Nat} {tk : Nat → Nat × Nat} {a i : Nat} {N0 N : lq_N} (h : q_rvI e tk a i N0 N) (hk : 2 ≤ (tk i).1) (h2 : 2 ≤ q_hgt tk i) : q_rvI e tk a (i + 1) N0 (lq_up N a (q_hgt tk i - 1 - 1) (Int64.ofInt (q_op (tk i).1 ((q_evn e tk i).2 (q_hgt tk i - 1 - 1)) ((q_evn e tk i).2 (q_hgt tk i - 1))))) := by
  obtain ⟨h2', h3⟩ := h
  have hh := q_evn_h e tk i
  refine ⟨fun j hj => ?_, fun b b2 => by rw [lq_up_n _ _ _ b2]; exact h3 b b2⟩
  rw [q_hgt, if_neg (by omega)] at hj
  rw [q_evn, q_stp, if_neg (by omega), if_neg (by omega)]
  show _ = Int64.ofInt (if _ = _ then _ else _)
  rw [hh]
  by_cases q : j = q_hgt tk i - 1 - 1
  · rw [q, lq_up_s, if_pos (by omega)]
    rw [show q_hgt tk i - 1 - 1 = q_hgt tk i - 2 by omega]
  · rw [lq_up_c _ _ q, h2' j (by omega), if_neg (by omega)]
theorem g_ev_le {g : Nat → Nat} (hW : g_wf g) {s l i : Nat} (hl : l ≤ 60) (hi : i < g 0) : ∀ k, k < 5 → g_ev g s l i k ≤ 1000000 := by
  intro k _
  have hb := hW.br hi
  have hu := hW.us hi
  have ha : g_sa g s ≤ 20 := Nat.le_trans (g_so_le hW s _ _ (Nat.le_refl _)) hW.nb
  unfold g_ev
  repeat' split
  all_goals omega
section R4
variable {G : lq_G} {z : Nat} {S : lq_S} {M : lq_M} {N : lq_N} {m : Nat} {fh fo : Nat → Option Nat}
theorem t_X9_priceOf (h9 : sh9 S m fh fo) {v : Int} (hv : q_big v) (hN : N (m + 13) 0 = Int64.ofInt v) {Q : lq_P} {X : lq_E} (hQ : Q (some (.int (nI (max 0 (min 99999 v)).toNat))) z S M N) : LW G YX9_priceOf 4 0 0 Q X z S M N 211 [some (.ref m), none, none, none, none, none, none, none, none] [] := by
  have h6 := q_64 (x := v) (by unfold q_big at hv; omega)
  have l1 : 0 ≤ lg_cmp (Int64.ofInt v) 0 ↔ 0 ≤ v := by
    rw [lg_ge0, Int64.lt_iff_toInt_lt, h6]
    show ¬ v < (0 : Int) ↔ _
    omega
  have l2 : lg_cmp (Int64.ofInt v) 99999 ≤ 0 ↔ v ≤ 99999 := by
    rw [lg_le0, Int64.lt_iff_toInt_lt, h6]
    show ¬ (99999 : Int) < v ↔ _
    omega
  refine qw_aload_n 0 dX9_priceOf_211 rfl rfl ?_
  refine qw_getr fX9_28 dX9_priceOf_212 h9.1 rfl ?_
  refine qw_iconst (nI 0) dX9_priceOf_215 (by decide) ?_
  refine qw_lald dX9_priceOf_216 h9.sk (by omega) (by omega) ?_
  rw [hN]
  refine qw_lconst (0) dX9_priceOf_217 (by decide) ?_
  refine qw_lcmp dX9_priceOf_218 ?_
  refine qw_if_ge 226 dX9_priceOf_219 (by decide) (fun c219 => ?_) (fun c219 => ?_)
  · refine qw_aload_n 0 dX9_priceOf_226 rfl rfl ?_
    refine qw_getr fX9_28 dX9_priceOf_227 h9.1 rfl ?_
    refine qw_iconst (nI 0) dX9_priceOf_230 (by decide) ?_
    refine qw_lald dX9_priceOf_231 h9.sk (by omega) (by omega) ?_
    rw [hN]
    refine qw_ldc2 dX9_priceOf_232 kX9_222 ?_
    refine qw_lcmp dX9_priceOf_235 ?_
    refine qw_if_le 244 dX9_priceOf_236 (by decide) (fun c236 => ?_) (fun c236 => ?_)
    · refine qw_aload_n 0 dX9_priceOf_244 rfl rfl ?_
      refine qw_getr fX9_28 dX9_priceOf_245 h9.1 rfl ?_
      refine qw_iconst (nI 0) dX9_priceOf_248 (by decide) ?_
      refine qw_lald dX9_priceOf_249 h9.sk (by omega) (by omega) ?_
      rw [hN]
      refine qw_l2i _ dX9_priceOf_250 rfl ?_
      exact qw_ireturn rfl rfl dX9_priceOf_251 (by have a1 := l1.mp c219; have a2 := l2.mp c236; rw [show (max 0 (min 99999 v)).toNat = v.toNat by omega] at hQ; rw [Int64.toInt32_ofInt]; obtain ⟨k, rfl⟩ : ∃ k : Nat, v = (k : Int) := ⟨v.toNat, by omega⟩; exact hQ)
    · refine qw_ldc dX9_priceOf_239 kX9_224 ?_
      refine qw_goto 251 dX9_priceOf_241 (by decide) ?_
      exact qw_ireturn rfl rfl dX9_priceOf_251 (by have c : ¬ v ≤ 99999 := fun q => c236 (l2.mpr q); rw [show (max 0 (min 99999 v)).toNat = 99999 by omega] at hQ; exact hQ)
  · refine qw_iconst (nI 0) dX9_priceOf_222 (by decide) ?_
    refine qw_goto 251 dX9_priceOf_223 (by decide) ?_
    exact qw_ireturn rfl rfl dX9_priceOf_251 (by have c : ¬ 0 ≤ v := fun q => c219 (l1.mpr q); rw [show (max 0 (min 99999 v)).toNat = 0 by omega] at hQ; exact hQ)
theorem l_X9_priceOf (h9 : sh9 S m fh fo) (hW : g_wf (M (m + 2))) {tk : Nat → Nat × Nat} {n : Nat} {N0 : lq_N} (hF : q_fwf tk n) (hn : n ≤ 800) (hC4 : M (m + 2) 4 = q_ce tk n) (hC : ∀ j, j < n → M (m + 2) (1363 + q_ce tk j) = (tk j).1 ∧ ((tk j).1 ≤ 1 → M (m + 2) (1364 + q_ce tk j) = (tk j).2)) {s l i : Nat} (hs : s < M (m + 2) 1) (hl : l ≤ 60) (hi : i < M (m + 2) 0) : ∀ (n9 j : Nat) (N : lq_N), j ≤ n → n - j < n9 → q_rvI (g_ev (M (m + 2)) s l i) tk (m + 13) j N0 N → LW G YX9_priceOf 4 0 0 (lq_mn z S (fun x M1 N1 => x = nI (g_pc (M (m + 2)) tk n s l i) ∧ M1 = M ∧ q_nf m N0 N1)) lq_no z S M N 35 [some (.ref m), some (.int (nI s)), some (.int (nI l)), some (.int (nI i)), some (.int (nI (q_hgt tk j))), some (.int (nI (M (m + 2) (10 + 30 * i)))), some (.int (nI (q_ce tk j))), none, none] [] := by
  intro n9
  induction n9 with
  | zero => intro _ _ _ _ _; omega
  | succ n9 ih =>
    intro j N hj hn9 hI
    have h20 := hW.nb
    have h8 := hW.ns
    have hb := hW.br hi
    have hus := hW.us hi
    have hsa : g_sa (M (m + 2)) s ≤ 20 := Nat.le_trans (g_so_le hW s _ _ (Nat.le_refl _)) h20
    have hce := q_ce_2 hF.1 n (Nat.le_refl n)
    have hcj := q_ce_2 hF.1 j hj
    have hhn := hF.2
    have hhj := q_hgt_le hF.1 j hj
    have hev := q_evn_in (g_ev_le (s := s) hW hl hi) hF.1 j hj
    have hlt := q_ce_lt tk (n := n) (j := j)
    refine qw_iload dX9_priceOf_35 rfl ?_
    refine qw_aload_n 0 dX9_priceOf_37 rfl rfl ?_
    refine qw_getr fX9_17 dX9_priceOf_38 h9.1 rfl ?_
    refine qw_iconst (nI 4) dX9_priceOf_41 (by decide) ?_
    refine qw_iald dX9_priceOf_42 h9.da (by omega) (by omega) ?_
    rw [hC4]
    refine qw_icmp_geN 211 dX9_priceOf_43 (by decide) (by omega) (by omega) (fun c43 => ?_) (fun c43 => ?_)
    · have he9 : j = n := by
        rcases Nat.lt_or_ge j n with q | q
        · have := hlt q; split at this <;> omega
        · omega
      subst he9
      exact qw_weak _ (by simp [lq_le]) (t_X9_priceOf h9 (hev 0 (by omega)) (hI.1 0 (by omega)) ⟨rfl, rfl, _, rfl, rfl, rfl, hI.2⟩)
    · have hlt := hlt (by omega)
      refine qw_aload_n 0 dX9_priceOf_46 rfl rfl ?_
      refine qw_getr fX9_17 dX9_priceOf_47 h9.1 rfl ?_
      refine qw_sipush (nI 1363) dX9_priceOf_50 (by decide) ?_
      refine qw_iload dX9_priceOf_53 rfl ?_
      refine qw_addN dX9_priceOf_55 ?_
      refine qw_iaj (1363 + q_ce tk j) (by omega) dX9_priceOf_56 h9.da (by omega) (by omega) ?_
      have htk := hF.1 j (by omega)
      unfold q_tok at htk
      rw [(hC j (by omega)).1]
      refine qw_istore dX9_priceOf_57 rfl (by decide) ?_
      refine qw_iload dX9_priceOf_59 rfl ?_
      refine qw_iconst (nI 1) dX9_priceOf_61 (by decide) ?_
      refine qw_icmp_gtN 172 dX9_priceOf_62 (by decide) (by omega) (by omega) (fun c62 => ?_) (fun c62 => ?_)
      · refine qw_iincD (by omega) dX9_priceOf_172 rfl (by decide) rfl (by decide) ?_
        refine qw_aload_n 0 dX9_priceOf_175 rfl rfl ?_
        refine qw_getr fX9_28 dX9_priceOf_176 h9.1 rfl ?_
        refine qw_iload dX9_priceOf_179 rfl ?_
        refine qw_iconst (nI 1) dX9_priceOf_181 (by decide) ?_
        refine qw_subN (by omega) dX9_priceOf_182 ?_
        refine qw_iload dX9_priceOf_183 rfl ?_
        refine qw_aload_n 0 dX9_priceOf_185 rfl rfl ?_
        refine qw_getr fX9_28 dX9_priceOf_186 h9.1 rfl ?_
        refine qw_iload dX9_priceOf_189 rfl ?_
        refine qw_iconst (nI 1) dX9_priceOf_191 (by decide) ?_
        refine qw_subN (by omega) dX9_priceOf_192 ?_
        refine qw_lald dX9_priceOf_193 h9.sk (by omega) (by omega) ?_
        rw [hI.1 (q_hgt tk j - 1 - 1) (by omega)]
        refine qw_aload_n 0 dX9_priceOf_194 rfl rfl ?_
        refine qw_getr fX9_28 dX9_priceOf_195 h9.1 rfl ?_
        refine qw_iload dX9_priceOf_198 rfl ?_
        refine qw_lald dX9_priceOf_200 h9.sk (by omega) (by omega) ?_
        rw [hI.1 (q_hgt tk j - 1) (by omega)]
        refine qw_csp [_, _, _] (k_X9_operate ⟨by omega, by omega⟩ (hev _ (by omega)) (hev _ (by omega))) mX9_218 dX9_priceOf_201 rfl rfl (Nat.le_of_ble_eq_true rfl) (by omega) (by decide) rfl ?_
        refine qw_last dX9_priceOf_204 h9.sk (by omega) (by omega) ?_
        refine qw_iincN 1 dX9_priceOf_205 rfl (by decide) rfl (by decide) ?_
        refine qw_goto 35 dX9_priceOf_208 (by decide) ?_
        have hh1 : q_hgt tk (j + 1) = q_hgt tk j - 1 := by rw [q_hgt, if_neg (by omega)]
        have hc1 : q_ce tk (j + 1) = q_ce tk j + 1 := by rw [q_ce, if_neg (by omega)]
        have h := ih (j + 1) _ (by omega) (by omega) (q_rvI_op hI (by omega) (by omega))
        rw [hh1, hc1] at h
        exact qw_weak _ (by simp [lq_le]) h
      · refine qw_iincN 1 dX9_priceOf_65 rfl (by decide) rfl (by decide) ?_
        refine qw_aload_n 0 dX9_priceOf_68 rfl rfl ?_
        refine qw_getr fX9_17 dX9_priceOf_69 h9.1 rfl ?_
        refine qw_sipush (nI 1363) dX9_priceOf_72 (by decide) ?_
        refine qw_iload dX9_priceOf_75 rfl ?_
        refine qw_addN dX9_priceOf_77 ?_
        refine qw_iaj (1364 + q_ce tk j) (by omega) dX9_priceOf_78 h9.da (by omega) (by omega) ?_
        rw [(hC j (by omega)).2 (by omega)]
        refine qw_istore dX9_priceOf_79 rfl (by decide) ?_
        refine qw_aload_n 0 dX9_priceOf_81 rfl rfl ?_
        refine qw_getr fX9_28 dX9_priceOf_82 h9.1 rfl ?_
        refine qw_iload dX9_priceOf_85 rfl ?_
        refine qw_iload dX9_priceOf_87 rfl ?_
        refine qw_if_neN 98 dX9_priceOf_89 (by decide) (by omega) (fun c89 => ?_) (fun c89 => ?_)
        · refine qw_iload dX9_priceOf_98 rfl ?_
          refine qw_if_neN 109 dX9_priceOf_100 (by decide) (by omega) (fun c100 => ?_) (fun c100 => ?_)
          · refine qw_iload dX9_priceOf_109 rfl ?_
            refine qw_iconst (nI 1) dX9_priceOf_111 (by decide) ?_
            refine qw_icmp_neN 130 dX9_priceOf_112 (by decide) (by omega) (by omega) (fun c112 => ?_) (fun c112 => ?_)
            · refine qw_iload dX9_priceOf_130 rfl ?_
              refine qw_iconst (nI 2) dX9_priceOf_132 (by decide) ?_
              refine qw_icmp_neN 141 dX9_priceOf_133 (by decide) (by omega) (by omega) (fun c133 => ?_) (fun c133 => ?_)
              · refine qw_iload dX9_priceOf_141 rfl ?_
                refine qw_iconst (nI 3) dX9_priceOf_143 (by decide) ?_
                refine qw_icmp_neN 156 dX9_priceOf_144 (by decide) (by omega) (by omega) (fun c144 => ?_) (fun c144 => ?_)
                · refine qw_aload_n 0 dX9_priceOf_156 rfl rfl ?_
                  refine qw_iload_n 1 dX9_priceOf_157 rfl rfl ?_
                  refine qw_iconst (-1) dX9_priceOf_158 (by decide) ?_
                  refine qw_iconst (nI 0) dX9_priceOf_159 (by decide) ?_
                  refine qw_iconst (nI 1) dX9_priceOf_160 (by decide) ?_
                  refine qw_cvp [_, _, _, _] (k_X9_so_a h9 hW (by omega)) mX9_198 dX9_priceOf_161 h9.1 rfl rfl rfl (Nat.le_of_ble_eq_true rfl) (by omega) (by decide) rfl ?_
                  refine qw_i2l _ dX9_priceOf_164 rfl ?_
                  refine qw_last dX9_priceOf_165 h9.sk (by omega) (by omega) ?_
                  refine qw_iincN 1 dX9_priceOf_166 rfl (by decide) rfl (by decide) ?_
                  refine qw_goto 205 dX9_priceOf_169 (by decide) ?_
                  refine qw_iincN 1 dX9_priceOf_205 rfl (by decide) rfl (by decide) ?_
                  refine qw_goto 35 dX9_priceOf_208 (by decide) ?_
                  have hh1 : q_hgt tk (j + 1) = q_hgt tk j + 1 := by rw [q_hgt, if_pos (by omega)]
                  have hc1 : q_ce tk (j + 1) = q_ce tk j + 1 + 1 := by rw [q_ce, if_pos (by omega)]
                  have h := ih (j + 1) _ (by omega) (by omega) (q_rvI_push (v := g_sa (M (m + 2)) s) hI (by omega) (Or.inr ⟨by omega, by rw [(show (tk j).2 = 4 by omega)]; rfl⟩))
                  rw [hh1, hc1] at h
                  exact qw_weak _ (by simp [lq_le]) h
                · refine qw_aload_n 0 dX9_priceOf_147 rfl rfl ?_
                  refine qw_iload_n 3 dX9_priceOf_148 rfl rfl ?_
                  refine qw_cvp [_] (k_X9_usedOf h9 hW hi) mX9_202 dX9_priceOf_149 h9.1 rfl rfl rfl (Nat.le_of_ble_eq_true rfl) (by omega) (by decide) rfl ?_
                  refine qw_i2l _ dX9_priceOf_152 rfl ?_
                  refine qw_goto 165 dX9_priceOf_153 (by decide) ?_
                  refine qw_last dX9_priceOf_165 h9.sk (by omega) (by omega) ?_
                  refine qw_iincN 1 dX9_priceOf_166 rfl (by decide) rfl (by decide) ?_
                  refine qw_goto 205 dX9_priceOf_169 (by decide) ?_
                  refine qw_iincN 1 dX9_priceOf_205 rfl (by decide) rfl (by decide) ?_
                  refine qw_goto 35 dX9_priceOf_208 (by decide) ?_
                  have hh1 : q_hgt tk (j + 1) = q_hgt tk j + 1 := by rw [q_hgt, if_pos (by omega)]
                  have hc1 : q_ce tk (j + 1) = q_ce tk j + 1 + 1 := by rw [q_ce, if_pos (by omega)]
                  have h := ih (j + 1) _ (by omega) (by omega) (q_rvI_push (v := g_us (M (m + 2)) i) hI (by omega) (Or.inr ⟨by omega, by rw [c144]; rfl⟩))
                  rw [hh1, hc1] at h
                  exact qw_weak _ (by simp [lq_le]) h
              · refine qw_iload_n 2 dX9_priceOf_136 rfl rfl ?_
                refine qw_i2l _ dX9_priceOf_137 rfl ?_
                refine qw_goto 165 dX9_priceOf_138 (by decide) ?_
                refine qw_last dX9_priceOf_165 h9.sk (by omega) (by omega) ?_
                refine qw_iincN 1 dX9_priceOf_166 rfl (by decide) rfl (by decide) ?_
                refine qw_goto 205 dX9_priceOf_169 (by decide) ?_
                refine qw_iincN 1 dX9_priceOf_205 rfl (by decide) rfl (by decide) ?_
                refine qw_goto 35 dX9_priceOf_208 (by decide) ?_
                have hh1 : q_hgt tk (j + 1) = q_hgt tk j + 1 := by rw [q_hgt, if_pos (by omega)]
                have hc1 : q_ce tk (j + 1) = q_ce tk j + 1 + 1 := by rw [q_ce, if_pos (by omega)]
                have h := ih (j + 1) _ (by omega) (by omega) (q_rvI_push (v := l) hI (by omega) (Or.inr ⟨by omega, by rw [c133]; rfl⟩))
                rw [hh1, hc1] at h
                exact qw_weak _ (by simp [lq_le]) h
            · refine qw_aload_n 0 dX9_priceOf_115 rfl rfl ?_
              refine qw_getr fX9_17 dX9_priceOf_116 h9.1 rfl ?_
              refine qw_iload_n 3 dX9_priceOf_119 rfl rfl ?_
              refine qw_csp [_] (k_X9_at) mX9_44 dX9_priceOf_120 rfl rfl (Nat.le_of_ble_eq_true rfl) (by omega) (by decide) rfl ?_
              refine qw_iconst (nI 1) dX9_priceOf_123 (by decide) ?_
              refine qw_addN dX9_priceOf_124 ?_
              refine qw_iaj (8 + 30 * i) (by omega) dX9_priceOf_125 h9.da (by omega) (by omega) ?_
              refine qw_i2l _ dX9_priceOf_126 rfl ?_
              refine qw_goto 165 dX9_priceOf_127 (by decide) ?_
              refine qw_last dX9_priceOf_165 h9.sk (by omega) (by omega) ?_
              refine qw_iincN 1 dX9_priceOf_166 rfl (by decide) rfl (by decide) ?_
              refine qw_goto 205 dX9_priceOf_169 (by decide) ?_
              refine qw_iincN 1 dX9_priceOf_205 rfl (by decide) rfl (by decide) ?_
              refine qw_goto 35 dX9_priceOf_208 (by decide) ?_
              have hh1 : q_hgt tk (j + 1) = q_hgt tk j + 1 := by rw [q_hgt, if_pos (by omega)]
              have hc1 : q_ce tk (j + 1) = q_ce tk j + 1 + 1 := by rw [q_ce, if_pos (by omega)]
              have h := ih (j + 1) _ (by omega) (by omega) (q_rvI_push (v := M (m + 2) (8 + 30 * i)) hI (by omega) (Or.inr ⟨by omega, by rw [c112]; rfl⟩))
              rw [hh1, hc1] at h
              exact qw_weak _ (by simp [lq_le]) h
          · refine qw_iload dX9_priceOf_103 rfl ?_
            refine qw_i2l _ dX9_priceOf_105 rfl ?_
            refine qw_goto 165 dX9_priceOf_106 (by decide) ?_
            refine qw_last dX9_priceOf_165 h9.sk (by omega) (by omega) ?_
            refine qw_iincN 1 dX9_priceOf_166 rfl (by decide) rfl (by decide) ?_
            refine qw_goto 205 dX9_priceOf_169 (by decide) ?_
            refine qw_iincN 1 dX9_priceOf_205 rfl (by decide) rfl (by decide) ?_
            refine qw_goto 35 dX9_priceOf_208 (by decide) ?_
            have hh1 : q_hgt tk (j + 1) = q_hgt tk j + 1 := by rw [q_hgt, if_pos (by omega)]
            have hc1 : q_ce tk (j + 1) = q_ce tk j + 1 + 1 := by rw [q_ce, if_pos (by omega)]
            have h := ih (j + 1) _ (by omega) (by omega) (q_rvI_push (v := M (m + 2) (10 + 30 * i)) hI (by omega) (Or.inr ⟨by omega, by rw [c100]; rfl⟩))
            rw [hh1, hc1] at h
            exact qw_weak _ (by simp [lq_le]) h
        · refine qw_iload dX9_priceOf_92 rfl ?_
          refine qw_i2l _ dX9_priceOf_94 rfl ?_
          refine qw_goto 165 dX9_priceOf_95 (by decide) ?_
          refine qw_last dX9_priceOf_165 h9.sk (by omega) (by omega) ?_
          refine qw_iincN 1 dX9_priceOf_166 rfl (by decide) rfl (by decide) ?_
          refine qw_goto 205 dX9_priceOf_169 (by decide) ?_
          refine qw_iincN 1 dX9_priceOf_205 rfl (by decide) rfl (by decide) ?_
          refine qw_goto 35 dX9_priceOf_208 (by decide) ?_
          have hh1 : q_hgt tk (j + 1) = q_hgt tk j + 1 := by rw [q_hgt, if_pos (by omega)]
          have hc1 : q_ce tk (j + 1) = q_ce tk j + 1 + 1 := by rw [q_ce, if_pos (by omega)]
          have h := ih (j + 1) _ (by omega) (by omega) (q_rvI_push (v := (tk j).2) hI (by omega) (Or.inl ⟨c89, rfl⟩))
          rw [hh1, hc1] at h
          exact qw_weak _ (by simp [lq_le]) h
theorem k_X9_priceOf (h9 : sh9 S m fh fo) (hW : g_wf (M (m + 2))) {tk : Nat → Nat × Nat} {n : Nat} (hF : q_fwf tk n) (hn : n ≤ 800) (hC : q_cd (M (m + 2)) tk n) {s l i : Nat} (hs : s < M (m + 2) 1) (hl : l ≤ 60) (hi : i < M (m + 2) 0) : LM G YX9_priceOf 4 0 0 [.ref m, .int (nI s), .int (nI l), .int (nI i)] z S M N (lq_mn z S (fun x M1 N1 => x = nI (g_pc (M (m + 2)) tk n s l i) ∧ M1 = M ∧ q_nf m N N1)) lq_no := by
  have h20 := hW.nb
  have hb := hW.br hi
  refine LM.of (by decide) rfl [some (.ref m), some (.int (nI s)), some (.int (nI l)), some (.int (nI i)), none, none, none, none, none] rfl (Nat.le_of_ble_eq_true rfl) ?_
  refine qw_iconst (nI 0) dX9_priceOf_0 (by decide) ?_
  refine qw_istore dX9_priceOf_1 rfl (by decide) ?_
  refine qw_aload_n 0 dX9_priceOf_3 rfl rfl ?_
  refine qw_getr fX9_17 dX9_priceOf_4 h9.1 rfl ?_
  refine qw_iload_n 3 dX9_priceOf_7 rfl rfl ?_
  refine qw_csp [_] (k_X9_at) mX9_44 dX9_priceOf_8 rfl rfl (Nat.le_of_ble_eq_true rfl) (by omega) (by decide) rfl ?_
  refine qw_iconst (nI 3) dX9_priceOf_11 (by decide) ?_
  refine qw_addN dX9_priceOf_12 ?_
  refine qw_iaj (10 + 30 * i) (by omega) dX9_priceOf_13 h9.da (by omega) (by omega) ?_
  refine qw_istore dX9_priceOf_14 rfl (by decide) ?_
  refine qw_aload_n 0 dX9_priceOf_16 rfl rfl ?_
  refine qw_getr fX9_28 dX9_priceOf_17 h9.1 rfl ?_
  refine qw_iconst (nI 0) dX9_priceOf_20 (by decide) ?_
  refine qw_iload dX9_priceOf_21 rfl ?_
  refine qw_i2l _ dX9_priceOf_23 rfl ?_
  refine qw_iload_n 2 dX9_priceOf_24 rfl rfl ?_
  refine qw_i2l _ dX9_priceOf_25 rfl ?_
  refine qw_lmul dX9_priceOf_26 ?_
  refine qw_ldc2 dX9_priceOf_27 kX9_216 ?_
  refine qw_ldiv dX9_priceOf_30 (by decide) ?_
  refine qw_last dX9_priceOf_31 h9.sk (by omega) (by omega) ?_
  refine qw_iconst (nI 0) dX9_priceOf_32 (by decide) ?_
  refine qw_istore dX9_priceOf_33 rfl (by decide) ?_
  rcases hC with ⟨h4, rfl, hd⟩ | ⟨hn0, hC4, hC⟩
  · have hv12 := q_dft_v (e := g_ev (M (m + 2)) s l i) hd (a := M (m + 2) (10 + 30 * i)) (l := l) rfl rfl (by omega) hl
    obtain ⟨hv1, hv2⟩ := hv12
    refine qw_iload dX9_priceOf_35 rfl ?_
    refine qw_aload_n 0 dX9_priceOf_37 rfl rfl ?_
    refine qw_getr fX9_17 dX9_priceOf_38 h9.1 rfl ?_
    refine qw_iconst (nI 4) dX9_priceOf_41 (by decide) ?_
    refine qw_iald dX9_priceOf_42 h9.da (by omega) (by omega) ?_
    rw [h4]
    refine qw_icmp_geN 211 dX9_priceOf_43 (by decide) (by omega) (by omega) (fun c43 => ?_) (fun c43 => absurd c43 (by omega))
    exact qw_weak _ (by simp [lq_le]) (t_X9_priceOf h9 hv2 (by rw [lq_up_s]; exact hv1.symm) ⟨rfl, rfl, _, rfl, rfl, rfl, fun b hb9 => by rw [lq_up_n _ _ _ hb9]⟩)
  · exact l_X9_priceOf h9 hW hF hn hC4 hC hs hl hi (n + 1) 0 _ (Nat.zero_le _) (by omega) ⟨fun j hj => absurd hj (Nat.not_lt_zero j), fun b hb9 => by rw [lq_up_n _ _ _ hb9]⟩
theorem q_m1_eq {k : Nat} (h : k < 2 ^ 31) : q_m1 k = -1 ↔ k = 0 := by
  unfold q_m1
  by_cases e : k = 0
  · rw [if_pos e]
    exact ⟨fun _ => e, fun _ => rfl⟩
  · rw [if_neg e]
    refine ⟨fun q => ?_, fun q => absurd q e⟩
    have h1 := nI_toInt (show k - 1 < 2 ^ 31 by omega)
    rw [q] at h1
    exact absurd h1 (by have : (-1 : Int32).toInt = -1 := rfl; omega)
theorem l_X9_findCheapest (h9 : sh9 S m fh fo) (hW : g_wf (M (m + 2))) {tk : Nat → Nat × Nat} {n : Nat} {N0 : lq_N} (hF : q_fwf tk n) (hn : n ≤ 800) (hC : q_cd (M (m + 2)) tk n) {s l : Nat} (hs : s < M (m + 2) 1) (hl : l ≤ 60) : ∀ (n9 i : Nat) (N : lq_N), i ≤ M (m + 2) 0 → M (m + 2) 0 - i < n9 → q_nf m N0 N → LW G YX9_findCheapest 5 0 0 (lq_mn z S (fun x M1 N1 => x = q_m1 (g_chp (M (m + 2)) tk n s l (M (m + 2) 0)).1 ∧ M1 = M ∧ q_nf m N0 N1)) lq_no z S M N 8 [some (.ref m), some (.int (nI s)), some (.int (nI l)), some (.int (q_m1 (g_chp (M (m + 2)) tk n s l i).1)), some (.int (nI (g_chp (M (m + 2)) tk n s l i).2)), some (.int (nI i)), none] [] := by
  intro n9
  induction n9 with
  | zero => intro _ _ _ _ _; omega
  | succ n9 ih =>
    intro i N hi hn9 hq
    have h20 := hW.nb
    have hle := g_chp_le (M (m + 2)) tk n s l i
    have hpr := g_chp_pr (M (m + 2)) tk n s l i
    have hm := q_m1_eq (k := (g_chp (M (m + 2)) tk n s l i).1) (by omega)
    refine qw_iload dX9_findCheapest_8 rfl ?_
    refine qw_aload_n 0 dX9_findCheapest_10 rfl rfl ?_
    refine qw_getr fX9_17 dX9_findCheapest_11 h9.1 rfl ?_
    refine qw_iconst (nI 0) dX9_findCheapest_14 (by decide) ?_
    refine qw_iald dX9_findCheapest_15 h9.da (by omega) (by omega) ?_
    refine qw_icmp_geN 71 dX9_findCheapest_16 (by decide) (by omega) (by omega) (fun c16 => ?_) (fun c16 => ?_)
    · refine qw_iload_n 3 dX9_findCheapest_71 rfl rfl ?_
      exact qw_ireturn rfl rfl dX9_findCheapest_72 ⟨rfl, rfl, _, rfl, by rw [show i = M (m + 2) 0 by omega], rfl, hq⟩
    · refine qw_aload_n 0 dX9_findCheapest_19 rfl rfl ?_
      refine qw_iload_n 1 dX9_findCheapest_20 rfl rfl ?_
      refine qw_iload_n 2 dX9_findCheapest_21 rfl rfl ?_
      refine qw_iload dX9_findCheapest_22 rfl ?_
      refine qw_cvp [_, _, _] (k_X9_reasonOf h9 hW (by omega) hs hl) mX9_225 dX9_findCheapest_24 h9.1 rfl rfl rfl (Nat.le_of_ble_eq_true rfl) (by omega) (by decide) rfl ?_
      have hrl : g_rs (M (m + 2)) s l i ≤ 5 := g_rs_le
      refine qw_if_eqN 33 dX9_findCheapest_27 (by decide) (by omega) (fun c27 => ?_) (fun c27 => ?_)
      · refine qw_aload_n 0 dX9_findCheapest_33 rfl rfl ?_
        refine qw_iload_n 1 dX9_findCheapest_34 rfl rfl ?_
        refine qw_iload_n 2 dX9_findCheapest_35 rfl rfl ?_
        refine qw_iload dX9_findCheapest_36 rfl ?_
        refine qw_cvn [_, _, _] (k_X9_priceOf h9 hW hF hn hC hs hl (by omega)) mX9_229 dX9_findCheapest_38 h9.1 rfl rfl rfl (Nat.le_of_ble_eq_true rfl) (by omega) (by decide) rfl (fun x1 M1 N1 h1 => ?_)
        obtain ⟨hx1, hM1, hm1⟩ := h1
        subst hx1
        rw [hM1]
        have hpcl := g_pc_le (M (m + 2)) tk n s l i
        refine qw_istore dX9_findCheapest_41 rfl (by decide) ?_
        refine qw_iload_n 3 dX9_findCheapest_43 rfl rfl ?_
        refine qw_iconst (-1) dX9_findCheapest_44 (by decide) ?_
        refine qw_icmp_eq 58 dX9_findCheapest_45 (by decide) (fun c45 => ?_) (fun c45 => ?_)
        · refine qw_iload dX9_findCheapest_58 rfl ?_
          refine qw_istore_n 3 dX9_findCheapest_60 rfl rfl (by decide) ?_
          refine qw_iload dX9_findCheapest_61 rfl ?_
          refine qw_istore dX9_findCheapest_63 rfl (by decide) ?_
          refine qw_iincN 1 dX9_findCheapest_65 rfl (by decide) rfl (by decide) ?_
          refine qw_goto 8 dX9_findCheapest_68 (by decide) ?_
          have h := ih (i + 1) _ (by omega) (by omega) (hq.tr hm1)
          rw [g_chp, if_pos ⟨c27, Or.inl (hm.mp c45)⟩] at h
          exact qw_weak _ (by simp [lq_le, q_m1]) h
        · refine qw_iload dX9_findCheapest_48 rfl ?_
          refine qw_iload dX9_findCheapest_50 rfl ?_
          refine qw_icmp_ltN 58 dX9_findCheapest_52 (by decide) (by omega) (by omega) (fun c52 => ?_) (fun c52 => ?_)
          · refine qw_iload dX9_findCheapest_58 rfl ?_
            refine qw_istore_n 3 dX9_findCheapest_60 rfl rfl (by decide) ?_
            refine qw_iload dX9_findCheapest_61 rfl ?_
            refine qw_istore dX9_findCheapest_63 rfl (by decide) ?_
            refine qw_iincN 1 dX9_findCheapest_65 rfl (by decide) rfl (by decide) ?_
            refine qw_goto 8 dX9_findCheapest_68 (by decide) ?_
            have h := ih (i + 1) _ (by omega) (by omega) (hq.tr hm1)
            rw [g_chp, if_pos ⟨c27, Or.inr c52⟩] at h
            exact qw_weak _ (by simp [lq_le, q_m1]) h
          · refine qw_goto 65 dX9_findCheapest_55 (by decide) ?_
            refine qw_iincN 1 dX9_findCheapest_65 rfl (by decide) rfl (by decide) ?_
            refine qw_goto 8 dX9_findCheapest_68 (by decide) ?_
            have h := ih (i + 1) _ (by omega) (by omega) (hq.tr hm1)
            rw [g_chp, if_neg (fun q => by rcases q.2 with q | q; exact c45 (hm.mpr q); omega)] at h
            exact qw_weak _ (by simp [lq_le]) h
      · refine qw_goto 65 dX9_findCheapest_30 (by decide) ?_
        refine qw_iincN 1 dX9_findCheapest_65 rfl (by decide) rfl (by decide) ?_
        refine qw_goto 8 dX9_findCheapest_68 (by decide) ?_
        have h := ih (i + 1) _ (by omega) (by omega) hq
        rw [g_chp, if_neg (fun q => c27 q.1)] at h
        exact qw_weak _ (by simp [lq_le]) h
theorem k_X9_findCheapest (h9 : sh9 S m fh fo) (hW : g_wf (M (m + 2))) {tk : Nat → Nat × Nat} {n : Nat} (hF : q_fwf tk n) (hn : n ≤ 800) (hC : q_cd (M (m + 2)) tk n) {s l : Nat} (hs : s < M (m + 2) 1) (hl : l ≤ 60) : LM G YX9_findCheapest 5 0 0 [.ref m, .int (nI s), .int (nI l)] z S M N (lq_mn z S (fun x M1 N1 => x = q_m1 (g_chp (M (m + 2)) tk n s l (M (m + 2) 0)).1 ∧ M1 = M ∧ q_nf m N N1)) lq_no := by
  refine LM.of (by decide) rfl [some (.ref m), some (.int (nI s)), some (.int (nI l)), none, none, none, none] rfl (Nat.le_of_ble_eq_true rfl) ?_
  refine qw_iconst (-1) dX9_findCheapest_0 (by decide) ?_
  refine qw_istore_n 3 dX9_findCheapest_1 rfl rfl (by decide) ?_
  refine qw_iconst (nI 0) dX9_findCheapest_2 (by decide) ?_
  refine qw_istore dX9_findCheapest_3 rfl (by decide) ?_
  refine qw_iconst (nI 0) dX9_findCheapest_5 (by decide) ?_
  refine qw_istore dX9_findCheapest_6 rfl (by decide) ?_
  exact l_X9_findCheapest h9 hW hF hn hC hs hl (M (m + 2) 0 + 1) 0 N (Nat.zero_le _) (by omega) q_nf.rf
end R4
